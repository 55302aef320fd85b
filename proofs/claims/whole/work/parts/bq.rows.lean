/-! PART bq: new cells with names of their own; objects into arrays. -/
section Wbq
variable {G : pe_G} {Y : wY} {M : Nat → Prop} {d : Nat} {mt : pe_Mt} {rest : List pe_I} {L : wL} {st st2 : List wv} {S : wS} {Q : wO → wS → Prop}
/-- the heap with one more cell, under a name that none has -/
theorem w_E_nw {ad : Nat → Nat} {h : pe_H} {j : Nat} {g : Int → Int} {c : pe_E} (hE : w_E Y ad S h) (hnp : ¬ w_pr Y S j) (hjG : j ≠ wG) (hj : j < 4000000) (hg : 0 ≤ g (-1)) (hc : ∀ ad2, w_c Y ad2 (w_nw S j g (pm_n (pe_d c))) j c) : w_E Y (fun k => if k = j then h.length else ad k) (w_nw S j g (pm_n (pe_d c))) (h ++ [c]) ∧ (∀ k, w_pr Y S k → w_pr Y (w_nw S j g (pm_n (pe_d c))) k ∧ (if k = j then h.length else ad k) = ad k) := by
  have h1 := hE.2.2.2.1
  have hfr : ∀ k, w_pr Y S k → k ≠ j := fun k hk e => hnp (e ▸ hk)
  have hpr : ∀ k, w_pr Y S k → w_pr Y (w_nw S j g (pm_n (pe_d c))) k := fun k hk => by
    refine ⟨?_, hk.2⟩
    rw [w_nw_of (hfr k hk) hk.2]
    exact hk.1
  have hback : ∀ k, w_pr Y (w_nw S j g (pm_n (pe_d c))) k → k ≠ j → w_pr Y S k := fun k hk e => by
    refine ⟨?_, hk.2⟩
    have := hk.1
    rw [w_nw_of e hk.2] at this
    exact this
  have hlt : ∀ k, w_pr Y S k → ad k < h.length := fun k hk => by
    obtain ⟨x, q, -⟩ := hE.1 k hk
    exact (List.getElem?_eq_some_iff.mp q).1
  refine ⟨⟨fun k hk => ?_, fun k m hk hm => ?_, ?_, ?_, ?_⟩, fun k hk => ⟨hpr k hk, if_neg (hfr k hk)⟩⟩
  · by_cases e : k = j
    · subst e
      refine ⟨c, ?_, hc _⟩
      show (h ++ [c])[if k = k then h.length else ad k]? = _
      rw [if_pos rfl]
      exact List.getElem?_concat_length
    · obtain ⟨x, q1, q2⟩ := hE.1 k (hback k hk e)
      refine ⟨x, ?_, w_c_ad hpr (fun m q => if_neg (hfr m q)) (w_nw_of e hk.2) q2⟩
      show (h ++ [c])[if k = j then h.length else ad k]? = _
      rw [if_neg e, List.getElem?_append_left (hlt k (hback k hk e))]
      exact q1
  · show (if k = j then h.length else ad k) = (if m = j then h.length else ad m) → k = m
    by_cases e : k = j
    · by_cases e2 : m = j
      · intro _; rw [e, e2]
      · rw [if_pos e, if_neg e2]
        intro q
        have := hlt m (hback m hm e2)
        omega
    · by_cases e2 : m = j
      · rw [if_neg e, if_pos e2]
        intro q
        have := hlt k (hback k hk e)
        omega
      · rw [if_neg e, if_neg e2]
        exact hE.2.1 k m (hback k hk e) (hback m hm e2)
  · rw [(w_nw_G hjG).1, hE.2.2.1, pe_D_push, pm_sz_push]
    omega
  · rw [(w_nw_G hjG).2, h1, List.length_append]
    rfl
  · intro k hk
    rw [(w_nw_G hjG).2, h1]
    by_cases e : k = j
    · subst e; omega
    · have := hE.2.2.2.2 k (hback k hk e)
      omega
/-- a step that makes a cell under a name of its own -/
theorem wJ_nw {i : pe_I} {g : Int → Int} {c : pe_E} {m : Nat} (j : Nat) (hnp : ¬ w_pr Y S j) (hjG : j ≠ wG) (hj : j < 4000000) (hg : 0 ≤ g (-1)) (hm : pm_n (pe_d c) = m) (hc : ∀ ad2, w_c Y ad2 (w_nw S j g m) j c) (hkl : w_kl Y S (fun _ => False) L) (hks : w_ks Y S (fun _ => False) st2) (hs : ∀ ad Lc h f, w_E Y ad S h → pe_go G (f + 1) d mt (i :: rest) Lc (st.map (w_u ad)) h = pe_go G f d mt rest Lc (.ref h.length :: st2.map (w_u ad)) (h ++ [c])) (k : wJ G Y M d mt rest L ((2, (j : Int)) :: st2) (w_nw S j g m) Q) : wJ G Y M d mt (i :: rest) L st S Q := by
  intro ad Lc h hE hL
  have W := w_E_nw (j := j) (g := g) (c := c) hE hnp hjG hj hg (fun ad2 => by rw [hm]; exact hc ad2)
  rw [hm] at W
  have ha : ∀ k, w_pr Y S k → ¬ (fun _ : Nat => False) k → (if k = j then h.length else ad k) = ad k := fun k q _ => (W.2 k q).2
  obtain ⟨o, ad2, S3, h3, f0, hg, hE3, hM, hQ⟩ := k _ Lc _ W.1 (w_LL_kl ha hkl hL)
  refine ⟨o, ad2, S3, h3, f0 + 1, fun f hf => ?_, hE3, fun k q => ⟨(hM k (W.2 k q).1).1, fun r => by rw [(hM k (W.2 k q).1).2 r]; exact (W.2 k q).2⟩, hQ⟩
  obtain ⟨f, rfl⟩ : ∃ g, f = g + 1 := ⟨f - 1, by omega⟩
  have hgf := hg f (by omega)
  rw [show List.map (w_u (fun k => if k = j then h.length else ad k)) ((2, (j : Int)) :: st2) = .ref h.length :: st2.map (w_u ad) by
    rw [List.map_cons, w_st_ks ha hks]
    show w_r (fun k => if k = j then h.length else ad k) (j : Int) :: _ = _
    rw [w_r_n _ rfl]
    show Value.ref (if j = j then h.length else ad j) :: _ = _
    rw [if_pos rfl]] at hgf
  exact (hs ad Lc h f hE).trans hgf
/-- a new int[] -/
theorem wa_nI {n : Int} (j : Nat) (hn : 0 ≤ n ∧ n ≤ 67108864) (ht : Y.ty j = 0) (hnp : ¬ w_pr Y S j) (hjG : j ≠ wG) (hj : j < 4000000) (hkl : w_kl Y S (fun _ => False) L) (hks : w_ks Y S (fun _ => False) st) (k : wJ G Y M d mt rest L ((2, (j : Int)) :: st) (w_nw S j (w_z n) n) Q) : wJ G Y M d mt (.inl (.newarray .int) :: rest) L ((0, n) :: st) S Q := by
  have hn2 : ((n.toNat : Nat) : Int) = n := by omega
  have hr : w_rg 0 n := ⟨by omega, by omega⟩
  have e : (Int32.ofInt n).toNatClampNeg = n.toNat := by
    show (Int32.ofInt n).toInt.toNat = _
    rw [w_ti hr]
  refine wJ_nw (m := n.toNat) (g := w_z n) (c := .inl (0, n.toNat, [])) j hnp hjG hj (by show 0 ≤ n; exact hn.1) rfl (fun ad2 => ⟨ht, ⟨by omega, by omega⟩, ⟨by rw [w_nw_at]; show n = _; omega, by omega⟩, fun i hi => by rw [w_nw_at]; show (0 : Int) = (if (i : Int) = -1 then n else 0) ∧ w_rg 0 (if (i : Int) = -1 then n else 0); rw [if_neg (by omega)]; exact ⟨rfl, ⟨by omega, by omega⟩⟩⟩) hkl hks (fun ad Lc h f _ => ?_) (by rw [hn2]; exact k)
  show pe_f_newarray .int G.xs mt.mx Lc (.int (Int32.ofInt n) :: st.map (w_u ad)) h (fun L st h => pe_go G f d mt rest L st h) = _
  unfold pe_f_newarray pe_1i
  dsimp only
  rw [show decide (Int32.ofInt n < 0) = false from decide_eq_false (fun q => by rw [w_0, w_lt0 hr w_r0] at q; omega), e, show Nat.ble (n.toNat * 8) 536870912 = true from Nat.ble_eq_true_of_le (by omega)]
  show (bif true then _ else none) = _
  rw [cond_true, pe_fn_eq, pe_fn_eq]
  show (pe_pushk (.inl (0, n.toNat, [])) h fun h2 => pe_go G f d mt rest Lc (.ref h.length :: st.map (w_u ad)) h2) = _
  rw [pe_pushk_eq]
/-- a new object -/
theorem wa_nw {ix ci : Nat} {ws : List Nat} {vs : List Value} {g : Int → Int} {m : Nat} (j : Nat) (hv : pe_at G.dv ci = some vs) (hm : pm_n (pe_d (.inr (.inl (ci, vs)))) = m) (hnp : ¬ w_pr Y S j) (hjG : j ≠ wG) (hj : j < 4000000) (hg : 0 ≤ g (-1)) (hc : ∀ ad2, w_c Y ad2 (w_nw S j g m) j (.inr (.inl (ci, vs)))) (hkl : w_kl Y S (fun _ => False) L) (hks : w_ks Y S (fun _ => False) st) (k : wJ G Y M d mt rest L ((2, (j : Int)) :: st) (w_nw S j g m) Q) : wJ G Y M d mt ((.inr (.inr (.inr (.inr (.inr (.inr (.inr (.inr (.inr (.inr (.inr (.inr (.inl (ix, ci, ws)))))))))))))) :: rest) L st S Q :=
  wJ_nw (m := m) (g := g) (c := .inr (.inl (ci, vs))) j hnp hjG hj hg hm hc hkl hks (fun ad Lc h f _ => by
    show pe_a_nw ci G (fun d m is L st h => pe_go G f d m is L st h) d mt rest Lc (st.map (w_u ad)) h = _
    unfold pe_a_nw
    rw [hv]
    dsimp only
    rw [pe_fn_eq, pe_pushk_eq]) k
/-- Object's constructor -/
theorem wa_obj {ix : Nat} {ws : List Nat} {x : Int} (j : Nat) (hx : x = j) (hd : (Nat.blt 0 d && Nat.ble (w_cat st + 12) (d * 60)) = true) (k : wJ G Y M d mt rest L st S Q) : wJ G Y M d mt ((.inr (.inr (.inr (.inr (.inr (.inr (.inr (.inr (.inr (.inr (.inr (.inr (.inr (.inr (.inl (ix, ws)))))))))))))))) :: rest) L ((2, x) :: st) S Q := wJ_s (st2 := st) (fun ad Lc h f _ => by
    show pe_rf (w_r ad x :: st.map (w_u ad)) (fun _ st => bif Nat.blt 0 d && Nat.ble (pe_cat st + 12) (d * 60) then pe_go G f d mt rest Lc st h else none) = _
    rw [w_r_n ad hx]
    show (bif Nat.blt 0 d && Nat.ble (pe_cat (st.map (w_u ad)) + 12) (d * 60) then pe_go G f d mt rest Lc (st.map (w_u ad)) h else none) = _
    rw [w_cat_eq, hd, cond_true]) k
theorem ob_d {d c : Nat} (h : 1 ≤ d) (hc : c ≤ 8) : (Nat.blt 0 d && Nat.ble (c + 12) (d * 60)) = true := by
  rw [Bool.and_eq_true]
  exact ⟨Nat.ble_eq_true_of_le h, Nat.ble_eq_true_of_le (by omega)⟩
/-- an object into an array of its class -/
theorem wa_aaO {x v i : Int} (j t ci : Nat) (hx : x = j) (hv : v = t) (hp : w_pr Y S j) (hpt : w_pr Y S t) (ht : Y.ty j = ci + 6) (hok : pe_tOK (ci + 6) = true ∧ ci + 6 < 100) (htt : Y.ty t = 100 + ci) (h0 : 0 ≤ i) (h1 : i < S j (-1)) (k : wJ G Y M d mt rest L st (w_up S j i v) Q) : wJ G Y M d mt (.inl .aastore :: rest) L ((2, v) :: (0, i) :: (2, x) :: st) S Q := wJ_o (fun ad Lc h hE hL => by
  obtain ⟨n, c, a1, a2, a3⟩ := w_arr hE hp ht ⟨by omega, by omega⟩
  obtain ⟨vs, b1, b2, b3⟩ := w_obj hE hpt htt
  obtain ⟨i1, i2, i3, i4⟩ := w_in a2 h0 h1
  have hfit : pe_fitA h (ci + 6) (ad t) = true := by
    unfold pe_fitA
    rw [pe_at_eq, b1]
    show (Nat.beq (ci + 6) (ci + 6) && pe_tOK (ci + 6)) = true
    rw [hok.1, Nat.beq_refl]
    rfl
  have W := w_E_set (S2 := w_up S j i v) (y := .inr (.inr (.inl (ci + 6, n, pe_ins false i.toNat (some (ad t)) c)))) hE hp a1 rfl ⟨ht, ⟨by omega, by omega⟩, ⟨by rw [w_up_at (by omega)]; exact a2.1, a2.2⟩, fun y hy => by
    obtain ⟨d1, d2⟩ := a3 y hy
    rw [if_neg (by omega)] at d1 d2 ⊢
    rw [pe_lk_ins none false i.toNat (some (ad t)) (fun z => by cases z)]
    by_cases e : y = i.toNat
    · subst e
      rw [show (((i.toNat : Nat) : Int)) = i from i4, w_up_same, hv]
      refine ⟨?_, Or.inr ⟨?_, ?_⟩⟩
      · rw [if_pos rfl]
        exact (w_r_n ad rfl).symm
      · exact ⟨by rw [w_up_at (by omega)]; exact hpt.1, hpt.2⟩
      · show 100 ≤ Y.ty ((t : Int)).toNat
        rw [Int.toNat_natCast, htt]; omega
    · rw [w_up_at (show ((y : Nat) : Int) ≠ i by omega)]
      refine ⟨?_, w_sr_mono (fun q hq => (w_up_pr h0).mpr hq) d2⟩
      rw [if_neg e]
      exact d1⟩ (fun q hq n => w_up_slot hq) (w_up_at (by omega))
  refine ⟨Lc, _, fun k => ?_, W.1, hL, W.2⟩
  show pe_f_aastore G.xs mt.mx Lc (w_r ad v :: Value.int (Int32.ofInt i) :: w_r ad x :: st.map (w_u ad)) h k = _
  rw [w_r_n ad hv, w_r_n ad hx]
  show (match pe_at h (ad j) with | some (.inr (.inr (.inl (t2, n, c)))) => (bif pe_inb (Int32.ofInt i) n && pe_fitA h t2 (ad t) then pe_insk false (Int32.ofInt i).toNatClampNeg (some (ad t)) c (fun c => pe_setk ((.inr (.inr (.inl (t2, n, c)))) : pe_E) h (ad j) (fun h => k Lc (st.map (w_u ad)) h)) else none) | _ => none) = _
  rw [pe_at_eq, a1]
  show (bif pe_inb (Int32.ofInt i) n && pe_fitA h (ci + 6) (ad t) then pe_insk false (Int32.ofInt i).toNatClampNeg (some (ad t)) c (fun c => pe_setk ((.inr (.inr (.inl (ci + 6, n, c)))) : pe_E) h (ad j) (fun h => k Lc (st.map (w_u ad)) h)) else none) = _
  rw [i1, hfit, Bool.and_self, cond_true, pe_insk_eq, pe_setk_eq, i2]) k
theorem wb_gf7 {x v : Int} {ix ci k0 wd : Nat} {host : Option String} (j : Nat) (hx : x = j) (hp : w_pr Y S j) (ht : Y.ty j = 100 + ci) (hf : (Y.fk ci)[k0]? = some 7) (hv : S j k0 = v) (k : wJ G Y M d mt rest L ((2, v) :: st) S Q) : wJ G Y M d mt (.inr (.inl (ix, ci, k0, host, wd)) :: rest) L ((2, x) :: st) S Q := by
  subst hv
  exact wa_gf j hx hp ht hf (fun q => absurd q (by decide)) rfl (fun _ _ => k)
theorem wb_pf7 {x v n : Int} {ix ci k0 wd : Nat} {host : Option String} (j : Nat) (hx : x = j) (hp : w_pr Y S j) (ht : Y.ty j = 100 + ci) (hf : (Y.fk ci)[k0]? = some 7) (hn : (k0 : Int) = n) (hv : v < 0 ∨ (w_pr Y S v.toNat ∧ Y.co v.toNat = 1)) (k : wJ G Y M d mt rest L st (w_up S j n v) Q) : wJ G Y M d mt (.inr (.inr (.inr (.inr (.inl (ix, ci, k0, 2, host, wd))))) :: rest) L ((2, v) :: (2, x) :: st) S Q := by
  subst hn
  exact wa_pf7 j hx hp ht hf hv k
theorem wb_aaldO {x i v n : Int} (j : Nat) (hx : x = j) (hp : w_pr Y S j) (ht : Y.ty j = 20) (h0 : 0 ≤ i) (hn : S j (-1) = n) (h1 : i < n) (hv : S j i = v) (k : wJ G Y M d mt rest L ((2, v) :: st) S Q) : wJ G Y M d mt (.inl .aaload :: rest) L ((0, i) :: (2, x) :: st) S Q := by
  subst hv
  exact wa_aald j hx hp ht ⟨rfl, rfl, by decide⟩ h0 (by omega) (if_neg (by decide)) (fun _ => k)
/-- a new array of n ints -/
def nI_ag (S Z : wS) (j : Nat) (n : Int) : Prop := (∀ x : Int, 0 ≤ x → Z j x = 0) ∧ Z j (-1) = n ∧ (∀ k : Nat, k ≠ j → k ≠ wG → Z k = S k) ∧ Z wG 0 = S wG 0 + n ∧ Z wG 1 = S wG 1 + 1
theorem wb_nI {n : Int} (j : Nat) (hn : 0 ≤ n ∧ n ≤ 67108864) (ht : Y.ty j = 0) (hnp : ¬ w_pr Y S j) (hjG : j ≠ wG) (hj : j < 4000000) (hkl : w_kl Y S (fun _ => False) L) (hks : w_ks Y S (fun _ => False) st) (k : ∀ Z, nI_ag S Z j n → w_pr Y Z j → (∀ q, w_pr Y S q → w_pr Y Z q) → wJ G Y M d mt rest L ((2, (j : Int)) :: st) Z Q) : wJ G Y M d mt (.inl (.newarray .int) :: rest) L ((0, n) :: st) S Q := by
  refine wa_nI j hn ht hnp hjG hj hkl hks (k _ ⟨fun x hx => ?_, ?_, fun q h1 h2 => w_nw_of h1 h2, (w_nw_G hjG).1, (w_nw_G hjG).2⟩ ⟨Or.inr ?_, hjG⟩ (fun q hq => ?_))
  · rw [w_nw_at]; exact if_neg (by omega)
  · rw [w_nw_at]; exact if_pos rfl
  · rw [w_nw_at, show w_z n (-1) = n from if_pos rfl]; exact hn.1
  · have hne : q ≠ j := fun e => hnp (e ▸ hq)
    refine ⟨?_, hq.2⟩
    rw [w_nw_of hne hq.2]; exact hq.1
/-- a new object whose fields are g -/
def nO_ag (S Z : wS) (j : Nat) (g : Int → Int) (m : Int) : Prop := Z j = g ∧ (∀ k : Nat, k ≠ j → k ≠ wG → Z k = S k) ∧ Z wG 0 = S wG 0 + m ∧ Z wG 1 = S wG 1 + 1
theorem wb_nO {ix ci : Nat} {ws : List Nat} {vs : List Value} {g : Int → Int} {m : Nat} (j : Nat) (hv : pe_at G.dv ci = some vs) (hm : pm_n (pe_d (.inr (.inl (ci, vs)))) = m) (hnp : ¬ w_pr Y S j) (hjG : j ≠ wG) (hj : j < 4000000) (hg : 0 ≤ g (-1)) (hc : ∀ ad2, w_c Y ad2 (w_nw S j g m) j (.inr (.inl (ci, vs)))) (hkl : w_kl Y S (fun _ => False) L) (hks : w_ks Y S (fun _ => False) st) (k : ∀ Z, nO_ag S Z j g m → w_pr Y Z j → (∀ q, w_pr Y S q → w_pr Y Z q) → wJ G Y M d mt rest L ((2, (j : Int)) :: st) Z Q) : wJ G Y M d mt ((.inr (.inr (.inr (.inr (.inr (.inr (.inr (.inr (.inr (.inr (.inr (.inr (.inl (ix, ci, ws)))))))))))))) :: rest) L st S Q := by
  refine wa_nw j hv hm hnp hjG hj hg hc hkl hks (k _ ⟨w_nw_at _ _ _ _, fun q h1 h2 => w_nw_of h1 h2, (w_nw_G hjG).1, (w_nw_G hjG).2⟩ ⟨Or.inr ?_, hjG⟩ (fun q hq => ?_))
  · rw [w_nw_at]; exact hg
  · have hne : q ≠ j := fun e => hnp (e ▸ hq)
    refine ⟨?_, hq.2⟩
    rw [w_nw_of hne hq.2]; exact hq.1
end Wbq
