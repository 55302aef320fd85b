/-! PART gg: append and wordFor of the class where the bytes lie in the pool itself. -/
section Wgga
variable {G : pe_G} {Y : wY} {M M2 : Nat → Prop} {d : Nat} {mt : pe_Mt} {is rest : List pe_I} {L L2 : wL} {st st2 : List wv} {S S2 : wS} {Q Q2 : wO → wS → Prop}
theorem wa_pf4r {x v : Int} {ix ci k0 wd : Nat} {host : Option String} (j t j0 : Nat) (hx : x = j) (hv : v = t) (hp : w_pr Y S j) (hpt : w_pr Y S t) (hp0 : w_pr Y S j0) (ht : Y.ty j = 100 + ci) (hf : (Y.fk ci)[k0]? = some 4) (hl : Y.ln j k0 = j0) (hty : Y.ty t = Y.ty j0) (hta : Y.ty j0 < 5) (hne : t ≠ j0) (hc0 : Y.co j0 = 0) (hct : Y.co t = 0) (h6 : ∀ k c i : Nat, w_pr Y S k → Y.ty k = 100 + c → (Y.fk c)[i]? = some 6 → S k i < 0 ∨ ((S k i).toNat ≠ j0 ∧ (S k i).toNat ≠ t)) (hu : ∀ k i, w_pr Y S k → Y.ln k i = j0 → k = j ∧ i = k0) (hut : ∀ k i, w_pr Y S k → Y.ln k i ≠ t) (hM : M j0 ∧ M t) (hLL : ∀ (ad : Nat → Nat) (Lc : pm_L), w_LL ad L Lc → w_LL (w_sa ad j0 t) L2 Lc) (hks : w_ks Y S (fun k => k = j0 ∨ k = t) st) (k : wJ G Y M d mt rest L2 st (w_sw S j0 t) Q) : wJ G Y M d mt (.inr (.inr (.inr (.inr (.inl (ix, ci, k0, 2, host, wd))))) :: rest) L ((2, v) :: (2, x) :: st) S Q := by
  intro ad Lc h hE hL
  obtain ⟨vs, a1, a2, a3⟩ := w_obj hE hp ht
  obtain ⟨xt, b1, b2⟩ := hE.1 t hpt
  obtain ⟨x0, c1, c2⟩ := hE.1 j0 hp0
  have lt0 := w_len0 (by omega) b2
  have l00 := w_len0 hta c2
  have jt : j ≠ t := fun e => by rw [e] at ht; omega
  have jj : j ≠ j0 := fun e => by rw [e] at ht; omega
  have hm : ∀ q, w_pr Y S q → w_pr Y (w_sw S j0 t) q := fun q hq => by
    refine ⟨Or.imp_right (fun r => ?_) hq.1, hq.2⟩
    by_cases e1 : q = j0
    · subst e1; rw [w_sw_1]; exact lt0
    · by_cases e2 : q = t
      · subst e2; rw [w_sw_2 hne]; exact l00
      · rw [w_sw_3 e1 e2]; exact r
  have hb : ∀ q, w_pr Y (w_sw S j0 t) q → w_pr Y S q := fun q hq => by
    by_cases e1 : q = j0
    · subst e1; exact hp0
    · by_cases e2 : q = t
      · subst e2; exact hpt
      · refine ⟨?_, hq.2⟩
        have := hq.1
        rw [w_sw_3 e1 e2] at this
        exact this
  have hfix : ∀ q i : Nat, w_pr Y S q → (q ≠ j ∨ i ≠ k0) → Y.ln q i < 0 ∨ ((Y.ln q i).toNat ≠ j0 ∧ (Y.ln q i).toNat ≠ t) := fun q i hpq hqi => by
    by_cases e : Y.ln q i < 0
    · exact Or.inl e
    · refine Or.inr ⟨fun e2 => ?_, fun e2 => hut q i hpq (by omega)⟩
      have := hu q i hpq (by omega)
      rcases hqi with z | z
      · exact z this.1
      · exact z this.2
  have hadj : ad j ≠ ad t := fun e => jt (hE.2.1 j t hp hpt e)
  have hadj0 : ad j ≠ ad j0 := fun e => jj (hE.2.1 j j0 hp hp0 e)
  have hnewE : w_E Y (w_sa ad j0 t) (w_sw S j0 t) (h.set (ad j) (.inr (.inl (ci, vs.set k0 (.ref (ad t)))))) := by
    refine ⟨fun q hq => ?_, fun q r hq hr => ?_, ?_, ?_, fun q hq => ?_⟩
    · by_cases e1 : q = j0
      · subst e1
        refine ⟨xt, ?_, w_c_arr hty.symm (by omega) (w_sw_1 S _ t) b2⟩
        rw [w_sa_1, List.getElem?_set_ne hadj]
        exact b1
      · by_cases e2 : q = t
        · subst e2
          refine ⟨x0, ?_, w_c_arr hty hta (w_sw_2 hne) c2⟩
          rw [w_sa_2 hne, List.getElem?_set_ne hadj0]
          exact c1
        · rw [w_sa_3 e1 e2]
          by_cases e3 : q = j
          · subst e3
            refine ⟨_, List.getElem?_set_self (List.getElem?_eq_some_iff.mp a1).1, ht, by rw [List.length_set]; exact a2, fun i kd hi => ?_⟩
            obtain ⟨d1, d2, d3⟩ := a3 i kd hi
            rw [w_sw_3 e1 e2]
            refine ⟨?_, d2, w_sr_mono hm d3⟩
            by_cases e4 : i = k0
            · subst e4
              rw [hf] at hi
              cases hi
              refine Or.inr ?_
              rw [List.getElem?_set_self (Nat.lt_of_lt_of_le (List.getElem?_eq_some_iff.mp hf).1 a2)]
              congr 1
              show _ = w_r (w_sa ad j0 t) (Y.ln q i)
              rw [w_r_n _ hl, w_sa_1]
            · refine d1.imp id (fun d1 => ?_)
              rw [List.getElem?_set_ne (fun z => e4 z.symm), d1, w_f_sa hc0 hct (fun z => h6 q ci i hp ht (by rw [hi, z])) (by omega) (by omega) d3 (fun _ => hfix q i hp (Or.inr e4))]
          · obtain ⟨z, z1, z2⟩ := hE.1 q (hb q hq)
            refine ⟨z, ?_, ?_⟩
            · rw [List.getElem?_set_ne (fun r => e3 (hE.2.1 q j (hb q hq) hp r.symm))]
              exact z1
            · refine w_c_same hm (fun n => by rw [w_sw_3 e1 e2]) ?_
              rcases z with ⟨tt, n, c⟩ | ⟨ci2, vs2⟩ | ⟨tt, n, c⟩ | ⟨tt, n, c⟩
              · exact z2
              · refine ⟨z2.1, z2.2.1, fun i kd hi => ?_⟩
                obtain ⟨d1, d2, d3⟩ := z2.2.2 i kd hi
                exact ⟨d1.imp id (fun d1 => by rw [d1, w_f_sa hc0 hct (fun z => h6 q ci2 i (hb q hq) z2.1 (by rw [hi, z])) (by omega) (by omega) d3 (fun _ => hfix q i (hb q hq) (Or.inl e3))]), d2, d3⟩
              · refine ⟨z2.1, z2.2.1, z2.2.2.1, fun i hi => ?_⟩
                obtain ⟨d1, d2⟩ := z2.2.2.2 i hi
                refine ⟨?_, d2⟩
                rw [d1]
                by_cases e5 : tt = 5
                · rw [if_pos e5]
                  exact (w_r_sa (hfix q i (hb q hq) (Or.inl e3))).symm
                · rw [if_neg e5] at d2 ⊢
                  exact (w_f_sa (kd := 5) (y := 0) hc0 hct (fun z => by cases z) (by omega) (by omega) d2 (fun z => by cases z)).symm
              · exact z2
    · have hq := hb q hq
      have hr := hb r hr
      have key : ∀ y z, w_pr Y S y → w_pr Y S z → ad y = ad z → y = z := hE.2.1
      unfold w_sa
      intro e
      by_cases q1 : q = j0
      · rw [if_pos q1] at e
        by_cases r1 : r = j0
        · rw [q1, r1]
        · rw [if_neg r1] at e
          by_cases r2 : r = t
          · rw [if_pos r2] at e
            exact absurd (key _ _ hpt hp0 e) hne
          · rw [if_neg r2] at e
            exact absurd (key _ _ hpt hr e).symm r2
      · rw [if_neg q1] at e
        by_cases q2 : q = t
        · rw [if_pos q2] at e
          by_cases r1 : r = j0
          · rw [if_pos r1] at e
            exact absurd (key _ _ hp0 hpt e).symm hne
          · rw [if_neg r1] at e
            by_cases r2 : r = t
            · rw [q2, r2]
            · rw [if_neg r2] at e
              exact absurd (key _ _ hp0 hr e).symm r1
        · rw [if_neg q2] at e
          by_cases r1 : r = j0
          · rw [if_pos r1] at e
            exact absurd (key _ _ hq hpt e) q2
          · rw [if_neg r1] at e
            by_cases r2 : r = t
            · rw [if_pos r2] at e
              exact absurd (key _ _ hq hp0 e) q1
            · rw [if_neg r2] at e
              exact key _ _ hq hr e
    · rw [w_sw_3 (fun e => hp0.2 e.symm) (fun e => hpt.2 e.symm), hE.2.2.1, pe_D_set]
      congr 1
      refine (pm_sz_set (x := pe_d (.inr (.inl (ci, vs)))) ?_ ?_).symm
      · unfold pe_D
        rw [List.getElem?_map, a1]
        rfl
      · show (vs.set k0 _).length = vs.length
        exact List.length_set
    · rw [w_sw_3 (fun e => hp0.2 e.symm) (fun e => hpt.2 e.symm), hE.2.2.2.1, List.length_set]
    · rw [w_sw_3 (fun e => hp0.2 e.symm) (fun e => hpt.2 e.symm)]
      exact hE.2.2.2.2 q (hb q hq)
  have ha : ∀ q, w_pr Y S q → ¬ (fun k => k = j0 ∨ k = t) q → w_sa ad j0 t q = ad q := fun q _ r => w_sa_3 (fun e => r (Or.inl e)) (fun e => r (Or.inr e))
  obtain ⟨o, ad2, S3, h3, f0, hg, hE3, hM3, hQ⟩ := k _ Lc _ hnewE (hLL ad Lc hL)
  refine ⟨o, ad2, S3, h3, f0 + 1, fun f hf2 => ?_, hE3, fun q hq => ⟨(hM3 q (hm q hq)).1, fun r => ?_⟩, hQ⟩
  · obtain ⟨f, rfl⟩ : ∃ g, f = g + 1 := ⟨f - 1, by omega⟩
    have hgf := hg f (by omega)
    rw [w_st_ks ha hks] at hgf
    refine Eq.trans ?_ hgf
    show pe_irf (w_r ad v :: w_r ad x :: st.map (w_u ad)) (fun a v st => bif pe_ft 2 v then pe_obj h a ci (fun vs => bif Nat.blt k0 vs.length then pe_setk v vs k0 (fun vs => pe_setk (.inr (.inl (ci, vs))) h a (fun h => pe_go G f d mt rest Lc st h)) else none) else none) = _
    rw [w_r_n ad hv, w_r_n ad hx]
    show (match pe_at h (ad j) with | some (.inr (.inl (c, vs))) => (bif Nat.beq c ci then _ else none) | _ => none) = _
    rw [pe_at_eq, a1]
    show (bif Nat.beq ci ci then _ else none) = _
    rw [Nat.beq_refl]
    show (bif Nat.blt k0 vs.length then _ else none) = _
    rw [show Nat.blt k0 vs.length = true from Nat.ble_eq_true_of_le (Nat.lt_of_lt_of_le (List.getElem?_eq_some_iff.mp hf).1 a2), cond_true, pe_setk_eq, pe_setk_eq]
  · rw [(hM3 q (hm q hq)).2 r]
    exact w_sa_3 (fun e => r (by rw [e]; exact hM.1)) (fun e => r (by rw [e]; exact hM.2))
end Wgga
section Wgg
variable {xs : List (Nat × List Int32)} {M : Nat → Prop} {d : Nat} {A S : wS} {Q : wO → wS → Prop}
theorem wg_pfr {G : pe_G} {mt : pe_Mt} {rest : List pe_I} {L L2 : wL} {st : List wv} {x n len : Int} {ix ci k0 wd : Nat} {host : Option String} (c j a : Nat) (hx : x = j) (hj : Nat.blt j 388 = true) (ha : Nat.blt a 388 = true) (ht : wY0.ty j = 100 + ci) (hf : (wY0.fk ci)[k0]? = some 4) (hl : wY0.ln j k0 = a) (hu : wl_c2 (a : Int) j k0 wy_l 0 = true) (hta : wY0.ty a = c) (hc : c < 3) (hco : wY0.co a = 0) (hI : gI S) (h14 : a = 1 → S 14 5 < 0) (h238 : a ≠ 238 ∧ a ≠ 14) (hn : 0 ≤ len ∧ len < n) (hsl : S a (-1) = len) (hM : mS [a] a → M a ∧ M (nN S c)) (hLL : ∀ (ad : Nat → Nat) (Lc : pm_L), w_LL ad L Lc → w_LL (w_sa ad a (nN S c)) L2 Lc) (hks : w_ks wY0 S (mS [a]) st) (k : ∀ Z, gr_ag S Z a n → gI Z → Z (nN S c) = S a → w_pr wY0 Z (nN S c) → wJ G wY0 M d mt rest L2 st Z Q) : wJ G wY0 M d mt (.inr (.inr (.inr (.inr (.inl (ix, ci, k0, 2, host, wd))))) :: rest) L ((2, (nN S c : Int)) :: (2, x) :: st) (w_cp (w_nw S (nN S c) (w_z n) n) a (nN S c) 0 0 len) Q := by
  have ha' : a < 388 := Nat.le_of_ble_eq_true ha
  have hge : 4000000 ≤ nN S c := nN_ge c
  have hG : wG = 1000000 := rfl
  have hne : nN S c ≠ a := by omega
  have hS : ∀ k : Nat, k ≠ nN S c → k ≠ wG → (w_cp (w_nw S (nN S c) (w_z n) n) a (nN S c) 0 0 len) k = S k := fun k q1 q2 => by funext i; rw [w_cp_of q1, w_nw_of q1 q2]
  have hp : ∀ k : Nat, w_pr wY0 S k → w_pr wY0 (w_cp (w_nw S (nN S c) (w_z n) n) a (nN S c) 0 0 len) k := fun k q => by
    refine ⟨q.1.imp id (fun z => ?_), q.2⟩
    by_cases hk : k = nN S c
    · rw [hk, w_cp_out (by omega), w_nw_at]; show 0 ≤ n; omega
    · rw [hS k hk q.2]; exact z
  have hpt : w_pr wY0 (w_cp (w_nw S (nN S c) (w_z n) n) a (nN S c) 0 0 len) (nN S c) := ⟨Or.inr (by rw [w_cp_out (by omega), w_nw_at]; show 0 ≤ n; omega), by omega⟩
  have hkm : ∀ {v : wv} {M1 : Nat → Prop}, w_kv wY0 S M1 v → w_kv wY0 (w_cp (w_nw S (nN S c) (w_z n) n) a (nN S c) 0 0 len) M1 v := fun {v M1} q => by
    unfold w_kv at q ⊢
    split at q
    · trivial
    · trivial
    · exact q.imp id (fun z => ⟨hp _ z.1, z.2⟩)
  have hmm : ∀ k, (k = a ∨ k = nN S c) → mS [a] k := fun k q => q.elim (fun z => Or.inr (z ▸ List.mem_singleton.mpr rfl)) (fun z => Or.inl (z ▸ hge))
  have hksm : ∀ {L : List wv} {M1 : Nat → Prop}, w_ks wY0 S M1 L → w_ks wY0 (w_cp (w_nw S (nN S c) (w_z n) n) a (nN S c) 0 0 len) M1 L := by
    intro L M1
    induction L with
    | nil => intro _; trivial
    | cons u t ih => intro q; exact ⟨hkm q.1, ih q.2⟩
  have eo : w_sw (w_cp (w_nw S (nN S c) (w_z n) n) a (nN S c) 0 0 len) a (nN S c) (nN S c) = S a := by rw [w_sw_2 hne]; exact hS a (fun z => hne z.symm) (by omega)
  refine wa_pf4r j (nN S c) a hx rfl (wy_pr hj) hpt (wy_pr ha) ht hf hl (by rw [wt_nN (by omega), hta]) (by omega) hne hco (wc_nN (by omega)) ?_ (fun k i _ q => (wl_at hu k i).2 (by omega) q) (fun k i _ q => by have := (wl_at hu k i).1; omega) (hM (Or.inr (List.mem_singleton.mpr rfl))) hLL (w_ks_mono hmm (hksm hks)) (k _ (gr_of hsl (by omega) (by omega) hge hn) (gr_gI hI ha' h238.1 h238.2 (by omega) hn) eo ⟨Or.inr (by rw [eo]; omega), by omega⟩)
  intro k2 c2 i2 q1 q2 q3
  have h7 := wt_k6 (by have := wf_6 q3; omega) q2
  by_cases hk : k2 = nN S c
  · rw [hk, wt_nN (by omega)] at q2
    omega
  · rw [hS k2 hk (by omega)]
    refine gI_6 hI h238.1 h14 hge k2 c2 i2 ⟨q1.1.imp id (fun z => ?_), q1.2⟩ q2 q3
    rw [hS k2 hk q1.2] at z
    exact z
theorem LL_ap {ad : Nat → Nat} {Lc : pm_L} {t : Nat} {a0 n : Int} (ht : t ≠ 2 ∧ t ≠ 3) (h : w_LL ad [(0, (2, 2)), (1, (2, 3)), (2, (0, a0)), (3, (0, n))] Lc) : w_LL (w_sa ad 3 t) [(0, (2, 2)), (1, (2, (t : Int))), (2, (0, a0)), (3, (0, n))] Lc := by
  intro i v hv
  match i, hv with
  | 0, hv =>
    have hv2 : some ((2, 2) : wv) = some v := hv
    cases hv2
    rw [h 0 _ rfl]
    show some (w_r ad 2) = some (w_r (w_sa ad 3 t) 2)
    rw [w_r_sa (Or.inr ⟨by decide, fun z => ht.1 z.symm⟩)]
  | 1, hv =>
    have hv2 : some ((2, (t : Int)) : wv) = some v := hv
    cases hv2
    rw [h 1 _ rfl]
    show some (w_r ad 3) = some (w_r (w_sa ad 3 t) (t : Int))
    rw [w_r_n ad (show (3 : Int) = ((3 : Nat) : Int) from rfl), w_r_n (w_sa ad 3 t) (show (t : Int) = (t : Int) from rfl), w_sa_2 ht.2]
  | 2, hv =>
    have hv2 : some ((0, a0) : wv) = some v := hv
    cases hv2
    exact h 2 _ rfl
  | 3, hv =>
    have hv2 : some ((0, n) : wv) = some v := hv
    cases hv2
    exact h 3 _ rfl
  | i + 4, hv =>
    have hv2 : (none : Option wv) = some v := hv
    cases hv2
theorem nN_3 : nN S 2 ≠ 2 ∧ nN S 2 ≠ 3 := by
  have := nN_ge (S := S) 2
  omega
theorem ap_2_3 {a0 n : Int} (hI : gI S) (h0 : 0 ≤ S 2 1 ∧ S 2 1 ≤ S 3 (-1) ∧ 1024 ≤ S 3 (-1) ∧ S 3 (-1) ≤ 16777216) (hn : 0 ≤ n ∧ n ≤ 65536) (ha : 0 ≤ a0 ∧ a0 + n ≤ S 3 (-1)) : wJ (pe_GA xs) wY0 (mS [3]) (d + 3) t_XW_append ((pe_at t_XW_append.bl 0).getD (0, [])).2 [(0, (2, 2)), (1, (2, 3)), (2, (0, a0)), (3, (0, n))] [] S (fun o Z => o = .inl (some (0, S 2 1)) ∧ ap_ag S Z 2 3 a0 n) := by
  have hR := rmR_rfl S
  refine wa_aload_n (n := 0) rfl ?_
  refine wb_gfi 2 rfl (wy_pr rfl) wt_2 wf_9_1 (v := (S 2 1)) rfl (fun r1 => ?_)
  refine wa_iload_n (n := 3) rfl ?_
  refine wa_iadd ?_
  refine wa_aload_n (n := 0) rfl ?_
  refine wb_gf4 2 rfl (wy_pr rfl) wt_2 wf_9_0 (v := 3) wl_2_0 ?_
  refine wb_alen 3 rfl (wy_pr rfl) (by rw [wt_3]; rfl) (v := (S 3 (-1))) rfl (fun r2 => ?_)
  refine wa_icmple (w_rg0 (by omega) (by omega)) (w_rg0 (by omega) (by omega)) ⟨_, rfl⟩ (fun c3 => ?_) (fun c3 => ?_)
  · skip
    refine wa_aload_n (n := 1) rfl ?_
    refine wa_iload_n (n := 2) rfl ?_
    refine wa_aload_n (n := 0) rfl ?_
    refine wb_gf4 2 rfl (wy_pr rfl) wt_2 wf_9_0 (v := 3) wl_2_0 ?_
    refine wa_aload_n (n := 0) rfl ?_
    refine wb_gfi 2 rfl (wy_pr rfl) wt_2 wf_9_1 (v := (S 2 1)) rfl (fun r4 => ?_)
    refine wa_iload_n (n := 3) rfl ?_
    refine wb_acB (S := S) 3 3 rfl rfl (wy_pr rfl) (wy_pr rfl) wt_3 wt_3 hI hR (by decide) (by omega) (by omega) (by omega) (by have e : S 3 (-1) = (S 3 (-1)) := rfl; omega) (by have e : S 3 (-1) = (S 3 (-1)) := rfl; omega) (by omega) rfl (fun Z5 g6 gi7 rm8 => ?_)
    refine wa_aload_n (n := 0) rfl ?_
    refine wa_dup (by decide) ?_
    refine wb_gfi 2 rfl (wy_pr rfl) wt_2 wf_9_1 (v := (S 2 1)) ((g6.1 2 1 (Or.inl (by decide)))) (fun r9 => ?_)
    refine wa_iload_n (n := 3) rfl ?_
    refine wa_iadd ?_
    refine wb_pfi 2 rfl (wy_pr rfl) wt_2 wf_9_1 (n := 1) rfl ⟨(by omega), (by omega)⟩ ?_
    refine wa_aload_n (n := 0) rfl ?_
    refine wb_gfi 2 rfl (wy_pr rfl) wt_2 wf_9_1 (v := ((S 2 1) + n)) (w_up_same _ _ _ _) (fun r10 => ?_)
    refine wa_iload_n (n := 3) rfl ?_
    refine wa_isub ?_
    refine wa_ireturn rfl ?_
    have e0 : ∀ (j : Nat) (i : Int), (j ≠ 3 ∨ i < S 2 1 ∨ S 2 1 + n ≤ i) → Z5 j i = S j i := g6.1
    refine ⟨congrArg (fun z => Sum.inl (some (0, z))) (by omega), w_up_same _ _ _ _, fun i i0 i1 => (w_up_slot (by decide)).trans (e0 3 i (by omega)), fun i i0 i1 => (w_up_slot (by decide)).trans (g6.2 i i0 i1), fun j i j0 j1 j2 j3 => (w_up_no (by omega)).trans (e0 j i (by omega)), ?_, gI_up gi7 (by omega) (by omega) (by omega), rmR_up rm8 (by omega) (by decide)⟩
    have e1 : (w_up Z5 2 1 (S 2 1 + n)) 3 (-1) = S 3 (-1) := (w_up_slot (by decide)).trans (e0 3 (-1) (by omega))
    show S 2 1 + n ≤ (w_up Z5 2 1 (S 2 1 + n)) 3 (-1) ∧ S 3 (-1) ≤ (w_up Z5 2 1 (S 2 1 + n)) 3 (-1) ∧ ((w_up Z5 2 1 (S 2 1 + n)) 3 (-1) = S 3 (-1) ∨ (w_up Z5 2 1 (S 2 1 + n)) 3 (-1) ≤ 2 * (S 2 1 + n))
    rw [e1]; omega
  · skip
    refine wa_aload_n (n := 0) rfl ?_
    refine wa_aload_n (n := 0) rfl ?_
    refine wb_gf4 2 rfl (wy_pr rfl) wt_2 wf_9_0 (v := 3) wl_2_0 ?_
    refine wa_aload_n (n := 0) rfl ?_
    refine wb_gfi 2 rfl (wy_pr rfl) wt_2 wf_9_1 (v := (S 2 1)) rfl (fun r11 => ?_)
    refine wa_iload_n (n := 3) rfl ?_
    refine wa_iadd ?_
    refine wa_aload_n (n := 0) rfl ?_
    refine wb_gf4 2 rfl (wy_pr rfl) wt_2 wf_9_0 (v := 3) wl_2_0 ?_
    refine wb_alen 3 rfl (wy_pr rfl) (by rw [wt_3]; rfl) (v := (S 3 (-1))) rfl (fun r12 => ?_)
    refine wa_iconst ?_
    refine wa_imul ?_
    refine wa_cs (M2 := fun _ => False) rfl at_JM_max ⟨_, rfl⟩ rfl rfl ⟨(Or.inr ⟨wy_pr rfl, fun q => q⟩), (Or.inr ⟨wy_pr rfl, fun q => q⟩), trivial, trivial, trivial⟩ ⟨(Or.inr ⟨wy_pr rfl, fun q => q⟩), (Or.inr ⟨wy_pr rfl, fun q => q⟩), trivial⟩ (fun _ _ q => False.elim q) (mx_ok (S := S) ⟨by omega, by omega⟩ ⟨by omega, by omega⟩) (fun oq14 Sq14 hp15 q14 => ?_)
    rcases q14 with ⟨rfl, rfl⟩
    show wJ _ _ _ _ _ _ _ _ _ _
    generalize hvv13 : (if ((S 2 1) + n) ≥ ((S 3 (-1)) * 2) then ((S 2 1) + n) else ((S 3 (-1)) * 2)) = v13
    have hwv13 : ((S 2 1) + n) ≤ v13 ∧ ((S 3 (-1)) * 2) ≤ v13 ∧ (v13 = ((S 2 1) + n) ∨ v13 = ((S 3 (-1)) * 2)) := by subst hvv13; split <;> omega
    refine wa_cs (M2 := fun _ => False) rfl at_JA_copyOf ⟨_, rfl⟩ rfl rfl ⟨(Or.inr ⟨wy_pr rfl, fun q => q⟩), (Or.inr ⟨wy_pr rfl, fun q => q⟩), trivial, trivial, trivial⟩ ⟨(Or.inr ⟨wy_pr rfl, fun q => q⟩), trivial⟩ (fun _ _ q => False.elim q) (cp_B (S := S) (a := 3) (n := v13) (len := (S 3 (-1))) (wy_pr rfl) wt_3 rfl ⟨by omega, by omega, by omega⟩) (fun oq16 Sq16 _ q16 => ?_)
    rcases q16 with ⟨rfl, rfl⟩
    show wJ _ _ _ _ _ _ _ _ _ _
    refine wg_pfr (S := S) (len := (S 3 (-1))) (L2 := [(0, (2, 2)), (1, (2, ((nN S 2 : Nat) : Int))), (2, (0, a0)), (3, (0, n))]) 2 2 3 rfl rfl rfl wt_2 wf_9_0 wl_2_0 (by decide +kernel) wt_3 (by decide) (by decide +kernel) hI (fun q => absurd q (by decide)) (by decide) ⟨by omega, by omega⟩ rfl (fun _ => ⟨Or.inr (by decide), Or.inl (nN_ge _)⟩) (fun ad Lc hL => LL_ap (nN_3) hL) trivial (fun Zg gg ggi gen gpn => ?_)
    have hrm := rmR_gr hR gg (by decide +kernel) (len := (S 3 (-1))) rfl ⟨by omega, by omega⟩ ⟨fun q => by first | omega | exact absurd q (by decide), by show _ ≤ (100000000 : Int); omega⟩
    refine wa_fall ⟨_, rfl⟩ ?_
    refine wa_aload_n (n := 1) rfl ?_
    refine wa_iload_n (n := 2) rfl ?_
    refine wa_aload_n (n := 0) rfl ?_
    refine wb_gf4 2 rfl (wy_pr rfl) wt_2 wf_9_0 (v := 3) wl_2_0 ?_
    refine wa_aload_n (n := 0) rfl ?_
    refine wb_gfi 2 rfl (wy_pr rfl) wt_2 wf_9_1 (v := (S 2 1)) ((congrFun (gg.2.2.1 2 (by decide) (by decide) (by decide)) 1)) (fun r17 => ?_)
    refine wa_iload_n (n := 3) rfl ?_
    refine wb_acB (S := Zg) (nN S 2) 3 rfl rfl gpn (wy_pr rfl) (wt_nN (by decide)) wt_3 ggi hrm (by decide) (by omega) (by omega) (by omega) (by have e : Zg (nN S 2) (-1) = (S 3 (-1)) := ((congrFun gen (-1))); omega) (by have e : Zg 3 (-1) = v13 := (gg.1); omega) (by omega) rfl (fun Z18 g19 gi20 rm21 => ?_)
    refine wa_aload_n (n := 0) rfl ?_
    refine wa_dup (by decide) ?_
    refine wb_gfi 2 rfl (wy_pr rfl) wt_2 wf_9_1 (v := (S 2 1)) (((g19.1 2 1 (Or.inl (by decide))).trans ((congrFun (gg.2.2.1 2 (by decide) (by decide) (by decide)) 1)))) (fun r22 => ?_)
    refine wa_iload_n (n := 3) rfl ?_
    refine wa_iadd ?_
    refine wb_pfi 2 rfl (wy_pr rfl) wt_2 wf_9_1 (n := 1) rfl ⟨(by omega), (by omega)⟩ ?_
    refine wa_aload_n (n := 0) rfl ?_
    refine wb_gfi 2 rfl (wy_pr rfl) wt_2 wf_9_1 (v := ((S 2 1) + n)) (w_up_same _ _ _ _) (fun r23 => ?_)
    refine wa_iload_n (n := 3) rfl ?_
    refine wa_isub ?_
    refine wa_ireturn rfl ?_
    have e0 : ∀ (j : Nat) (i : Int), (j ≠ 3 ∨ i < S 2 1 ∨ S 2 1 + n ≤ i) → Z18 j i = Zg j i := g19.1
    have zz : ∀ (j : Nat) (i : Int), j < 4000000 → j ≠ wG → j ≠ 3 → Zg j i = S j i := fun j i j1 j2 j3 => congrFun (gg.2.2.1 j j3 j1 j2) i
    have zl : Zg 3 (-1) = v13 := gg.1
    refine ⟨congrArg (fun z => Sum.inl (some (0, z))) (by omega), w_up_same _ _ _ _, fun i i0 i1 => (w_up_slot (by decide)).trans ((e0 3 i (by omega)).trans (gg.2.1 i i0 (by omega))), fun i i0 i1 => (w_up_slot (by decide)).trans ((g19.2 i i0 i1).trans (congrFun gen _)), fun j i j0 j1 j2 j3 => (w_up_no (by omega)).trans ((e0 j i (by omega)).trans (zz j i j0 j1 j2)), ?_, gI_up gi20 (by omega) (by omega) (by omega), rmR_up rm21 (by omega) (by decide)⟩
    have e1 : (w_up Z18 2 1 (S 2 1 + n)) 3 (-1) = v13 := (w_up_slot (by decide)).trans ((e0 3 (-1) (by omega)).trans zl)
    show S 2 1 + n ≤ (w_up Z18 2 1 (S 2 1 + n)) 3 (-1) ∧ S 3 (-1) ≤ (w_up Z18 2 1 (S 2 1 + n)) 3 (-1) ∧ ((w_up Z18 2 1 (S 2 1 + n)) 3 (-1) = S 3 (-1) ∨ (w_up Z18 2 1 (S 2 1 + n)) 3 (-1) ≤ 2 * (S 2 1 + n))
    rw [e1]; omega
theorem wf3_2_3 {a0 n : Int} (hI : gI S) (hL : wd_L S 2 1024) (h0 : 0 ≤ S 2 1 ∧ S 2 1 ≤ S 3 (-1) ∧ 1024 ≤ S 3 (-1) ∧ S 3 (-1) ≤ 16777216) (hn : 0 ≤ n ∧ n ≤ 60) (ha : 0 ≤ a0 ∧ a0 + n ≤ S 3 (-1) ∧ S 3 (-1) ≤ 2147483647) (hc : 0 ≤ (S 2 7) ∧ (S 2 7) < S 4 (-1) ∧ S 4 (-1) ≤ 16777216) : wJ (pe_GA xs) wY0 (mS [3, 4, 5, 6, 7, 8]) (d + 4) t_XW_wordFor ((pe_at t_XW_wordFor.bl 3).getD (0, [])).2 [(0, (2, 2)), (1, (2, 3)), (2, (0, a0)), (3, (0, n)), (4, (0, (S 2 7)))] [] S (fun o Z => o = .inl (some (0, (S 2 7))) ∧ wn_ag 2 3 1024 a0 n S Z) := by
  have hR := rmR_rfl S
  have hr := hd_rg (f := S 3) (a := a0) (n := n) (H := 1024) (by omega)
  have l10 : S 12 (-1) = 1024 := hL.1
  have l3 : S 5 (-1) = S 4 (-1) := hL.2.1
  have l4 : S 6 (-1) = S 4 (-1) := hL.2.2.1
  have l5 : S 7 (-1) = S 4 (-1) := hL.2.2.2.1
  have l6 : S 8 (-1) = S 4 (-1) := hL.2.2.2.2.1
  refine wa_aload_n (n := 0) rfl ?_
  refine wa_aload_n (n := 1) rfl ?_
  refine wa_iload_n (n := 2) rfl ?_
  refine wa_iload_n (n := 3) rfl ?_
  refine wa_cv 2 rfl (wy_pr rfl) wt_2 (M2 := fun _ => False) rfl at_XW_headOf ⟨_, rfl⟩ rfl rfl ⟨(Or.inr ⟨wy_pr rfl, fun q => q⟩), (Or.inr ⟨wy_pr rfl, fun q => q⟩), trivial, trivial, trivial, trivial⟩ trivial (fun _ _ q => False.elim q) (hd_2 (b := 3) (wy_pr rfl) wt_3 ⟨by omega, by omega, by omega, by omega⟩ l10) (fun oq1 Sq1 hp2 q1 => ?_)
  rcases q1 with ⟨rfl, rfl⟩
  show wJ _ _ _ _ _ _ _ _ _ _
  refine wa_istore (n := 5) rfl ?_
  refine wa_aload_n (n := 0) rfl ?_
  refine wb_gf4 2 rfl (wy_pr rfl) wt_2 wf_9_2 (v := 4) wl_2_2 ?_
  refine wa_iload (n := 4) rfl ?_
  refine wa_aload_n (n := 0) rfl ?_
  refine wa_aload_n (n := 1) rfl ?_
  refine wa_iload_n (n := 2) rfl ?_
  refine wa_iload_n (n := 3) rfl ?_
  refine wJ_S (L2 := [(5, (0, (hd_of (S 3) a0 n 1024))), (0, (2, 2)), (2, (0, a0)), (3, (0, n)), (4, (0, (S 2 7)))]) ?_ ⟨rfl, rfl, rfl, rfl, rfl, trivial⟩
  refine wa_cv 2 rfl (wy_pr rfl) wt_2 (M2 := mS [3]) rfl at_XW_append ⟨_, rfl⟩ rfl rfl ⟨trivial, (Or.inr ⟨wy_pr rfl, mS_no rfl⟩), trivial, trivial, trivial, trivial⟩ ⟨trivial, (Or.inr ⟨wy_pr rfl, mS_no rfl⟩), trivial⟩ (fun _ _ q => mS_sub (by decide) q) (ap_2_3 (S := S) hI h0 ⟨by omega, by omega⟩ ⟨by omega, by omega⟩) (fun oq3 Sq3 hp4 q3 => ?_)
  rcases q3 with ⟨rfl, ap2⟩
  show wJ _ _ _ _ _ _ _ _ _ _
  generalize Sq3 = Zq at ap2 ⊢
  refine wb_iast 4 rfl (wy_pr rfl) wt_4 (n := (S 4 (-1))) ((ap2.2.2.2.1 4 (-1) (by decide) (by decide) (by decide) (Or.inl (by decide)))) (by omega) (by omega) ⟨(by omega), (by omega)⟩ ?_
  refine wa_aload_n (n := 0) rfl ?_
  refine wb_gf4 2 rfl (wy_pr rfl) wt_2 wf_9_3 (v := 5) wl_2_3 ?_
  refine wa_iload (n := 4) rfl ?_
  refine wa_iload_n (n := 3) rfl ?_
  refine wb_iast 5 rfl (wy_pr rfl) wt_5 (n := (S 4 (-1))) ((w_up_slot (by decide)).trans (((ap2.2.2.2.1 5 (-1) (by decide) (by decide) (by decide) (Or.inl (by decide))).trans (l3)))) (by omega) (by omega) ⟨(by omega), (by omega)⟩ ?_
  refine wa_aload_n (n := 0) rfl ?_
  refine wb_gf4 2 rfl (wy_pr rfl) wt_2 wf_9_4 (v := 6) wl_2_4 ?_
  refine wa_iload (n := 4) rfl ?_
  refine wa_aload_n (n := 0) rfl ?_
  refine wb_gf4 2 rfl (wy_pr rfl) wt_2 wf_9_8 (v := 12) wl_2_8 ?_
  refine wa_iload (n := 5) rfl ?_
  refine wb_iald 12 rfl (wy_pr rfl) wt_12 (n := 1024) ((w_up_slot (by decide)).trans ((w_up_slot (by decide)).trans (((ap2.2.2.2.1 12 (-1) (by decide) (by decide) (by decide) (Or.inl (by decide))).trans (l10))))) (by omega) (by omega) (v := (S 12 (hd_of (S 3) a0 n 1024))) ((w_up_slot (by decide)).trans ((w_up_slot (by decide)).trans ((ap2.2.2.2.1 12 (hd_of (S 3) a0 n 1024) (by decide) (by decide) (by decide) (Or.inl (by decide)))))) (fun r5 => ?_)
  refine wb_iast 6 rfl (wy_pr rfl) wt_6 (n := (S 4 (-1))) ((w_up_slot (by decide)).trans ((w_up_slot (by decide)).trans (((ap2.2.2.2.1 6 (-1) (by decide) (by decide) (by decide) (Or.inl (by decide))).trans (l4))))) (by omega) (by omega) ⟨(by omega), (by omega)⟩ ?_
  refine wa_aload_n (n := 0) rfl ?_
  refine wb_gf4 2 rfl (wy_pr rfl) wt_2 wf_9_8 (v := 12) wl_2_8 ?_
  refine wa_iload (n := 5) rfl ?_
  refine wa_iload (n := 4) rfl ?_
  refine wa_iconst ?_
  refine wa_iadd ?_
  refine wb_iast 12 rfl (wy_pr rfl) wt_12 (n := 1024) ((w_up_slot (by decide)).trans ((w_up_slot (by decide)).trans ((w_up_slot (by decide)).trans (((ap2.2.2.2.1 12 (-1) (by decide) (by decide) (by decide) (Or.inl (by decide))).trans (l10)))))) (by omega) (by omega) ⟨(by omega), (by omega)⟩ ?_
  refine wa_aload_n (n := 0) rfl ?_
  refine wb_gf4 2 rfl (wy_pr rfl) wt_2 wf_9_5 (v := 7) wl_2_5 ?_
  refine wa_iload (n := 4) rfl ?_
  refine wa_iconst ?_
  refine wb_iast 7 rfl (wy_pr rfl) wt_7 (n := (S 4 (-1))) ((w_up_slot (by decide)).trans ((w_up_slot (by decide)).trans ((w_up_slot (by decide)).trans ((w_up_slot (by decide)).trans (((ap2.2.2.2.1 7 (-1) (by decide) (by decide) (by decide) (Or.inl (by decide))).trans (l5))))))) (by omega) (by omega) ⟨(by omega), (by omega)⟩ ?_
  refine wa_fall ⟨_, rfl⟩ ?_
  refine wa_aload_n (n := 0) rfl ?_
  refine wb_gf4 2 rfl (wy_pr rfl) wt_2 wf_9_6 (v := 8) wl_2_6 ?_
  refine wa_iload (n := 4) rfl ?_
  refine wa_iconst ?_
  refine wb_iast 8 rfl (wy_pr rfl) wt_8 (n := (S 4 (-1))) ((w_up_slot (by decide)).trans ((w_up_slot (by decide)).trans ((w_up_slot (by decide)).trans ((w_up_slot (by decide)).trans ((w_up_slot (by decide)).trans (((ap2.2.2.2.1 8 (-1) (by decide) (by decide) (by decide) (Or.inl (by decide))).trans (l6)))))))) (by omega) (by omega) ⟨(by omega), (by omega)⟩ ?_
  refine wa_aload_n (n := 0) rfl ?_
  refine wa_dup (by decide) ?_
  refine wb_gfi 2 rfl (wy_pr rfl) wt_2 wf_9_7 (v := (S 2 7)) ((w_up_slot (by decide)).trans ((w_up_slot (by decide)).trans ((w_up_slot (by decide)).trans ((w_up_slot (by decide)).trans ((w_up_slot (by decide)).trans ((w_up_slot (by decide)).trans ((ap2.2.2.2.1 2 7 (by decide) (by decide) (by decide) (Or.inr (by decide)))))))))) (fun r6 => ?_)
  refine wa_iconst ?_
  refine wa_iadd ?_
  refine wb_pfi 2 rfl (wy_pr rfl) wt_2 wf_9_7 (n := 7) rfl ⟨(by omega), (by omega)⟩ ?_
  refine wa_iload (n := 4) rfl ?_
  refine wa_ireturn rfl ?_
  have hq5 : S 2 1 + n ≤ Zq 3 (-1) ∧ S 3 (-1) ≤ Zq 3 (-1) ∧ (Zq 3 (-1) = S 3 (-1) ∨ Zq 3 (-1) ≤ 2 * (S 2 1 + n)) := ap2.2.2.2.2.1
  refine ⟨rfl, ⟨((w_up_at (by decide)).trans ((w_up_slot (by decide)).trans ((w_up_slot (by decide)).trans ((w_up_slot (by decide)).trans ((w_up_slot (by decide)).trans ((w_up_slot (by decide)).trans ((w_up_slot (by decide)).trans (ap2.1)))))))), (w_up_same _ _ _ _)⟩, fun k k0 k1 => ⟨((w_up_slot (by decide)).trans ((w_up_slot (by decide)).trans ((w_up_slot (by decide)).trans ((w_up_slot (by decide)).trans ((w_up_slot (by decide)).trans ((w_up_slot (by decide)).trans ((w_up_at (by omega)).trans ((ap2.2.2.2.1 4 k (by decide) (by decide) (by decide) (Or.inl (by decide))))))))))), ((w_up_slot (by decide)).trans ((w_up_slot (by decide)).trans ((w_up_slot (by decide)).trans ((w_up_slot (by decide)).trans ((w_up_slot (by decide)).trans ((w_up_at (by omega)).trans ((w_up_slot (by decide)).trans ((ap2.2.2.2.1 5 k (by decide) (by decide) (by decide) (Or.inl (by decide))))))))))), ((w_up_slot (by decide)).trans ((w_up_slot (by decide)).trans ((w_up_slot (by decide)).trans ((w_up_slot (by decide)).trans ((w_up_at (by omega)).trans ((w_up_slot (by decide)).trans ((w_up_slot (by decide)).trans ((ap2.2.2.2.1 6 k (by decide) (by decide) (by decide) (Or.inl (by decide))))))))))), ((w_up_slot (by decide)).trans ((w_up_slot (by decide)).trans ((w_up_at (by omega)).trans ((w_up_slot (by decide)).trans ((w_up_slot (by decide)).trans ((w_up_slot (by decide)).trans ((w_up_slot (by decide)).trans ((ap2.2.2.2.1 7 k (by decide) (by decide) (by decide) (Or.inl (by decide))))))))))), ((w_up_slot (by decide)).trans ((w_up_at (by omega)).trans ((w_up_slot (by decide)).trans ((w_up_slot (by decide)).trans ((w_up_slot (by decide)).trans ((w_up_slot (by decide)).trans ((w_up_slot (by decide)).trans ((ap2.2.2.2.1 8 k (by decide) (by decide) (by decide) (Or.inl (by decide)))))))))))⟩, ⟨((w_up_slot (by decide)).trans ((w_up_slot (by decide)).trans ((w_up_slot (by decide)).trans ((w_up_slot (by decide)).trans ((w_up_slot (by decide)).trans ((w_up_slot (by decide)).trans (w_up_same _ _ _ _))))))), ((w_up_slot (by decide)).trans ((w_up_slot (by decide)).trans ((w_up_slot (by decide)).trans ((w_up_slot (by decide)).trans ((w_up_slot (by decide)).trans (w_up_same _ _ _ _)))))), ((w_up_slot (by decide)).trans ((w_up_slot (by decide)).trans ((w_up_slot (by decide)).trans ((w_up_slot (by decide)).trans (w_up_same _ _ _ _))))), ((w_up_slot (by decide)).trans ((w_up_slot (by decide)).trans (w_up_same _ _ _ _))), ((w_up_slot (by decide)).trans (w_up_same _ _ _ _))⟩, ⟨((w_up_slot (by decide)).trans ((w_up_slot (by decide)).trans ((w_up_slot (by decide)).trans (w_up_same _ _ _ _)))), fun x hx => ((w_up_slot (by decide)).trans ((w_up_slot (by decide)).trans ((w_up_slot (by decide)).trans ((w_up_at hx).trans ((w_up_slot (by decide)).trans ((w_up_slot (by decide)).trans ((w_up_slot (by decide)).trans ((ap2.2.2.2.1 12 x (by decide) (by decide) (by decide) (Or.inl (by decide)))))))))))⟩, fun i i0 i1 => Eq.trans ((w_up_slot (by decide)).trans ((w_up_slot (by decide)).trans ((w_up_slot (by decide)).trans ((w_up_slot (by decide)).trans ((w_up_slot (by decide)).trans ((w_up_slot (by decide)).trans (w_up_slot (by decide)))))))) (ap2.2.1 i i0 i1), fun i i0 i1 => Eq.trans ((w_up_slot (by decide)).trans ((w_up_slot (by decide)).trans ((w_up_slot (by decide)).trans ((w_up_slot (by decide)).trans ((w_up_slot (by decide)).trans ((w_up_slot (by decide)).trans (w_up_slot (by decide)))))))) (ap2.2.2.1 i i0 i1), fun j i j0 j1 j2 => ?_, ?_, ?_, (gI_up (gI_up (gI_up (gI_up (gI_up (gI_up (gI_up ap2.2.2.2.2.2.1 (by omega) (by omega) (by omega)) (by omega) (by omega) (by omega)) (by omega) (by omega) (by omega)) (by omega) (by omega) (by omega)) (by omega) (by omega) (by omega)) (by omega) (by omega) (by omega)) (by omega) (by omega) (by omega)), (rmR_up (rmR_up (rmR_up (rmR_up (rmR_up (rmR_up (rmR_up ap2.2.2.2.2.2.2 (by omega) (by decide)) (by omega) (by decide)) (by omega) (by decide)) (by omega) (by decide)) (by omega) (by decide)) (by omega) (by decide)) (by omega) (by decide))⟩
  · exact (w_up_no (by omega)).trans ((w_up_no (by omega)).trans ((w_up_no (by omega)).trans ((w_up_no (by omega)).trans ((w_up_no (by omega)).trans ((w_up_no (by omega)).trans ((w_up_no (by omega)).trans (ap2.2.2.2.1 j i j0 j1 (by omega) (by omega))))))))
  · have m2 : (w_up (w_up (w_up (w_up (w_up (w_up (w_up Zq 4 (S 2 7) (S 2 1)) 5 (S 2 7) n) 6 (S 2 7) (S 12 (hd_of (S 3) a0 n 1024))) 12 (hd_of (S 3) a0 n 1024) ((S 2 7) + 1)) 7 (S 2 7) (-1)) 8 (S 2 7) (-1)) 2 7 ((S 2 7) + 1)) 4 (-1) = S 4 (-1) := ((w_up_slot (by decide)).trans ((w_up_slot (by decide)).trans ((w_up_slot (by decide)).trans ((w_up_slot (by decide)).trans ((w_up_slot (by decide)).trans ((w_up_slot (by decide)).trans ((w_up_at (by omega)).trans ((ap2.2.2.2.1 4 (-1) (by decide) (by decide) (by decide) (Or.inl (by decide)))))))))))
    have m3 : (w_up (w_up (w_up (w_up (w_up (w_up (w_up Zq 4 (S 2 7) (S 2 1)) 5 (S 2 7) n) 6 (S 2 7) (S 12 (hd_of (S 3) a0 n 1024))) 12 (hd_of (S 3) a0 n 1024) ((S 2 7) + 1)) 7 (S 2 7) (-1)) 8 (S 2 7) (-1)) 2 7 ((S 2 7) + 1)) 5 (-1) = S 4 (-1) := ((w_up_slot (by decide)).trans ((w_up_slot (by decide)).trans ((w_up_slot (by decide)).trans ((w_up_slot (by decide)).trans ((w_up_slot (by decide)).trans ((w_up_at (by omega)).trans ((w_up_slot (by decide)).trans (((ap2.2.2.2.1 5 (-1) (by decide) (by decide) (by decide) (Or.inl (by decide))).trans (l3))))))))))
    have m4 : (w_up (w_up (w_up (w_up (w_up (w_up (w_up Zq 4 (S 2 7) (S 2 1)) 5 (S 2 7) n) 6 (S 2 7) (S 12 (hd_of (S 3) a0 n 1024))) 12 (hd_of (S 3) a0 n 1024) ((S 2 7) + 1)) 7 (S 2 7) (-1)) 8 (S 2 7) (-1)) 2 7 ((S 2 7) + 1)) 6 (-1) = S 4 (-1) := ((w_up_slot (by decide)).trans ((w_up_slot (by decide)).trans ((w_up_slot (by decide)).trans ((w_up_slot (by decide)).trans ((w_up_at (by omega)).trans ((w_up_slot (by decide)).trans ((w_up_slot (by decide)).trans (((ap2.2.2.2.1 6 (-1) (by decide) (by decide) (by decide) (Or.inl (by decide))).trans (l4))))))))))
    have m5 : (w_up (w_up (w_up (w_up (w_up (w_up (w_up Zq 4 (S 2 7) (S 2 1)) 5 (S 2 7) n) 6 (S 2 7) (S 12 (hd_of (S 3) a0 n 1024))) 12 (hd_of (S 3) a0 n 1024) ((S 2 7) + 1)) 7 (S 2 7) (-1)) 8 (S 2 7) (-1)) 2 7 ((S 2 7) + 1)) 7 (-1) = S 4 (-1) := ((w_up_slot (by decide)).trans ((w_up_slot (by decide)).trans ((w_up_at (by omega)).trans ((w_up_slot (by decide)).trans ((w_up_slot (by decide)).trans ((w_up_slot (by decide)).trans ((w_up_slot (by decide)).trans (((ap2.2.2.2.1 7 (-1) (by decide) (by decide) (by decide) (Or.inl (by decide))).trans (l5))))))))))
    have m6 : (w_up (w_up (w_up (w_up (w_up (w_up (w_up Zq 4 (S 2 7) (S 2 1)) 5 (S 2 7) n) 6 (S 2 7) (S 12 (hd_of (S 3) a0 n 1024))) 12 (hd_of (S 3) a0 n 1024) ((S 2 7) + 1)) 7 (S 2 7) (-1)) 8 (S 2 7) (-1)) 2 7 ((S 2 7) + 1)) 8 (-1) = S 4 (-1) := ((w_up_slot (by decide)).trans ((w_up_at (by omega)).trans ((w_up_slot (by decide)).trans ((w_up_slot (by decide)).trans ((w_up_slot (by decide)).trans ((w_up_slot (by decide)).trans ((w_up_slot (by decide)).trans (((ap2.2.2.2.1 8 (-1) (by decide) (by decide) (by decide) (Or.inl (by decide))).trans (l6))))))))))
    exact ⟨m3.trans m2.symm, m4.trans m2.symm, m5.trans m2.symm, m6.trans m2.symm, by rw [show (w_up (w_up (w_up (w_up (w_up (w_up (w_up Zq 4 (S 2 7) (S 2 1)) 5 (S 2 7) n) 6 (S 2 7) (S 12 (hd_of (S 3) a0 n 1024))) 12 (hd_of (S 3) a0 n 1024) ((S 2 7) + 1)) 7 (S 2 7) (-1)) 8 (S 2 7) (-1)) 2 7 ((S 2 7) + 1)) (2 + 2) (-1) = S 4 (-1) from m2]; omega, Or.inl m2⟩
  · have m1 : (w_up (w_up (w_up (w_up (w_up (w_up (w_up Zq 4 (S 2 7) (S 2 1)) 5 (S 2 7) n) 6 (S 2 7) (S 12 (hd_of (S 3) a0 n 1024))) 12 (hd_of (S 3) a0 n 1024) ((S 2 7) + 1)) 7 (S 2 7) (-1)) 8 (S 2 7) (-1)) 2 7 ((S 2 7) + 1)) 3 (-1) = Zq 3 (-1) := ((w_up_slot (by decide)).trans ((w_up_slot (by decide)).trans ((w_up_slot (by decide)).trans ((w_up_slot (by decide)).trans ((w_up_slot (by decide)).trans ((w_up_slot (by decide)).trans (w_up_slot (by decide))))))))
    rw [show (w_up (w_up (w_up (w_up (w_up (w_up (w_up Zq 4 (S 2 7) (S 2 1)) 5 (S 2 7) n) 6 (S 2 7) (S 12 (hd_of (S 3) a0 n 1024))) 12 (hd_of (S 3) a0 n 1024) ((S 2 7) + 1)) 7 (S 2 7) (-1)) 8 (S 2 7) (-1)) 2 7 ((S 2 7) + 1)) (2 + 1) (-1) = Zq 3 (-1) from m1]; exact hq5
theorem wo_2_3 {a0 n : Int} (hI : gI S) (hL : wd_L S 2 1024) (h0 : 0 ≤ S 2 1 ∧ S 2 1 ≤ S 3 (-1) ∧ 1024 ≤ S 3 (-1) ∧ S 3 (-1) ≤ 16777216) (hn : 0 ≤ n ∧ n ≤ 60) (ha : 0 ≤ a0 ∧ a0 + n ≤ S 3 (-1) ∧ S 3 (-1) ≤ 2147483647) (hW : wd_at S 2 1024) (hc : S 4 (-1) ≤ 8388608) : wJ (pe_GA xs) wY0 (mS [3, 4, 5, 6, 7, 8]) (d + 4) t_XW_wordFor ((pe_at t_XW_wordFor.bl 0).getD (0, [])).2 [(0, (2, 2)), (1, (2, 3)), (2, (0, a0)), (3, (0, n))] [] S (fun o Z => (∃ k : Int, o = .inl (some (0, k)) ∧ 0 ≤ k ∧ k < (S 2 7) ∧ wq (S 3) (S 4) (S 5) (S 3) a0 n k ∧ S = Z) ∨ (o = .inl (some (0, (S 2 7))) ∧ (∀ k : Int, 0 ≤ k → k < (S 2 7) → ¬ wq (S 3) (S 4) (S 5) (S 3) a0 n k) ∧ wn_ag 2 3 1024 a0 n S Z ∧ wd_at Z 2 1024)) := by
  have hR := rmR_rfl S
  have l10 : S 12 (-1) = 1024 := hL.1
  have l3 : S 5 (-1) = S 4 (-1) := hL.2.1
  have l4 : S 6 (-1) = S 4 (-1) := hL.2.2.1
  have l5 : S 7 (-1) = S 4 (-1) := hL.2.2.2.1
  have l6 : S 8 (-1) = S 4 (-1) := hL.2.2.2.2.1
  have l64 : 64 ≤ S 4 (-1) := hL.2.2.2.2.2.1
  have hc1 : 0 ≤ (S 2 7) ∧ (S 2 7) ≤ S 4 (-1) := hW.1
  refine wa_aload_n (n := 0) rfl ?_
  refine wa_aload_n (n := 1) rfl ?_
  refine wa_iload_n (n := 2) rfl ?_
  refine wa_iload_n (n := 3) rfl ?_
  refine wa_cv 2 rfl (wy_pr rfl) wt_2 (M2 := fun _ => False) rfl at_XW_wordAt ⟨_, rfl⟩ rfl rfl ⟨(Or.inr ⟨wy_pr rfl, fun q => q⟩), (Or.inr ⟨wy_pr rfl, fun q => q⟩), trivial, trivial, trivial⟩ trivial (fun _ _ q => False.elim q) (wa_2 (S := S) (b := 3) (wy_pr rfl) wt_3 ⟨by omega, by omega, by omega, by omega⟩ hW hL) (fun oq1 Sq1 hp2 q1 => ?_)
  rcases q1 with ⟨rfl, k, rfl, hk | ⟨rfl, hno⟩⟩
  · skip
    show wJ _ _ _ _ _ _ _ _ _ _
    have hk0 := hk.1
    have hk1 := hk.2.1
    refine wa_istore (n := 4) rfl ?_
    refine wa_iload (n := 4) rfl ?_
    refine wa_iconst ?_
    refine wa_icmpeq (w_rg0 (by omega) (by omega)) (w_rg0 (by omega) (by omega)) ⟨_, rfl⟩ (fun c3 => ?_) (fun c3 => ?_)
    · skip
      exact absurd c3 (by omega)
    · skip
      refine wa_iload (n := 4) rfl ?_
      refine wa_ireturn rfl ?_
      exact Or.inl ⟨k, rfl, hk.1, hk.2.1, hk.2.2, rfl⟩
  · skip
    show wJ _ _ _ _ _ _ _ _ _ _
    refine wa_istore (n := 4) rfl ?_
    refine wa_iload (n := 4) rfl ?_
    refine wa_iconst ?_
    refine wa_icmpeq (w_rg0 (by omega) (by omega)) (w_rg0 (by omega) (by omega)) ⟨_, rfl⟩ (fun c4 => ?_) (fun c4 => ?_)
    · skip
      refine wa_aload_n (n := 0) rfl ?_
      refine wb_gfi 2 rfl (wy_pr rfl) wt_2 wf_9_7 (v := (S 2 7)) rfl (fun r5 => ?_)
      refine wa_istore (n := 4) rfl ?_
      refine wa_iload (n := 4) rfl ?_
      refine wa_aload_n (n := 0) rfl ?_
      refine wb_gf4 2 rfl (wy_pr rfl) wt_2 wf_9_2 (v := 4) wl_2_2 ?_
      refine wb_alen 4 rfl (wy_pr rfl) (by rw [wt_4]; rfl) (v := (S 4 (-1))) rfl (fun r6 => ?_)
      refine wa_icmpne (w_rg0 (by omega) (by omega)) (w_rg0 (by omega) (by omega)) ⟨_, rfl⟩ (fun c7 => ?_) (fun c7 => ?_)
      · skip
        refine wJ_mono (wJ_S (wf3_2_3 hI hL h0 hn ha ⟨by omega, by omega, by omega⟩) ⟨rfl, rfl, rfl, rfl, rfl, trivial⟩) (fun o Z hz => Or.inr ⟨hz.1, hno, hz.2, wn_I (by omega) hW hz.2 hn hno⟩)
      · skip
        refine wa_aload_n (n := 0) rfl ?_
        refine wa_aload_n (n := 0) rfl ?_
        refine wb_gf4 2 rfl (wy_pr rfl) wt_2 wf_9_2 (v := 4) wl_2_2 ?_
        refine wa_iload (n := 4) rfl ?_
        refine wa_iconst ?_
        refine wa_imul ?_
        refine wa_cs (M2 := fun _ => False) rfl at_JA_copyOf_2 ⟨_, rfl⟩ rfl rfl ⟨trivial, (Or.inr ⟨wy_pr rfl, fun q => q⟩), (Or.inr ⟨wy_pr rfl, fun q => q⟩), trivial, trivial, trivial⟩ ⟨(Or.inr ⟨wy_pr rfl, fun q => q⟩), trivial⟩ (fun _ _ q => False.elim q) (cp_I (S := S) (a := 4) (n := ((S 2 7) * 2)) (len := (S 4 (-1))) (wy_pr rfl) wt_4 rfl ⟨by omega, by omega, by omega⟩) (fun oq8 Sq8 _ q8 => ?_)
        rcases q8 with ⟨rfl, rfl⟩
        show wJ _ _ _ _ _ _ _ _ _ _
        refine wg_pf (S := S) (len := (S 4 (-1))) 0 2 4 rfl rfl rfl wt_2 wf_9_2 wl_2_2 (by decide +kernel) wt_4 (by decide) (by decide +kernel) hI (fun q => absurd q (by decide)) (by decide) ⟨by omega, by omega⟩ rfl (fun _ => ⟨Or.inr (by decide), Or.inl (nN_ge _)⟩) ⟨trivial, (Or.inr ⟨wy_pr rfl, mS_no rfl⟩), (Or.inr ⟨wy_pr rfl, mS_no rfl⟩), trivial, trivial, trivial⟩ trivial (fun Z9 g10 gi11 => ?_)
        have rm12 := rmR_gr hR g10 (by decide +kernel) (len := (S 4 (-1))) rfl ⟨by omega, by omega⟩ ⟨fun q => by first | omega | exact absurd q (by decide), by show _ ≤ (100000000 : Int); omega⟩
        refine wa_aload_n (n := 0) rfl ?_
        refine wa_aload_n (n := 0) rfl ?_
        refine wb_gf4 2 rfl (wy_pr rfl) wt_2 wf_9_3 (v := 5) wl_2_3 ?_
        refine wa_iload (n := 4) rfl ?_
        refine wa_iconst ?_
        refine wa_imul ?_
        refine wa_cs (M2 := fun _ => False) rfl at_JA_copyOf_2 ⟨_, rfl⟩ rfl rfl ⟨trivial, (Or.inr ⟨wy_pr rfl, fun q => q⟩), (Or.inr ⟨wy_pr rfl, fun q => q⟩), trivial, trivial, trivial⟩ ⟨(Or.inr ⟨wy_pr rfl, fun q => q⟩), trivial⟩ (fun _ _ q => False.elim q) (cp_I (S := Z9) (a := 5) (n := ((S 2 7) * 2)) (len := (S 4 (-1))) (wy_pr rfl) wt_5 (((congrFun (g10.2.2.1 5 (by decide) (by decide) (by decide)) (-1)).trans (l3))) ⟨by omega, by omega, by omega⟩) (fun oq13 Sq13 _ q13 => ?_)
        rcases q13 with ⟨rfl, rfl⟩
        show wJ _ _ _ _ _ _ _ _ _ _
        refine wg_pf (S := Z9) (len := (S 4 (-1))) 0 2 5 rfl rfl rfl wt_2 wf_9_3 wl_2_3 (by decide +kernel) wt_5 (by decide) (by decide +kernel) gi11 (fun q => absurd q (by decide)) (by decide) ⟨by omega, by omega⟩ (((congrFun (g10.2.2.1 5 (by decide) (by decide) (by decide)) (-1)).trans (l3))) (fun _ => ⟨Or.inr (by decide), Or.inl (nN_ge _)⟩) ⟨trivial, (Or.inr ⟨wy_pr rfl, mS_no rfl⟩), (Or.inr ⟨wy_pr rfl, mS_no rfl⟩), trivial, trivial, trivial⟩ trivial (fun Z14 g15 gi16 => ?_)
        have rm17 := rmR_gr rm12 g15 (by decide +kernel) (len := (S 4 (-1))) (((congrFun (g10.2.2.1 5 (by decide) (by decide) (by decide)) (-1)).trans (l3))) ⟨by omega, by omega⟩ ⟨fun q => by first | omega | exact absurd q (by decide), by show _ ≤ (100000000 : Int); omega⟩
        refine wa_aload_n (n := 0) rfl ?_
        refine wa_aload_n (n := 0) rfl ?_
        refine wb_gf4 2 rfl (wy_pr rfl) wt_2 wf_9_4 (v := 6) wl_2_4 ?_
        refine wa_iload (n := 4) rfl ?_
        refine wa_iconst ?_
        refine wa_imul ?_
        refine wa_cs (M2 := fun _ => False) rfl at_JA_copyOf_2 ⟨_, rfl⟩ rfl rfl ⟨trivial, (Or.inr ⟨wy_pr rfl, fun q => q⟩), (Or.inr ⟨wy_pr rfl, fun q => q⟩), trivial, trivial, trivial⟩ ⟨(Or.inr ⟨wy_pr rfl, fun q => q⟩), trivial⟩ (fun _ _ q => False.elim q) (cp_I (S := Z14) (a := 6) (n := ((S 2 7) * 2)) (len := (S 4 (-1))) (wy_pr rfl) wt_6 (((congrFun (g15.2.2.1 6 (by decide) (by decide) (by decide)) (-1)).trans (((congrFun (g10.2.2.1 6 (by decide) (by decide) (by decide)) (-1)).trans (l4))))) ⟨by omega, by omega, by omega⟩) (fun oq18 Sq18 _ q18 => ?_)
        rcases q18 with ⟨rfl, rfl⟩
        show wJ _ _ _ _ _ _ _ _ _ _
        refine wg_pf (S := Z14) (len := (S 4 (-1))) 0 2 6 rfl rfl rfl wt_2 wf_9_4 wl_2_4 (by decide +kernel) wt_6 (by decide) (by decide +kernel) gi16 (fun q => absurd q (by decide)) (by decide) ⟨by omega, by omega⟩ (((congrFun (g15.2.2.1 6 (by decide) (by decide) (by decide)) (-1)).trans (((congrFun (g10.2.2.1 6 (by decide) (by decide) (by decide)) (-1)).trans (l4))))) (fun _ => ⟨Or.inr (by decide), Or.inl (nN_ge _)⟩) ⟨trivial, (Or.inr ⟨wy_pr rfl, mS_no rfl⟩), (Or.inr ⟨wy_pr rfl, mS_no rfl⟩), trivial, trivial, trivial⟩ trivial (fun Z19 g20 gi21 => ?_)
        have rm22 := rmR_gr rm17 g20 (by decide +kernel) (len := (S 4 (-1))) (((congrFun (g15.2.2.1 6 (by decide) (by decide) (by decide)) (-1)).trans (((congrFun (g10.2.2.1 6 (by decide) (by decide) (by decide)) (-1)).trans (l4))))) ⟨by omega, by omega⟩ ⟨fun q => by first | omega | exact absurd q (by decide), by show _ ≤ (100000000 : Int); omega⟩
        refine wa_aload_n (n := 0) rfl ?_
        refine wa_aload_n (n := 0) rfl ?_
        refine wb_gf4 2 rfl (wy_pr rfl) wt_2 wf_9_5 (v := 7) wl_2_5 ?_
        refine wa_iload (n := 4) rfl ?_
        refine wa_iconst ?_
        refine wa_imul ?_
        refine wa_cs (M2 := fun _ => False) rfl at_JA_copyOf_2 ⟨_, rfl⟩ rfl rfl ⟨trivial, (Or.inr ⟨wy_pr rfl, fun q => q⟩), (Or.inr ⟨wy_pr rfl, fun q => q⟩), trivial, trivial, trivial⟩ ⟨(Or.inr ⟨wy_pr rfl, fun q => q⟩), trivial⟩ (fun _ _ q => False.elim q) (cp_I (S := Z19) (a := 7) (n := ((S 2 7) * 2)) (len := (S 4 (-1))) (wy_pr rfl) wt_7 (((congrFun (g20.2.2.1 7 (by decide) (by decide) (by decide)) (-1)).trans (((congrFun (g15.2.2.1 7 (by decide) (by decide) (by decide)) (-1)).trans (((congrFun (g10.2.2.1 7 (by decide) (by decide) (by decide)) (-1)).trans (l5))))))) ⟨by omega, by omega, by omega⟩) (fun oq23 Sq23 _ q23 => ?_)
        rcases q23 with ⟨rfl, rfl⟩
        show wJ _ _ _ _ _ _ _ _ _ _
        refine wg_pf (S := Z19) (len := (S 4 (-1))) 0 2 7 rfl rfl rfl wt_2 wf_9_5 wl_2_5 (by decide +kernel) wt_7 (by decide) (by decide +kernel) gi21 (fun q => absurd q (by decide)) (by decide) ⟨by omega, by omega⟩ (((congrFun (g20.2.2.1 7 (by decide) (by decide) (by decide)) (-1)).trans (((congrFun (g15.2.2.1 7 (by decide) (by decide) (by decide)) (-1)).trans (((congrFun (g10.2.2.1 7 (by decide) (by decide) (by decide)) (-1)).trans (l5))))))) (fun _ => ⟨Or.inr (by decide), Or.inl (nN_ge _)⟩) ⟨trivial, (Or.inr ⟨wy_pr rfl, mS_no rfl⟩), (Or.inr ⟨wy_pr rfl, mS_no rfl⟩), trivial, trivial, trivial⟩ trivial (fun Z24 g25 gi26 => ?_)
        have rm27 := rmR_gr rm22 g25 (by decide +kernel) (len := (S 4 (-1))) (((congrFun (g20.2.2.1 7 (by decide) (by decide) (by decide)) (-1)).trans (((congrFun (g15.2.2.1 7 (by decide) (by decide) (by decide)) (-1)).trans (((congrFun (g10.2.2.1 7 (by decide) (by decide) (by decide)) (-1)).trans (l5))))))) ⟨by omega, by omega⟩ ⟨fun q => by first | omega | exact absurd q (by decide), by show _ ≤ (100000000 : Int); omega⟩
        refine wa_fall ⟨_, rfl⟩ ?_
        refine wa_aload_n (n := 0) rfl ?_
        refine wa_aload_n (n := 0) rfl ?_
        refine wb_gf4 2 rfl (wy_pr rfl) wt_2 wf_9_6 (v := 8) wl_2_6 ?_
        refine wa_iload (n := 4) rfl ?_
        refine wa_iconst ?_
        refine wa_imul ?_
        refine wa_cs (M2 := fun _ => False) rfl at_JA_copyOf_2 ⟨_, rfl⟩ rfl rfl ⟨trivial, (Or.inr ⟨wy_pr rfl, fun q => q⟩), (Or.inr ⟨wy_pr rfl, fun q => q⟩), trivial, trivial, trivial⟩ ⟨(Or.inr ⟨wy_pr rfl, fun q => q⟩), trivial⟩ (fun _ _ q => False.elim q) (cp_I (S := Z24) (a := 8) (n := ((S 2 7) * 2)) (len := (S 4 (-1))) (wy_pr rfl) wt_8 (((congrFun (g25.2.2.1 8 (by decide) (by decide) (by decide)) (-1)).trans (((congrFun (g20.2.2.1 8 (by decide) (by decide) (by decide)) (-1)).trans (((congrFun (g15.2.2.1 8 (by decide) (by decide) (by decide)) (-1)).trans (((congrFun (g10.2.2.1 8 (by decide) (by decide) (by decide)) (-1)).trans (l6))))))))) ⟨by omega, by omega, by omega⟩) (fun oq28 Sq28 _ q28 => ?_)
        rcases q28 with ⟨rfl, rfl⟩
        show wJ _ _ _ _ _ _ _ _ _ _
        refine wg_pf (S := Z24) (len := (S 4 (-1))) 0 2 8 rfl rfl rfl wt_2 wf_9_6 wl_2_6 (by decide +kernel) wt_8 (by decide) (by decide +kernel) gi26 (fun q => absurd q (by decide)) (by decide) ⟨by omega, by omega⟩ (((congrFun (g25.2.2.1 8 (by decide) (by decide) (by decide)) (-1)).trans (((congrFun (g20.2.2.1 8 (by decide) (by decide) (by decide)) (-1)).trans (((congrFun (g15.2.2.1 8 (by decide) (by decide) (by decide)) (-1)).trans (((congrFun (g10.2.2.1 8 (by decide) (by decide) (by decide)) (-1)).trans (l6))))))))) (fun _ => ⟨Or.inr (by decide), Or.inl (nN_ge _)⟩) ⟨trivial, (Or.inr ⟨wy_pr rfl, mS_no rfl⟩), (Or.inr ⟨wy_pr rfl, mS_no rfl⟩), trivial, trivial, trivial⟩ trivial (fun Z29 g30 gi31 => ?_)
        have rm32 := rmR_gr rm27 g30 (by decide +kernel) (len := (S 4 (-1))) (((congrFun (g25.2.2.1 8 (by decide) (by decide) (by decide)) (-1)).trans (((congrFun (g20.2.2.1 8 (by decide) (by decide) (by decide)) (-1)).trans (((congrFun (g15.2.2.1 8 (by decide) (by decide) (by decide)) (-1)).trans (((congrFun (g10.2.2.1 8 (by decide) (by decide) (by decide)) (-1)).trans (l6))))))))) ⟨by omega, by omega⟩ ⟨fun q => by first | omega | exact absurd q (by decide), by show _ ≤ (100000000 : Int); omega⟩
        refine wa_fall ⟨_, rfl⟩ ?_
        have zz : ∀ (j : Nat) (i : Int), j < 4000000 → j ≠ wG → (j < 4 ∨ 8 < j) → Z29 j i = S j i := fun j i j0 j1 j2 => (congrFun (g30.2.2.1 j (by omega) j0 j1) i).trans ((congrFun (g25.2.2.1 j (by omega) j0 j1) i).trans ((congrFun (g20.2.2.1 j (by omega) j0 j1) i).trans ((congrFun (g15.2.2.1 j (by omega) j0 j1) i).trans ((congrFun (g10.2.2.1 j (by omega) j0 j1) i).trans (rfl)))))
        have y2 : ∀ k : Int, 0 ≤ k → k < (S 2 7) → Z29 4 k = S 4 k := by
          intro k k0 k1
          have f0 : Z29 4 k = Z24 4 k := congrFun (g30.2.2.1 4 (by decide) (by decide) (by decide)) k
          have f1 : Z24 4 k = Z19 4 k := congrFun (g25.2.2.1 4 (by decide) (by decide) (by decide)) k
          have f2 : Z19 4 k = Z14 4 k := congrFun (g20.2.2.1 4 (by decide) (by decide) (by decide)) k
          have f3 : Z14 4 k = Z9 4 k := congrFun (g15.2.2.1 4 (by decide) (by decide) (by decide)) k
          have e4 : S 4 (-1) = S 4 (-1) := rfl
          have f4 : Z9 4 k = S 4 k := g10.2.1 k k0 (by rw [e4]; omega)
          rw [f0, f1, f2, f3, f4]
        have n2 : Z29 4 (-1) = (S 2 7) * 2 := (((congrFun (g30.2.2.1 4 (by decide) (by decide) (by decide)) (-1)).trans (((congrFun (g25.2.2.1 4 (by decide) (by decide) (by decide)) (-1)).trans (((congrFun (g20.2.2.1 4 (by decide) (by decide) (by decide)) (-1)).trans (((congrFun (g15.2.2.1 4 (by decide) (by decide) (by decide)) (-1)).trans (g10.1)))))))))
        have y3 : ∀ k : Int, 0 ≤ k → k < (S 2 7) → Z29 5 k = S 5 k := by
          intro k k0 k1
          have f0 : Z29 5 k = Z24 5 k := congrFun (g30.2.2.1 5 (by decide) (by decide) (by decide)) k
          have f1 : Z24 5 k = Z19 5 k := congrFun (g25.2.2.1 5 (by decide) (by decide) (by decide)) k
          have f2 : Z19 5 k = Z14 5 k := congrFun (g20.2.2.1 5 (by decide) (by decide) (by decide)) k
          have e3 : Z9 5 (-1) = S 5 (-1) := ((congrFun (g10.2.2.1 5 (by decide) (by decide) (by decide)) (-1)))
          have f3 : Z14 5 k = Z9 5 k := g15.2.1 k k0 (by rw [e3]; omega)
          have f4 : Z9 5 k = S 5 k := congrFun (g10.2.2.1 5 (by decide) (by decide) (by decide)) k
          rw [f0, f1, f2, f3, f4]
        have n3 : Z29 5 (-1) = (S 2 7) * 2 := (((congrFun (g30.2.2.1 5 (by decide) (by decide) (by decide)) (-1)).trans (((congrFun (g25.2.2.1 5 (by decide) (by decide) (by decide)) (-1)).trans (((congrFun (g20.2.2.1 5 (by decide) (by decide) (by decide)) (-1)).trans (g15.1)))))))
        have y4 : ∀ k : Int, 0 ≤ k → k < (S 2 7) → Z29 6 k = S 6 k := by
          intro k k0 k1
          have f0 : Z29 6 k = Z24 6 k := congrFun (g30.2.2.1 6 (by decide) (by decide) (by decide)) k
          have f1 : Z24 6 k = Z19 6 k := congrFun (g25.2.2.1 6 (by decide) (by decide) (by decide)) k
          have e2 : Z14 6 (-1) = S 6 (-1) := (((congrFun (g15.2.2.1 6 (by decide) (by decide) (by decide)) (-1))).trans ((congrFun (g10.2.2.1 6 (by decide) (by decide) (by decide)) (-1))))
          have f2 : Z19 6 k = Z14 6 k := g20.2.1 k k0 (by rw [e2]; omega)
          have f3 : Z14 6 k = Z9 6 k := congrFun (g15.2.2.1 6 (by decide) (by decide) (by decide)) k
          have f4 : Z9 6 k = S 6 k := congrFun (g10.2.2.1 6 (by decide) (by decide) (by decide)) k
          rw [f0, f1, f2, f3, f4]
        have n4 : Z29 6 (-1) = (S 2 7) * 2 := (((congrFun (g30.2.2.1 6 (by decide) (by decide) (by decide)) (-1)).trans (((congrFun (g25.2.2.1 6 (by decide) (by decide) (by decide)) (-1)).trans (g20.1)))))
        have y5 : ∀ k : Int, 0 ≤ k → k < (S 2 7) → Z29 7 k = S 7 k := by
          intro k k0 k1
          have f0 : Z29 7 k = Z24 7 k := congrFun (g30.2.2.1 7 (by decide) (by decide) (by decide)) k
          have e1 : Z19 7 (-1) = S 7 (-1) := (((congrFun (g20.2.2.1 7 (by decide) (by decide) (by decide)) (-1))).trans (((congrFun (g15.2.2.1 7 (by decide) (by decide) (by decide)) (-1))).trans ((congrFun (g10.2.2.1 7 (by decide) (by decide) (by decide)) (-1)))))
          have f1 : Z24 7 k = Z19 7 k := g25.2.1 k k0 (by rw [e1]; omega)
          have f2 : Z19 7 k = Z14 7 k := congrFun (g20.2.2.1 7 (by decide) (by decide) (by decide)) k
          have f3 : Z14 7 k = Z9 7 k := congrFun (g15.2.2.1 7 (by decide) (by decide) (by decide)) k
          have f4 : Z9 7 k = S 7 k := congrFun (g10.2.2.1 7 (by decide) (by decide) (by decide)) k
          rw [f0, f1, f2, f3, f4]
        have n5 : Z29 7 (-1) = (S 2 7) * 2 := (((congrFun (g30.2.2.1 7 (by decide) (by decide) (by decide)) (-1)).trans (g25.1)))
        have y6 : ∀ k : Int, 0 ≤ k → k < (S 2 7) → Z29 8 k = S 8 k := by
          intro k k0 k1
          have e0 : Z24 8 (-1) = S 8 (-1) := (((congrFun (g25.2.2.1 8 (by decide) (by decide) (by decide)) (-1))).trans (((congrFun (g20.2.2.1 8 (by decide) (by decide) (by decide)) (-1))).trans (((congrFun (g15.2.2.1 8 (by decide) (by decide) (by decide)) (-1))).trans ((congrFun (g10.2.2.1 8 (by decide) (by decide) (by decide)) (-1))))))
          have f0 : Z29 8 k = Z24 8 k := g30.2.1 k k0 (by rw [e0]; omega)
          have f1 : Z24 8 k = Z19 8 k := congrFun (g25.2.2.1 8 (by decide) (by decide) (by decide)) k
          have f2 : Z19 8 k = Z14 8 k := congrFun (g20.2.2.1 8 (by decide) (by decide) (by decide)) k
          have f3 : Z14 8 k = Z9 8 k := congrFun (g15.2.2.1 8 (by decide) (by decide) (by decide)) k
          have f4 : Z9 8 k = S 8 k := congrFun (g10.2.2.1 8 (by decide) (by decide) (by decide)) k
          rw [f0, f1, f2, f3, f4]
        have n6 : Z29 8 (-1) = (S 2 7) * 2 := (g30.1)
        have zI : wd_at Z29 2 1024 := by
          have h := wd_cg (P2 := Z29 3) (ST2 := Z29 4) (SZ2 := Z29 5) (NX2 := Z29 6) (HD2 := Z29 12) (plen2 := Z29 3 (-1)) (cap2 := Z29 4 (-1)) hW (Int.le_of_eq (zz 3 (-1) (by decide) (by decide) (by omega)).symm) (by rw [n2]; show S 4 (-1) ≤ _; omega) (fun i _ _ => zz 3 i (by decide) (by decide) (by omega)) (fun k k0 k1 => ⟨y2 k k0 k1, y3 k k0 k1, y4 k k0 k1⟩) (fun x _ _ => zz 12 x (by decide) (by decide) (by omega))
          unfold wd_at; rw [show Z29 2 1 = S 2 1 from zz 2 1 (by decide) (by decide) (by omega), show Z29 2 7 = S 2 7 from zz 2 7 (by decide) (by decide) (by omega)]; exact h
        have e1 : Z29 2 1 = S 2 1 := zz 2 1 (by decide) (by decide) (by omega)
        have e7 : Z29 2 7 = S 2 7 := zz 2 7 (by decide) (by decide) (by omega)
        have el : Z29 3 (-1) = S 3 (-1) := zz 3 (-1) (by decide) (by decide) (by omega)
        have eb : Z29 3 = S 3 := funext fun i => zz 3 i (by decide) (by decide) (by omega)
        have ep : Z29 3 = S 3 := funext fun i => zz 3 i (by decide) (by decide) (by omega)
        have eh : Z29 12 = S 12 := funext fun i => zz 12 i (by decide) (by decide) (by omega)
        have zL : wd_L Z29 2 1024 := ⟨(congrFun eh (-1)).trans l10, n3.trans n2.symm, n4.trans n2.symm, n5.trans n2.symm, n6.trans n2.symm, by rw [show Z29 (2 + 2) (-1) = (S 2 7) * 2 from n2]; omega, by rw [show Z29 (2 + 1) (-1) = S 3 (-1) from el]; omega, by rw [show Z29 (2 + 2) (-1) = (S 2 7) * 2 from n2]; omega, by rw [show Z29 (2 + 1) (-1) = S 3 (-1) from el]; omega⟩
        refine wJ_mono (wJ_S (wf3_2_3 (S := Z29) gi31 zL ⟨by omega, by omega, by omega, by omega⟩ hn (by rw [eb]; exact ha) ⟨by omega, by omega, by omega⟩) ⟨rfl, rfl, rfl, rfl, by rw [e7]; rfl, trivial⟩) (fun o Z hz => ?_)
        obtain ⟨ho, hz⟩ := hz
        rw [e7] at ho
        have hno2 : ∀ k : Int, 0 ≤ k → k < Z29 2 7 → ¬ wq (Z29 3) (Z29 4) (Z29 5) (Z29 3) a0 n k := by
          intro k k0 k1 hk
          rw [e7] at k1
          rw [eb] at hk
          exact hno k k0 k1 ⟨by rw [← y3 k k0 k1]; exact hk.1, fun i hi => by rw [← y2 k k0 k1]; exact hk.2 i hi⟩
        have hzI := wn_I (b := 3) (by omega) zI hz hn hno2
        refine Or.inr ⟨ho, hno, ?_, hzI⟩
        obtain ⟨⟨a1, a2⟩, a3, ⟨a4, a5, a6, a7, a8⟩, ⟨a9, a10⟩, a11, a12, a13, ⟨a14, a15, a16, a17, a18, a19⟩, a20, a21, a22⟩ := hz
        rw [e1] at a1 a4 a11 a12 a20
        rw [e7] at a2 a3 a4 a5 a6 a7 a8 a9 a18 a19
        rw [eb] at a6 a9 a10 a12
        rw [show Z29 (2 + 10) = S 12 from eh] at a6 a10
        rw [show Z29 (2 + 1) = S 3 from ep] at a11 a20
        refine ⟨⟨a1, a2⟩, fun k k0 k1 => ?_, ⟨a4, a5, a6, a7, a8⟩, ⟨a9, a10⟩, a11, a12, fun j i j0 j1 j2 => (a13 j i j0 j1 j2).trans (zz j i j0 j1 (by omega)), ⟨a14, a15, a16, a17, a18, ?_⟩, a20, a21, rmR_tr rm32 a22⟩
        · obtain ⟨b1, b2, b3, b4, b5⟩ := a3 k k0 k1
          exact ⟨b1.trans (y2 k k0 k1), b2.trans (y3 k k0 k1), b3.trans (y4 k k0 k1), b4.trans (y5 k k0 k1), b5.trans (y6 k k0 k1)⟩
        · rw [show Z29 (2 + 2) (-1) = (S 2 7) * 2 from n2] at a19
          refine Or.inr ⟨by show (S 2 7) = S 4 (-1); omega, by omega⟩
    · skip
      exact absurd c4 (by omega)
end Wgg
