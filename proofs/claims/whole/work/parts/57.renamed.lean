/-! PART 57: a fixed reference set anew: the new array takes the slot's name. -/
section W57
variable {G : pe_G} {Y : wY} {M M2 : Nat → Prop} {d : Nat} {mt : pe_Mt} {is rest : List pe_I} {L L2 : wL} {st st2 : List wv} {S S2 : wS} {Q Q2 : wO → wS → Prop}
/-- two slots change their names -/
def w_sw (S : wS) (a b : Nat) : wS := fun k => if k = a then S b else if k = b then S a else S k
def w_sa (ad : Nat → Nat) (a b : Nat) : Nat → Nat := fun k => if k = a then ad b else if k = b then ad a else ad k
theorem w_sw_1 (S : wS) (a b : Nat) : w_sw S a b a = S b := if_pos rfl
theorem w_sw_2 {S : wS} {a b : Nat} (h : b ≠ a) : w_sw S a b b = S a := by unfold w_sw; rw [if_neg h, if_pos rfl]
theorem w_sw_3 {S : wS} {a b k : Nat} (h : k ≠ a) (h2 : k ≠ b) : w_sw S a b k = S k := by unfold w_sw; rw [if_neg h, if_neg h2]
theorem w_sa_1 (ad : Nat → Nat) (a b : Nat) : w_sa ad a b a = ad b := if_pos rfl
theorem w_sa_2 {ad : Nat → Nat} {a b : Nat} (h : b ≠ a) : w_sa ad a b b = ad a := by unfold w_sa; rw [if_neg h, if_pos rfl]
theorem w_sa_3 {ad : Nat → Nat} {a b k : Nat} (h : k ≠ a) (h2 : k ≠ b) : w_sa ad a b k = ad k := by unfold w_sa; rw [if_neg h, if_neg h2]
theorem w_c_arr {ad ad2 : Nat → Nat} {a b : Nat} {x : pe_E} (ht : Y.ty a = Y.ty b) (h5 : Y.ty b < 5) (hs : S2 a = S b) (hc : w_c Y ad S b x) : w_c Y ad2 S2 a x := by
  rcases x with ⟨t, n, c⟩ | ⟨ci, vs⟩ | ⟨t, n, c⟩ | ⟨t, n, c⟩
  · unfold w_c at hc ⊢
    dsimp only at hc ⊢
    rw [hs, ht]
    exact hc
  · have := hc.1; omega
  · have := hc.1; have := hc.2.1; omega
  · unfold w_c at hc ⊢
    dsimp only at hc ⊢
    rw [hs, ht]
    exact hc
theorem w_len0 {ad : Nat → Nat} {b : Nat} {x : pe_E} (h5 : Y.ty b < 5) (hc : w_c Y ad S b x) : 0 ≤ S b (-1) := by
  rcases x with ⟨t, n, c⟩ | ⟨ci, vs⟩ | ⟨t, n, c⟩ | ⟨t, n, c⟩
  · have := hc.2.2.1.1; omega
  · have := hc.1; omega
  · have := hc.1; have := hc.2.1; omega
  · have := hc.2.2.1.1; omega
theorem w_r_sa {ad : Nat → Nat} {a b : Nat} {x : Int} (h : x < 0 ∨ (x.toNat ≠ a ∧ x.toNat ≠ b)) : w_r (w_sa ad a b) x = w_r ad x := by
  unfold w_r
  rcases h with h | h
  · have hx : ¬ 0 ≤ x := by omega
    rw [if_neg hx, if_neg hx]
  · rw [w_sa_3 h.1 h.2]
/-- what a stored reference is keeps under the change of names -/
theorem w_f_sa {ad : Nat → Nat} {a b kd : Nat} {x y : Int} (hca : Y.co a = 0) (hcb : Y.co b = 0) (h6 : kd = 6 → x < 0 ∨ (x.toNat ≠ a ∧ x.toNat ≠ b)) (ha : Y.ty a < 100) (hb : Y.ty b < 100) (hs : w_sr Y S kd x y) (h4 : kd = 4 → y < 0 ∨ (y.toNat ≠ a ∧ y.toNat ≠ b)) : w_f (w_sa ad a b) kd x y = w_f ad kd x y := by
  match kd, hs, h4, h6 with
  | 0, _, _, _ => rfl
  | 1, _, _, _ => rfl
  | 2, _, _, _ => rfl
  | 3, _, _, _ => rfl
  | 4, _, h4, _ => exact w_r_sa (h4 rfl)
  | 6, _, _, h6 => exact w_r_sa (h6 rfl)
  | 7, hs, _, _ => exact w_r_sa (hs.imp id (fun q => ⟨fun e => by have := q.2; rw [e] at this; omega, fun e => by have := q.2; rw [e] at this; omega⟩))
  | 5, hs, _, _ => exact w_r_sa (hs.imp id (fun q => ⟨fun e => by have := q.2; rw [e] at this; omega, fun e => by have := q.2; rw [e] at this; omega⟩))
  | _ + 8, _, _, _ => rfl
theorem wa_pf4 {x v : Int} {ix ci k0 wd : Nat} {host : Option String} (j t j0 : Nat) (hx : x = j) (hv : v = t) (hp : w_pr Y S j) (hpt : w_pr Y S t) (hp0 : w_pr Y S j0) (ht : Y.ty j = 100 + ci) (hf : (Y.fk ci)[k0]? = some 4) (hl : Y.ln j k0 = j0) (hty : Y.ty t = Y.ty j0) (hta : Y.ty j0 < 5) (hne : t ≠ j0) (hc0 : Y.co j0 = 0) (hct : Y.co t = 0) (h6 : ∀ k c i : Nat, w_pr Y S k → Y.ty k = 100 + c → (Y.fk c)[i]? = some 6 → S k i < 0 ∨ ((S k i).toNat ≠ j0 ∧ (S k i).toNat ≠ t)) (hu : ∀ k i, w_pr Y S k → Y.ln k i = j0 → k = j ∧ i = k0) (hut : ∀ k i, w_pr Y S k → Y.ln k i ≠ t) (hM : M j0 ∧ M t) (hkl : w_kl Y S (fun k => k = j0 ∨ k = t) L) (hks : w_ks Y S (fun k => k = j0 ∨ k = t) st) (k : wJ G Y M d mt rest L st (w_sw S j0 t) Q) : wJ G Y M d mt (.inr (.inr (.inr (.inr (.inl (ix, ci, k0, 2, host, wd))))) :: rest) L ((2, v) :: (2, x) :: st) S Q := by
  intro ad Lc h hE hL
  obtain ⟨vs, a1, a2, a3⟩ := w_obj hE hp ht
  obtain ⟨xt, b1, b2⟩ := hE.1 t hpt
  obtain ⟨x0, c1, c2⟩ := hE.1 j0 hp0
  have lt0 := w_len0 (by omega) b2
  have l00 := w_len0 hta c2
  have jt : j ≠ t := fun e => by rw [e] at ht; omega
  have jj : j ≠ j0 := fun e => by rw [e] at ht; omega
  have hm : ∀ q, w_pr Y S q → w_pr Y (w_sw S j0 t) q := fun q hq => by
    refine ⟨Or.imp_right (fun r => ?_) hq.1, hq.2⟩
    by_cases e1 : q = j0
    · subst e1; rw [w_sw_1]; exact lt0
    · by_cases e2 : q = t
      · subst e2; rw [w_sw_2 hne]; exact l00
      · rw [w_sw_3 e1 e2]; exact r
  have hb : ∀ q, w_pr Y (w_sw S j0 t) q → w_pr Y S q := fun q hq => by
    by_cases e1 : q = j0
    · subst e1; exact hp0
    · by_cases e2 : q = t
      · subst e2; exact hpt
      · refine ⟨?_, hq.2⟩
        have := hq.1
        rw [w_sw_3 e1 e2] at this
        exact this
  have hfix : ∀ q i : Nat, w_pr Y S q → (q ≠ j ∨ i ≠ k0) → Y.ln q i < 0 ∨ ((Y.ln q i).toNat ≠ j0 ∧ (Y.ln q i).toNat ≠ t) := fun q i hpq hqi => by
    by_cases e : Y.ln q i < 0
    · exact Or.inl e
    · refine Or.inr ⟨fun e2 => ?_, fun e2 => hut q i hpq (by omega)⟩
      have := hu q i hpq (by omega)
      rcases hqi with z | z
      · exact z this.1
      · exact z this.2
  have hadj : ad j ≠ ad t := fun e => jt (hE.2.1 j t hp hpt e)
  have hadj0 : ad j ≠ ad j0 := fun e => jj (hE.2.1 j j0 hp hp0 e)
  have hnewE : w_E Y (w_sa ad j0 t) (w_sw S j0 t) (h.set (ad j) (.inr (.inl (ci, vs.set k0 (.ref (ad t)))))) := by
    refine ⟨fun q hq => ?_, fun q r hq hr => ?_, ?_, ?_, fun q hq => ?_⟩
    · by_cases e1 : q = j0
      · subst e1
        refine ⟨xt, ?_, w_c_arr hty.symm (by omega) (w_sw_1 S _ t) b2⟩
        rw [w_sa_1, List.getElem?_set_ne hadj]
        exact b1
      · by_cases e2 : q = t
        · subst e2
          refine ⟨x0, ?_, w_c_arr hty hta (w_sw_2 hne) c2⟩
          rw [w_sa_2 hne, List.getElem?_set_ne hadj0]
          exact c1
        · rw [w_sa_3 e1 e2]
          by_cases e3 : q = j
          · subst e3
            refine ⟨_, List.getElem?_set_self (List.getElem?_eq_some_iff.mp a1).1, ht, by rw [List.length_set]; exact a2, fun i kd hi => ?_⟩
            obtain ⟨d1, d2, d3⟩ := a3 i kd hi
            rw [w_sw_3 e1 e2]
            refine ⟨?_, d2, w_sr_mono hm d3⟩
            by_cases e4 : i = k0
            · subst e4
              rw [hf] at hi
              cases hi
              refine Or.inr ?_
              rw [List.getElem?_set_self (Nat.lt_of_lt_of_le (List.getElem?_eq_some_iff.mp hf).1 a2)]
              congr 1
              show _ = w_r (w_sa ad j0 t) (Y.ln q i)
              rw [w_r_n _ hl, w_sa_1]
            · refine d1.imp id (fun d1 => ?_)
              rw [List.getElem?_set_ne (fun z => e4 z.symm), d1, w_f_sa hc0 hct (fun z => h6 q ci i hp ht (by rw [hi, z])) (by omega) (by omega) d3 (fun _ => hfix q i hp (Or.inr e4))]
          · obtain ⟨z, z1, z2⟩ := hE.1 q (hb q hq)
            refine ⟨z, ?_, ?_⟩
            · rw [List.getElem?_set_ne (fun r => e3 (hE.2.1 q j (hb q hq) hp r.symm))]
              exact z1
            · refine w_c_same hm (fun n => by rw [w_sw_3 e1 e2]) ?_
              rcases z with ⟨tt, n, c⟩ | ⟨ci2, vs2⟩ | ⟨tt, n, c⟩ | ⟨tt, n, c⟩
              · exact z2
              · refine ⟨z2.1, z2.2.1, fun i kd hi => ?_⟩
                obtain ⟨d1, d2, d3⟩ := z2.2.2 i kd hi
                exact ⟨d1.imp id (fun d1 => by rw [d1, w_f_sa hc0 hct (fun z => h6 q ci2 i (hb q hq) z2.1 (by rw [hi, z])) (by omega) (by omega) d3 (fun _ => hfix q i (hb q hq) (Or.inl e3))]), d2, d3⟩
              · refine ⟨z2.1, z2.2.1, z2.2.2.1, fun i hi => ?_⟩
                obtain ⟨d1, d2⟩ := z2.2.2.2 i hi
                refine ⟨?_, d2⟩
                rw [d1]
                by_cases e5 : tt = 5
                · rw [if_pos e5]
                  exact (w_r_sa (hfix q i (hb q hq) (Or.inl e3))).symm
                · rw [if_neg e5] at d2 ⊢
                  exact (w_f_sa (kd := 5) (y := 0) hc0 hct (fun z => by cases z) (by omega) (by omega) d2 (fun z => by cases z)).symm
              · exact z2
    · have hq := hb q hq
      have hr := hb r hr
      have key : ∀ y z, w_pr Y S y → w_pr Y S z → ad y = ad z → y = z := hE.2.1
      unfold w_sa
      intro e
      by_cases q1 : q = j0
      · rw [if_pos q1] at e
        by_cases r1 : r = j0
        · rw [q1, r1]
        · rw [if_neg r1] at e
          by_cases r2 : r = t
          · rw [if_pos r2] at e
            exact absurd (key _ _ hpt hp0 e) hne
          · rw [if_neg r2] at e
            exact absurd (key _ _ hpt hr e).symm r2
      · rw [if_neg q1] at e
        by_cases q2 : q = t
        · rw [if_pos q2] at e
          by_cases r1 : r = j0
          · rw [if_pos r1] at e
            exact absurd (key _ _ hp0 hpt e).symm hne
          · rw [if_neg r1] at e
            by_cases r2 : r = t
            · rw [q2, r2]
            · rw [if_neg r2] at e
              exact absurd (key _ _ hp0 hr e).symm r1
        · rw [if_neg q2] at e
          by_cases r1 : r = j0
          · rw [if_pos r1] at e
            exact absurd (key _ _ hq hpt e) q2
          · rw [if_neg r1] at e
            by_cases r2 : r = t
            · rw [if_pos r2] at e
              exact absurd (key _ _ hq hp0 e) q1
            · rw [if_neg r2] at e
              exact key _ _ hq hr e
    · rw [w_sw_3 (fun e => hp0.2 e.symm) (fun e => hpt.2 e.symm), hE.2.2.1, pe_D_set]
      congr 1
      refine (pm_sz_set (x := pe_d (.inr (.inl (ci, vs)))) ?_ ?_).symm
      · unfold pe_D
        rw [List.getElem?_map, a1]
        rfl
      · show (vs.set k0 _).length = vs.length
        exact List.length_set
    · rw [w_sw_3 (fun e => hp0.2 e.symm) (fun e => hpt.2 e.symm), hE.2.2.2.1, List.length_set]
    · rw [w_sw_3 (fun e => hp0.2 e.symm) (fun e => hpt.2 e.symm)]
      exact hE.2.2.2.2 q (hb q hq)
  have ha : ∀ q, w_pr Y S q → ¬ (fun k => k = j0 ∨ k = t) q → w_sa ad j0 t q = ad q := fun q _ r => w_sa_3 (fun e => r (Or.inl e)) (fun e => r (Or.inr e))
  obtain ⟨o, ad2, S3, h3, f0, hg, hE3, hM3, hQ⟩ := k _ Lc _ hnewE (w_LL_kl ha hkl hL)
  refine ⟨o, ad2, S3, h3, f0 + 1, fun f hf2 => ?_, hE3, fun q hq => ⟨(hM3 q (hm q hq)).1, fun r => ?_⟩, hQ⟩
  · obtain ⟨f, rfl⟩ : ∃ g, f = g + 1 := ⟨f - 1, by omega⟩
    have hgf := hg f (by omega)
    rw [w_st_ks ha hks] at hgf
    refine Eq.trans ?_ hgf
    show pe_irf (w_r ad v :: w_r ad x :: st.map (w_u ad)) (fun a v st => bif pe_ft 2 v then pe_obj h a ci (fun vs => bif Nat.blt k0 vs.length then pe_setk v vs k0 (fun vs => pe_setk (.inr (.inl (ci, vs))) h a (fun h => pe_go G f d mt rest Lc st h)) else none) else none) = _
    rw [w_r_n ad hv, w_r_n ad hx]
    show (match pe_at h (ad j) with | some (.inr (.inl (c, vs))) => (bif Nat.beq c ci then _ else none) | _ => none) = _
    rw [pe_at_eq, a1]
    show (bif Nat.beq ci ci then _ else none) = _
    rw [Nat.beq_refl]
    show (bif Nat.blt k0 vs.length then _ else none) = _
    rw [show Nat.blt k0 vs.length = true from Nat.ble_eq_true_of_le (Nat.lt_of_lt_of_le (List.getElem?_eq_some_iff.mp hf).1 a2), cond_true, pe_setk_eq, pe_setk_eq]
  · rw [(hM3 q (hm q hq)).2 r]
    exact w_sa_3 (fun e => r (by rw [e]; exact hM.1)) (fun e => r (by rw [e]; exact hM.2))
/-- what a caller that catches goes on with -/
def w_coC (G : pe_G) (Y : wY) (M : Nat → Prop) (d : Nat) (mt : pe_Mt) (rest : List pe_I) (L : wL) (st : List wv) (hdl : pe_HS) (Q : wO → wS → Prop) (o : wO) (S2 : wS) : Prop := match o with
  | .inl none => wJ G Y M d mt rest L st S2 Q
  | .inl (some v) => wJ G Y M d mt rest L (v :: st) S2 Q
  | .inr x => ∃ ci q is2, w_pr Y S2 x ∧ Y.ty x = 100 + ci ∧ hdl.find? (fun q => Nat.beq q.1 ci) = some q ∧ w_k mt q.2.1 is2 ∧ wJ G Y M d mt is2 L [(2, (x : Int))] S2 Q
theorem w_calxC {d2 mi : Nat} {m2 : pe_Mt} {is2 : List pe_I} {av : List wv} {i : pe_I} {hdl : pe_HS} (hd : d = d2 + 1) (hm : pe_at G.ms mi = some m2) (hb : w_k m2 0 is2) (hx : (Nat.ble (w_cat st2) 8 && (Nat.ble m2.mx 41 && Nat.ble (w_cat av) m2.mx)) = true)
    (hs : ∀ ad Lc h f, w_E Y ad S h → pe_go G (f + 1) d mt (i :: rest) Lc (st.map (w_u ad)) h = pe_calx (fun d m is L st h => pe_go G f d m is L st h) G.ms d mi (av.map (w_u ad)) (st2.map (w_u ad)) h (fun st h => pe_go G f d mt rest Lc st h) (fun x h => pe_ctk hdl x h (fun tb => pe_jmp mt tb (fun is => pe_go G f d mt is Lc [.ref x] h))))
    (hkl : w_kl Y S M2 L) (hks : w_ks Y S M2 st2) (hMM : ∀ j, w_pr Y S j → M2 j → M j)
    (hc : wJ G Y M2 d2 m2 is2 (w_args 0 av) [] S Q2) (hk : ∀ o S2, (∀ j, w_pr Y S j → w_pr Y S2 j) → Q2 o S2 → w_coC G Y M d mt rest L st2 hdl Q o S2) : wJ G Y M d mt (i :: rest) L st S Q := by
  intro ad Lc h hE hL
  obtain ⟨o, ad2, S2, h2, f1, hg, hE2, hM2, hq⟩ := hc ad _ h hE (w_LL_args ad av 0)
  have ha : ∀ j, w_pr Y S j → ¬ M2 j → ad2 j = ad j := fun j q r => (hM2 j q).2 r
  have hL2 := w_LL_kl ha hkl hL
  have hst := w_st_ks ha hks
  have hco := hk o S2 (fun j q => (hM2 j q).1) hq
  subst hd
  have hstep : ∀ f, f1 ≤ f → pe_go G (f + 1) (d2 + 1) mt (i :: rest) Lc (st.map (w_u ad)) h = (match (some (w_oc ad2 o, h2) : Option (pm_O × pe_H)) with
    | some (.inl none, h) => pe_go G f (d2 + 1) mt rest Lc (st2.map (w_u ad2)) h
    | some (.inl (some v), h) => pe_go G f (d2 + 1) mt rest Lc (v :: st2.map (w_u ad2)) h
    | some (.inr x, h) => pe_ctk hdl x h (fun tb => pe_jmp mt tb (fun is => pe_go G f (d2 + 1) mt is Lc [.ref x] h))
    | none => none) := by
    intro f hf
    rw [hs ad Lc h f hE]
    unfold pe_calx
    rw [hm, w_cat_eq, w_cat_eq, hst]
    show (bif Nat.ble (w_cat st2) 8 && (Nat.ble m2.mx 41 && Nat.ble (w_cat av) m2.mx) then pe_jmp m2 0 _ else none) = _
    rw [hx, cond_true, w_jmp hb, pe_argk_eq]
    have := hg f hf
    rw [show ([] : List wv).map (w_u ad) = [] from rfl] at this
    dsimp only
    generalize pe_go G f d2 m2 is2 (pm_args 0 (List.map (w_u ad) av)) [] h = X at this ⊢
    subst this
    rfl
  match o, hco, hstep with
  | .inl none, hco, hstep =>
    obtain ⟨o3, ad3, S3, h3, f3, hg3, hE3, hM3, hQ⟩ := hco ad2 Lc h2 hE2 hL2
    refine ⟨o3, ad3, S3, h3, f1 + f3 + 1, fun f hf => ?_, hE3, fun j q => ⟨(hM3 j (hM2 j q).1).1, fun r => ?_⟩, hQ⟩
    · obtain ⟨f, rfl⟩ : ∃ g, f = g + 1 := ⟨f - 1, by omega⟩
      rw [hstep f (by omega)]
      exact hg3 f (by omega)
    · rw [(hM3 j (hM2 j q).1).2 r]
      exact ha j q (fun e => r (hMM j q e))
  | .inl (some v), hco, hstep =>
    obtain ⟨o3, ad3, S3, h3, f3, hg3, hE3, hM3, hQ⟩ := hco ad2 Lc h2 hE2 hL2
    refine ⟨o3, ad3, S3, h3, f1 + f3 + 1, fun f hf => ?_, hE3, fun j q => ⟨(hM3 j (hM2 j q).1).1, fun r => ?_⟩, hQ⟩
    · obtain ⟨f, rfl⟩ : ∃ g, f = g + 1 := ⟨f - 1, by omega⟩
      rw [hstep f (by omega)]
      exact hg3 f (by omega)
    · rw [(hM3 j (hM2 j q).1).2 r]
      exact ha j q (fun e => r (hMM j q e))
  | .inr x, hco, hstep =>
    obtain ⟨ci, q, is3, hpx, htx, hfx, hbx, hco⟩ := hco
    obtain ⟨o3, ad3, S3, h3, f3, hg3, hE3, hM3, hQ⟩ := hco ad2 Lc h2 hE2 hL2
    refine ⟨o3, ad3, S3, h3, f1 + f3 + 1, fun f hf => ?_, hE3, fun j q => ⟨(hM3 j (hM2 j q).1).1, fun r => ?_⟩, hQ⟩
    · obtain ⟨f, rfl⟩ : ∃ g, f = g + 1 := ⟨f - 1, by omega⟩
      rw [hstep f (by omega)]
      show pe_ctk hdl (ad2 x) h2 (fun tb => pe_jmp mt tb (fun is => pe_go G f (d2 + 1) mt is Lc [.ref (ad2 x)] h2)) = _
      rw [w_ctk hE2 hpx htx hfx, w_jmp hbx]
      have := hg3 f (by omega)
      rw [show List.map (w_u ad2) [((2 : Nat), (x : Int))] = [.ref (ad2 x)] by
        show [w_r ad2 (x : Int)] = _
        rw [w_r_n ad2 rfl]] at this
      exact this
    · rw [(hM3 j (hM2 j q).1).2 r]
      exact ha j q (fun e => r (hMM j q e))
theorem wa_cx {d2 ix mi n rc : Nat} {ws : List Nat} {hdl : pe_HS} {m2 : pe_Mt} {is2 : List pe_I} {av st0 : List wv} {x : Int} (b : Nat) (hbx : x = b) (hpb : w_pr Y S b) (htb : Y.ty b = 100 + rc) (hd : d = d2 + 1) (hm : pe_at G.ms mi = some m2) (hb : w_k m2 0 is2) (hp : w_pop n [] st = some (av, (2, x) :: st0)) (hx : (Nat.ble (w_cat st0) 8 && (Nat.ble m2.mx 41 && Nat.ble (w_cat ((2, x) :: av)) m2.mx)) = true) (hkl : w_kl Y S M2 L) (hks : w_ks Y S M2 st0) (hMM : ∀ j, w_pr Y S j → M2 j → M j) (hc : wJ G Y M2 d2 m2 is2 (w_args 0 ((2, x) :: av)) [] S Q2) (hk : ∀ o S2, (∀ j, w_pr Y S j → w_pr Y S2 j) → Q2 o S2 → w_coC G Y M d mt rest L st0 hdl Q o S2) : wJ G Y M d mt (.inr (.inr (.inr (.inr (.inr (.inr (.inr (.inr (.inr (.inr (.inr (.inr (.inr (.inr (.inr (.inr (.inr (.inr (.inl (ix, mi, n, rc, ws, hdl))))))))))))))))))) :: rest) L st S Q :=
  w_calxC (av := (2, x) :: av) hd hm hb hx (fun ad Lc h f hE => (w_pop_ok ad n [] st _ hp).trans (by
    obtain ⟨vs, h1, -⟩ := w_obj hE hpb htb
    show pe_rf (w_r ad x :: st0.map (w_u ad)) _ = pe_calx _ G.ms d mi (w_r ad x :: av.map (w_u ad)) _ h _ _
    rw [w_r_n ad hbx]
    show (match pe_at h (ad b) with | some (.inr (.inl (c, vs))) => (bif Nat.beq c rc then _ else none) | _ => none) = _
    rw [pe_at_eq, h1]
    show (bif Nat.beq rc rc then _ else none) = _
    rw [Nat.beq_refl]
    rfl)) hkl hks hMM hc hk
end W57
