/-! PART ct: the reference's keepsSite. -/
section Wct
variable {xs : List (Nat × List Int32)} {M : Nat → Prop} {d : Nat} {A B C S Z : wS} {Q : wO → wS → Prop}
variable {K Y E D D2 K2 Y2 E2 : Int → Int} {m c s f i k o : Int}
/-- descriptors are numbered as they come, and alike have the same -/
def rDn (K Y E D : Int → Int) (m c : Int) : Prop := dN K Y E D m c ∧ (∀ a b : Int, 0 ≤ a → a < m → 0 ≤ b → b < m → dk K Y E a b → D a = D b) ∧ (∀ a : Int, 0 ≤ a → a < m → 0 ≤ D a) ∧ 0 ≤ c ∧ c ≤ m
theorem rDn_cg (h : rDn K Y E D m c) (hk : ∀ i : Int, 0 ≤ i → i < m → K2 i = K i ∧ Y2 i = Y i ∧ E2 i = E i ∧ D2 i = D i) : rDn K2 Y2 E2 D2 m c := by
  have hk3 : ∀ i : Int, 0 ≤ i → i < m → K2 i = K i ∧ Y2 i = Y i ∧ E2 i = E i := fun i i0 i1 => by obtain ⟨a, b, c, d⟩ := hk i i0 i1; exact ⟨a, b, c⟩
  refine ⟨dN_cg h.1 hk, fun a b a0 a1 b0 b1 q => ?_, fun a a0 a1 => by rw [(hk a a0 a1).2.2.2]; exact h.2.2.1 a a0 a1, h.2.2.2⟩
  rw [(hk a a0 a1).2.2.2, (hk b b0 b1).2.2.2]
  exact h.2.1 a b a0 a1 b0 b1 ((dk_cg (hk3 a a0 a1) (hk3 b b0 b1)).1 q)
theorem rDn_o (h : rDn K Y E D m c) (hm : 0 ≤ m) (ho : 0 ≤ o ∧ o < m) (hk : dk K Y E o m) (hD : ∀ i : Int, i ≠ m → D2 i = D i) (hDm : D2 m = D o) : rDn K Y E D2 (m + 1) c := by
  obtain ⟨⟨h1, h2⟩, h3, h4, h5, h6⟩ := h
  have e1 : (m + 1).toNat = m.toNat + 1 := by omega
  have e2 : ((m.toNat : Nat) : Int) = m := by omega
  have e3 : ((o.toNat : Nat) : Int) = o := by omega
  refine ⟨⟨?_, fun s hs hn => ?_⟩, fun a b a0 a1 b0 b1 q => ?_, fun a a0 a1 => ?_, h5, by omega⟩
  · rw [e1, dcn_1 ⟨o.toNat, by omega, by rw [e2, e3]; exact hk⟩]; exact h1
  · by_cases e : (s : Int) = m
    · exact absurd (by rw [e, e3]; exact hk) (hn o.toNat (by omega))
    · rw [hD _ e]; exact h2 s (by omega) hn
  · by_cases ea : a = m
    · by_cases eb : b = m
      · rw [ea, eb]
      · rw [ea, hDm, hD b eb]
        rw [ea] at q
        exact h3 o b ho.1 ho.2 b0 (by omega) (dk_tr hk q)
    · by_cases eb : b = m
      · rw [eb, hDm, hD a ea]
        rw [eb] at q
        exact h3 a o a0 (by omega) ho.1 ho.2 (dk_tr q (dk_sy hk))
      · rw [hD a ea, hD b eb]
        exact h3 a b a0 (by omega) b0 (by omega) q
  · by_cases ea : a = m
    · rw [ea, hDm]; exact h4 o ho.1 ho.2
    · rw [hD a ea]; exact h4 a a0 (by omega)
theorem rDn_n (h : rDn K Y E D m c) (hm : 0 ≤ m) (hn : ∀ o : Int, 0 ≤ o → o < m → ¬ dk K Y E o m) (hD : ∀ i : Int, i ≠ m → D2 i = D i) (hDm : D2 m = c) : rDn K Y E D2 (m + 1) (c + 1) := by
  obtain ⟨⟨h1, h2⟩, h3, h4, h5, h6⟩ := h
  have e1 : (m + 1).toNat = m.toNat + 1 := by omega
  have e2 : ((m.toNat : Nat) : Int) = m := by omega
  refine ⟨⟨?_, fun s hs hn2 => ?_⟩, fun a b a0 a1 b0 b1 q => ?_, fun a a0 a1 => ?_, by omega, by omega⟩
  · rw [e1, dcn_2 (fun ⟨o, o1, o2⟩ => hn (o : Int) (by omega) (by omega) (by rw [e2] at o2; exact o2)), h1]
  · by_cases e : (s : Int) = m
    · rw [e, hDm, h1]
      congr 1
      omega
    · rw [hD _ e]; exact h2 s (by omega) hn2
  · by_cases ea : a = m
    · by_cases eb : b = m
      · rw [ea, eb]
      · rw [ea] at q
        exact absurd (dk_sy q) (hn b b0 (by omega))
    · by_cases eb : b = m
      · rw [eb] at q
        exact absurd q (hn a a0 (by omega))
      · rw [hD a ea, hD b eb]
        exact h3 a b a0 (by omega) b0 (by omega) q
  · by_cases ea : a = m
    · rw [ea, hDm]; exact h5
    · rw [hD a ea]; exact h4 a a0 (by omega)
/-- the reference's descriptors -/
def rD (S : wS) : Prop := rDn (S 304) (S 305) (S 306) (S 309) (S 237 47) (S 237 48)
theorem ks_l (hM : w_ML S) (hs : 0 ≤ s ∧ s < 4000) (hneg : S 309 s = -1) (hp : ∀ a : Int, 0 ≤ a → a < s → 0 ≤ S 309 a) (hk1 : (∀ o : Int, 0 ≤ o → o < s → ¬ dk (S 304) (S 305) (S 306) o s) → wJ (pe_GA xs) wY0 M d t_M_keepsSite ((pe_at t_M_keepsSite.bl 5).getD (0, [])).2 [(0, (2, 237)), (1, (0, f)), (2, (0, i)), (3, (0, k)), (4, (0, s))] [] S Q) (hk2 : ∀ o : Int, 0 ≤ o → o < s → dk (S 304) (S 305) (S 306) o s → wJ (pe_GA xs) wY0 M d t_M_keepsSite ((pe_at t_M_keepsSite.bl 5).getD (0, [])).2 [(0, (2, 237)), (1, (0, f)), (2, (0, i)), (3, (0, k)), (4, (0, s))] [] (w_up S 309 s (S 309 o)) Q) : ∀ (fu : Nat) (o : Int), (s - o).toNat < fu → (0 ≤ o ∧ o ≤ s) → (∀ a : Int, 0 ≤ a → a < o → ¬ dk (S 304) (S 305) (S 306) a s) → wJ (pe_GA xs) wY0 M d t_M_keepsSite ((pe_at t_M_keepsSite.bl 2).getD (0, [])).2 [(0, (2, 237)), (1, (0, f)), (2, (0, i)), (3, (0, k)), (4, (0, s)), (5, (0, o))] [] S Q := by
  intro fu
  induction fu with
  | zero => intro o hm; exact absurd hm (Nat.not_lt_zero _)
  | succ fu ih =>
    intro o hm ho hno
    have hge : o < s → 0 ≤ S 309 o := fun q => hp o ho.1 q
    refine wa_iload (n := 5) rfl ?_
    refine wa_iload (n := 4) rfl ?_
    refine wa_icmpge (w_rg0 (by omega) (by omega)) (w_rg0 (by omega) (by omega)) ⟨_, rfl⟩ (fun c101 => ?_) (fun c101 => ?_)
    · skip
      exact wJ_S (hk1 (fun a a0 a1 => hno a a0 (by omega))) ⟨rfl, rfl, rfl, rfl, rfl, trivial⟩
    · skip
      refine wa_aload_n (n := 0) rfl ?_
      refine wb_gf4 237 rfl (wy_pr rfl) wt_237 wf_15_54 (v := 309) wl_237_54 ?_
      refine wa_iload (n := 4) rfl ?_
      refine wb_iald 309 rfl (wy_pr rfl) wt_309 (n := 4000) ((ml_309 hM)) (by omega) (by omega) (v := (-1)) (hneg) (fun r102 => ?_)
      refine wa_ifge (w_rg0 (by omega) (by omega)) ⟨_, rfl⟩ (fun c103 => ?_) (fun c103 => ?_)
      · skip
        exact absurd c103 (by omega)
      · skip
        refine wa_aload_n (n := 0) rfl ?_
        refine wb_gf4 237 rfl (wy_pr rfl) wt_237 wf_15_49 (v := 304) wl_237_49 ?_
        refine wa_iload (n := 5) rfl ?_
        refine wb_iald 304 rfl (wy_pr rfl) wt_304 (n := 4000) ((ml_304 hM)) (by omega) (by omega) (v := (S 304 o)) rfl (fun r104 => ?_)
        refine wa_aload_n (n := 0) rfl ?_
        refine wb_gf4 237 rfl (wy_pr rfl) wt_237 wf_15_49 (v := 304) wl_237_49 ?_
        refine wa_iload (n := 4) rfl ?_
        refine wb_iald 304 rfl (wy_pr rfl) wt_304 (n := 4000) ((ml_304 hM)) (by omega) (by omega) (v := (S 304 s)) rfl (fun r105 => ?_)
        refine wa_icmpne (w_rg0 (by omega) (by omega)) (w_rg0 (by omega) (by omega)) ⟨_, rfl⟩ (fun c106 => ?_) (fun c106 => ?_)
        · skip
          refine wa_iinc rfl rfl ?_
          refine wa_goto ⟨_, rfl⟩ ?_
          refine wJ_S (ih (o + 1) (by omega) (by omega) (fun a a0 a1 q => ?_)) ⟨rfl, rfl, rfl, rfl, rfl, rfl, trivial⟩
          by_cases e : a = o
          · subst e
            obtain ⟨q1, q2, q3⟩ := q
            omega
          · exact hno a a0 (by omega) q
        · skip
          refine wa_aload_n (n := 0) rfl ?_
          refine wb_gf4 237 rfl (wy_pr rfl) wt_237 wf_15_50 (v := 305) wl_237_50 ?_
          refine wa_iload (n := 5) rfl ?_
          refine wb_iald 305 rfl (wy_pr rfl) wt_305 (n := 4000) ((ml_305 hM)) (by omega) (by omega) (v := (S 305 o)) rfl (fun r107 => ?_)
          refine wa_aload_n (n := 0) rfl ?_
          refine wb_gf4 237 rfl (wy_pr rfl) wt_237 wf_15_50 (v := 305) wl_237_50 ?_
          refine wa_iload (n := 4) rfl ?_
          refine wb_iald 305 rfl (wy_pr rfl) wt_305 (n := 4000) ((ml_305 hM)) (by omega) (by omega) (v := (S 305 s)) rfl (fun r108 => ?_)
          refine wa_icmpne (w_rg0 (by omega) (by omega)) (w_rg0 (by omega) (by omega)) ⟨_, rfl⟩ (fun c109 => ?_) (fun c109 => ?_)
          · skip
            refine wa_iinc rfl rfl ?_
            refine wa_goto ⟨_, rfl⟩ ?_
            refine wJ_S (ih (o + 1) (by omega) (by omega) (fun a a0 a1 q => ?_)) ⟨rfl, rfl, rfl, rfl, rfl, rfl, trivial⟩
            by_cases e : a = o
            · subst e
              obtain ⟨q1, q2, q3⟩ := q
              omega
            · exact hno a a0 (by omega) q
          · skip
            refine wa_aload_n (n := 0) rfl ?_
            refine wb_gf4 237 rfl (wy_pr rfl) wt_237 wf_15_51 (v := 306) wl_237_51 ?_
            refine wa_iload (n := 5) rfl ?_
            refine wb_iald 306 rfl (wy_pr rfl) wt_306 (n := 4000) ((ml_306 hM)) (by omega) (by omega) (v := (S 306 o)) rfl (fun r110 => ?_)
            refine wa_aload_n (n := 0) rfl ?_
            refine wb_gf4 237 rfl (wy_pr rfl) wt_237 wf_15_51 (v := 306) wl_237_51 ?_
            refine wa_iload (n := 4) rfl ?_
            refine wb_iald 306 rfl (wy_pr rfl) wt_306 (n := 4000) ((ml_306 hM)) (by omega) (by omega) (v := (S 306 s)) rfl (fun r111 => ?_)
            refine wa_icmpne (w_rg0 (by omega) (by omega)) (w_rg0 (by omega) (by omega)) ⟨_, rfl⟩ (fun c112 => ?_) (fun c112 => ?_)
            · skip
              refine wa_iinc rfl rfl ?_
              refine wa_goto ⟨_, rfl⟩ ?_
              refine wJ_S (ih (o + 1) (by omega) (by omega) (fun a a0 a1 q => ?_)) ⟨rfl, rfl, rfl, rfl, rfl, rfl, trivial⟩
              by_cases e : a = o
              · subst e
                obtain ⟨q1, q2, q3⟩ := q
                omega
              · exact hno a a0 (by omega) q
            · skip
              refine wa_aload_n (n := 0) rfl ?_
              refine wb_gf4 237 rfl (wy_pr rfl) wt_237 wf_15_54 (v := 309) wl_237_54 ?_
              refine wa_iload (n := 4) rfl ?_
              refine wa_aload_n (n := 0) rfl ?_
              refine wb_gf4 237 rfl (wy_pr rfl) wt_237 wf_15_54 (v := 309) wl_237_54 ?_
              refine wa_fall ⟨_, rfl⟩ ?_
              refine wa_iload (n := 5) rfl ?_
              refine wb_iald 309 rfl (wy_pr rfl) wt_309 (n := 4000) ((ml_309 hM)) (by omega) (by omega) (v := (S 309 o)) rfl (fun r113 => ?_)
              refine wb_iast 309 rfl (wy_pr rfl) wt_309 (n := 4000) ((ml_309 hM)) (by omega) (by omega) ⟨(by omega), (by omega)⟩ ?_
              refine wa_fall ⟨_, rfl⟩ ?_
              refine wa_iinc rfl rfl ?_
              refine wa_goto ⟨_, rfl⟩ ?_
              refine wa_iload (n := 5) rfl ?_
              refine wa_iload (n := 4) rfl ?_
              refine wa_icmpge (w_rg0 (by omega) (by omega)) (w_rg0 (by omega) (by omega)) ⟨_, rfl⟩ (fun c114 => ?_) (fun c114 => ?_)
              · skip
                exact wJ_S (hk2 o ho.1 (by omega) ⟨by omega, by omega, by omega⟩) ⟨rfl, rfl, rfl, rfl, rfl, trivial⟩
              · skip
                refine wa_aload_n (n := 0) rfl ?_
                refine wb_gf4 237 rfl (wy_pr rfl) wt_237 wf_15_54 (v := 309) wl_237_54 ?_
                refine wa_iload (n := 4) rfl ?_
                refine wb_iald 309 rfl (wy_pr rfl) wt_309 (n := 4000) ((w_up_at (by omega)).trans ((ml_309 hM))) (by omega) (by omega) (v := (S 309 o)) (w_up_same _ _ _ _) (fun r115 => ?_)
                refine wa_ifge (w_rg0 (by omega) (by omega)) ⟨_, rfl⟩ (fun c116 => ?_) (fun c116 => ?_)
                · skip
                  exact wJ_S (hk2 o ho.1 (by omega) ⟨by omega, by omega, by omega⟩) ⟨rfl, rfl, rfl, rfl, rfl, trivial⟩
                · skip
                  exact absurd c116 (by omega)
/-- the tail of keepsSite -/
def ks_R (s : Int) (S Z : wS) : Prop := Z 237 47 = s + 1 ∧ (∀ (j : Nat) (x : Int), (j ≠ 309 ∨ x ≠ s) → (j ≠ 237 ∨ (x ≠ 47 ∧ x ≠ 48)) → Z j x = S j x) ∧ rD Z
theorem ks_2 (hM : w_ML S) (h47 : S 237 47 = s) (hs : 0 ≤ s ∧ s < 4000) (hneg : S 309 s = -1) (hd : rDn (S 304) (S 305) (S 306) (S 309) s (S 237 48)) : wJ (pe_GA xs) wY0 M d t_M_keepsSite ((pe_at t_M_keepsSite.bl 2).getD (0, [])).2 [(0, (2, 237)), (1, (0, f)), (2, (0, i)), (3, (0, k)), (4, (0, s)), (5, (0, 0))] [] S (fun q Z => q = .inl none ∧ ks_R s S Z) := by
  have hc := hd.2.2.2
  refine ks_l hM hs hneg hd.2.2.1 (fun hno => ?_) (fun o o0 o1 hk => ?_) (s.toNat + 1) 0 (by omega) ⟨by omega, hs.1⟩ (fun a a0 a1 => by omega)
  · skip
    refine wa_aload_n (n := 0) rfl ?_
    refine wb_gf4 237 rfl (wy_pr rfl) wt_237 wf_15_54 (v := 309) wl_237_54 ?_
    refine wa_iload (n := 4) rfl ?_
    refine wb_iald 309 rfl (wy_pr rfl) wt_309 (n := 4000) ((ml_309 hM)) (by omega) (by omega) (v := (-1)) (hneg) (fun r201 => ?_)
    refine wa_ifge (w_rg0 (by omega) (by omega)) ⟨_, rfl⟩ (fun c202 => ?_) (fun c202 => ?_)
    · skip
      exact absurd c202 (by omega)
    · skip
      refine wa_aload_n (n := 0) rfl ?_
      refine wb_gf4 237 rfl (wy_pr rfl) wt_237 wf_15_54 (v := 309) wl_237_54 ?_
      refine wa_iload (n := 4) rfl ?_
      refine wa_aload_n (n := 0) rfl ?_
      refine wb_gfi 237 rfl (wy_pr rfl) wt_237 wf_15_48 (v := (S 237 48)) rfl (fun r203 => ?_)
      refine wb_iast 309 rfl (wy_pr rfl) wt_309 (n := 4000) ((ml_309 hM)) (by omega) (by omega) ⟨(by omega), (by omega)⟩ ?_
      refine wa_aload_n (n := 0) rfl ?_
      refine wa_dup (by decide) ?_
      refine wb_gfi 237 rfl (wy_pr rfl) wt_237 wf_15_48 (v := (S 237 48)) (w_up_slot (by decide)) (fun r204 => ?_)
      refine wa_iconst ?_
      refine wa_iadd ?_
      refine wb_pfi 237 rfl (wy_pr rfl) wt_237 wf_15_48 (n := 48) rfl ⟨(by omega), (by omega)⟩ ?_
      refine wa_fall ⟨_, rfl⟩ ?_
      refine wa_aload_n (n := 0) rfl ?_
      refine wa_dup (by decide) ?_
      refine wb_gfi 237 rfl (wy_pr rfl) wt_237 wf_15_47 (v := s) ((w_up_at (by decide)).trans ((w_up_slot (by decide)).trans (h47))) (fun r205 => ?_)
      refine wa_iconst ?_
      refine wa_iadd ?_
      refine wb_pfi 237 rfl (wy_pr rfl) wt_237 wf_15_47 (n := 47) rfl ⟨(by omega), (by omega)⟩ ?_
      refine wa_return rfl ?_
      have hz := rDn_n (D2 := (w_up (w_up (w_up S 309 s (S 237 48)) 237 48 ((S 237 48) + 1)) 237 47 (s + 1)) 309) hd hs.1 hno (fun x hx => (w_up_no (by omega)).trans ((w_up_no (by omega)).trans ((w_up_no (by omega)).trans (rfl)))) (by exact (w_up_no (by omega)).trans ((w_up_no (by omega)).trans (w_up_same _ _ _ _)))
      refine ⟨rfl, w_up_same _ _ _ _, fun j x q1 q2 => (w_up_no (by omega)).trans ((w_up_no (by omega)).trans ((w_up_no (by omega)).trans (rfl))), ?_⟩
      have e47 : (w_up (w_up (w_up S 309 s (S 237 48)) 237 48 ((S 237 48) + 1)) 237 47 (s + 1)) 237 47 = s + 1 := w_up_same _ _ _ _
      have e48 : (w_up (w_up (w_up S 309 s (S 237 48)) 237 48 ((S 237 48) + 1)) 237 47 (s + 1)) 237 48 = S 237 48 + 1 := (w_up_at (by decide)).trans (w_up_same _ _ _ _)
      unfold rD
      rw [e47, e48]
      exact hz
  · skip
    have hge := hd.2.2.1 o o0 o1
    refine wa_aload_n (n := 0) rfl ?_
    refine wb_gf4 237 rfl (wy_pr rfl) wt_237 wf_15_54 (v := 309) wl_237_54 ?_
    refine wa_iload (n := 4) rfl ?_
    refine wb_iald 309 rfl (wy_pr rfl) wt_309 (n := 4000) ((w_up_at (by omega)).trans ((ml_309 hM))) (by omega) (by omega) (v := (S 309 o)) (w_up_same _ _ _ _) (fun r301 => ?_)
    refine wa_ifge (w_rg0 (by omega) (by omega)) ⟨_, rfl⟩ (fun c302 => ?_) (fun c302 => ?_)
    · skip
      refine wa_aload_n (n := 0) rfl ?_
      refine wa_dup (by decide) ?_
      refine wb_gfi 237 rfl (wy_pr rfl) wt_237 wf_15_47 (v := s) ((w_up_slot (by decide)).trans (h47)) (fun r303 => ?_)
      refine wa_iconst ?_
      refine wa_iadd ?_
      refine wb_pfi 237 rfl (wy_pr rfl) wt_237 wf_15_47 (n := 47) rfl ⟨(by omega), (by omega)⟩ ?_
      refine wa_return rfl ?_
      have hz := rDn_o (D2 := (w_up (w_up S 309 s (S 309 o)) 237 47 (s + 1)) 309) hd hs.1 ⟨o0, o1⟩ hk (fun x hx => (w_up_no (by omega)).trans ((w_up_no (by omega)).trans (rfl))) (by exact (w_up_no (by omega)).trans (w_up_same _ _ _ _))
      refine ⟨rfl, w_up_same _ _ _ _, fun j x q1 q2 => (w_up_no (by omega)).trans ((w_up_no (by omega)).trans (rfl)), ?_⟩
      have e47 : (w_up (w_up S 309 s (S 309 o)) 237 47 (s + 1)) 237 47 = s + 1 := w_up_same _ _ _ _
      have e48 : (w_up (w_up S 309 s (S 309 o)) 237 47 (s + 1)) 237 48 = S 237 48 := (w_up_at (by decide)).trans (w_up_slot (by decide))
      unfold rD
      rw [e47, e48]
      exact hz
    · skip
      exact absurd c302 (by omega)
/-- a site is kept -/
def kS_P (a1 a2 a3 f i s : Int) (S Z : wS) : Prop := (Z 237 47 = s + 1 ∧ Z 304 s = a1 ∧ Z 305 s = a2 ∧ Z 306 s = a3 ∧ Z 307 s = f ∧ Z 308 s = i ∧ Z 310 s = 0 ∧ Z 311 s = 0 ∧ Z 312 s = 0 ∧ Z 313 s = 0 ∧ Z 376 s = 0) ∧ (∀ (j : Nat) (x : Int), (((j < 304 ∨ 313 < j) ∧ j ≠ 376) ∨ x ≠ s) → (j ≠ 237 ∨ (x ≠ 47 ∧ x ≠ 48)) → Z j x = S j x) ∧ rD Z
theorem fs_big {r g : Nat} : fs r g = 288 + 2 * r ∨ 2000000 ≤ fs r g := by
  unfold fs nP
  by_cases e : g = 0
  · rw [if_pos e]; exact Or.inl rfl
  · rw [if_neg e]; exact Or.inr (by omega)
theorem ks_ok {l1 l2 l3 : List Int} {k : Nat} (hM : w_ML S) (h47 : S 237 47 = s) (hs : 0 ≤ s ∧ s < 4000) (hd : rD S) (hf : -2147483648 ≤ f ∧ f ≤ 2147483647) (hi : -2147483648 ≤ i ∧ i ≤ 2147483647) (q0 : iI 287 (fs 0) 4000 l1 S) (q1 : iI 289 (fs 1) 4000 l2 S) (q2 : iI 291 (fs 2) 4000 l3 S) (hk : k < l1.length ∧ k < l2.length ∧ k < l3.length ∧ k < 4000) : wJ (pe_GA xs) wY0 M d t_M_keepsSite ((pe_at t_M_keepsSite.bl 0).getD (0, [])).2 [(0, (2, 237)), (1, (0, f)), (2, (0, i)), (3, (0, (k : Int)))] [] S (fun q Z => q = .inl none ∧ kS_P (l1.getD k 0) (l2.getD k 0) (l3.getD k 0) f i s S Z) := by
  obtain ⟨⟨-, -, -⟩, g0, g01, g02, g03, g04, g05, g06, -⟩ := q0
  have hb0 := fs_big (r := 0) (g := g0)
  have hk0 : (k : Int) < cap g0 := by omega
  have hv0 := g06 k (by omega) (by omega)
  have hc0 := cap_le g01
  obtain ⟨⟨-, -, -⟩, g1, g11, g12, g13, g14, g15, g16, -⟩ := q1
  have hb1 := fs_big (r := 1) (g := g1)
  have hk1 : (k : Int) < cap g1 := by omega
  have hv1 := g16 k (by omega) (by omega)
  have hc1 := cap_le g11
  obtain ⟨⟨-, -, -⟩, g2, g21, g22, g23, g24, g25, g26, -⟩ := q2
  have hb2 := fs_big (r := 2) (g := g2)
  have hk2 : (k : Int) < cap g2 := by omega
  have hv2 := g26 k (by omega) (by omega)
  have hc2 := cap_le g21
  refine wa_aload_n (n := 0) rfl ?_
  refine wb_gfi 237 rfl (wy_pr rfl) wt_237 wf_15_47 (v := s) (h47) (fun r101 => ?_)
  refine wa_istore (n := 4) rfl ?_
  refine wa_aload_n (n := 0) rfl ?_
  refine wb_gf4 237 rfl (wy_pr rfl) wt_237 wf_15_49 (v := 304) wl_237_49 ?_
  refine wa_iload (n := 4) rfl ?_
  refine wa_aload_n (n := 0) rfl ?_
  refine wb_gf4 237 rfl (wy_pr rfl) wt_237 wf_15_30 (v := 287) wl_237_30 ?_
  refine wb_gf7 287 rfl (wy_pr rfl) wt_287 wf_13_1 (v := (fs 0 g0 : Int)) (g02) ?_
  refine wa_iload_n (n := 3) rfl ?_
  refine wb_iald (fs 0 g0) rfl g04 ((hfam_s (r := 0) (by decide)).2 g0 g01).1.1 (n := (cap g0)) (g03) (by omega) (by omega) (v := (l1.getD k 0)) (hv0) (fun r102 => ?_)
  refine wb_iast 304 rfl (wy_pr rfl) wt_304 (n := 4000) ((ml_304 hM)) (by omega) (by omega) ⟨(by omega), (by omega)⟩ ?_
  refine wa_aload_n (n := 0) rfl ?_
  refine wb_gf4 237 rfl (wy_pr rfl) wt_237 wf_15_50 (v := 305) wl_237_50 ?_
  refine wa_iload (n := 4) rfl ?_
  refine wa_aload_n (n := 0) rfl ?_
  refine wb_gf4 237 rfl (wy_pr rfl) wt_237 wf_15_31 (v := 289) wl_237_31 ?_
  refine wb_gf7 289 rfl (wy_pr rfl) wt_289 wf_13_1 (v := (fs 1 g1 : Int)) ((w_up_slot (by decide)).trans (g12)) ?_
  refine wa_iload_n (n := 3) rfl ?_
  refine wb_iald (fs 1 g1) rfl ((w_up_pr (by omega)).mpr g14) ((hfam_s (r := 1) (by decide)).2 g1 g11).1.1 (n := (cap g1)) ((w_up_slot (by omega)).trans (g13)) (by omega) (by omega) (v := (l2.getD k 0)) ((w_up_slot (by omega)).trans (hv1)) (fun r103 => ?_)
  refine wb_iast 305 rfl (wy_pr rfl) wt_305 (n := 4000) ((w_up_slot (by decide)).trans ((ml_305 hM))) (by omega) (by omega) ⟨(by omega), (by omega)⟩ ?_
  refine wa_aload_n (n := 0) rfl ?_
  refine wb_gf4 237 rfl (wy_pr rfl) wt_237 wf_15_51 (v := 306) wl_237_51 ?_
  refine wa_iload (n := 4) rfl ?_
  refine wa_aload_n (n := 0) rfl ?_
  refine wb_gf4 237 rfl (wy_pr rfl) wt_237 wf_15_32 (v := 291) wl_237_32 ?_
  refine wb_gf7 291 rfl (wy_pr rfl) wt_291 wf_13_1 (v := (fs 2 g2 : Int)) ((w_up_slot (by decide)).trans ((w_up_slot (by decide)).trans (g22))) ?_
  refine wa_iload_n (n := 3) rfl ?_
  refine wb_iald (fs 2 g2) rfl ((w_up_pr (by omega)).mpr ((w_up_pr (by omega)).mpr g24)) ((hfam_s (r := 2) (by decide)).2 g2 g21).1.1 (n := (cap g2)) ((w_up_slot (by omega)).trans ((w_up_slot (by omega)).trans (g23))) (by omega) (by omega) (v := (l3.getD k 0)) ((w_up_slot (by omega)).trans ((w_up_slot (by omega)).trans (hv2))) (fun r104 => ?_)
  refine wb_iast 306 rfl (wy_pr rfl) wt_306 (n := 4000) ((w_up_slot (by decide)).trans ((w_up_slot (by decide)).trans ((ml_306 hM)))) (by omega) (by omega) ⟨(by omega), (by omega)⟩ ?_
  refine wa_aload_n (n := 0) rfl ?_
  refine wb_gf4 237 rfl (wy_pr rfl) wt_237 wf_15_52 (v := 307) wl_237_52 ?_
  refine wa_iload (n := 4) rfl ?_
  refine wa_iload_n (n := 1) rfl ?_
  refine wb_iast 307 rfl (wy_pr rfl) wt_307 (n := 4000) ((w_up_slot (by decide)).trans ((w_up_slot (by decide)).trans ((w_up_slot (by decide)).trans ((ml_307 hM))))) (by omega) (by omega) ⟨(by omega), (by omega)⟩ ?_
  refine wa_aload_n (n := 0) rfl ?_
  refine wb_gf4 237 rfl (wy_pr rfl) wt_237 wf_15_53 (v := 308) wl_237_53 ?_
  refine wa_iload (n := 4) rfl ?_
  refine wa_iload_n (n := 2) rfl ?_
  refine wb_iast 308 rfl (wy_pr rfl) wt_308 (n := 4000) ((w_up_slot (by decide)).trans ((w_up_slot (by decide)).trans ((w_up_slot (by decide)).trans ((w_up_slot (by decide)).trans ((ml_308 hM)))))) (by omega) (by omega) ⟨(by omega), (by omega)⟩ ?_
  refine wa_fall ⟨_, rfl⟩ ?_
  refine wa_aload_n (n := 0) rfl ?_
  refine wb_gf4 237 rfl (wy_pr rfl) wt_237 wf_15_55 (v := 310) wl_237_55 ?_
  refine wa_iload (n := 4) rfl ?_
  refine wa_iconst ?_
  refine wb_iast 310 rfl (wy_pr rfl) wt_310 (n := 4000) ((w_up_slot (by decide)).trans ((w_up_slot (by decide)).trans ((w_up_slot (by decide)).trans ((w_up_slot (by decide)).trans ((w_up_slot (by decide)).trans ((ml_310 hM))))))) (by omega) (by omega) ⟨(by omega), (by omega)⟩ ?_
  refine wa_aload_n (n := 0) rfl ?_
  refine wb_gf4 237 rfl (wy_pr rfl) wt_237 wf_15_56 (v := 311) wl_237_56 ?_
  refine wa_iload (n := 4) rfl ?_
  refine wa_iconst ?_
  refine wb_iast 311 rfl (wy_pr rfl) wt_311 (n := 4000) ((w_up_slot (by decide)).trans ((w_up_slot (by decide)).trans ((w_up_slot (by decide)).trans ((w_up_slot (by decide)).trans ((w_up_slot (by decide)).trans ((w_up_slot (by decide)).trans ((ml_311 hM)))))))) (by omega) (by omega) ⟨(by omega), (by omega)⟩ ?_
  refine wa_aload_n (n := 0) rfl ?_
  refine wb_gf4 237 rfl (wy_pr rfl) wt_237 wf_15_57 (v := 312) wl_237_57 ?_
  refine wa_iload (n := 4) rfl ?_
  refine wa_iconst ?_
  refine wb_iast 312 rfl (wy_pr rfl) wt_312 (n := 4000) ((w_up_slot (by decide)).trans ((w_up_slot (by decide)).trans ((w_up_slot (by decide)).trans ((w_up_slot (by decide)).trans ((w_up_slot (by decide)).trans ((w_up_slot (by decide)).trans ((w_up_slot (by decide)).trans ((ml_312 hM))))))))) (by omega) (by omega) ⟨(by omega), (by omega)⟩ ?_
  refine wa_aload_n (n := 0) rfl ?_
  refine wb_gf4 237 rfl (wy_pr rfl) wt_237 wf_15_58 (v := 313) wl_237_58 ?_
  refine wa_iload (n := 4) rfl ?_
  refine wa_iconst ?_
  refine wb_zast 313 rfl (wy_pr rfl) wt_313 (n := 4000) ((w_up_slot (by decide)).trans ((w_up_slot (by decide)).trans ((w_up_slot (by decide)).trans ((w_up_slot (by decide)).trans ((w_up_slot (by decide)).trans ((w_up_slot (by decide)).trans ((w_up_slot (by decide)).trans ((w_up_slot (by decide)).trans ((ml_313 hM)))))))))) (by omega) (by omega) ⟨(by omega), (by omega)⟩ ?_
  refine wa_aload_n (n := 0) rfl ?_
  refine wb_gf4 237 rfl (wy_pr rfl) wt_237 wf_15_156 (v := 376) wl_237_156 ?_
  refine wa_iload (n := 4) rfl ?_
  refine wa_iconst ?_
  refine wb_iast 376 rfl (wy_pr rfl) wt_376 (n := 4000) ((w_up_slot (by decide)).trans ((w_up_slot (by decide)).trans ((w_up_slot (by decide)).trans ((w_up_slot (by decide)).trans ((w_up_slot (by decide)).trans ((w_up_slot (by decide)).trans ((w_up_slot (by decide)).trans ((w_up_slot (by decide)).trans ((w_up_slot (by decide)).trans ((ml_376 hM))))))))))) (by omega) (by omega) ⟨(by omega), (by omega)⟩ ?_
  refine wa_aload_n (n := 0) rfl ?_
  refine wb_gf4 237 rfl (wy_pr rfl) wt_237 wf_15_54 (v := 309) wl_237_54 ?_
  refine wa_iload (n := 4) rfl ?_
  refine wa_iconst ?_
  refine wb_iast 309 rfl (wy_pr rfl) wt_309 (n := 4000) ((w_up_slot (by decide)).trans ((w_up_slot (by decide)).trans ((w_up_slot (by decide)).trans ((w_up_slot (by decide)).trans ((w_up_slot (by decide)).trans ((w_up_slot (by decide)).trans ((w_up_slot (by decide)).trans ((w_up_slot (by decide)).trans ((w_up_slot (by decide)).trans ((w_up_slot (by decide)).trans ((ml_309 hM)))))))))))) (by omega) (by omega) ⟨(by omega), (by omega)⟩ ?_
  refine wa_iconst ?_
  refine wa_istore (n := 5) rfl ?_
  refine wa_fall ⟨_, rfl⟩ ?_
  have fr : ∀ (j : Nat) (x : Int), (((j < 304 ∨ 313 < j) ∧ j ≠ 376) ∨ x ≠ s) → (w_up (w_up (w_up (w_up (w_up (w_up (w_up (w_up (w_up (w_up (w_up S 304 s (l1.getD k 0)) 305 s (l2.getD k 0)) 306 s (l3.getD k 0)) 307 s f) 308 s i) 310 s 0) 311 s 0) 312 s 0) 313 s 0) 376 s 0) 309 s (-1)) j x = S j x := fun j x q => (w_up_no (by omega)).trans ((w_up_no (by omega)).trans ((w_up_no (by omega)).trans ((w_up_no (by omega)).trans ((w_up_no (by omega)).trans ((w_up_no (by omega)).trans ((w_up_no (by omega)).trans ((w_up_no (by omega)).trans ((w_up_no (by omega)).trans ((w_up_no (by omega)).trans ((w_up_no (by omega)).trans (rfl)))))))))))
  have t47 : (w_up (w_up (w_up (w_up (w_up (w_up (w_up (w_up (w_up (w_up (w_up S 304 s (l1.getD k 0)) 305 s (l2.getD k 0)) 306 s (l3.getD k 0)) 307 s f) 308 s i) 310 s 0) 311 s 0) 312 s 0) 313 s 0) 376 s 0) 309 s (-1)) 237 47 = s := (fr 237 47 (by omega)).trans h47
  have hd2 : rDn ((w_up (w_up (w_up (w_up (w_up (w_up (w_up (w_up (w_up (w_up (w_up S 304 s (l1.getD k 0)) 305 s (l2.getD k 0)) 306 s (l3.getD k 0)) 307 s f) 308 s i) 310 s 0) 311 s 0) 312 s 0) 313 s 0) 376 s 0) 309 s (-1)) 304) ((w_up (w_up (w_up (w_up (w_up (w_up (w_up (w_up (w_up (w_up (w_up S 304 s (l1.getD k 0)) 305 s (l2.getD k 0)) 306 s (l3.getD k 0)) 307 s f) 308 s i) 310 s 0) 311 s 0) 312 s 0) 313 s 0) 376 s 0) 309 s (-1)) 305) ((w_up (w_up (w_up (w_up (w_up (w_up (w_up (w_up (w_up (w_up (w_up S 304 s (l1.getD k 0)) 305 s (l2.getD k 0)) 306 s (l3.getD k 0)) 307 s f) 308 s i) 310 s 0) 311 s 0) 312 s 0) 313 s 0) 376 s 0) 309 s (-1)) 306) ((w_up (w_up (w_up (w_up (w_up (w_up (w_up (w_up (w_up (w_up (w_up S 304 s (l1.getD k 0)) 305 s (l2.getD k 0)) 306 s (l3.getD k 0)) 307 s f) 308 s i) 310 s 0) 311 s 0) 312 s 0) 313 s 0) 376 s 0) 309 s (-1)) 309) s ((w_up (w_up (w_up (w_up (w_up (w_up (w_up (w_up (w_up (w_up (w_up S 304 s (l1.getD k 0)) 305 s (l2.getD k 0)) 306 s (l3.getD k 0)) 307 s f) 308 s i) 310 s 0) 311 s 0) 312 s 0) 313 s 0) 376 s 0) 309 s (-1)) 237 48) := by
    rw [fr 237 48 (by omega)]
    have hd3 := hd
    unfold rD at hd3
    rw [h47] at hd3
    exact rDn_cg hd3 (fun x x0 x1 => ⟨fr 304 x (by omega), fr 305 x (by omega), fr 306 x (by omega), fr 309 x (by omega)⟩)
  refine wJ_S (wJ_mono (ks_2 (f := f) (i := i) (k := (k : Int)) (S := (w_up (w_up (w_up (w_up (w_up (w_up (w_up (w_up (w_up (w_up (w_up S 304 s (l1.getD k 0)) 305 s (l2.getD k 0)) 306 s (l3.getD k 0)) 307 s f) 308 s i) 310 s 0) 311 s 0) 312 s 0) 313 s 0) 376 s 0) 309 s (-1))) (w_ML_up (w_ML_up (w_ML_up (w_ML_up (w_ML_up (w_ML_up (w_ML_up (w_ML_up (w_ML_up (w_ML_up (w_ML_up hM (by omega)) (by omega)) (by omega)) (by omega)) (by omega)) (by omega)) (by omega)) (by omega)) (by omega)) (by omega)) (by omega)) t47 hs (w_up_same _ _ _ _) hd2) (fun q Z hz => ?_)) ⟨rfl, rfl, rfl, rfl, rfl, rfl, trivial⟩
  obtain ⟨rfl, z1, z2, z3⟩ := hz
  exact ⟨rfl, ⟨z1, (z2 304 s (by omega) (by omega)).trans (((w_up_slot (by decide)).trans ((w_up_slot (by decide)).trans ((w_up_slot (by decide)).trans ((w_up_slot (by decide)).trans ((w_up_slot (by decide)).trans ((w_up_slot (by decide)).trans ((w_up_slot (by decide)).trans ((w_up_slot (by decide)).trans ((w_up_slot (by decide)).trans ((w_up_slot (by decide)).trans (w_up_same _ _ _ _)))))))))))), (z2 305 s (by omega) (by omega)).trans (((w_up_slot (by decide)).trans ((w_up_slot (by decide)).trans ((w_up_slot (by decide)).trans ((w_up_slot (by decide)).trans ((w_up_slot (by decide)).trans ((w_up_slot (by decide)).trans ((w_up_slot (by decide)).trans ((w_up_slot (by decide)).trans ((w_up_slot (by decide)).trans (w_up_same _ _ _ _))))))))))), (z2 306 s (by omega) (by omega)).trans (((w_up_slot (by decide)).trans ((w_up_slot (by decide)).trans ((w_up_slot (by decide)).trans ((w_up_slot (by decide)).trans ((w_up_slot (by decide)).trans ((w_up_slot (by decide)).trans ((w_up_slot (by decide)).trans ((w_up_slot (by decide)).trans (w_up_same _ _ _ _)))))))))), (z2 307 s (by omega) (by omega)).trans (((w_up_slot (by decide)).trans ((w_up_slot (by decide)).trans ((w_up_slot (by decide)).trans ((w_up_slot (by decide)).trans ((w_up_slot (by decide)).trans ((w_up_slot (by decide)).trans ((w_up_slot (by decide)).trans (w_up_same _ _ _ _))))))))), (z2 308 s (by omega) (by omega)).trans (((w_up_slot (by decide)).trans ((w_up_slot (by decide)).trans ((w_up_slot (by decide)).trans ((w_up_slot (by decide)).trans ((w_up_slot (by decide)).trans ((w_up_slot (by decide)).trans (w_up_same _ _ _ _)))))))), (z2 310 s (by omega) (by omega)).trans (((w_up_slot (by decide)).trans ((w_up_slot (by decide)).trans ((w_up_slot (by decide)).trans ((w_up_slot (by decide)).trans ((w_up_slot (by decide)).trans (w_up_same _ _ _ _))))))), (z2 311 s (by omega) (by omega)).trans (((w_up_slot (by decide)).trans ((w_up_slot (by decide)).trans ((w_up_slot (by decide)).trans ((w_up_slot (by decide)).trans (w_up_same _ _ _ _)))))), (z2 312 s (by omega) (by omega)).trans (((w_up_slot (by decide)).trans ((w_up_slot (by decide)).trans ((w_up_slot (by decide)).trans (w_up_same _ _ _ _))))), (z2 313 s (by omega) (by omega)).trans (((w_up_slot (by decide)).trans ((w_up_slot (by decide)).trans (w_up_same _ _ _ _)))), (z2 376 s (by omega) (by omega)).trans (((w_up_slot (by decide)).trans (w_up_same _ _ _ _)))⟩, fun j x q1 q2 => (z2 j x (by omega) q2).trans (fr j x q1), z3⟩
end Wct
