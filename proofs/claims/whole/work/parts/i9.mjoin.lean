/-! PART i9: texts joined, of the reference. -/
section Wi9
variable {xs : List (Nat × List Int32)} {M : Nat → Prop} {d : Nat} {S S0 Z A B : wS} {l l1 l2 : List Int} {n : Int} {Q : wO → wS → Prop}
/-- signs have come to the bytes of the texts -/
def jI (l : List Int) (p : Int) (i : Nat) (S0 S : wS) : Prop := (∀ k : Nat, k < i → S 283 (p + (k : Int)) = l.getD k 0) ∧ (∀ (j : Nat) (x : Int), (j ≠ 283 ∨ x < p ∨ p + (i : Int) ≤ x) → S j x = S0 j x) ∧ w_ML S
theorem jI_s {p v : Int} {i : Nat} (h : jI l p i S0 S) (hp : 0 ≤ p) (hv : v = l.getD i 0) : jI l p (i + 1) S0 (w_up S 283 (p + (i : Int)) v) := by
  refine ⟨fun k hk => ?_, fun j x hj => (w_up_no (by omega)).trans (h.2.1 j x (by omega)), w_ML_up h.2.2 (by omega)⟩
  by_cases c : k = i
  · rw [c, w_up_same]; exact hv
  · exact (w_up_at (by omega)).trans (h.1 k (by omega))
/-- a text of these signs has been made -/
def jtA (l : List Int) (m bt u2 u3 : Int) (S Z : wS) : Prop := (∀ k : Nat, k < l.length → Z 283 (69632 + bt + (k : Int)) = l.getD k 0) ∧ (Z 284 (4000 + m) = 69632 + bt ∧ Z 285 (4000 + m) = (l.length : Int)) ∧ (Z 237 102 = m + 1 ∧ Z 237 103 = bt + (l.length : Int) ∧ Z 237 64 = u2 + 1 ∧ Z 237 65 = u3 + (l.length : Int)) ∧ (∀ (j : Nat) (x : Int), (j ≠ 283 ∨ x < 69632 + bt ∨ 69632 + bt + (l.length : Int) ≤ x) → ((j ≠ 284 ∧ j ≠ 285) ∨ x ≠ 4000 + m) → (j ≠ 237 ∨ (x ≠ 102 ∧ x ≠ 103 ∧ x ≠ 64 ∧ x ≠ 65)) → Z j x = S j x) ∧ w_ML Z
theorem jtA_v {m bt u2 u3 : Int} (h : jtA l m bt u2 u3 S Z) (hm : 0 ≤ m) : rVl Z 3 (4000 + m) (3, 0, l) := by
  obtain ⟨h1, ⟨h2, h3⟩, ⟨h4, h5, h6, h7⟩, fr, -⟩ := h
  refine ⟨rfl, fun z => absurd rfl z, fun _ => ⟨rfl, Or.inr ⟨by omega, by omega⟩, h3, fun i hi => ?_⟩⟩
  rw [h2]
  exact h1 i hi
theorem jtA_of {m bt u2 u3 : Int} (h1 : jI l1 (69632 + bt) l1.length (nxZ ((l1.length : Int) + (l2.length : Int)) m bt u2 u3 A) B) (h2 : jI l2 (69632 + bt + (l1.length : Int)) l2.length B Z) (hm : 0 ≤ m) : jtA (l1 ++ l2) m bt u2 u3 A Z := by
  obtain ⟨a1, a2, -⟩ := h1
  obtain ⟨b1, b2, b3⟩ := h2
  have hl : ((l1 ++ l2).length : Int) = (l1.length : Int) + (l2.length : Int) := by rw [List.length_append]; omega
  have hv := nxZ_v (S := A) (n := (l1.length : Int) + (l2.length : Int)) (m := m) (bt := bt) (u2 := u2) (u3 := u3)
  have e : ∀ (j : Nat) (x : Int), j ≠ 283 → Z j x = nxZ ((l1.length : Int) + (l2.length : Int)) m bt u2 u3 A j x := fun j x hj => (b2 j x (Or.inl hj)).trans (a2 j x (Or.inl hj))
  refine ⟨fun k hk => ?_, ⟨(e 284 _ (by first | decide | omega)).trans hv.1, ((e 285 _ (by first | decide | omega)).trans hv.2.1).trans hl.symm⟩, ⟨(e 237 102 (by first | decide | omega)).trans hv.2.2.1, ((e 237 103 (by first | decide | omega)).trans hv.2.2.2.1).trans (by rw [hl]), (e 237 64 (by first | decide | omega)).trans hv.2.2.2.2.1, ((e 237 65 (by first | decide | omega)).trans hv.2.2.2.2.2).trans (by rw [hl])⟩, fun j x j0 j1 j2 => ?_, b3⟩
  · by_cases c : k < l1.length
    · rw [List.getD_eq_getElem?_getD, List.getElem?_append_left c, ← List.getD_eq_getElem?_getD, ← a1 k c]
      exact b2 283 _ (Or.inr (Or.inl (by omega)))
    · rw [List.length_append] at hk
      have z := b1 (k - l1.length) (by omega)
      rw [show 69632 + bt + (l1.length : Int) + ((k - l1.length : Nat) : Int) = 69632 + bt + (k : Int) by omega] at z
      rw [z, List.getD_eq_getElem?_getD, List.getD_eq_getElem?_getD, List.getElem?_append_right (by omega)]
  · rw [hl] at j0
    exact (b2 j x (by omega)).trans ((a2 j x (by omega)).trans (nxZ_e j x j1 j2))
/-- something has been spelled -/
def pnR (S A : wS) : Prop := (∀ (j : Nat) (x : Int), (j ≠ 345 ∨ x < 0) → (j ≠ 237 ∨ x ≠ 113) → A j x = S j x) ∧ w_ML A
theorem jtA_x {m bt u2 u3 : Int} (h : jtA l m bt u2 u3 S Z) (ht : rTt S) (hb : rTb S) (hm : S 237 102 = m) (hbt : S 237 103 = bt) : rTx S Z := by
  obtain ⟨h1, ⟨h2, h3⟩, ⟨h4, h5, h6, h7⟩, fr, -⟩ := h
  have e9 : Z 237 19 = S 237 19 := fr 237 19 (Or.inl (by first | decide | omega)) (Or.inl (by first | decide | omega)) (by first | decide | omega)
  have t1 := ht.1
  have t2 := ht.2.1
  refine ⟨by omega, by omega, fun x hx => ?_⟩
  have y1 := ht.2.2 x hx
  have y2 := hb.2.2 x hx
  have nx : x ≠ 4000 + m := by omega
  refine ⟨fr 284 x (Or.inl (by first | decide | omega)) (Or.inr nx) (Or.inl (by first | decide | omega)), fr 285 x (Or.inl (by first | decide | omega)) (Or.inr nx) (Or.inl (by first | decide | omega)), fun i i0 i1 => fr 283 _ (by omega) (Or.inl (by first | decide | omega)) (Or.inl (by first | decide | omega))⟩
theorem jtA_t {m bt u2 u3 : Int} (h : jtA l m bt u2 u3 S Z) (ht : rTt S) (hb : rTb S) (hm : S 237 102 = m) (hbt : S 237 103 = bt) (hu2 : S 237 64 = u2) (hu3 : S 237 65 = u3) (hr : u2 < 12000 ∧ u3 + (l.length : Int) ≤ 200000) : rTt Z ∧ rTb Z := by
  have hx := jtA_x h ht hb hm hbt
  obtain ⟨h1, ⟨h2, h3⟩, ⟨h4, h5, h6, h7⟩, fr, -⟩ := h
  have e9 : Z 237 19 = S 237 19 := fr 237 19 (Or.inl (by first | decide | omega)) (Or.inl (by first | decide | omega)) (by first | decide | omega)
  obtain ⟨t1, t2, t3⟩ := ht
  obtain ⟨b1, b2, b3⟩ := hb
  have key : ∀ x : Int, ((0 ≤ x ∧ x < Z 237 19) ∨ (4000 ≤ x ∧ x < 4000 + Z 237 102)) → (0 ≤ Z 284 x ∧ 0 ≤ Z 285 x ∧ Z 284 x + Z 285 x ≤ 269632) ∧ Z 284 x + Z 285 x ≤ 69632 + Z 237 103 := fun x hx2 => by
    by_cases c : x = 4000 + m
    · rw [c, h2, h3]; omega
    · have hx3 : (0 ≤ x ∧ x < S 237 19) ∨ (4000 ≤ x ∧ x < 4000 + S 237 102) := by omega
      obtain ⟨y1, y2, -⟩ := hx.2.2 x hx3
      have y3 := t3 x hx3
      have y4 := b3 x hx3
      rw [y1, y2]; omega
  exact ⟨⟨by omega, by omega, fun x hx2 => (key x hx2).1⟩, ⟨by omega, by omega⟩, ⟨by omega, fun x x0 x1 => by
    by_cases c : x = 4000 + m
    · rw [c, h2]; omega
    · rw [(hx.2.2 x (by omega)).1]
      exact b2.2 x x0 (by omega)⟩, fun x hx2 => (key x hx2).2⟩
theorem ntx_okL {m bt u2 u3 : Int} (hM : w_ML S) (h102 : S 237 102 = m) (h103 : S 237 103 = bt) (h64 : S 237 64 = u2) (h65 : S 237 65 = u3) (hm : 0 ≤ m ∧ m ≤ u2) (hbt : 0 ≤ bt ∧ bt ≤ u3) (hu2 : u2 ≤ 12000) (hu3 : u3 ≤ 200000) (hn : 0 ≤ n ∧ n ≤ 400000) : wJ (pe_GA xs) wY0 M (d + 3) t_M_newText ((pe_at t_M_newText.bl 0).getD (0, [])).2 [(0, (2, 237)), (1, (0, n))] [] S (fun o Z => ((12000 ≤ u2 ∨ 200000 < u3 + n) ∧ o = .inr 238 ∧ hZ 99 S = Z) ∨ (u2 < 12000 ∧ u3 + n ≤ 200000 ∧ o = .inl (some (0, 4000 + m)) ∧ nxZ n m bt u2 u3 S = Z)) := by
  refine wa_aload_n (n := 0) rfl ?_
  refine wa_aload_n (n := 0) rfl ?_
  refine wa_iload_n (n := 1) rfl ?_
  refine wa_cv 237 rfl (wy_pr rfl) wt_237 (M2 := fun _ => False) rfl at_M_hasRoomForText ⟨_, rfl⟩ rfl rfl ⟨(Or.inr ⟨wy_pr rfl, fun q => q⟩), trivial, trivial⟩ ⟨(Or.inr ⟨wy_pr rfl, fun q => q⟩), trivial⟩ (fun _ _ q => False.elim q) ?_ (fun _ _ _ q => q)
  refine wa_aload_n (n := 0) rfl ?_
  refine wb_gfi 237 rfl (wy_pr rfl) wt_237 wf_15_64 (v := u2) (h64) (fun r1 => ?_)
  refine wa_sipush (by omega) ?_
  refine wa_icmpge (w_rg0 (by omega) (by omega)) (w_rg0 (by omega) (by omega)) ⟨_, rfl⟩ (fun c2 => ?_) (fun c2 => ?_)
  · skip
    refine wa_iconst ?_
    refine wa_fall ⟨_, rfl⟩ ?_
    refine wa_zreturn rfl (Or.inl rfl) ?_
    show wJ _ _ _ _ _ _ _ _ _ _
    refine wa_cv 237 rfl (wy_pr rfl) wt_237 (M2 := fun _ => False) rfl at_M_room ⟨_, rfl⟩ rfl rfl ⟨(Or.inr ⟨wy_pr rfl, fun q => q⟩), trivial, trivial⟩ trivial (fun _ _ q => False.elim q) ?_ (fun _ _ _ q => q)
    refine wa_iload_n (n := 1) rfl ?_
    refine wa_ifne (w_rg0 (by omega) (by omega)) ⟨_, rfl⟩ (fun c3 => ?_) (fun c3 => ?_)
    · skip
      exact absurd c3 (by omega)
    · skip
      refine wa_aload_n (n := 0) rfl ?_
      refine wb_gf4 237 rfl (wy_pr rfl) wt_237 wf_15_1 (v := 238) wl_237_1 ?_
      refine wa_bipush (w_rg2 (by omega) (by omega)) ?_
      refine wa_iconst ?_
      refine wa_cv 238 rfl (wy_pr rfl) wt_238 (M2 := fun _ => False) rfl at_MH_of ⟨_, rfl⟩ rfl rfl ⟨(Or.inr ⟨wy_pr rfl, fun q => q⟩), trivial, trivial⟩ trivial (fun _ _ q => False.elim q) ?_ (fun _ _ _ q => q)
      refine wa_aload_n (n := 0) rfl ?_
      refine wa_iload_n (n := 1) rfl ?_
      refine wb_pfi 238 rfl (wy_pr rfl) wt_238 wf_11_5 (n := 5) rfl ⟨(by omega), (by omega)⟩ ?_
      refine wa_aload_n (n := 0) rfl ?_
      refine wa_iload_n (n := 2) rfl ?_
      refine wb_pfi 238 rfl (wy_pr rfl) wt_238 wf_11_6 (n := 6) rfl ⟨(by omega), (by omega)⟩ ?_
      refine wa_aload_n (n := 0) rfl ?_
      refine wa_oreturn rfl ?_
      show wJ _ _ _ _ _ _ _ _ _ _
      refine wa_th (j := 238) ?_
      refine ⟨rfl, ?_⟩
      exact Or.inl ⟨by omega, rfl, rfl⟩
  · skip
    refine wa_aload_n (n := 0) rfl ?_
    refine wb_gfi 237 rfl (wy_pr rfl) wt_237 wf_15_65 (v := u3) (h65) (fun r4 => ?_)
    refine wa_iload_n (n := 1) rfl ?_
    refine wa_iadd ?_
    refine wb_ki (n := 200000) rfl ?_
    refine wa_icmpgt (w_rg0 (by omega) (by omega)) (w_rg0 (by omega) (by omega)) ⟨_, rfl⟩ (fun c5 => ?_) (fun c5 => ?_)
    · skip
      refine wa_iconst ?_
      refine wa_fall ⟨_, rfl⟩ ?_
      refine wa_zreturn rfl (Or.inl rfl) ?_
      show wJ _ _ _ _ _ _ _ _ _ _
      refine wa_cv 237 rfl (wy_pr rfl) wt_237 (M2 := fun _ => False) rfl at_M_room ⟨_, rfl⟩ rfl rfl ⟨(Or.inr ⟨wy_pr rfl, fun q => q⟩), trivial, trivial⟩ trivial (fun _ _ q => False.elim q) ?_ (fun _ _ _ q => q)
      refine wa_iload_n (n := 1) rfl ?_
      refine wa_ifne (w_rg0 (by omega) (by omega)) ⟨_, rfl⟩ (fun c6 => ?_) (fun c6 => ?_)
      · skip
        exact absurd c6 (by omega)
      · skip
        refine wa_aload_n (n := 0) rfl ?_
        refine wb_gf4 237 rfl (wy_pr rfl) wt_237 wf_15_1 (v := 238) wl_237_1 ?_
        refine wa_bipush (w_rg2 (by omega) (by omega)) ?_
        refine wa_iconst ?_
        refine wa_cv 238 rfl (wy_pr rfl) wt_238 (M2 := fun _ => False) rfl at_MH_of ⟨_, rfl⟩ rfl rfl ⟨(Or.inr ⟨wy_pr rfl, fun q => q⟩), trivial, trivial⟩ trivial (fun _ _ q => False.elim q) ?_ (fun _ _ _ q => q)
        refine wa_aload_n (n := 0) rfl ?_
        refine wa_iload_n (n := 1) rfl ?_
        refine wb_pfi 238 rfl (wy_pr rfl) wt_238 wf_11_5 (n := 5) rfl ⟨(by omega), (by omega)⟩ ?_
        refine wa_aload_n (n := 0) rfl ?_
        refine wa_iload_n (n := 2) rfl ?_
        refine wb_pfi 238 rfl (wy_pr rfl) wt_238 wf_11_6 (n := 6) rfl ⟨(by omega), (by omega)⟩ ?_
        refine wa_aload_n (n := 0) rfl ?_
        refine wa_oreturn rfl ?_
        show wJ _ _ _ _ _ _ _ _ _ _
        refine wa_th (j := 238) ?_
        refine ⟨rfl, ?_⟩
        exact Or.inl ⟨by omega, rfl, rfl⟩
    · skip
      refine wa_iconst ?_
      refine wa_goto ⟨_, rfl⟩ ?_
      refine wa_zreturn rfl (Or.inr rfl) ?_
      show wJ _ _ _ _ _ _ _ _ _ _
      refine wa_cv 237 rfl (wy_pr rfl) wt_237 (M2 := fun _ => False) rfl at_M_room ⟨_, rfl⟩ rfl rfl ⟨(Or.inr ⟨wy_pr rfl, fun q => q⟩), trivial, trivial⟩ trivial (fun _ _ q => False.elim q) ?_ (fun _ _ _ q => q)
      refine wa_iload_n (n := 1) rfl ?_
      refine wa_ifne (w_rg0 (by omega) (by omega)) ⟨_, rfl⟩ (fun c7 => ?_) (fun c7 => ?_)
      · skip
        refine wa_return rfl ?_
        show wJ _ _ _ _ _ _ _ _ _ _
        refine wa_sipush (by omega) ?_
        refine wa_aload_n (n := 0) rfl ?_
        refine wb_gfi 237 rfl (wy_pr rfl) wt_237 wf_15_102 (v := m) (h102) (fun r8 => ?_)
        refine wa_iadd ?_
        refine wa_istore_n (n := 2) rfl ?_
        refine wa_aload_n (n := 0) rfl ?_
        refine wb_gf4 237 rfl (wy_pr rfl) wt_237 wf_15_22 (v := 284) wl_237_22 ?_
        refine wa_iload_n (n := 2) rfl ?_
        refine wb_ki (n := 69632) rfl ?_
        refine wa_aload_n (n := 0) rfl ?_
        refine wb_gfi 237 rfl (wy_pr rfl) wt_237 wf_15_103 (v := bt) (h103) (fun r9 => ?_)
        refine wa_iadd ?_
        refine wb_iast 284 rfl (wy_pr rfl) wt_284 (n := 16000) ((ml_284 hM)) (by omega) (by omega) ⟨(by omega), (by omega)⟩ ?_
        refine wa_aload_n (n := 0) rfl ?_
        refine wb_gf4 237 rfl (wy_pr rfl) wt_237 wf_15_23 (v := 285) wl_237_23 ?_
        refine wa_iload_n (n := 2) rfl ?_
        refine wa_iload_n (n := 1) rfl ?_
        refine wb_iast 285 rfl (wy_pr rfl) wt_285 (n := 16000) ((w_up_slot (by decide)).trans ((ml_285 hM))) (by omega) (by omega) ⟨(by omega), (by omega)⟩ ?_
        refine wa_aload_n (n := 0) rfl ?_
        refine wa_dup (by decide) ?_
        refine wb_gfi 237 rfl (wy_pr rfl) wt_237 wf_15_102 (v := m) ((w_up_slot (by decide)).trans ((w_up_slot (by decide)).trans (h102))) (fun r10 => ?_)
        refine wa_iconst ?_
        refine wa_iadd ?_
        refine wb_pfi 237 rfl (wy_pr rfl) wt_237 wf_15_102 (n := 102) rfl ⟨(by omega), (by omega)⟩ ?_
        refine wa_aload_n (n := 0) rfl ?_
        refine wa_dup (by decide) ?_
        refine wb_gfi 237 rfl (wy_pr rfl) wt_237 wf_15_103 (v := bt) ((w_up_at (by decide)).trans ((w_up_slot (by decide)).trans ((w_up_slot (by decide)).trans (h103)))) (fun r11 => ?_)
        refine wa_iload_n (n := 1) rfl ?_
        refine wa_iadd ?_
        refine wb_pfi 237 rfl (wy_pr rfl) wt_237 wf_15_103 (n := 103) rfl ⟨(by omega), (by omega)⟩ ?_
        refine wa_aload_n (n := 0) rfl ?_
        refine wa_dup (by decide) ?_
        refine wb_gfi 237 rfl (wy_pr rfl) wt_237 wf_15_64 (v := u2) ((w_up_at (by decide)).trans ((w_up_at (by decide)).trans ((w_up_slot (by decide)).trans ((w_up_slot (by decide)).trans (h64))))) (fun r12 => ?_)
        refine wa_iconst ?_
        refine wa_iadd ?_
        refine wb_pfi 237 rfl (wy_pr rfl) wt_237 wf_15_64 (n := 64) rfl ⟨(by omega), (by omega)⟩ ?_
        refine wa_aload_n (n := 0) rfl ?_
        refine wa_dup (by decide) ?_
        refine wb_gfi 237 rfl (wy_pr rfl) wt_237 wf_15_65 (v := u3) ((w_up_at (by decide)).trans ((w_up_at (by decide)).trans ((w_up_at (by decide)).trans ((w_up_slot (by decide)).trans ((w_up_slot (by decide)).trans (h65)))))) (fun r13 => ?_)
        refine wa_iload_n (n := 1) rfl ?_
        refine wa_iadd ?_
        refine wb_pfi 237 rfl (wy_pr rfl) wt_237 wf_15_65 (n := 65) rfl ⟨(by omega), (by omega)⟩ ?_
        refine wa_iload_n (n := 2) rfl ?_
        refine wa_ireturn rfl ?_
        exact Or.inr ⟨by omega, by omega, rfl, rfl⟩
      · skip
        exact absurd c7 (by omega)
theorem jl1t {k1 v1 k2 v2 kk p0 fq : Int} (h84 : S0 284 kk = p0) (hkr : 0 ≤ kk ∧ kk < 16000) (hp0 : 0 ≤ p0 ∧ p0 + (l1.length : Int) + (l2.length : Int) ≤ 269632) (hk8 : (0 ≤ k1 ∧ k1 ≤ 8) ∧ (0 ≤ k2 ∧ k2 ≤ 8)) (hkk : k1 = 3) (hvq : 0 ≤ v1 ∧ v1 < 16000) (h84v : S0 284 v1 = fq) (hfq : 0 ≤ fq ∧ fq + (l1.length : Int) ≤ p0) (hsr : ∀ i : Nat, i < l1.length → S0 283 (fq + (i : Int)) = l1.getD i 0) (hk : ∀ Z : wS, jI l1 p0 l1.length S0 Z → wJ (pe_GA xs) wY0 M (d + 4) t_M_joined ((pe_at t_M_joined.bl 10).getD (0, [])).2 [(0, (2, 237)), (1, (0, k1)), (2, (1, v1)), (4, (0, k2)), (5, (1, v2)), (7, (0, (l1.length : Int))), (8, (0, (l2.length : Int))), (9, (0, kk))] [] Z Q) : ∀ (f i : Nat) (S : wS), i + f = l1.length → jI l1 p0 i S0 S → wJ (pe_GA xs) wY0 M (d + 4) t_M_joined ((pe_at t_M_joined.bl 7).getD (0, [])).2 [(0, (2, 237)), (1, (0, k1)), (2, (1, v1)), (4, (0, k2)), (5, (1, v2)), (7, (0, (l1.length : Int))), (8, (0, (l2.length : Int))), (9, (0, kk)), (10, (0, (i : Int)))] [] S Q := by
  intro f
  induction f with
  | zero =>
    intro i S hi hI
    have hin : i = l1.length := by omega
    rw [hin] at hI
    refine wa_iload (n := 10) rfl ?_
    refine wa_iload (n := 7) rfl ?_
    refine wa_icmpge (w_rg0 (by omega) (by omega)) (w_rg0 (by omega) (by omega)) ⟨_, rfl⟩ (fun c1 => ?_) (fun c1 => ?_)
    · skip
      exact wJ_S (hk S hI) ⟨rfl, rfl, rfl, rfl, rfl, rfl, rfl, rfl, trivial⟩
    · skip
      exfalso; omega
  | succ f ih =>
    intro i S hi hI
    have hM := hI.2.2
    have e84 : S 284 kk = p0 := (hI.2.1 284 kk (Or.inl (by first | decide | omega))).trans h84
    have e84v : S 284 v1 = fq := (hI.2.1 284 v1 (Or.inl (by first | decide | omega))).trans h84v
    have esr : S 283 (fq + (i : Int)) = l1.getD i 0 := (hI.2.1 283 _ (Or.inr (Or.inl (by omega)))).trans (hsr i (by omega))
    refine wa_iload (n := 10) rfl ?_
    refine wa_iload (n := 7) rfl ?_
    refine wa_icmpge (w_rg0 (by omega) (by omega)) (w_rg0 (by omega) (by omega)) ⟨_, rfl⟩ (fun c51 => ?_) (fun c51 => ?_)
    · skip
      exfalso; omega
    · skip
      refine wa_aload_n (n := 0) rfl ?_
      refine wb_gf4 237 rfl (wy_pr rfl) wt_237 wf_15_21 (v := 283) wl_237_21 ?_
      refine wa_aload_n (n := 0) rfl ?_
      refine wb_gf4 237 rfl (wy_pr rfl) wt_237 wf_15_22 (v := 284) wl_237_22 ?_
      refine wa_iload (n := 9) rfl ?_
      refine wb_iald 284 rfl (wy_pr rfl) wt_284 (n := 16000) ((ml_284 hM)) (by omega) (by omega) (v := p0) (e84) (fun r52 => ?_)
      refine wa_iload (n := 10) rfl ?_
      refine wa_iadd ?_
      refine wa_iload_n (n := 1) rfl ?_
      refine wa_iconst ?_
      refine wa_icmpne (w_rg0 (by omega) (by omega)) (w_rg0 (by omega) (by omega)) ⟨_, rfl⟩ (fun c53 => ?_) (fun c53 => ?_)
      · skip
        exfalso; omega
      · skip
        refine wa_aload_n (n := 0) rfl ?_
        refine wb_gf4 237 rfl (wy_pr rfl) wt_237 wf_15_21 (v := 283) wl_237_21 ?_
        refine wa_aload_n (n := 0) rfl ?_
        refine wb_gf4 237 rfl (wy_pr rfl) wt_237 wf_15_22 (v := 284) wl_237_22 ?_
        refine wa_lload_n (n := 2) rfl ?_
        refine wb_l2i_r (y := v1) (wb_l2i_id ⟨by omega, by omega⟩) ?_
        refine wb_iald 284 rfl (wy_pr rfl) wt_284 (n := 16000) ((ml_284 hM)) (by omega) (by omega) (v := fq) (e84v) (fun r54 => ?_)
        refine wa_iload (n := 10) rfl ?_
        refine wa_iadd ?_
        refine wb_bald 283 rfl (wy_pr rfl) wt_283 (n := 269632) ((ml_283 hM)) (by omega) (by omega) (v := (l1.getD i 0)) (esr) (fun r55 => ?_)
        refine wa_goto ⟨_, rfl⟩ ?_
        refine wb_bast 283 rfl (wy_pr rfl) wt_283 (n := 269632) ((ml_283 hM)) (by omega) (by omega) ⟨(by omega), (by omega)⟩ ?_
        refine wa_iinc rfl rfl ?_
        refine wa_goto ⟨_, rfl⟩ ?_
        exact wJ_S (ih (i + 1) _ (by omega) (jI_s hI (by omega) rfl)) ⟨rfl, rfl, rfl, rfl, rfl, rfl, rfl, rfl, rfl, trivial⟩
theorem jl1s {k1 v1 k2 v2 kk p0 fq : Int} (h84 : S0 284 kk = p0) (hkr : 0 ≤ kk ∧ kk < 16000) (hp0 : 0 ≤ p0 ∧ p0 + (l1.length : Int) + (l2.length : Int) ≤ 269632) (hk8 : (0 ≤ k1 ∧ k1 ≤ 8) ∧ (0 ≤ k2 ∧ k2 ≤ 8)) (hkk : k1 ≠ 3) (hsr : ∀ i : Nat, i < l1.length → S0 345 (i : Int) = l1.getD i 0) (hln : l1.length ≤ 256) (hk : ∀ Z : wS, jI l1 p0 l1.length S0 Z → wJ (pe_GA xs) wY0 M (d + 4) t_M_joined ((pe_at t_M_joined.bl 10).getD (0, [])).2 [(0, (2, 237)), (1, (0, k1)), (2, (1, v1)), (4, (0, k2)), (5, (1, v2)), (7, (0, (l1.length : Int))), (8, (0, (l2.length : Int))), (9, (0, kk))] [] Z Q) : ∀ (f i : Nat) (S : wS), i + f = l1.length → jI l1 p0 i S0 S → wJ (pe_GA xs) wY0 M (d + 4) t_M_joined ((pe_at t_M_joined.bl 7).getD (0, [])).2 [(0, (2, 237)), (1, (0, k1)), (2, (1, v1)), (4, (0, k2)), (5, (1, v2)), (7, (0, (l1.length : Int))), (8, (0, (l2.length : Int))), (9, (0, kk)), (10, (0, (i : Int)))] [] S Q := by
  intro f
  induction f with
  | zero =>
    intro i S hi hI
    have hin : i = l1.length := by omega
    rw [hin] at hI
    refine wa_iload (n := 10) rfl ?_
    refine wa_iload (n := 7) rfl ?_
    refine wa_icmpge (w_rg0 (by omega) (by omega)) (w_rg0 (by omega) (by omega)) ⟨_, rfl⟩ (fun c1 => ?_) (fun c1 => ?_)
    · skip
      exact wJ_S (hk S hI) ⟨rfl, rfl, rfl, rfl, rfl, rfl, rfl, rfl, trivial⟩
    · skip
      exfalso; omega
  | succ f ih =>
    intro i S hi hI
    have hM := hI.2.2
    have e84 : S 284 kk = p0 := (hI.2.1 284 kk (Or.inl (by first | decide | omega))).trans h84
    have esr : S 345 (i : Int) = l1.getD i 0 := (hI.2.1 345 _ (Or.inl (by first | decide | omega))).trans (hsr i (by omega))
    refine wa_iload (n := 10) rfl ?_
    refine wa_iload (n := 7) rfl ?_
    refine wa_icmpge (w_rg0 (by omega) (by omega)) (w_rg0 (by omega) (by omega)) ⟨_, rfl⟩ (fun c51 => ?_) (fun c51 => ?_)
    · skip
      exfalso; omega
    · skip
      refine wa_aload_n (n := 0) rfl ?_
      refine wb_gf4 237 rfl (wy_pr rfl) wt_237 wf_15_21 (v := 283) wl_237_21 ?_
      refine wa_aload_n (n := 0) rfl ?_
      refine wb_gf4 237 rfl (wy_pr rfl) wt_237 wf_15_22 (v := 284) wl_237_22 ?_
      refine wa_iload (n := 9) rfl ?_
      refine wb_iald 284 rfl (wy_pr rfl) wt_284 (n := 16000) ((ml_284 hM)) (by omega) (by omega) (v := p0) (e84) (fun r52 => ?_)
      refine wa_iload (n := 10) rfl ?_
      refine wa_iadd ?_
      refine wa_iload_n (n := 1) rfl ?_
      refine wa_iconst ?_
      refine wa_icmpne (w_rg0 (by omega) (by omega)) (w_rg0 (by omega) (by omega)) ⟨_, rfl⟩ (fun c53 => ?_) (fun c53 => ?_)
      · skip
        refine wa_aload_n (n := 0) rfl ?_
        refine wb_gf4 237 rfl (wy_pr rfl) wt_237 wf_15_112 (v := 345) wl_237_112 ?_
        refine wa_iload (n := 10) rfl ?_
        refine wb_bald 345 rfl (wy_pr rfl) wt_345 (n := 256) ((ml_345 hM)) (by omega) (by omega) (v := (l1.getD i 0)) (esr) (fun r54 => ?_)
        refine wa_fall ⟨_, rfl⟩ ?_
        refine wb_bast 283 rfl (wy_pr rfl) wt_283 (n := 269632) ((ml_283 hM)) (by omega) (by omega) ⟨(by omega), (by omega)⟩ ?_
        refine wa_iinc rfl rfl ?_
        refine wa_goto ⟨_, rfl⟩ ?_
        exact wJ_S (ih (i + 1) _ (by omega) (jI_s hI (by omega) rfl)) ⟨rfl, rfl, rfl, rfl, rfl, rfl, rfl, rfl, rfl, trivial⟩
      · skip
        exfalso; omega
theorem jl2t {k1 v1 k2 v2 kk p0 fq : Int} (h84 : S0 284 kk = p0) (hkr : 0 ≤ kk ∧ kk < 16000) (hp0 : 0 ≤ p0 ∧ p0 + (l1.length : Int) + (l2.length : Int) ≤ 269632) (hk8 : (0 ≤ k1 ∧ k1 ≤ 8) ∧ (0 ≤ k2 ∧ k2 ≤ 8)) (hkk : k2 = 3) (hvq : 0 ≤ v2 ∧ v2 < 16000) (h84v : S0 284 v2 = fq) (hfq : 0 ≤ fq ∧ fq + (l2.length : Int) ≤ p0) (hsr : ∀ i : Nat, i < l2.length → S0 283 (fq + (i : Int)) = l2.getD i 0) (hk : ∀ Z : wS, jI l2 (p0 + (l1.length : Int)) l2.length S0 Z → wJ (pe_GA xs) wY0 M (d + 4) t_M_joined ((pe_at t_M_joined.bl 14).getD (0, [])).2 [(0, (2, 237)), (1, (0, k1)), (2, (1, v1)), (4, (0, k2)), (5, (1, v2)), (7, (0, (l1.length : Int))), (8, (0, (l2.length : Int))), (9, (0, kk))] [] Z Q) : ∀ (f i : Nat) (S : wS), i + f = l2.length → jI l2 (p0 + (l1.length : Int)) i S0 S → wJ (pe_GA xs) wY0 M (d + 4) t_M_joined ((pe_at t_M_joined.bl 11).getD (0, [])).2 [(0, (2, 237)), (1, (0, k1)), (2, (1, v1)), (4, (0, k2)), (5, (1, v2)), (7, (0, (l1.length : Int))), (8, (0, (l2.length : Int))), (9, (0, kk)), (10, (0, (i : Int)))] [] S Q := by
  intro f
  induction f with
  | zero =>
    intro i S hi hI
    have hin : i = l2.length := by omega
    rw [hin] at hI
    refine wa_iload (n := 10) rfl ?_
    refine wa_iload (n := 8) rfl ?_
    refine wa_icmpge (w_rg0 (by omega) (by omega)) (w_rg0 (by omega) (by omega)) ⟨_, rfl⟩ (fun c1 => ?_) (fun c1 => ?_)
    · skip
      exact wJ_S (hk S hI) ⟨rfl, rfl, rfl, rfl, rfl, rfl, rfl, rfl, trivial⟩
    · skip
      exfalso; omega
  | succ f ih =>
    intro i S hi hI
    have hM := hI.2.2
    have e84 : S 284 kk = p0 := (hI.2.1 284 kk (Or.inl (by first | decide | omega))).trans h84
    have e84v : S 284 v2 = fq := (hI.2.1 284 v2 (Or.inl (by first | decide | omega))).trans h84v
    have esr : S 283 (fq + (i : Int)) = l2.getD i 0 := (hI.2.1 283 _ (Or.inr (Or.inl (by omega)))).trans (hsr i (by omega))
    refine wa_iload (n := 10) rfl ?_
    refine wa_iload (n := 8) rfl ?_
    refine wa_icmpge (w_rg0 (by omega) (by omega)) (w_rg0 (by omega) (by omega)) ⟨_, rfl⟩ (fun c51 => ?_) (fun c51 => ?_)
    · skip
      exfalso; omega
    · skip
      refine wa_aload_n (n := 0) rfl ?_
      refine wb_gf4 237 rfl (wy_pr rfl) wt_237 wf_15_21 (v := 283) wl_237_21 ?_
      refine wa_aload_n (n := 0) rfl ?_
      refine wb_gf4 237 rfl (wy_pr rfl) wt_237 wf_15_22 (v := 284) wl_237_22 ?_
      refine wa_iload (n := 9) rfl ?_
      refine wb_iald 284 rfl (wy_pr rfl) wt_284 (n := 16000) ((ml_284 hM)) (by omega) (by omega) (v := p0) (e84) (fun r52 => ?_)
      refine wa_iload (n := 7) rfl ?_
      refine wa_iadd ?_
      refine wa_iload (n := 10) rfl ?_
      refine wa_iadd ?_
      refine wa_iload (n := 4) rfl ?_
      refine wa_iconst ?_
      refine wa_icmpne (w_rg0 (by omega) (by omega)) (w_rg0 (by omega) (by omega)) ⟨_, rfl⟩ (fun c53 => ?_) (fun c53 => ?_)
      · skip
        exfalso; omega
      · skip
        refine wa_aload_n (n := 0) rfl ?_
        refine wb_gf4 237 rfl (wy_pr rfl) wt_237 wf_15_21 (v := 283) wl_237_21 ?_
        refine wa_aload_n (n := 0) rfl ?_
        refine wb_gf4 237 rfl (wy_pr rfl) wt_237 wf_15_22 (v := 284) wl_237_22 ?_
        refine wa_lload (n := 5) rfl ?_
        refine wb_l2i_r (y := v2) (wb_l2i_id ⟨by omega, by omega⟩) ?_
        refine wb_iald 284 rfl (wy_pr rfl) wt_284 (n := 16000) ((ml_284 hM)) (by omega) (by omega) (v := fq) (e84v) (fun r54 => ?_)
        refine wa_iload (n := 10) rfl ?_
        refine wa_iadd ?_
        refine wb_bald 283 rfl (wy_pr rfl) wt_283 (n := 269632) ((ml_283 hM)) (by omega) (by omega) (v := (l2.getD i 0)) (esr) (fun r55 => ?_)
        refine wa_goto ⟨_, rfl⟩ ?_
        refine wb_bast 283 rfl (wy_pr rfl) wt_283 (n := 269632) ((ml_283 hM)) (by omega) (by omega) ⟨(by omega), (by omega)⟩ ?_
        refine wa_iinc rfl rfl ?_
        refine wa_goto ⟨_, rfl⟩ ?_
        exact wJ_S (ih (i + 1) _ (by omega) (jI_s hI (by omega) rfl)) ⟨rfl, rfl, rfl, rfl, rfl, rfl, rfl, rfl, rfl, trivial⟩
theorem jl2s {k1 v1 k2 v2 kk p0 fq : Int} (h84 : S0 284 kk = p0) (hkr : 0 ≤ kk ∧ kk < 16000) (hp0 : 0 ≤ p0 ∧ p0 + (l1.length : Int) + (l2.length : Int) ≤ 269632) (hk8 : (0 ≤ k1 ∧ k1 ≤ 8) ∧ (0 ≤ k2 ∧ k2 ≤ 8)) (hkk : k2 ≠ 3) (hsr : ∀ i : Nat, i < l2.length → S0 345 (i : Int) = l2.getD i 0) (hln : l2.length ≤ 256) (hk : ∀ Z : wS, jI l2 (p0 + (l1.length : Int)) l2.length S0 Z → wJ (pe_GA xs) wY0 M (d + 4) t_M_joined ((pe_at t_M_joined.bl 14).getD (0, [])).2 [(0, (2, 237)), (1, (0, k1)), (2, (1, v1)), (4, (0, k2)), (5, (1, v2)), (7, (0, (l1.length : Int))), (8, (0, (l2.length : Int))), (9, (0, kk))] [] Z Q) : ∀ (f i : Nat) (S : wS), i + f = l2.length → jI l2 (p0 + (l1.length : Int)) i S0 S → wJ (pe_GA xs) wY0 M (d + 4) t_M_joined ((pe_at t_M_joined.bl 11).getD (0, [])).2 [(0, (2, 237)), (1, (0, k1)), (2, (1, v1)), (4, (0, k2)), (5, (1, v2)), (7, (0, (l1.length : Int))), (8, (0, (l2.length : Int))), (9, (0, kk)), (10, (0, (i : Int)))] [] S Q := by
  intro f
  induction f with
  | zero =>
    intro i S hi hI
    have hin : i = l2.length := by omega
    rw [hin] at hI
    refine wa_iload (n := 10) rfl ?_
    refine wa_iload (n := 8) rfl ?_
    refine wa_icmpge (w_rg0 (by omega) (by omega)) (w_rg0 (by omega) (by omega)) ⟨_, rfl⟩ (fun c1 => ?_) (fun c1 => ?_)
    · skip
      exact wJ_S (hk S hI) ⟨rfl, rfl, rfl, rfl, rfl, rfl, rfl, rfl, trivial⟩
    · skip
      exfalso; omega
  | succ f ih =>
    intro i S hi hI
    have hM := hI.2.2
    have e84 : S 284 kk = p0 := (hI.2.1 284 kk (Or.inl (by first | decide | omega))).trans h84
    have esr : S 345 (i : Int) = l2.getD i 0 := (hI.2.1 345 _ (Or.inl (by first | decide | omega))).trans (hsr i (by omega))
    refine wa_iload (n := 10) rfl ?_
    refine wa_iload (n := 8) rfl ?_
    refine wa_icmpge (w_rg0 (by omega) (by omega)) (w_rg0 (by omega) (by omega)) ⟨_, rfl⟩ (fun c51 => ?_) (fun c51 => ?_)
    · skip
      exfalso; omega
    · skip
      refine wa_aload_n (n := 0) rfl ?_
      refine wb_gf4 237 rfl (wy_pr rfl) wt_237 wf_15_21 (v := 283) wl_237_21 ?_
      refine wa_aload_n (n := 0) rfl ?_
      refine wb_gf4 237 rfl (wy_pr rfl) wt_237 wf_15_22 (v := 284) wl_237_22 ?_
      refine wa_iload (n := 9) rfl ?_
      refine wb_iald 284 rfl (wy_pr rfl) wt_284 (n := 16000) ((ml_284 hM)) (by omega) (by omega) (v := p0) (e84) (fun r52 => ?_)
      refine wa_iload (n := 7) rfl ?_
      refine wa_iadd ?_
      refine wa_iload (n := 10) rfl ?_
      refine wa_iadd ?_
      refine wa_iload (n := 4) rfl ?_
      refine wa_iconst ?_
      refine wa_icmpne (w_rg0 (by omega) (by omega)) (w_rg0 (by omega) (by omega)) ⟨_, rfl⟩ (fun c53 => ?_) (fun c53 => ?_)
      · skip
        refine wa_aload_n (n := 0) rfl ?_
        refine wb_gf4 237 rfl (wy_pr rfl) wt_237 wf_15_112 (v := 345) wl_237_112 ?_
        refine wa_iload (n := 10) rfl ?_
        refine wb_bald 345 rfl (wy_pr rfl) wt_345 (n := 256) ((ml_345 hM)) (by omega) (by omega) (v := (l2.getD i 0)) (esr) (fun r54 => ?_)
        refine wa_fall ⟨_, rfl⟩ ?_
        refine wb_bast 283 rfl (wy_pr rfl) wt_283 (n := 269632) ((ml_283 hM)) (by omega) (by omega) ⟨(by omega), (by omega)⟩ ?_
        refine wa_iinc rfl rfl ?_
        refine wa_goto ⟨_, rfl⟩ ?_
        exact wJ_S (ih (i + 1) _ (by omega) (jI_s hI (by omega) rfl)) ⟨rfl, rfl, rfl, rfl, rfl, rfl, rfl, rfl, rfl, trivial⟩
      · skip
        exfalso; omega
set_option maxHeartbeats 4000000 in
theorem mjo11 {k1 v1 k2 v2 m bt u2 u3 f1 f2 : Int} (hX : w_X xs) (hM : w_ML S) (hk1 : k1 = 3) (hv1 : 0 ≤ v1 ∧ v1 < 4000 + m) (h85_1 : S 285 v1 = (l1.length : Int)) (h84_1 : S 284 v1 = f1) (hf1 : 0 ≤ f1 ∧ f1 + (l1.length : Int) ≤ 69632 + bt) (hs1 : ∀ i : Nat, i < l1.length → S 283 (f1 + (i : Int)) = l1.getD i 0) (hk2 : k2 = 3) (hv2 : 0 ≤ v2 ∧ v2 < 4000 + m) (h85_2 : S 285 v2 = (l2.length : Int)) (h84_2 : S 284 v2 = f2) (hf2 : 0 ≤ f2 ∧ f2 + (l2.length : Int) ≤ 69632 + bt) (hs2 : ∀ i : Nat, i < l2.length → S 283 (f2 + (i : Int)) = l2.getD i 0) (hll : l1.length ≤ 200000 ∧ l2.length ≤ 200000) (h102 : S 237 102 = m) (h103 : S 237 103 = bt) (h64 : S 237 64 = u2) (h65 : S 237 65 = u3) (hm : 0 ≤ m ∧ m ≤ u2) (hbt : 0 ≤ bt ∧ bt ≤ u3) (hu2 : u2 ≤ 12000) (hu3 : u3 ≤ 200000) : wJ (pe_GA xs) wY0 M (d + 8) t_M_joined ((pe_at t_M_joined.bl 0).getD (0, [])).2 [(0, (2, 237)), (1, (0, k1)), (2, (1, v1)), (4, (0, k2)), (5, (1, v2))] [] S (fun o Z => (∃ A : wS, pnR S A ∧ (((12000 ≤ u2 ∨ 200000 < u3 + ((l1.length : Int) + (l2.length : Int))) ∧ o = .inr 238 ∧ hZ 99 A = Z) ∨ (u2 < 12000 ∧ u3 + ((l1.length : Int) + (l2.length : Int)) ≤ 200000 ∧ o = .inl (some (0, 4000 + m)) ∧ jtA (l1 ++ l2) m bt u2 u3 A Z)))) := by
  refine wa_aload_n (n := 0) rfl ?_
  refine wa_iconst ?_
  refine wb_pfi 237 rfl (wy_pr rfl) wt_237 wf_15_113 (n := 113) rfl ⟨(by omega), (by omega)⟩ ?_
  refine wa_iload_n (n := 1) rfl ?_
  refine wa_iconst ?_
  refine wa_icmpeq (w_rg0 (by omega) (by omega)) (w_rg0 (by omega) (by omega)) ⟨_, rfl⟩ (fun c1 => ?_) (fun c1 => ?_)
  · skip
    refine wa_iload (n := 4) rfl ?_
    refine wa_iconst ?_
    refine wa_icmpeq (w_rg0 (by omega) (by omega)) (w_rg0 (by omega) (by omega)) ⟨_, rfl⟩ (fun c2 => ?_) (fun c2 => ?_)
    · skip
      refine wa_iload_n (n := 1) rfl ?_
      refine wa_iconst ?_
      refine wa_icmpne (w_rg0 (by omega) (by omega)) (w_rg0 (by omega) (by omega)) ⟨_, rfl⟩ (fun c3 => ?_) (fun c3 => ?_)
      · skip
        exact absurd c3 (by omega)
      · skip
        refine wa_aload_n (n := 0) rfl ?_
        refine wb_gf4 237 rfl (wy_pr rfl) wt_237 wf_15_23 (v := 285) wl_237_23 ?_
        refine wa_lload_n (n := 2) rfl ?_
        refine wb_l2i_r (y := v1) (wb_l2i_id ⟨by omega, by omega⟩) ?_
        refine wb_iald 285 rfl (wy_pr rfl) wt_285 (n := 16000) ((w_up_slot (by decide)).trans ((ml_285 hM))) (by omega) (by omega) (v := (l1.length : Int)) ((w_up_slot (by decide)).trans (h85_1)) (fun r4 => ?_)
        refine wa_goto ⟨_, rfl⟩ ?_
        refine wa_istore (n := 7) rfl ?_
        refine wa_iload (n := 4) rfl ?_
        refine wa_iconst ?_
        refine wa_icmpne (w_rg0 (by omega) (by omega)) (w_rg0 (by omega) (by omega)) ⟨_, rfl⟩ (fun c5 => ?_) (fun c5 => ?_)
        · skip
          exact absurd c5 (by omega)
        · skip
          refine wa_aload_n (n := 0) rfl ?_
          refine wb_gf4 237 rfl (wy_pr rfl) wt_237 wf_15_23 (v := 285) wl_237_23 ?_
          refine wa_lload (n := 5) rfl ?_
          refine wb_l2i_r (y := v2) (wb_l2i_id ⟨by omega, by omega⟩) ?_
          refine wb_iald 285 rfl (wy_pr rfl) wt_285 (n := 16000) ((w_up_slot (by decide)).trans ((ml_285 hM))) (by omega) (by omega) (v := (l2.length : Int)) ((w_up_slot (by decide)).trans (h85_2)) (fun r6 => ?_)
          refine wa_goto ⟨_, rfl⟩ ?_
          refine wa_istore (n := 8) rfl ?_
          refine wa_aload_n (n := 0) rfl ?_
          refine wa_iload (n := 7) rfl ?_
          refine wa_iload (n := 8) rfl ?_
          refine wa_iadd ?_
          obtain ⟨A, hAe⟩ : ∃ A : wS, A = w_up S 237 113 0 := ⟨_, rfl⟩
          rw [show (w_up S 237 113 0) = A from hAe.symm]
          have hpn : pnR S A := by rw [hAe]; exact ⟨fun j x _ j1 => w_up_no (by omega), w_ML_up hM (by first | decide | omega)⟩
          have r102x : A 237 102 = m := (hpn.1 237 102 (Or.inl (by first | decide | omega)) (by first | decide | omega)).trans h102
          have r103x : A 237 103 = bt := (hpn.1 237 103 (Or.inl (by first | decide | omega)) (by first | decide | omega)).trans h103
          have r64x : A 237 64 = u2 := (hpn.1 237 64 (Or.inl (by first | decide | omega)) (by first | decide | omega)).trans h64
          have r65x : A 237 65 = u3 := (hpn.1 237 65 (Or.inl (by first | decide | omega)) (by first | decide | omega)).trans h65
          refine wa_cv 237 rfl (wy_pr rfl) wt_237 (M2 := fun _ => False) rfl at_M_newText ⟨_, rfl⟩ rfl rfl ⟨trivial, trivial, (Or.inr ⟨wy_pr rfl, fun q => q⟩), trivial, trivial, trivial, trivial, trivial⟩ trivial (fun _ _ q => False.elim q) (ntx_okL (S := A) (n := ((l1.length : Int) + (l2.length : Int))) (m := m) (bt := bt) (u2 := u2) (u3 := u3) hpn.2 r102x r103x r64x r65x hm hbt hu2 hu3 ⟨by omega, by omega⟩) (fun oq7 Sq7 hp8 q7 => ?_)
          rcases q7 with ⟨hno, rfl, rfl⟩ | ⟨hy1, hy2, rfl, rfl⟩
          · skip
            refine ⟨rfl, ?_⟩
            exact ⟨A, hpn, Or.inl ⟨hno, rfl, rfl⟩⟩
          · skip
            show wJ _ _ _ _ _ _ _ _ _ _
            refine wa_istore (n := 9) rfl ?_
            refine wa_iconst ?_
            refine wa_istore (n := 10) rfl ?_
            refine wa_fall ⟨_, rfl⟩ ?_
            have hnv := nxZ_v (S := A) (n := ((l1.length : Int) + (l2.length : Int))) (m := m) (bt := bt) (u2 := u2) (u3 := u3)
            have e0 : ∀ (j : Nat) (x : Int), j ≠ 284 → j ≠ 285 → j ≠ 237 → (j ≠ 345 ∨ x < 0) → (nxZ ((l1.length : Int) + (l2.length : Int)) m bt u2 u3 A) j x = S j x := fun j x j0 j1 j2 j3 => (nxZ_e j x (Or.inl ⟨j0, j1⟩) (Or.inl j2)).trans (hpn.1 j x j3 (Or.inl j2))
            have hMX : w_ML (nxZ ((l1.length : Int) + (l2.length : Int)) m bt u2 u3 A) := nxZ_m hpn.2 hm.1
            refine wJ_S (jl1t (k1 := k1) (v1 := v1) (k2 := k2) (v2 := v2) (kk := 4000 + m) (p0 := 69632 + bt) (l1 := l1) (l2 := l2) (S0 := (nxZ ((l1.length : Int) + (l2.length : Int)) m bt u2 u3 A)) (fq := f1) hnv.1 ⟨by omega, by omega⟩ ⟨by omega, by omega⟩ ⟨⟨by omega, by omega⟩, by omega, by omega⟩ hk1 ⟨by omega, by omega⟩ ((nxZ_e 284 v1 (Or.inr (by omega)) (Or.inl (by first | decide | omega))).trans ((hpn.1 284 v1 (Or.inl (by first | decide | omega)) (Or.inl (by first | decide | omega))).trans h84_1)) hf1 (fun i hi => (e0 283 _ (by first | decide | omega) (by first | decide | omega) (by first | decide | omega) (Or.inl (by first | decide | omega))).trans (hs1 i hi)) (fun Y hY => ?_) l1.length 0 (nxZ ((l1.length : Int) + (l2.length : Int)) m bt u2 u3 A) (by omega) ⟨fun k hk => absurd hk (Nat.not_lt_zero _), fun _ _ _ => rfl, hMX⟩) ⟨rfl, rfl, rfl, rfl, rfl, rfl, rfl, rfl, rfl, trivial⟩
            refine wa_iconst ?_
            refine wa_istore (n := 10) rfl ?_
            refine wa_fall ⟨_, rfl⟩ ?_
            refine wJ_S (jl2t (k1 := k1) (v1 := v1) (k2 := k2) (v2 := v2) (kk := 4000 + m) (p0 := 69632 + bt) (l1 := l1) (l2 := l2) (S0 := Y) (fq := f2) ((hY.2.1 284 _ (Or.inl (by first | decide | omega))).trans hnv.1) ⟨by omega, by omega⟩ ⟨by omega, by omega⟩ ⟨⟨by omega, by omega⟩, by omega, by omega⟩ hk2 ⟨by omega, by omega⟩ ((hY.2.1 284 v2 (Or.inl (by first | decide | omega))).trans ((nxZ_e 284 v2 (Or.inr (by omega)) (Or.inl (by first | decide | omega))).trans ((hpn.1 284 v2 (Or.inl (by first | decide | omega)) (Or.inl (by first | decide | omega))).trans h84_2))) hf2 (fun i hi => (hY.2.1 283 _ (Or.inr (Or.inl (by omega)))).trans ((e0 283 _ (by first | decide | omega) (by first | decide | omega) (by first | decide | omega) (Or.inl (by first | decide | omega))).trans (hs2 i hi))) (fun V hV => ?_) l2.length 0 Y (by omega) ⟨fun k hk => absurd hk (Nat.not_lt_zero _), fun _ _ _ => rfl, hY.2.2⟩) ⟨rfl, rfl, rfl, rfl, rfl, rfl, rfl, rfl, rfl, trivial⟩
            refine wa_iload (n := 9) rfl ?_
            refine wa_ireturn rfl ?_
            exact ⟨A, hpn, Or.inr ⟨hy1, hy2, rfl, jtA_of hY hV hm.1⟩⟩
    · skip
      exact absurd c2 (by omega)
  · skip
    exact absurd c1 (by omega)
set_option maxHeartbeats 4000000 in
theorem mjo10 {k1 v1 k2 v2 m bt u2 u3 f1 : Int} (hX : w_X xs) (hM : w_ML S) (hk1 : k1 = 3) (hv1 : 0 ≤ v1 ∧ v1 < 4000 + m) (h85_1 : S 285 v1 = (l1.length : Int)) (h84_1 : S 284 v1 = f1) (hf1 : 0 ≤ f1 ∧ f1 + (l1.length : Int) ≤ 69632 + bt) (hs1 : ∀ i : Nat, i < l1.length → S 283 (f1 + (i : Int)) = l1.getD i 0) (hk2 : k2 = 0 ∨ k2 = 1 ∨ k2 = 2) (hv2 : -9223372036854775808 ≤ v2 ∧ v2 ≤ 9223372036854775807) (hl2 : l2 = vL k2 v2) (hll : l1.length ≤ 200000 ∧ l2.length ≤ 200000) (h102 : S 237 102 = m) (h103 : S 237 103 = bt) (h64 : S 237 64 = u2) (h65 : S 237 65 = u3) (hm : 0 ≤ m ∧ m ≤ u2) (hbt : 0 ≤ bt ∧ bt ≤ u3) (hu2 : u2 ≤ 12000) (hu3 : u3 ≤ 200000) : wJ (pe_GA xs) wY0 M (d + 8) t_M_joined ((pe_at t_M_joined.bl 0).getD (0, [])).2 [(0, (2, 237)), (1, (0, k1)), (2, (1, v1)), (4, (0, k2)), (5, (1, v2))] [] S (fun o Z => (∃ A : wS, pnR S A ∧ (((12000 ≤ u2 ∨ 200000 < u3 + ((l1.length : Int) + (l2.length : Int))) ∧ o = .inr 238 ∧ hZ 99 A = Z) ∨ (u2 < 12000 ∧ u3 + ((l1.length : Int) + (l2.length : Int)) ≤ 200000 ∧ o = .inl (some (0, 4000 + m)) ∧ jtA (l1 ++ l2) m bt u2 u3 A Z)))) := by
  have hlv := vL_len (k := k2) (v := v2)
  rw [← hl2] at hlv
  refine wa_aload_n (n := 0) rfl ?_
  refine wa_iconst ?_
  refine wb_pfi 237 rfl (wy_pr rfl) wt_237 wf_15_113 (n := 113) rfl ⟨(by omega), (by omega)⟩ ?_
  refine wa_iload_n (n := 1) rfl ?_
  refine wa_iconst ?_
  refine wa_icmpeq (w_rg0 (by omega) (by omega)) (w_rg0 (by omega) (by omega)) ⟨_, rfl⟩ (fun c1 => ?_) (fun c1 => ?_)
  · skip
    refine wa_iload (n := 4) rfl ?_
    refine wa_iconst ?_
    refine wa_icmpeq (w_rg0 (by omega) (by omega)) (w_rg0 (by omega) (by omega)) ⟨_, rfl⟩ (fun c2 => ?_) (fun c2 => ?_)
    · skip
      exact absurd c2 (by omega)
    · skip
      refine wa_aload_n (n := 0) rfl ?_
      refine wa_iload (n := 4) rfl ?_
      refine wa_lload (n := 5) rfl ?_
      refine wa_cv 237 rfl (wy_pr rfl) wt_237 (M2 := fun _ => False) rfl at_M_print ⟨_, rfl⟩ rfl rfl ⟨(Or.inr ⟨wy_pr rfl, fun q => q⟩), trivial, trivial, trivial, trivial, trivial⟩ trivial (fun _ _ q => False.elim q) (mprn (S := (w_up S 237 113 0)) (k := k2) (v := v2) hX (w_ML_up hM (by decide)) (w_up_same _ _ _ _) (by omega) hv2) (fun oq3 Sq3 hp4 q3 => ?_)
      rcases q3 with ⟨rfl, hsp⟩
      show wJ _ _ _ _ _ _ _ _ _ _
      rw [← hl2] at hsp
      have hspF := hsp.2.2.1
      have hspM := hsp.2.2.2
      have hs13 := hsp.2.1.trans (Int.zero_add _)
      refine wa_fall ⟨_, rfl⟩ ?_
      refine wa_iload_n (n := 1) rfl ?_
      refine wa_iconst ?_
      refine wa_icmpne (w_rg0 (by omega) (by omega)) (w_rg0 (by omega) (by omega)) ⟨_, rfl⟩ (fun c5 => ?_) (fun c5 => ?_)
      · skip
        exact absurd c5 (by omega)
      · skip
        refine wa_aload_n (n := 0) rfl ?_
        refine wb_gf4 237 rfl (wy_pr rfl) wt_237 wf_15_23 (v := 285) wl_237_23 ?_
        refine wa_lload_n (n := 2) rfl ?_
        refine wb_l2i_r (y := v1) (wb_l2i_id ⟨by omega, by omega⟩) ?_
        refine wb_iald 285 rfl (wy_pr rfl) wt_285 (n := 16000) (((hspF 285 (-1) (Or.inl (by decide)) (by omega)).trans ((w_up_slot (by decide)).trans ((ml_285 hM))))) (by omega) (by omega) (v := (l1.length : Int)) (((hspF 285 v1 (Or.inl (by decide)) (by omega)).trans ((w_up_slot (by decide)).trans (h85_1)))) (fun r6 => ?_)
        refine wa_goto ⟨_, rfl⟩ ?_
        refine wa_istore (n := 7) rfl ?_
        refine wa_iload (n := 4) rfl ?_
        refine wa_iconst ?_
        refine wa_icmpne (w_rg0 (by omega) (by omega)) (w_rg0 (by omega) (by omega)) ⟨_, rfl⟩ (fun c7 => ?_) (fun c7 => ?_)
        · skip
          refine wa_aload_n (n := 0) rfl ?_
          refine wb_gfi 237 rfl (wy_pr rfl) wt_237 wf_15_113 (v := (l2.length : Int)) (hs13) (fun r8 => ?_)
          refine wa_fall ⟨_, rfl⟩ ?_
          refine wa_istore (n := 8) rfl ?_
          refine wa_aload_n (n := 0) rfl ?_
          refine wa_iload (n := 7) rfl ?_
          refine wa_iload (n := 8) rfl ?_
          refine wa_iadd ?_
          have hpn : pnR S Sq3 := ⟨fun j x j0 j1 => (hspF j x (by omega) j1).trans (w_up_no (by omega)), hspM⟩
          have r102x : Sq3 237 102 = m := (hpn.1 237 102 (Or.inl (by first | decide | omega)) (by first | decide | omega)).trans h102
          have r103x : Sq3 237 103 = bt := (hpn.1 237 103 (Or.inl (by first | decide | omega)) (by first | decide | omega)).trans h103
          have r64x : Sq3 237 64 = u2 := (hpn.1 237 64 (Or.inl (by first | decide | omega)) (by first | decide | omega)).trans h64
          have r65x : Sq3 237 65 = u3 := (hpn.1 237 65 (Or.inl (by first | decide | omega)) (by first | decide | omega)).trans h65
          refine wa_cv 237 rfl (wy_pr rfl) wt_237 (M2 := fun _ => False) rfl at_M_newText ⟨_, rfl⟩ rfl rfl ⟨trivial, trivial, (Or.inr ⟨wy_pr rfl, fun q => q⟩), trivial, trivial, trivial, trivial, trivial⟩ trivial (fun _ _ q => False.elim q) (ntx_okL (S := Sq3) (n := ((l1.length : Int) + (l2.length : Int))) (m := m) (bt := bt) (u2 := u2) (u3 := u3) hpn.2 r102x r103x r64x r65x hm hbt hu2 hu3 ⟨by omega, by omega⟩) (fun oq9 Sq9 hp10 q9 => ?_)
          rcases q9 with ⟨hno, rfl, rfl⟩ | ⟨hy1, hy2, rfl, rfl⟩
          · skip
            refine ⟨rfl, ?_⟩
            exact ⟨Sq3, hpn, Or.inl ⟨hno, rfl, rfl⟩⟩
          · skip
            show wJ _ _ _ _ _ _ _ _ _ _
            refine wa_istore (n := 9) rfl ?_
            refine wa_iconst ?_
            refine wa_istore (n := 10) rfl ?_
            refine wa_fall ⟨_, rfl⟩ ?_
            have hnv := nxZ_v (S := Sq3) (n := ((l1.length : Int) + (l2.length : Int))) (m := m) (bt := bt) (u2 := u2) (u3 := u3)
            have e0 : ∀ (j : Nat) (x : Int), j ≠ 284 → j ≠ 285 → j ≠ 237 → (j ≠ 345 ∨ x < 0) → (nxZ ((l1.length : Int) + (l2.length : Int)) m bt u2 u3 Sq3) j x = S j x := fun j x j0 j1 j2 j3 => (nxZ_e j x (Or.inl ⟨j0, j1⟩) (Or.inl j2)).trans (hpn.1 j x j3 (Or.inl j2))
            have hMX : w_ML (nxZ ((l1.length : Int) + (l2.length : Int)) m bt u2 u3 Sq3) := nxZ_m hpn.2 hm.1
            refine wJ_S (jl1t (k1 := k1) (v1 := v1) (k2 := k2) (v2 := v2) (kk := 4000 + m) (p0 := 69632 + bt) (l1 := l1) (l2 := l2) (S0 := (nxZ ((l1.length : Int) + (l2.length : Int)) m bt u2 u3 Sq3)) (fq := f1) hnv.1 ⟨by omega, by omega⟩ ⟨by omega, by omega⟩ ⟨⟨by omega, by omega⟩, by omega, by omega⟩ hk1 ⟨by omega, by omega⟩ ((nxZ_e 284 v1 (Or.inr (by omega)) (Or.inl (by first | decide | omega))).trans ((hpn.1 284 v1 (Or.inl (by first | decide | omega)) (Or.inl (by first | decide | omega))).trans h84_1)) hf1 (fun i hi => (e0 283 _ (by first | decide | omega) (by first | decide | omega) (by first | decide | omega) (Or.inl (by first | decide | omega))).trans (hs1 i hi)) (fun Y hY => ?_) l1.length 0 (nxZ ((l1.length : Int) + (l2.length : Int)) m bt u2 u3 Sq3) (by omega) ⟨fun k hk => absurd hk (Nat.not_lt_zero _), fun _ _ _ => rfl, hMX⟩) ⟨rfl, rfl, rfl, rfl, rfl, rfl, rfl, rfl, rfl, trivial⟩
            refine wa_iconst ?_
            refine wa_istore (n := 10) rfl ?_
            refine wa_fall ⟨_, rfl⟩ ?_
            refine wJ_S (jl2s (k1 := k1) (v1 := v1) (k2 := k2) (v2 := v2) (kk := 4000 + m) (p0 := 69632 + bt) (l1 := l1) (l2 := l2) (S0 := Y) (fq := 0) ((hY.2.1 284 _ (Or.inl (by first | decide | omega))).trans hnv.1) ⟨by omega, by omega⟩ ⟨by omega, by omega⟩ ⟨⟨by omega, by omega⟩, by omega, by omega⟩ (by omega) (fun i hi => (hY.2.1 345 _ (Or.inl (by first | decide | omega))).trans ((nxZ_e 345 _ (Or.inl (by first | decide | omega)) (Or.inl (by first | decide | omega))).trans (by have z := hsp.1 i hi; rw [Int.zero_add] at z; exact z))) (by omega) (fun V hV => ?_) l2.length 0 Y (by omega) ⟨fun k hk => absurd hk (Nat.not_lt_zero _), fun _ _ _ => rfl, hY.2.2⟩) ⟨rfl, rfl, rfl, rfl, rfl, rfl, rfl, rfl, rfl, trivial⟩
            refine wa_iload (n := 9) rfl ?_
            refine wa_ireturn rfl ?_
            exact ⟨Sq3, hpn, Or.inr ⟨hy1, hy2, rfl, jtA_of hY hV hm.1⟩⟩
        · skip
          exact absurd c7 (by omega)
  · skip
    exact absurd c1 (by omega)
set_option maxHeartbeats 4000000 in
theorem mjo01 {k1 v1 k2 v2 m bt u2 u3 f2 : Int} (hX : w_X xs) (hM : w_ML S) (hk1 : k1 = 0 ∨ k1 = 1 ∨ k1 = 2) (hv1 : -9223372036854775808 ≤ v1 ∧ v1 ≤ 9223372036854775807) (hl1 : l1 = vL k1 v1) (hk2 : k2 = 3) (hv2 : 0 ≤ v2 ∧ v2 < 4000 + m) (h85_2 : S 285 v2 = (l2.length : Int)) (h84_2 : S 284 v2 = f2) (hf2 : 0 ≤ f2 ∧ f2 + (l2.length : Int) ≤ 69632 + bt) (hs2 : ∀ i : Nat, i < l2.length → S 283 (f2 + (i : Int)) = l2.getD i 0) (hll : l1.length ≤ 200000 ∧ l2.length ≤ 200000) (h102 : S 237 102 = m) (h103 : S 237 103 = bt) (h64 : S 237 64 = u2) (h65 : S 237 65 = u3) (hm : 0 ≤ m ∧ m ≤ u2) (hbt : 0 ≤ bt ∧ bt ≤ u3) (hu2 : u2 ≤ 12000) (hu3 : u3 ≤ 200000) : wJ (pe_GA xs) wY0 M (d + 8) t_M_joined ((pe_at t_M_joined.bl 0).getD (0, [])).2 [(0, (2, 237)), (1, (0, k1)), (2, (1, v1)), (4, (0, k2)), (5, (1, v2))] [] S (fun o Z => (∃ A : wS, pnR S A ∧ (((12000 ≤ u2 ∨ 200000 < u3 + ((l1.length : Int) + (l2.length : Int))) ∧ o = .inr 238 ∧ hZ 99 A = Z) ∨ (u2 < 12000 ∧ u3 + ((l1.length : Int) + (l2.length : Int)) ≤ 200000 ∧ o = .inl (some (0, 4000 + m)) ∧ jtA (l1 ++ l2) m bt u2 u3 A Z)))) := by
  have hlv := vL_len (k := k1) (v := v1)
  rw [← hl1] at hlv
  refine wa_aload_n (n := 0) rfl ?_
  refine wa_iconst ?_
  refine wb_pfi 237 rfl (wy_pr rfl) wt_237 wf_15_113 (n := 113) rfl ⟨(by omega), (by omega)⟩ ?_
  refine wa_iload_n (n := 1) rfl ?_
  refine wa_iconst ?_
  refine wa_icmpeq (w_rg0 (by omega) (by omega)) (w_rg0 (by omega) (by omega)) ⟨_, rfl⟩ (fun c1 => ?_) (fun c1 => ?_)
  · skip
    exact absurd c1 (by omega)
  · skip
    refine wa_aload_n (n := 0) rfl ?_
    refine wa_iload_n (n := 1) rfl ?_
    refine wa_lload_n (n := 2) rfl ?_
    refine wa_cv 237 rfl (wy_pr rfl) wt_237 (M2 := fun _ => False) rfl at_M_print ⟨_, rfl⟩ rfl rfl ⟨(Or.inr ⟨wy_pr rfl, fun q => q⟩), trivial, trivial, trivial, trivial, trivial⟩ trivial (fun _ _ q => False.elim q) (mprn (S := (w_up S 237 113 0)) (k := k1) (v := v1) hX (w_ML_up hM (by decide)) (w_up_same _ _ _ _) (by omega) hv1) (fun oq2 Sq2 hp3 q2 => ?_)
    rcases q2 with ⟨rfl, hsp⟩
    show wJ _ _ _ _ _ _ _ _ _ _
    rw [← hl1] at hsp
    have hspF := hsp.2.2.1
    have hspM := hsp.2.2.2
    have hs13 := hsp.2.1.trans (Int.zero_add _)
    refine wa_fall ⟨_, rfl⟩ ?_
    refine wa_iload (n := 4) rfl ?_
    refine wa_iconst ?_
    refine wa_icmpeq (w_rg0 (by omega) (by omega)) (w_rg0 (by omega) (by omega)) ⟨_, rfl⟩ (fun c4 => ?_) (fun c4 => ?_)
    · skip
      refine wa_iload_n (n := 1) rfl ?_
      refine wa_iconst ?_
      refine wa_icmpne (w_rg0 (by omega) (by omega)) (w_rg0 (by omega) (by omega)) ⟨_, rfl⟩ (fun c5 => ?_) (fun c5 => ?_)
      · skip
        refine wa_aload_n (n := 0) rfl ?_
        refine wb_gfi 237 rfl (wy_pr rfl) wt_237 wf_15_113 (v := (l1.length : Int)) (hs13) (fun r6 => ?_)
        refine wa_fall ⟨_, rfl⟩ ?_
        refine wa_istore (n := 7) rfl ?_
        refine wa_iload (n := 4) rfl ?_
        refine wa_iconst ?_
        refine wa_icmpne (w_rg0 (by omega) (by omega)) (w_rg0 (by omega) (by omega)) ⟨_, rfl⟩ (fun c7 => ?_) (fun c7 => ?_)
        · skip
          exact absurd c7 (by omega)
        · skip
          refine wa_aload_n (n := 0) rfl ?_
          refine wb_gf4 237 rfl (wy_pr rfl) wt_237 wf_15_23 (v := 285) wl_237_23 ?_
          refine wa_lload (n := 5) rfl ?_
          refine wb_l2i_r (y := v2) (wb_l2i_id ⟨by omega, by omega⟩) ?_
          refine wb_iald 285 rfl (wy_pr rfl) wt_285 (n := 16000) (((hspF 285 (-1) (Or.inl (by decide)) (by omega)).trans ((w_up_slot (by decide)).trans ((ml_285 hM))))) (by omega) (by omega) (v := (l2.length : Int)) (((hspF 285 v2 (Or.inl (by decide)) (by omega)).trans ((w_up_slot (by decide)).trans (h85_2)))) (fun r8 => ?_)
          refine wa_goto ⟨_, rfl⟩ ?_
          refine wa_istore (n := 8) rfl ?_
          refine wa_aload_n (n := 0) rfl ?_
          refine wa_iload (n := 7) rfl ?_
          refine wa_iload (n := 8) rfl ?_
          refine wa_iadd ?_
          have hpn : pnR S Sq2 := ⟨fun j x j0 j1 => (hspF j x (by omega) j1).trans (w_up_no (by omega)), hspM⟩
          have r102x : Sq2 237 102 = m := (hpn.1 237 102 (Or.inl (by first | decide | omega)) (by first | decide | omega)).trans h102
          have r103x : Sq2 237 103 = bt := (hpn.1 237 103 (Or.inl (by first | decide | omega)) (by first | decide | omega)).trans h103
          have r64x : Sq2 237 64 = u2 := (hpn.1 237 64 (Or.inl (by first | decide | omega)) (by first | decide | omega)).trans h64
          have r65x : Sq2 237 65 = u3 := (hpn.1 237 65 (Or.inl (by first | decide | omega)) (by first | decide | omega)).trans h65
          refine wa_cv 237 rfl (wy_pr rfl) wt_237 (M2 := fun _ => False) rfl at_M_newText ⟨_, rfl⟩ rfl rfl ⟨trivial, trivial, (Or.inr ⟨wy_pr rfl, fun q => q⟩), trivial, trivial, trivial, trivial, trivial⟩ trivial (fun _ _ q => False.elim q) (ntx_okL (S := Sq2) (n := ((l1.length : Int) + (l2.length : Int))) (m := m) (bt := bt) (u2 := u2) (u3 := u3) hpn.2 r102x r103x r64x r65x hm hbt hu2 hu3 ⟨by omega, by omega⟩) (fun oq9 Sq9 hp10 q9 => ?_)
          rcases q9 with ⟨hno, rfl, rfl⟩ | ⟨hy1, hy2, rfl, rfl⟩
          · skip
            refine ⟨rfl, ?_⟩
            exact ⟨Sq2, hpn, Or.inl ⟨hno, rfl, rfl⟩⟩
          · skip
            show wJ _ _ _ _ _ _ _ _ _ _
            refine wa_istore (n := 9) rfl ?_
            refine wa_iconst ?_
            refine wa_istore (n := 10) rfl ?_
            refine wa_fall ⟨_, rfl⟩ ?_
            have hnv := nxZ_v (S := Sq2) (n := ((l1.length : Int) + (l2.length : Int))) (m := m) (bt := bt) (u2 := u2) (u3 := u3)
            have e0 : ∀ (j : Nat) (x : Int), j ≠ 284 → j ≠ 285 → j ≠ 237 → (j ≠ 345 ∨ x < 0) → (nxZ ((l1.length : Int) + (l2.length : Int)) m bt u2 u3 Sq2) j x = S j x := fun j x j0 j1 j2 j3 => (nxZ_e j x (Or.inl ⟨j0, j1⟩) (Or.inl j2)).trans (hpn.1 j x j3 (Or.inl j2))
            have hMX : w_ML (nxZ ((l1.length : Int) + (l2.length : Int)) m bt u2 u3 Sq2) := nxZ_m hpn.2 hm.1
            refine wJ_S (jl1s (k1 := k1) (v1 := v1) (k2 := k2) (v2 := v2) (kk := 4000 + m) (p0 := 69632 + bt) (l1 := l1) (l2 := l2) (S0 := (nxZ ((l1.length : Int) + (l2.length : Int)) m bt u2 u3 Sq2)) (fq := 0) hnv.1 ⟨by omega, by omega⟩ ⟨by omega, by omega⟩ ⟨⟨by omega, by omega⟩, by omega, by omega⟩ (by omega) (fun i hi => (nxZ_e 345 _ (Or.inl (by first | decide | omega)) (Or.inl (by first | decide | omega))).trans (by have z := hsp.1 i hi; rw [Int.zero_add] at z; exact z)) (by omega) (fun Y hY => ?_) l1.length 0 (nxZ ((l1.length : Int) + (l2.length : Int)) m bt u2 u3 Sq2) (by omega) ⟨fun k hk => absurd hk (Nat.not_lt_zero _), fun _ _ _ => rfl, hMX⟩) ⟨rfl, rfl, rfl, rfl, rfl, rfl, rfl, rfl, rfl, trivial⟩
            refine wa_iconst ?_
            refine wa_istore (n := 10) rfl ?_
            refine wa_fall ⟨_, rfl⟩ ?_
            refine wJ_S (jl2t (k1 := k1) (v1 := v1) (k2 := k2) (v2 := v2) (kk := 4000 + m) (p0 := 69632 + bt) (l1 := l1) (l2 := l2) (S0 := Y) (fq := f2) ((hY.2.1 284 _ (Or.inl (by first | decide | omega))).trans hnv.1) ⟨by omega, by omega⟩ ⟨by omega, by omega⟩ ⟨⟨by omega, by omega⟩, by omega, by omega⟩ hk2 ⟨by omega, by omega⟩ ((hY.2.1 284 v2 (Or.inl (by first | decide | omega))).trans ((nxZ_e 284 v2 (Or.inr (by omega)) (Or.inl (by first | decide | omega))).trans ((hpn.1 284 v2 (Or.inl (by first | decide | omega)) (Or.inl (by first | decide | omega))).trans h84_2))) hf2 (fun i hi => (hY.2.1 283 _ (Or.inr (Or.inl (by omega)))).trans ((e0 283 _ (by first | decide | omega) (by first | decide | omega) (by first | decide | omega) (Or.inl (by first | decide | omega))).trans (hs2 i hi))) (fun V hV => ?_) l2.length 0 Y (by omega) ⟨fun k hk => absurd hk (Nat.not_lt_zero _), fun _ _ _ => rfl, hY.2.2⟩) ⟨rfl, rfl, rfl, rfl, rfl, rfl, rfl, rfl, rfl, trivial⟩
            refine wa_iload (n := 9) rfl ?_
            refine wa_ireturn rfl ?_
            exact ⟨Sq2, hpn, Or.inr ⟨hy1, hy2, rfl, jtA_of hY hV hm.1⟩⟩
      · skip
        exact absurd c5 (by omega)
    · skip
      exact absurd c4 (by omega)
end Wi9
