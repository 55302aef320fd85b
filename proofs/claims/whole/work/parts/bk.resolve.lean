/-! PART bk: the Compiler's resolve, the Code's addInstructions. -/
section Wbk
variable {xs : List (Nat × List Int32)} {M : Nat → Prop} {d : Nat} {A B C S Z : wS} {Q : wO → wS → Prop} {T : Int → Int} {n : Int} {N X : List (List Int)} {c i : Nat} {f u w : Int} {I : List pz_I} {F : List pz_F}
/-- the functions of a unit, when all of it has been read -/
def kf_I (f : Int) (F : List pz_F) (S : wS) : Prop := (w_CL S ∧ va_L S) ∧ (S 63 10 = (F.length : Int) ∧ 0 ≤ f ∧ f + (F.length : Int) ≤ 400) ∧ ∀ g : Int, f ≤ g → g < f + (F.length : Int) → (S 28 g = (pz_f f F g).1 ∧ ((pz_f f F g).1 = -1 ∨ f ≤ (pz_f f F g).1) ∧ (pz_f f F g).1 < g) ∧ fv_I S g (pz_f f F g).2.2 ∧ (pz_f f F g).2.2.length ≤ 1000000
theorem kf_of (h : cQ T n N X c f u w i I F S) : kf_I f F S := by
  refine ⟨⟨h.2.1.2, h.2.2.2.2.2.1.1⟩, ⟨h.2.2.2.1.2.1, (cQ_ur h).2⟩, fun g g1 g2 => ?_⟩
  obtain ⟨x1, x2, x3, x4⟩ := cQ_fn h ⟨g1, g2⟩
  have h6 := (cQ_h6 h).2
  exact ⟨⟨x1.1, (cQ_fa h ⟨g1, g2⟩).1, x1.2.2⟩, x2, by omega⟩
theorem kf_ag (h : kf_I f F S) (hC : w_CL Z) (e : ∀ (j : Nat) (x : Int), (j = 23 ∨ j = 28 ∨ j = 29 ∨ j = 63 ∨ j = 68 ∨ j = 69 ∨ j = 70) → Z j x = S j x) : kf_I f F Z := by
  have e23 : Z 23 = S 23 := funext fun x => e 23 x (by omega)
  have e28 : Z 28 = S 28 := funext fun x => e 28 x (by omega)
  have e29 : Z 29 = S 29 := funext fun x => e 29 x (by omega)
  have e63 : Z 63 = S 63 := funext fun x => e 63 x (by omega)
  have e68 : Z 68 = S 68 := funext fun x => e 68 x (by omega)
  have e69 : Z 69 = S 69 := funext fun x => e 69 x (by omega)
  have e70 : Z 70 = S 70 := funext fun x => e 70 x (by omega)
  unfold kf_I va_L fv_I at h ⊢
  rw [e23, e28, e29, e63, e68, e69, e70]
  exact ⟨⟨hC, h.1.2⟩, h.2⟩
/-- whose variable a name is: how far out, which -/
def rvf (f : Int) (F : List pz_F) (y : Int) : Nat → Int → Int → Option (Int × Int)
  | 0, _, _ => none
  | m + 1, g, o => if g = -1 then none else if vix (pz_f f F g).2.2 y = -1 then rvf f F y m (pz_f f F g).1 (o + 1) else some (o, vix (pz_f f F g).2.2 y)
theorem rvf_n {y o : Int} (m : Nat) : rvf f F y m (-1) o = none := by
  cases m with
  | zero => rfl
  | succ m => exact if_pos rfl
theorem rvf_1 {y g o : Int} {m : Nat} (h : g ≠ -1) (hv : vix (pz_f f F g).2.2 y = -1) : rvf f F y (m + 1) g o = rvf f F y m (pz_f f F g).1 (o + 1) := by
  show (if g = -1 then none else if vix (pz_f f F g).2.2 y = -1 then rvf f F y m (pz_f f F g).1 (o + 1) else some (o, vix (pz_f f F g).2.2 y)) = _
  rw [if_neg h, if_pos hv]
theorem rvf_2 {y g o : Int} {m : Nat} (h : g ≠ -1) (hv : vix (pz_f f F g).2.2 y ≠ -1) : rvf f F y (m + 1) g o = some (o, vix (pz_f f F g).2.2 y) := by
  show (if g = -1 then none else if vix (pz_f f F g).2.2 y = -1 then rvf f F y m (pz_f f F g).1 (o + 1) else some (o, vix (pz_f f F g).2.2 y)) = _
  rw [if_neg h, if_neg hv]
/-- a name's instruction is made one of a variable -/
def rs_S (S : wS) (at0 : Int) : Option (Int × Int) → wS
  | none => S
  | some (o, v) => w_up (w_up (w_up S 31 at0 (if S 31 at0 = 3 then 1 else 2)) 32 at0 o) 33 at0 v
theorem rs_l {y at0 h0 : Int} (hk : kf_I f F S) (hy : -2147483648 ≤ y ∧ y ≤ 2147483647) (ha : 0 ≤ at0 ∧ at0 < S 31 (-1)) (l32 : S 32 (-1) = S 31 (-1)) (l33 : S 33 (-1) = S 31 (-1)) : ∀ (m : Nat) (g o : Int), (g = -1 ∨ (f ≤ g ∧ g < f + (F.length : Int) ∧ o + (g - f) < (F.length : Int))) → g - f + 1 ≤ (m : Int) → (0 ≤ o ∧ o ≤ (F.length : Int)) → wJ (pe_GA xs) wY0 M (d + 1) t_XP_resolve ((pe_at t_XP_resolve.bl 1).getD (0, [])).2 [(0, (2, 63)), (1, (0, h0)), (2, (0, at0)), (3, (0, y)), (4, (0, g)), (5, (0, o))] [] S (fun q Z => q = .inl none ∧ rs_S S at0 (rvf f F y m g o) = Z) := by
  have hC := hk.1.1
  obtain ⟨k1, k2, k3⟩ := hk.2.1
  intro m
  induction m with
  | zero =>
    intro g o hg hm ho
    have e : g = -1 := by omega
    subst e
    refine wa_iload (n := 4) rfl ?_
    refine wa_iconst ?_
    refine wa_icmpeq (w_rg0 (by omega) (by omega)) (w_rg0 (by omega) (by omega)) ⟨_, rfl⟩ (fun c101 => ?_) (fun c101 => ?_)
    · skip
      refine wa_return rfl ?_
      exact ⟨rfl, by rw [rvf_n]; rfl⟩
    · skip
      exact absurd c101 (by omega)
  | succ m ih =>
    intro g o hg hm ho
    by_cases e : g = -1
    · subst e
      refine wa_iload (n := 4) rfl ?_
      refine wa_iconst ?_
      refine wa_icmpeq (w_rg0 (by omega) (by omega)) (w_rg0 (by omega) (by omega)) ⟨_, rfl⟩ (fun c101 => ?_) (fun c101 => ?_)
      · skip
        refine wa_return rfl ?_
        exact ⟨rfl, by rw [rvf_n]; rfl⟩
      · skip
        exact absurd c101 (by omega)
    · obtain ⟨⟨q1, q2, q3⟩, q4, q5⟩ := hk.2.2 g (by omega) (by omega)
      refine wa_iload (n := 4) rfl ?_
      refine wa_iconst ?_
      refine wa_icmpeq (w_rg0 (by omega) (by omega)) (w_rg0 (by omega) (by omega)) ⟨_, rfl⟩ (fun c101 => ?_) (fun c101 => ?_)
      · skip
        refine wa_return rfl ?_
        exfalso; omega
      · skip
        refine wa_iload (n := 5) rfl ?_
        refine wa_aload_n (n := 0) rfl ?_
        refine wb_gfi 63 rfl (wy_pr rfl) wt_63 wf_1_10 (v := (F.length : Int)) (k1) (fun r102 => ?_)
        refine wa_icmpgt (w_rg0 (by omega) (by omega)) (w_rg0 (by omega) (by omega)) ⟨_, rfl⟩ (fun c103 => ?_) (fun c103 => ?_)
        · skip
          refine wa_return rfl ?_
          exfalso; omega
        · skip
          refine wa_aload_n (n := 0) rfl ?_
          refine wa_iload (n := 4) rfl ?_
          refine wa_iload_n (n := 3) rfl ?_
          refine wa_cv 63 rfl (wy_pr rfl) wt_63 (M2 := fun _ => False) rfl at_XP_variableOf ⟨_, rfl⟩ rfl rfl ⟨(Or.inr ⟨wy_pr rfl, fun q => q⟩), trivial, trivial, trivial, trivial, trivial, trivial⟩ trivial (fun _ _ q => False.elim q) (vo_ok (S := S) hC hk.1.2 ⟨by omega, by omega⟩ hy q4 (by omega)) (fun oq104 Sq104 hp105 q104 => ?_)
          rcases q104 with ⟨rfl, rfl⟩
          show wJ _ _ _ _ _ _ _ _ _ _
          have vr := vix_rg (pz_f f F g).2.2 y
          refine wa_istore (n := 6) rfl ?_
          refine wa_iload (n := 6) rfl ?_
          refine wa_iconst ?_
          refine wa_icmpeq (w_rg0 (by omega) (by omega)) (w_rg0 (by omega) (by omega)) ⟨_, rfl⟩ (fun c106 => ?_) (fun c106 => ?_)
          · skip
            refine wa_aload_n (n := 0) rfl ?_
            refine wb_gf4 63 rfl (wy_pr rfl) wt_63 wf_1_9 (v := 20) wl_63_9 ?_
            refine wa_bipush (w_rg2 (by omega) (by omega)) ?_
            refine wb_aald5 20 7 rfl rfl (wy_pr rfl) wt_20 (by rw [show _ = _ from ((cl_20 hC))]; omega) wl_20_7 ?_
            refine wa_iload (n := 4) rfl ?_
            refine wb_iald 28 rfl (wy_pr rfl) wt_28 (n := 400) ((cl_28 hC)) (by omega) (by omega) (v := (pz_f f F g).1) (q1) (fun r107 => ?_)
            refine wa_istore (n := 4) rfl ?_
            refine wa_iinc rfl rfl ?_
            refine wa_goto ⟨_, rfl⟩ ?_
            rw [rvf_1 e (by omega)]
            exact wJ_S (ih (pz_f f F g).1 (o + 1) (by omega) (by omega) (by omega)) ⟨rfl, rfl, rfl, rfl, rfl, rfl, trivial⟩
          · skip
            refine wa_aload_n (n := 0) rfl ?_
            refine wb_gf4 63 rfl (wy_pr rfl) wt_63 wf_1_2 (v := 19) wl_63_2 ?_
            refine wb_gf4 19 rfl (wy_pr rfl) wt_19 wf_0_4 (v := 31) wl_19_4 ?_
            refine wa_iload_n (n := 2) rfl ?_
            refine wa_aload_n (n := 0) rfl ?_
            refine wb_gf4 63 rfl (wy_pr rfl) wt_63 wf_1_2 (v := 19) wl_63_2 ?_
            refine wb_gf4 19 rfl (wy_pr rfl) wt_19 wf_0_4 (v := 31) wl_19_4 ?_
            refine wa_iload_n (n := 2) rfl ?_
            refine wb_iald 31 rfl (wy_pr rfl) wt_31 (n := (S 31 (-1))) rfl (by omega) (by omega) (v := (S 31 at0)) rfl (fun r108 => ?_)
            refine wa_iconst ?_
            refine wa_icmpne (w_rg0 (by omega) (by omega)) (w_rg0 (by omega) (by omega)) ⟨_, rfl⟩ (fun c109 => ?_) (fun c109 => ?_)
            · skip
              refine wa_iconst ?_
              refine wa_fall ⟨_, rfl⟩ ?_
              refine wb_iast 31 rfl (wy_pr rfl) wt_31 (n := (S 31 (-1))) rfl (by omega) (by omega) ⟨(by omega), (by omega)⟩ ?_
              refine wa_aload_n (n := 0) rfl ?_
              refine wb_gf4 63 rfl (wy_pr rfl) wt_63 wf_1_2 (v := 19) wl_63_2 ?_
              refine wb_gf4 19 rfl (wy_pr rfl) wt_19 wf_0_5 (v := 32) wl_19_5 ?_
              refine wa_iload_n (n := 2) rfl ?_
              refine wa_iload (n := 5) rfl ?_
              refine wb_iast 32 rfl (wy_pr rfl) wt_32 (n := (S 31 (-1))) ((w_up_slot (by decide)).trans (l32)) (by omega) (by omega) ⟨(by omega), (by omega)⟩ ?_
              refine wa_aload_n (n := 0) rfl ?_
              refine wb_gf4 63 rfl (wy_pr rfl) wt_63 wf_1_2 (v := 19) wl_63_2 ?_
              refine wb_gf4 19 rfl (wy_pr rfl) wt_19 wf_0_6 (v := 33) wl_19_6 ?_
              refine wa_iload_n (n := 2) rfl ?_
              refine wa_iload (n := 6) rfl ?_
              refine wb_iast 33 rfl (wy_pr rfl) wt_33 (n := (S 31 (-1))) ((w_up_slot (by decide)).trans ((w_up_slot (by decide)).trans (l33))) (by omega) (by omega) ⟨(by omega), (by omega)⟩ ?_
              refine wa_return rfl ?_
              refine ⟨rfl, ?_⟩
              rw [rvf_2 e (by omega)]
              show w_up (w_up (w_up S 31 at0 (if S 31 at0 = 3 then 1 else 2)) 32 at0 o) 33 at0 _ = _
              first | rw [if_pos (by omega)] | rw [if_neg (by omega)]
            · skip
              refine wa_iconst ?_
              refine wa_goto ⟨_, rfl⟩ ?_
              refine wb_iast 31 rfl (wy_pr rfl) wt_31 (n := (S 31 (-1))) rfl (by omega) (by omega) ⟨(by omega), (by omega)⟩ ?_
              refine wa_aload_n (n := 0) rfl ?_
              refine wb_gf4 63 rfl (wy_pr rfl) wt_63 wf_1_2 (v := 19) wl_63_2 ?_
              refine wb_gf4 19 rfl (wy_pr rfl) wt_19 wf_0_5 (v := 32) wl_19_5 ?_
              refine wa_iload_n (n := 2) rfl ?_
              refine wa_iload (n := 5) rfl ?_
              refine wb_iast 32 rfl (wy_pr rfl) wt_32 (n := (S 31 (-1))) ((w_up_slot (by decide)).trans (l32)) (by omega) (by omega) ⟨(by omega), (by omega)⟩ ?_
              refine wa_aload_n (n := 0) rfl ?_
              refine wb_gf4 63 rfl (wy_pr rfl) wt_63 wf_1_2 (v := 19) wl_63_2 ?_
              refine wb_gf4 19 rfl (wy_pr rfl) wt_19 wf_0_6 (v := 33) wl_19_6 ?_
              refine wa_iload_n (n := 2) rfl ?_
              refine wa_iload (n := 6) rfl ?_
              refine wb_iast 33 rfl (wy_pr rfl) wt_33 (n := (S 31 (-1))) ((w_up_slot (by decide)).trans ((w_up_slot (by decide)).trans (l33))) (by omega) (by omega) ⟨(by omega), (by omega)⟩ ?_
              refine wa_return rfl ?_
              refine ⟨rfl, ?_⟩
              rw [rvf_2 e (by omega)]
              show w_up (w_up (w_up S 31 at0 (if S 31 at0 = 3 then 1 else 2)) 32 at0 o) 33 at0 _ = _
              first | rw [if_pos (by omega)] | rw [if_neg (by omega)]
theorem rs_ok {at0 g : Int} (hk : kf_I f F S) (hg : f ≤ g ∧ g < f + (F.length : Int)) (ha : 0 ≤ at0 ∧ at0 < S 31 (-1)) (l32 : S 32 (-1) = S 31 (-1)) (l33 : S 33 (-1) = S 31 (-1)) : wJ (pe_GA xs) wY0 M (d + 1) t_XP_resolve ((pe_at t_XP_resolve.bl 0).getD (0, [])).2 [(0, (2, 63)), (1, (0, g)), (2, (0, at0))] [] S (fun q Z => q = .inl none ∧ rs_S S at0 (rvf f F (S 32 at0) F.length g 0) = Z) := by
  have hC := hk.1.1
  obtain ⟨k1, k2, k3⟩ := hk.2.1
  refine wa_aload_n (n := 0) rfl ?_
  refine wb_gf4 63 rfl (wy_pr rfl) wt_63 wf_1_2 (v := 19) wl_63_2 ?_
  refine wb_gf4 19 rfl (wy_pr rfl) wt_19 wf_0_5 (v := 32) wl_19_5 ?_
  refine wa_iload_n (n := 2) rfl ?_
  refine wb_iald 32 rfl (wy_pr rfl) wt_32 (n := (S 31 (-1))) (l32) (by omega) (by omega) (v := (S 32 at0)) rfl (fun r101 => ?_)
  refine wa_istore_n (n := 3) rfl ?_
  refine wa_iload_n (n := 1) rfl ?_
  refine wa_istore (n := 4) rfl ?_
  refine wa_iconst ?_
  refine wa_istore (n := 5) rfl ?_
  refine wa_fall ⟨_, rfl⟩ ?_
  exact wJ_S (rs_l hk (by omega) ha l32 l33 F.length g 0 (by omega) (by omega) (by omega)) ⟨rfl, rfl, rfl, rfl, rfl, rfl, trivial⟩
/-- room for m instructions more -/
def ai_ag (m : Int) (S Z : wS) : Prop := Z 19 7 = S 19 7 + m ∧ (Z 32 (-1) = Z 31 (-1) ∧ Z 33 (-1) = Z 31 (-1) ∧ S 19 7 + m ≤ Z 31 (-1) ∧ 64 ≤ Z 31 (-1) ∧ (Z 31 (-1) ≤ 40000 ∧ (Z 31 (-1) ≤ S 31 (-1) ∨ Z 31 (-1) ≤ 2 * (S 19 7 + m)))) ∧ (∀ i : Int, 0 ≤ i → i < S 31 (-1) → Z 31 i = S 31 i ∧ Z 32 i = S 32 i ∧ Z 33 i = S 33 i) ∧ (∀ (j : Nat) (i : Int), j < 4000000 → j ≠ wG → j ≠ 31 → j ≠ 32 → j ≠ 33 → (j ≠ 19 ∨ i ≠ 7) → Z j i = S j i) ∧ gI Z ∧ rmR S Z
theorem ai_ok {m : Int} (hI : gI S) (hm : 0 ≤ m) (h7 : 0 ≤ S 19 7 ∧ S 19 7 + m ≤ 20000) (l32 : S 32 (-1) = S 31 (-1)) (l33 : S 33 (-1) = S 31 (-1)) (hL : 64 ≤ S 31 (-1) ∧ S 31 (-1) ≤ 40000) : wJ (pe_GA xs) wY0 (mS [31, 32, 33]) (d + 2) t_XC_addInstructions ((pe_at t_XC_addInstructions.bl 0).getD (0, [])).2 [(0, (2, 19)), (1, (0, m))] [] S (fun q Z => q = .inl none ∧ ai_ag m S Z) := by
  have hR := rmR_rfl S
  refine wa_aload_n (n := 0) rfl ?_
  refine wa_dup (by decide) ?_
  refine wb_gfi 19 rfl (wy_pr rfl) wt_19 wf_0_7 (v := (S 19 7)) rfl (fun r101 => ?_)
  refine wa_iload_n (n := 1) rfl ?_
  refine wa_iadd ?_
  refine wb_pfi 19 rfl (wy_pr rfl) wt_19 wf_0_7 (n := 7) rfl ⟨(by omega), (by omega)⟩ ?_
  refine wa_aload_n (n := 0) rfl ?_
  refine wb_gfi 19 rfl (wy_pr rfl) wt_19 wf_0_7 (v := ((S 19 7) + m)) (w_up_same _ _ _ _) (fun r102 => ?_)
  refine wa_aload_n (n := 0) rfl ?_
  refine wb_gf4 19 rfl (wy_pr rfl) wt_19 wf_0_4 (v := 31) wl_19_4 ?_
  refine wb_alen 31 rfl (wy_pr rfl) (by rw [wt_31]; rfl) (v := (S 31 (-1))) (w_up_slot (by decide)) (fun r103 => ?_)
  refine wa_icmple (w_rg0 (by omega) (by omega)) (w_rg0 (by omega) (by omega)) ⟨_, rfl⟩ (fun c104 => ?_) (fun c104 => ?_)
  · skip
    refine wa_return rfl ?_
    exact ⟨rfl, w_up_same _ _ _ _, ⟨l32, l33, by show S 19 7 + m ≤ S 31 (-1); omega, hL.1, hL.2, Or.inl (Int.le_refl _)⟩, fun i i0 i1 => ⟨rfl, rfl, rfl⟩, fun j i j0 j1 j2 j3 j4 j5 => w_up_no (by omega), (gI_up hI (by omega) (by omega) (by omega)), (rmR_up hR (by omega) (by decide))⟩
  · skip
    refine wa_aload_n (n := 0) rfl ?_
    refine wb_gfi 19 rfl (wy_pr rfl) wt_19 wf_0_7 (v := ((S 19 7) + m)) (w_up_same _ _ _ _) (fun r105 => ?_)
    refine wa_aload_n (n := 0) rfl ?_
    refine wb_gf4 19 rfl (wy_pr rfl) wt_19 wf_0_4 (v := 31) wl_19_4 ?_
    refine wb_alen 31 rfl (wy_pr rfl) (by rw [wt_31]; rfl) (v := (S 31 (-1))) (w_up_slot (by decide)) (fun r106 => ?_)
    refine wa_iconst ?_
    refine wa_imul ?_
    refine wa_cs (M2 := fun _ => False) rfl at_JM_max ⟨_, rfl⟩ rfl rfl ⟨(Or.inr ⟨wy_pr rfl, fun q => q⟩), trivial, trivial⟩ trivial (fun _ _ q => False.elim q) ?_ (fun _ _ _ q => q)
    refine wa_iload_n (n := 0) rfl ?_
    refine wa_iload_n (n := 1) rfl ?_
    refine wa_icmplt (w_rg0 (by omega) (by omega)) (w_rg0 (by omega) (by omega)) ⟨_, rfl⟩ (fun c107 => ?_) (fun c107 => ?_)
    · skip
      refine wa_iload_n (n := 1) rfl ?_
      refine wa_fall ⟨_, rfl⟩ ?_
      refine wa_ireturn rfl ?_
      show wJ _ _ _ _ _ _ _ _ _ _
      refine wa_istore_n (n := 2) rfl ?_
      refine wa_aload_n (n := 0) rfl ?_
      refine wa_aload_n (n := 0) rfl ?_
      refine wb_gf4 19 rfl (wy_pr rfl) wt_19 wf_0_4 (v := 31) wl_19_4 ?_
      refine wa_iload_n (n := 2) rfl ?_
      refine wa_cs (M2 := fun _ => False) rfl at_JA_copyOf_2 ⟨_, rfl⟩ rfl rfl ⟨trivial, (Or.inr ⟨wy_pr rfl, fun q => q⟩), trivial, trivial⟩ ⟨(Or.inr ⟨wy_pr rfl, fun q => q⟩), trivial⟩ (fun _ _ q => False.elim q) (cp_I (S := (w_up S 19 7 ((S 19 7) + m))) (a := 31) (n := ((S 31 (-1)) * 2)) (len := (S 31 (-1))) (wy_pr rfl) wt_31 (w_up_slot (by decide)) ⟨by omega, by omega, by omega⟩) (fun oq108 Sq108 _ q108 => ?_)
      rcases q108 with ⟨rfl, rfl⟩
      show wJ _ _ _ _ _ _ _ _ _ _
      refine wg_pf (S := (w_up S 19 7 ((S 19 7) + m))) (len := (S 31 (-1))) 0 19 31 rfl rfl rfl wt_19 wf_0_4 wl_19_4 (by decide +kernel) wt_31 (by decide) (by decide +kernel) (gI_up hI (by omega) (by omega) (by omega)) (fun q => absurd q (by decide)) (by decide) ⟨by omega, by omega⟩ (w_up_slot (by decide)) (fun _ => ⟨Or.inr (by decide), Or.inl (nN_ge _)⟩) ⟨trivial, (Or.inr ⟨wy_pr rfl, mS_no rfl⟩), trivial, trivial⟩ trivial (fun Z109 g110 gi111 => ?_)
      have rm112 := rmR_gr (rmR_up hR (by omega) (by decide)) g110 (by decide +kernel) (len := (S 31 (-1))) (w_up_slot (by decide)) ⟨by omega, by omega⟩ ⟨fun q => by first | omega | exact absurd q (by decide), by show _ ≤ (100000000 : Int); omega⟩
      refine wa_aload_n (n := 0) rfl ?_
      refine wa_aload_n (n := 0) rfl ?_
      refine wb_gf4 19 rfl (wy_pr rfl) wt_19 wf_0_5 (v := 32) wl_19_5 ?_
      refine wa_iload_n (n := 2) rfl ?_
      refine wa_cs (M2 := fun _ => False) rfl at_JA_copyOf_2 ⟨_, rfl⟩ rfl rfl ⟨trivial, (Or.inr ⟨wy_pr rfl, fun q => q⟩), trivial, trivial⟩ ⟨(Or.inr ⟨wy_pr rfl, fun q => q⟩), trivial⟩ (fun _ _ q => False.elim q) (cp_I (S := Z109) (a := 32) (n := ((S 31 (-1)) * 2)) (len := (S 31 (-1))) (wy_pr rfl) wt_32 (((congrFun (g110.2.2.1 32 (by decide) (by decide) (by decide)) (-1)).trans ((w_up_slot (by decide)).trans (l32)))) ⟨by omega, by omega, by omega⟩) (fun oq113 Sq113 _ q113 => ?_)
      rcases q113 with ⟨rfl, rfl⟩
      show wJ _ _ _ _ _ _ _ _ _ _
      refine wg_pf (S := Z109) (len := (S 31 (-1))) 0 19 32 rfl rfl rfl wt_19 wf_0_5 wl_19_5 (by decide +kernel) wt_32 (by decide) (by decide +kernel) gi111 (fun q => absurd q (by decide)) (by decide) ⟨by omega, by omega⟩ (((congrFun (g110.2.2.1 32 (by decide) (by decide) (by decide)) (-1)).trans ((w_up_slot (by decide)).trans (l32)))) (fun _ => ⟨Or.inr (by decide), Or.inl (nN_ge _)⟩) ⟨trivial, (Or.inr ⟨wy_pr rfl, mS_no rfl⟩), trivial, trivial⟩ trivial (fun Z114 g115 gi116 => ?_)
      have rm117 := rmR_gr rm112 g115 (by decide +kernel) (len := (S 31 (-1))) (((congrFun (g110.2.2.1 32 (by decide) (by decide) (by decide)) (-1)).trans ((w_up_slot (by decide)).trans (l32)))) ⟨by omega, by omega⟩ ⟨fun q => by first | omega | exact absurd q (by decide), by show _ ≤ (100000000 : Int); omega⟩
      refine wa_aload_n (n := 0) rfl ?_
      refine wa_aload_n (n := 0) rfl ?_
      refine wb_gf4 19 rfl (wy_pr rfl) wt_19 wf_0_6 (v := 33) wl_19_6 ?_
      refine wa_iload_n (n := 2) rfl ?_
      refine wa_cs (M2 := fun _ => False) rfl at_JA_copyOf_2 ⟨_, rfl⟩ rfl rfl ⟨trivial, (Or.inr ⟨wy_pr rfl, fun q => q⟩), trivial, trivial⟩ ⟨(Or.inr ⟨wy_pr rfl, fun q => q⟩), trivial⟩ (fun _ _ q => False.elim q) (cp_I (S := Z114) (a := 33) (n := ((S 31 (-1)) * 2)) (len := (S 31 (-1))) (wy_pr rfl) wt_33 (((congrFun (g115.2.2.1 33 (by decide) (by decide) (by decide)) (-1)).trans (((congrFun (g110.2.2.1 33 (by decide) (by decide) (by decide)) (-1)).trans ((w_up_slot (by decide)).trans (l33)))))) ⟨by omega, by omega, by omega⟩) (fun oq118 Sq118 _ q118 => ?_)
      rcases q118 with ⟨rfl, rfl⟩
      show wJ _ _ _ _ _ _ _ _ _ _
      refine wg_pf (S := Z114) (len := (S 31 (-1))) 0 19 33 rfl rfl rfl wt_19 wf_0_6 wl_19_6 (by decide +kernel) wt_33 (by decide) (by decide +kernel) gi116 (fun q => absurd q (by decide)) (by decide) ⟨by omega, by omega⟩ (((congrFun (g115.2.2.1 33 (by decide) (by decide) (by decide)) (-1)).trans (((congrFun (g110.2.2.1 33 (by decide) (by decide) (by decide)) (-1)).trans ((w_up_slot (by decide)).trans (l33)))))) (fun _ => ⟨Or.inr (by decide), Or.inl (nN_ge _)⟩) ⟨trivial, (Or.inr ⟨wy_pr rfl, mS_no rfl⟩), trivial, trivial⟩ trivial (fun Z119 g120 gi121 => ?_)
      have rm122 := rmR_gr rm117 g120 (by decide +kernel) (len := (S 31 (-1))) (((congrFun (g115.2.2.1 33 (by decide) (by decide) (by decide)) (-1)).trans (((congrFun (g110.2.2.1 33 (by decide) (by decide) (by decide)) (-1)).trans ((w_up_slot (by decide)).trans (l33)))))) ⟨by omega, by omega⟩ ⟨fun q => by first | omega | exact absurd q (by decide), by show _ ≤ (100000000 : Int); omega⟩
      refine wa_fall ⟨_, rfl⟩ ?_
      refine wa_return rfl ?_
      have zz : ∀ (j : Nat) (i : Int), j < 4000000 → j ≠ wG → j ≠ 31 → j ≠ 32 → j ≠ 33 → Z119 j i = (w_up S 19 7 ((S 19 7) + m)) j i := fun j i j0 j1 k31 k32 k33 => (congrFun (g120.2.2.1 j (by omega) j0 j1) i).trans ((congrFun (g115.2.2.1 j (by omega) j0 j1) i).trans ((congrFun (g110.2.2.1 j (by omega) j0 j1) i).trans (rfl)))
      have y31 : ∀ i : Int, 0 ≤ i → i < S 31 (-1) → Z119 31 i = (w_up S 19 7 ((S 19 7) + m)) 31 i := by
        intro i i0 i1
        have f0 : Z119 31 i = Z114 31 i := congrFun (g120.2.2.1 31 (by decide) (by decide) (by decide)) i
        have f1 : Z114 31 i = Z109 31 i := congrFun (g115.2.2.1 31 (by decide) (by decide) (by decide)) i
        have e2 : (w_up S 19 7 ((S 19 7) + m)) 31 (-1) = (S 31 (-1)) := (w_up_slot (by decide))
        have f2 : Z109 31 i = (w_up S 19 7 ((S 19 7) + m)) 31 i := g110.2.1 i i0 (by rw [e2]; omega)
        exact f0.trans (f1.trans (f2.trans (rfl)))
      have n31 : Z119 31 (-1) = ((S 31 (-1)) * 2) := (((congrFun (g120.2.2.1 31 (by decide) (by decide) (by decide)) (-1)).trans (((congrFun (g115.2.2.1 31 (by decide) (by decide) (by decide)) (-1)).trans (g110.1)))))
      have y32 : ∀ i : Int, 0 ≤ i → i < S 31 (-1) → Z119 32 i = (w_up S 19 7 ((S 19 7) + m)) 32 i := by
        intro i i0 i1
        have f0 : Z119 32 i = Z114 32 i := congrFun (g120.2.2.1 32 (by decide) (by decide) (by decide)) i
        have e1 : Z109 32 (-1) = (S 31 (-1)) := (((congrFun (g110.2.2.1 32 (by decide) (by decide) (by decide)) (-1)).trans ((w_up_slot (by decide)).trans (l32))))
        have f1 : Z114 32 i = Z109 32 i := g115.2.1 i i0 (by rw [e1]; omega)
        have f2 : Z109 32 i = (w_up S 19 7 ((S 19 7) + m)) 32 i := congrFun (g110.2.2.1 32 (by decide) (by decide) (by decide)) i
        exact f0.trans (f1.trans (f2.trans (rfl)))
      have n32 : Z119 32 (-1) = ((S 31 (-1)) * 2) := (((congrFun (g120.2.2.1 32 (by decide) (by decide) (by decide)) (-1)).trans (g115.1)))
      have y33 : ∀ i : Int, 0 ≤ i → i < S 31 (-1) → Z119 33 i = (w_up S 19 7 ((S 19 7) + m)) 33 i := by
        intro i i0 i1
        have e0 : Z114 33 (-1) = (S 31 (-1)) := (((congrFun (g115.2.2.1 33 (by decide) (by decide) (by decide)) (-1)).trans (((congrFun (g110.2.2.1 33 (by decide) (by decide) (by decide)) (-1)).trans ((w_up_slot (by decide)).trans (l33))))))
        have f0 : Z119 33 i = Z114 33 i := g120.2.1 i i0 (by rw [e0]; omega)
        have f1 : Z114 33 i = Z109 33 i := congrFun (g115.2.2.1 33 (by decide) (by decide) (by decide)) i
        have f2 : Z109 33 i = (w_up S 19 7 ((S 19 7) + m)) 33 i := congrFun (g110.2.2.1 33 (by decide) (by decide) (by decide)) i
        exact f0.trans (f1.trans (f2.trans (rfl)))
      have n33 : Z119 33 (-1) = ((S 31 (-1)) * 2) := (g120.1)
      exact ⟨rfl, (zz 19 7 (by decide) (by decide) (by decide) (by decide) (by decide)).trans (w_up_same _ _ _ _), ⟨n32.trans n31.symm, n33.trans n31.symm, by rw [n31]; omega, by rw [n31]; omega, by rw [n31]; omega⟩, fun i i0 i1 => ⟨(y31 i i0 i1).trans (w_up_slot (by decide)), (y32 i i0 i1).trans (w_up_slot (by decide)), (y33 i i0 i1).trans (w_up_slot (by decide))⟩, fun j i j0 j1 j2 j3 j4 j5 => (zz j i j0 j1 j2 j3 j4).trans (w_up_no (by omega)), gi121, rm122⟩
    · skip
      refine wa_iload_n (n := 0) rfl ?_
      refine wa_goto ⟨_, rfl⟩ ?_
      refine wa_ireturn rfl ?_
      show wJ _ _ _ _ _ _ _ _ _ _
      refine wa_istore_n (n := 2) rfl ?_
      refine wa_aload_n (n := 0) rfl ?_
      refine wa_aload_n (n := 0) rfl ?_
      refine wb_gf4 19 rfl (wy_pr rfl) wt_19 wf_0_4 (v := 31) wl_19_4 ?_
      refine wa_iload_n (n := 2) rfl ?_
      refine wa_cs (M2 := fun _ => False) rfl at_JA_copyOf_2 ⟨_, rfl⟩ rfl rfl ⟨trivial, (Or.inr ⟨wy_pr rfl, fun q => q⟩), trivial, trivial⟩ ⟨(Or.inr ⟨wy_pr rfl, fun q => q⟩), trivial⟩ (fun _ _ q => False.elim q) (cp_I (S := (w_up S 19 7 ((S 19 7) + m))) (a := 31) (n := ((S 19 7) + m)) (len := (S 31 (-1))) (wy_pr rfl) wt_31 (w_up_slot (by decide)) ⟨by omega, by omega, by omega⟩) (fun oq123 Sq123 _ q123 => ?_)
      rcases q123 with ⟨rfl, rfl⟩
      show wJ _ _ _ _ _ _ _ _ _ _
      refine wg_pf (S := (w_up S 19 7 ((S 19 7) + m))) (len := (S 31 (-1))) 0 19 31 rfl rfl rfl wt_19 wf_0_4 wl_19_4 (by decide +kernel) wt_31 (by decide) (by decide +kernel) (gI_up hI (by omega) (by omega) (by omega)) (fun q => absurd q (by decide)) (by decide) ⟨by omega, by omega⟩ (w_up_slot (by decide)) (fun _ => ⟨Or.inr (by decide), Or.inl (nN_ge _)⟩) ⟨trivial, (Or.inr ⟨wy_pr rfl, mS_no rfl⟩), trivial, trivial⟩ trivial (fun Z124 g125 gi126 => ?_)
      have rm127 := rmR_gr (rmR_up hR (by omega) (by decide)) g125 (by decide +kernel) (len := (S 31 (-1))) (w_up_slot (by decide)) ⟨by omega, by omega⟩ ⟨fun q => by first | omega | exact absurd q (by decide), by show _ ≤ (100000000 : Int); omega⟩
      refine wa_aload_n (n := 0) rfl ?_
      refine wa_aload_n (n := 0) rfl ?_
      refine wb_gf4 19 rfl (wy_pr rfl) wt_19 wf_0_5 (v := 32) wl_19_5 ?_
      refine wa_iload_n (n := 2) rfl ?_
      refine wa_cs (M2 := fun _ => False) rfl at_JA_copyOf_2 ⟨_, rfl⟩ rfl rfl ⟨trivial, (Or.inr ⟨wy_pr rfl, fun q => q⟩), trivial, trivial⟩ ⟨(Or.inr ⟨wy_pr rfl, fun q => q⟩), trivial⟩ (fun _ _ q => False.elim q) (cp_I (S := Z124) (a := 32) (n := ((S 19 7) + m)) (len := (S 31 (-1))) (wy_pr rfl) wt_32 (((congrFun (g125.2.2.1 32 (by decide) (by decide) (by decide)) (-1)).trans ((w_up_slot (by decide)).trans (l32)))) ⟨by omega, by omega, by omega⟩) (fun oq128 Sq128 _ q128 => ?_)
      rcases q128 with ⟨rfl, rfl⟩
      show wJ _ _ _ _ _ _ _ _ _ _
      refine wg_pf (S := Z124) (len := (S 31 (-1))) 0 19 32 rfl rfl rfl wt_19 wf_0_5 wl_19_5 (by decide +kernel) wt_32 (by decide) (by decide +kernel) gi126 (fun q => absurd q (by decide)) (by decide) ⟨by omega, by omega⟩ (((congrFun (g125.2.2.1 32 (by decide) (by decide) (by decide)) (-1)).trans ((w_up_slot (by decide)).trans (l32)))) (fun _ => ⟨Or.inr (by decide), Or.inl (nN_ge _)⟩) ⟨trivial, (Or.inr ⟨wy_pr rfl, mS_no rfl⟩), trivial, trivial⟩ trivial (fun Z129 g130 gi131 => ?_)
      have rm132 := rmR_gr rm127 g130 (by decide +kernel) (len := (S 31 (-1))) (((congrFun (g125.2.2.1 32 (by decide) (by decide) (by decide)) (-1)).trans ((w_up_slot (by decide)).trans (l32)))) ⟨by omega, by omega⟩ ⟨fun q => by first | omega | exact absurd q (by decide), by show _ ≤ (100000000 : Int); omega⟩
      refine wa_aload_n (n := 0) rfl ?_
      refine wa_aload_n (n := 0) rfl ?_
      refine wb_gf4 19 rfl (wy_pr rfl) wt_19 wf_0_6 (v := 33) wl_19_6 ?_
      refine wa_iload_n (n := 2) rfl ?_
      refine wa_cs (M2 := fun _ => False) rfl at_JA_copyOf_2 ⟨_, rfl⟩ rfl rfl ⟨trivial, (Or.inr ⟨wy_pr rfl, fun q => q⟩), trivial, trivial⟩ ⟨(Or.inr ⟨wy_pr rfl, fun q => q⟩), trivial⟩ (fun _ _ q => False.elim q) (cp_I (S := Z129) (a := 33) (n := ((S 19 7) + m)) (len := (S 31 (-1))) (wy_pr rfl) wt_33 (((congrFun (g130.2.2.1 33 (by decide) (by decide) (by decide)) (-1)).trans (((congrFun (g125.2.2.1 33 (by decide) (by decide) (by decide)) (-1)).trans ((w_up_slot (by decide)).trans (l33)))))) ⟨by omega, by omega, by omega⟩) (fun oq133 Sq133 _ q133 => ?_)
      rcases q133 with ⟨rfl, rfl⟩
      show wJ _ _ _ _ _ _ _ _ _ _
      refine wg_pf (S := Z129) (len := (S 31 (-1))) 0 19 33 rfl rfl rfl wt_19 wf_0_6 wl_19_6 (by decide +kernel) wt_33 (by decide) (by decide +kernel) gi131 (fun q => absurd q (by decide)) (by decide) ⟨by omega, by omega⟩ (((congrFun (g130.2.2.1 33 (by decide) (by decide) (by decide)) (-1)).trans (((congrFun (g125.2.2.1 33 (by decide) (by decide) (by decide)) (-1)).trans ((w_up_slot (by decide)).trans (l33)))))) (fun _ => ⟨Or.inr (by decide), Or.inl (nN_ge _)⟩) ⟨trivial, (Or.inr ⟨wy_pr rfl, mS_no rfl⟩), trivial, trivial⟩ trivial (fun Z134 g135 gi136 => ?_)
      have rm137 := rmR_gr rm132 g135 (by decide +kernel) (len := (S 31 (-1))) (((congrFun (g130.2.2.1 33 (by decide) (by decide) (by decide)) (-1)).trans (((congrFun (g125.2.2.1 33 (by decide) (by decide) (by decide)) (-1)).trans ((w_up_slot (by decide)).trans (l33)))))) ⟨by omega, by omega⟩ ⟨fun q => by first | omega | exact absurd q (by decide), by show _ ≤ (100000000 : Int); omega⟩
      refine wa_fall ⟨_, rfl⟩ ?_
      refine wa_return rfl ?_
      have zz : ∀ (j : Nat) (i : Int), j < 4000000 → j ≠ wG → j ≠ 31 → j ≠ 32 → j ≠ 33 → Z134 j i = (w_up S 19 7 ((S 19 7) + m)) j i := fun j i j0 j1 k31 k32 k33 => (congrFun (g135.2.2.1 j (by omega) j0 j1) i).trans ((congrFun (g130.2.2.1 j (by omega) j0 j1) i).trans ((congrFun (g125.2.2.1 j (by omega) j0 j1) i).trans (rfl)))
      have y31 : ∀ i : Int, 0 ≤ i → i < S 31 (-1) → Z134 31 i = (w_up S 19 7 ((S 19 7) + m)) 31 i := by
        intro i i0 i1
        have f0 : Z134 31 i = Z129 31 i := congrFun (g135.2.2.1 31 (by decide) (by decide) (by decide)) i
        have f1 : Z129 31 i = Z124 31 i := congrFun (g130.2.2.1 31 (by decide) (by decide) (by decide)) i
        have e2 : (w_up S 19 7 ((S 19 7) + m)) 31 (-1) = (S 31 (-1)) := (w_up_slot (by decide))
        have f2 : Z124 31 i = (w_up S 19 7 ((S 19 7) + m)) 31 i := g125.2.1 i i0 (by rw [e2]; omega)
        exact f0.trans (f1.trans (f2.trans (rfl)))
      have n31 : Z134 31 (-1) = ((S 19 7) + m) := (((congrFun (g135.2.2.1 31 (by decide) (by decide) (by decide)) (-1)).trans (((congrFun (g130.2.2.1 31 (by decide) (by decide) (by decide)) (-1)).trans (g125.1)))))
      have y32 : ∀ i : Int, 0 ≤ i → i < S 31 (-1) → Z134 32 i = (w_up S 19 7 ((S 19 7) + m)) 32 i := by
        intro i i0 i1
        have f0 : Z134 32 i = Z129 32 i := congrFun (g135.2.2.1 32 (by decide) (by decide) (by decide)) i
        have e1 : Z124 32 (-1) = (S 31 (-1)) := (((congrFun (g125.2.2.1 32 (by decide) (by decide) (by decide)) (-1)).trans ((w_up_slot (by decide)).trans (l32))))
        have f1 : Z129 32 i = Z124 32 i := g130.2.1 i i0 (by rw [e1]; omega)
        have f2 : Z124 32 i = (w_up S 19 7 ((S 19 7) + m)) 32 i := congrFun (g125.2.2.1 32 (by decide) (by decide) (by decide)) i
        exact f0.trans (f1.trans (f2.trans (rfl)))
      have n32 : Z134 32 (-1) = ((S 19 7) + m) := (((congrFun (g135.2.2.1 32 (by decide) (by decide) (by decide)) (-1)).trans (g130.1)))
      have y33 : ∀ i : Int, 0 ≤ i → i < S 31 (-1) → Z134 33 i = (w_up S 19 7 ((S 19 7) + m)) 33 i := by
        intro i i0 i1
        have e0 : Z129 33 (-1) = (S 31 (-1)) := (((congrFun (g130.2.2.1 33 (by decide) (by decide) (by decide)) (-1)).trans (((congrFun (g125.2.2.1 33 (by decide) (by decide) (by decide)) (-1)).trans ((w_up_slot (by decide)).trans (l33))))))
        have f0 : Z134 33 i = Z129 33 i := g135.2.1 i i0 (by rw [e0]; omega)
        have f1 : Z129 33 i = Z124 33 i := congrFun (g130.2.2.1 33 (by decide) (by decide) (by decide)) i
        have f2 : Z124 33 i = (w_up S 19 7 ((S 19 7) + m)) 33 i := congrFun (g125.2.2.1 33 (by decide) (by decide) (by decide)) i
        exact f0.trans (f1.trans (f2.trans (rfl)))
      have n33 : Z134 33 (-1) = ((S 19 7) + m) := (g135.1)
      exact ⟨rfl, (zz 19 7 (by decide) (by decide) (by decide) (by decide) (by decide)).trans (w_up_same _ _ _ _), ⟨n32.trans n31.symm, n33.trans n31.symm, by rw [n31]; omega, by rw [n31]; omega, by rw [n31]; omega⟩, fun i i0 i1 => ⟨(y31 i i0 i1).trans (w_up_slot (by decide)), (y32 i i0 i1).trans (w_up_slot (by decide)), (y33 i i0 i1).trans (w_up_slot (by decide))⟩, fun j i j0 j1 j2 j3 j4 j5 => (zz j i j0 j1 j2 j3 j4).trans (w_up_no (by omega)), gi136, rm137⟩
end Wbk
