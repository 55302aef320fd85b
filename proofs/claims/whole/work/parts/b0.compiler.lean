/-! PART b0: the class's Compiler: takeName, addFunction, variableOf, addVariable. -/
section Wb0
variable {xs : List (Nat × List Int32)} {M : Nat → Prop} {d : Nat} {A B C S Z : wS} {Q : wO → wS → Prop} {T : Int → Int} {n : Int} {N X : List (List Int)} {c i : Nat}
theorem tnp (hI : gI S) (hT : qx_T T n N X c S) (hP : qx_P T n c i S) : wJ (pe_GA xs) wY0 M (d + 8) t_XP_takeName ((pe_at t_XP_takeName.bl 0).getD (0, [])).2 [(0, (2, 63))] [] S (fun o Z => (o = .inl (some (0, vq T n N X i)) ∧ kq T n N X i = 5 ∧ w_up S 14 4 ((i : Int) + 1) = Z) ∨ (∃ v : Nat, o = .inr v ∧ kq T n N X i = 6 ∧ ry_ag S Z v (7 + 16 * tp T n 0 i)) ∨ (∃ v : Nat, o = .inr v ∧ (kq T n N X i ≠ 5 ∧ kq T n N X i ≠ 6) ∧ ry_ag S Z v (1 + 16 * tp T n 0 i))) := by
  obtain ⟨q1, q2, q3, q4, q5⟩ := qx_at hT hP
  have p4 := hP.1
  have hkr := kq_rg T n N X i
  have h3 : S 14 3 = (c : Int) + 1 := hT.1
  have hic : i ≤ c := hP.2.1
  have hnn : n ≤ 8176 := hT.2.2.2.2.2.1
  have hcn : (c : Int) ≤ n := hT.2.2.2.2.1
  obtain ⟨r1, r2, r3, r4, r5⟩ := hT.2.2.2.2.2.2
  refine wa_aload_n (n := 0) rfl ?_
  refine wa_cv 63 rfl (wy_pr rfl) wt_63 (M2 := fun _ => False) rfl at_XP_checkName ⟨_, rfl⟩ rfl rfl ⟨(Or.inr ⟨wy_pr rfl, fun q => q⟩), trivial⟩ trivial (fun _ _ q => False.elim q) (cnp (S := S) hI hT hP) (fun oq104 Sq104 hp105 q104 => ?_)
  rcases q104 with ⟨rfl, hk103, rfl⟩ | ⟨v102, rfl, hk103, hz101⟩
  · skip
    show wJ _ _ _ _ _ _ _ _ _ _
    have hlt := (qx_nx hT hP ⟨by omega, by omega⟩).1
    have h17 := (q4 hlt).2
    refine wa_aload_n (n := 0) rfl ?_
    refine wb_gf4 63 rfl (wy_pr rfl) wt_63 wf_1_0 (v := 14) wl_63_0 ?_
    refine wa_cv 14 rfl (wy_pr rfl) wt_14 (M2 := fun _ => False) rfl at_XR_kind ⟨_, rfl⟩ rfl rfl ⟨(Or.inr ⟨wy_pr rfl, fun q => q⟩), trivial⟩ trivial (fun _ _ q => False.elim q) ?_ (fun _ _ _ q => q)
    refine wa_aload_n (n := 0) rfl ?_
    refine wb_gf4 14 rfl (wy_pr rfl) wt_14 wf_6_0 (v := 15) wl_14_0 ?_
    refine wa_aload_n (n := 0) rfl ?_
    refine wb_gfi 14 rfl (wy_pr rfl) wt_14 wf_6_4 (v := (i : Int)) (p4) (fun r106 => ?_)
    refine wb_bald 15 rfl (wy_pr rfl) wt_15 (n := (S 15 (-1))) rfl (by omega) (by omega) (v := (kq T n N X i)) (q3) (fun r107 => ?_)
    refine wa_ireturn rfl ?_
    show wJ _ _ _ _ _ _ _ _ _ _
    refine wa_bipush (w_rg2 (by omega) (by omega)) ?_
    refine wa_icmpne (w_rg0 (by omega) (by omega)) (w_rg0 (by omega) (by omega)) ⟨_, rfl⟩ (fun c108 => ?_) (fun c108 => ?_)
    · skip
      refine wa_aload_n (n := 0) rfl ?_
      refine wb_gf4 63 rfl (wy_pr rfl) wt_63 wf_1_0 (v := 14) wl_63_0 ?_
      refine wa_cv 14 rfl (wy_pr rfl) wt_14 (M2 := fun _ => False) rfl at_XR_value ⟨_, rfl⟩ rfl rfl ⟨(Or.inr ⟨wy_pr rfl, fun q => q⟩), trivial⟩ trivial (fun _ _ q => False.elim q) ?_ (fun _ _ _ q => q)
      refine wa_aload_n (n := 0) rfl ?_
      refine wb_gf4 14 rfl (wy_pr rfl) wt_14 wf_6_2 (v := 17) wl_14_2 ?_
      refine wa_aload_n (n := 0) rfl ?_
      refine wb_gfi 14 rfl (wy_pr rfl) wt_14 wf_6_4 (v := (i : Int)) (p4) (fun r109 => ?_)
      refine wb_iald 17 rfl (wy_pr rfl) wt_17 (n := (S 15 (-1))) (r3) (by omega) (by omega) (v := (vq T n N X i)) (h17) (fun r110 => ?_)
      refine wa_ireturn rfl ?_
      show wJ _ _ _ _ _ _ _ _ _ _
      refine wa_istore_n (n := 1) rfl ?_
      refine wa_aload_n (n := 0) rfl ?_
      refine wb_gf4 63 rfl (wy_pr rfl) wt_63 wf_1_0 (v := 14) wl_63_0 ?_
      refine wa_cv 14 rfl (wy_pr rfl) wt_14 (M2 := fun _ => False) rfl at_XR_next ⟨_, rfl⟩ rfl rfl ⟨trivial, (Or.inr ⟨wy_pr rfl, fun q => q⟩), trivial⟩ trivial (fun _ _ q => False.elim q) ?_ (fun _ _ _ q => q)
      refine wa_aload_n (n := 0) rfl ?_
      refine wb_gfi 14 rfl (wy_pr rfl) wt_14 wf_6_4 (v := (i : Int)) (p4) (fun r111 => ?_)
      refine wa_iconst ?_
      refine wa_iadd ?_
      refine wa_aload_n (n := 0) rfl ?_
      refine wb_gfi 14 rfl (wy_pr rfl) wt_14 wf_6_3 (v := ((c : Int) + 1)) (h3) (fun r112 => ?_)
      refine wa_icmpge (w_rg0 (by omega) (by omega)) (w_rg0 (by omega) (by omega)) ⟨_, rfl⟩ (fun c113 => ?_) (fun c113 => ?_)
      · skip
        refine wa_return rfl ?_
        show wJ _ _ _ _ _ _ _ _ _ _
        refine wa_iload_n (n := 1) rfl ?_
        refine wa_ireturn rfl ?_
        exact absurd hlt (by omega)
      · skip
        refine wa_aload_n (n := 0) rfl ?_
        refine wa_dup (by decide) ?_
        refine wb_gfi 14 rfl (wy_pr rfl) wt_14 wf_6_4 (v := (i : Int)) (p4) (fun r114 => ?_)
        refine wa_iconst ?_
        refine wa_iadd ?_
        refine wb_pfi 14 rfl (wy_pr rfl) wt_14 wf_6_4 (n := 4) rfl ⟨(by omega), (by omega)⟩ ?_
        refine wa_fall ⟨_, rfl⟩ ?_
        refine wa_return rfl ?_
        show wJ _ _ _ _ _ _ _ _ _ _
        refine wa_iload_n (n := 1) rfl ?_
        refine wa_ireturn rfl ?_
        exact Or.inl ⟨rfl, by omega, rfl⟩
    · skip
      refine wa_aload_n (n := 0) rfl ?_
      refine wa_bipush (w_rg2 (by omega) (by omega)) ?_
      refine wa_cv 63 rfl (wy_pr rfl) wt_63 (M2 := fun _ => False) rfl at_XP_refuse ⟨_, rfl⟩ rfl rfl ⟨(Or.inr ⟨wy_pr rfl, fun q => q⟩), trivial⟩ trivial (fun _ _ q => False.elim q) (rfp_c (S := S) (k := 7) (p := tp T n 0 i) (i := (i : Int)) hI (p4) q2 ⟨by omega, by omega⟩ ⟨by omega, by omega⟩ ⟨by omega, by omega⟩) (fun oq117 Sq117 hp118 q117 => ?_)
      rcases q117 with ⟨v116, rfl, hz115⟩
      have hthr := hz115
      refine ⟨rfl, ?_⟩
      exact Or.inr (by first | exact Or.inl ⟨_, rfl, by omega, hthr⟩ | exact Or.inr ⟨_, rfl, by omega, hthr⟩)
  · skip
    have hthr := hz101
    refine ⟨rfl, ?_⟩
    exact Or.inr (by first | exact Or.inl ⟨_, rfl, by omega, hthr⟩ | exact Or.inr ⟨_, rfl, by omega, hthr⟩)
theorem afp {ar : Int} (hI : gI S) (hT : qx_T T n N X c S) (hP : qx_P T n c i S) (hC : w_CL S) (ha : -1 ≤ ar ∧ ar < 400) (h19 : 0 ≤ S 19 1 ∧ S 19 1 ≤ 400) (h63 : 0 ≤ S 63 10 ∧ S 63 10 ≤ 400) (hu : 0 ≤ S 19 3 ∧ S 19 3 ≤ 1000) : wJ (pe_GA xs) wY0 M (d + 7) t_XP_addFunction ((pe_at t_XP_addFunction.bl 0).getD (0, [])).2 [(0, (2, 63)), (1, (0, ar))] [] S (fun o Z => (o = .inl (some (0, (S 19 1 + S 63 10))) ∧ (S 19 1 + S 63 10) < 400 ∧ w_up (w_up (w_up (w_up (w_up (w_up (w_up S 21 (S 19 1 + S 63 10) (S 19 3)) 22 (S 19 1 + S 63 10) 0) 23 (S 19 1 + S 63 10) 0) 24 (S 19 1 + S 63 10) 0) 28 (S 19 1 + S 63 10) ar) 29 (S 19 1 + S 63 10) (-1)) 63 10 (S 63 10 + 1) = Z) ∨ (∃ v : Nat, o = .inr v ∧ 400 ≤ (S 19 1 + S 63 10) ∧ ry_ag S Z v (7 + 16 * tp T n 0 i))) := by
  obtain ⟨q1, q2, q3, q4, q5⟩ := qx_at hT hP
  have p4 := hP.1
  have hkr := kq_rg T n N X i
  have h3 : S 14 3 = (c : Int) + 1 := hT.1
  have hic : i ≤ c := hP.2.1
  have hnn : n ≤ 8176 := hT.2.2.2.2.2.1
  have hcn : (c : Int) ≤ n := hT.2.2.2.2.1
  obtain ⟨r1, r2, r3, r4, r5⟩ := hT.2.2.2.2.2.2
  refine wa_aload_n (n := 0) rfl ?_
  refine wb_gf4 63 rfl (wy_pr rfl) wt_63 wf_1_2 (v := 19) wl_63_2 ?_
  refine wb_gfi 19 rfl (wy_pr rfl) wt_19 wf_0_1 (v := (S 19 1)) rfl (fun r101 => ?_)
  refine wa_aload_n (n := 0) rfl ?_
  refine wb_gfi 63 rfl (wy_pr rfl) wt_63 wf_1_10 (v := (S 63 10)) rfl (fun r102 => ?_)
  refine wa_iadd ?_
  refine wa_sipush (by omega) ?_
  refine wa_icmplt (w_rg0 (by omega) (by omega)) (w_rg0 (by omega) (by omega)) ⟨_, rfl⟩ (fun c103 => ?_) (fun c103 => ?_)
  · skip
    refine wa_aload_n (n := 0) rfl ?_
    refine wb_gf4 63 rfl (wy_pr rfl) wt_63 wf_1_2 (v := 19) wl_63_2 ?_
    refine wb_gfi 19 rfl (wy_pr rfl) wt_19 wf_0_1 (v := (S 19 1)) rfl (fun r104 => ?_)
    refine wa_aload_n (n := 0) rfl ?_
    refine wb_gfi 63 rfl (wy_pr rfl) wt_63 wf_1_10 (v := (S 63 10)) rfl (fun r105 => ?_)
    refine wa_iadd ?_
    refine wa_istore_n (n := 2) rfl ?_
    refine wa_aload_n (n := 0) rfl ?_
    refine wb_gf4 63 rfl (wy_pr rfl) wt_63 wf_1_9 (v := 20) wl_63_9 ?_
    refine wa_iconst ?_
    refine wb_aald5 20 0 rfl rfl (wy_pr rfl) wt_20 (by rw [show _ = _ from ((cl_20 hC))]; omega) wl_20_0 ?_
    refine wa_iload_n (n := 2) rfl ?_
    refine wa_aload_n (n := 0) rfl ?_
    refine wb_gf4 63 rfl (wy_pr rfl) wt_63 wf_1_2 (v := 19) wl_63_2 ?_
    refine wb_gfi 19 rfl (wy_pr rfl) wt_19 wf_0_3 (v := (S 19 3)) rfl (fun r106 => ?_)
    refine wb_iast 21 rfl (wy_pr rfl) wt_21 (n := 400) ((cl_21 hC)) (by omega) (by omega) ⟨(by omega), (by omega)⟩ ?_
    refine wa_aload_n (n := 0) rfl ?_
    refine wb_gf4 63 rfl (wy_pr rfl) wt_63 wf_1_9 (v := 20) wl_63_9 ?_
    refine wa_iconst ?_
    refine wb_aald5 20 1 rfl rfl (wy_pr rfl) wt_20 (by rw [show _ = _ from ((w_up_slot (by decide)).trans ((cl_20 hC)))]; omega) wl_20_1 ?_
    refine wa_iload_n (n := 2) rfl ?_
    refine wa_iconst ?_
    refine wb_iast 22 rfl (wy_pr rfl) wt_22 (n := 400) ((w_up_slot (by decide)).trans ((cl_22 hC))) (by omega) (by omega) ⟨(by omega), (by omega)⟩ ?_
    refine wa_aload_n (n := 0) rfl ?_
    refine wb_gf4 63 rfl (wy_pr rfl) wt_63 wf_1_9 (v := 20) wl_63_9 ?_
    refine wa_iconst ?_
    refine wb_aald5 20 2 rfl rfl (wy_pr rfl) wt_20 (by rw [show _ = _ from ((w_up_slot (by decide)).trans ((w_up_slot (by decide)).trans ((cl_20 hC))))]; omega) wl_20_2 ?_
    refine wa_iload_n (n := 2) rfl ?_
    refine wa_iconst ?_
    refine wb_iast 23 rfl (wy_pr rfl) wt_23 (n := 400) ((w_up_slot (by decide)).trans ((w_up_slot (by decide)).trans ((cl_23 hC)))) (by omega) (by omega) ⟨(by omega), (by omega)⟩ ?_
    refine wa_aload_n (n := 0) rfl ?_
    refine wb_gf4 63 rfl (wy_pr rfl) wt_63 wf_1_9 (v := 20) wl_63_9 ?_
    refine wa_iconst ?_
    refine wb_aald5 20 3 rfl rfl (wy_pr rfl) wt_20 (by rw [show _ = _ from ((w_up_slot (by decide)).trans ((w_up_slot (by decide)).trans ((w_up_slot (by decide)).trans ((cl_20 hC)))))]; omega) wl_20_3 ?_
    refine wa_iload_n (n := 2) rfl ?_
    refine wa_iconst ?_
    refine wb_iast 24 rfl (wy_pr rfl) wt_24 (n := 400) ((w_up_slot (by decide)).trans ((w_up_slot (by decide)).trans ((w_up_slot (by decide)).trans ((cl_24 hC))))) (by omega) (by omega) ⟨(by omega), (by omega)⟩ ?_
    refine wa_aload_n (n := 0) rfl ?_
    refine wb_gf4 63 rfl (wy_pr rfl) wt_63 wf_1_9 (v := 20) wl_63_9 ?_
    refine wa_bipush (w_rg2 (by omega) (by omega)) ?_
    refine wb_aald5 20 7 rfl rfl (wy_pr rfl) wt_20 (by rw [show _ = _ from ((w_up_slot (by decide)).trans ((w_up_slot (by decide)).trans ((w_up_slot (by decide)).trans ((w_up_slot (by decide)).trans ((cl_20 hC))))))]; omega) wl_20_7 ?_
    refine wa_iload_n (n := 2) rfl ?_
    refine wa_iload_n (n := 1) rfl ?_
    refine wb_iast 28 rfl (wy_pr rfl) wt_28 (n := 400) ((w_up_slot (by decide)).trans ((w_up_slot (by decide)).trans ((w_up_slot (by decide)).trans ((w_up_slot (by decide)).trans ((cl_28 hC)))))) (by omega) (by omega) ⟨(by omega), (by omega)⟩ ?_
    refine wa_aload_n (n := 0) rfl ?_
    refine wb_gf4 63 rfl (wy_pr rfl) wt_63 wf_1_9 (v := 20) wl_63_9 ?_
    refine wa_bipush (w_rg2 (by omega) (by omega)) ?_
    refine wb_aald5 20 8 rfl rfl (wy_pr rfl) wt_20 (by rw [show _ = _ from ((w_up_slot (by decide)).trans ((w_up_slot (by decide)).trans ((w_up_slot (by decide)).trans ((w_up_slot (by decide)).trans ((w_up_slot (by decide)).trans ((cl_20 hC)))))))]; omega) wl_20_8 ?_
    refine wa_iload_n (n := 2) rfl ?_
    refine wa_iconst ?_
    refine wb_iast 29 rfl (wy_pr rfl) wt_29 (n := 400) ((w_up_slot (by decide)).trans ((w_up_slot (by decide)).trans ((w_up_slot (by decide)).trans ((w_up_slot (by decide)).trans ((w_up_slot (by decide)).trans ((cl_29 hC))))))) (by omega) (by omega) ⟨(by omega), (by omega)⟩ ?_
    refine wa_aload_n (n := 0) rfl ?_
    refine wa_dup (by decide) ?_
    refine wb_gfi 63 rfl (wy_pr rfl) wt_63 wf_1_10 (v := (S 63 10)) ((w_up_slot (by decide)).trans ((w_up_slot (by decide)).trans ((w_up_slot (by decide)).trans ((w_up_slot (by decide)).trans ((w_up_slot (by decide)).trans (w_up_slot (by decide))))))) (fun r107 => ?_)
    refine wa_iconst ?_
    refine wa_iadd ?_
    refine wb_pfi 63 rfl (wy_pr rfl) wt_63 wf_1_10 (n := 10) rfl ⟨(by omega), (by omega)⟩ ?_
    refine wa_iload_n (n := 2) rfl ?_
    refine wa_ireturn rfl ?_
    exact Or.inl ⟨rfl, by omega, rfl⟩
  · skip
    refine wa_aload_n (n := 0) rfl ?_
    refine wa_bipush (w_rg2 (by omega) (by omega)) ?_
    refine wa_cv 63 rfl (wy_pr rfl) wt_63 (M2 := fun _ => False) rfl at_XP_refuse ⟨_, rfl⟩ rfl rfl ⟨(Or.inr ⟨wy_pr rfl, fun q => q⟩), trivial, trivial⟩ trivial (fun _ _ q => False.elim q) (rfp_c (S := S) (k := 7) (p := tp T n 0 i) (i := (i : Int)) hI (p4) q2 ⟨by omega, by omega⟩ ⟨by omega, by omega⟩ ⟨by omega, by omega⟩) (fun oq110 Sq110 hp111 q110 => ?_)
    rcases q110 with ⟨v109, rfl, hz108⟩
    have hthr := hz108
    refine ⟨rfl, ?_⟩
    exact Or.inr ⟨_, rfl, by omega, hthr⟩
/-- the variables from v on, the newest ahead -/
def vch (NM BF : Int → Int) (cnt : Int) : Int → List Int → Prop
  | _, [] => True
  | v, x :: r => (0 ≤ v ∧ v < cnt) ∧ NM v = x ∧ (-1 ≤ BF v ∧ BF v < v) ∧ vch NM BF cnt (BF v) r
/-- a variable's number, or -1 -/
def vix : List Int → Int → Int
  | [], _ => -1
  | x :: r, y => if x = y then (r.length : Int) else vix r y
theorem vch_ag {NM BF NM2 BF2 : Int → Int} {cnt c2 : Int} (hc : cnt ≤ c2) (e : ∀ v : Int, 0 ≤ v → v < cnt → NM2 v = NM v ∧ BF2 v = BF v) : ∀ (l : List Int) (v : Int), vch NM BF cnt v l → vch NM2 BF2 c2 v l := by
  intro l
  induction l with
  | nil => intro v _; trivial
  | cons x r ih =>
    intro v h
    obtain ⟨h1, h2, h3, h4⟩ := h
    obtain ⟨e1, e2⟩ := e v h1.1 h1.2
    exact ⟨⟨h1.1, by omega⟩, e1.trans h2, by rw [e2]; exact h3, by rw [e2]; exact ih _ h4⟩
/-- the variables of the function f, the newest ahead -/
def fv_I (S : wS) (f : Int) (l : List Int) : Prop := S 23 f = (l.length : Int) ∧ vch (S 69) (S 70) (S 63 13) (S 29 f) l ∧ (-1 ≤ S 29 f ∧ S 29 f < S 63 13)
/-- the rows of variables -/
def va_L (S : wS) : Prop := S 68 (-1) = 2 ∧ (0 ≤ S 63 13 ∧ S 63 13 ≤ S 69 (-1)) ∧ S 70 (-1) = S 69 (-1) ∧ 16 ≤ S 69 (-1) ∧ S 69 (-1) ≤ 16383
theorem vo_l {f y : Int} (hC : w_CL S) (hL : va_L S) (hf : 0 ≤ f ∧ f < 400) (hy : -2147483648 ≤ y ∧ y ≤ 2147483647) : ∀ (l : List Int) (v : Int), vch (S 69) (S 70) (S 63 13) v l → (-1 ≤ v ∧ v < 1048576) → l.length ≤ 1000000 → wJ (pe_GA xs) wY0 M d t_XP_variableOf ((pe_at t_XP_variableOf.bl 1).getD (0, [])).2 [(0, (2, 63)), (1, (0, f)), (2, (0, y)), (3, (0, v)), (4, (0, (l.length : Int) - 1))] [] S (fun o Z => S = Z ∧ o = .inl (some (0, vix l y))) := by
  obtain ⟨l0, l1, l2, l3, l4⟩ := hL
  intro l
  induction l with
  | nil =>
    intro v _ hv hll
    have e0 : (([] : List Int).length : Int) = 0 := rfl
    refine wa_iload (n := 4) rfl ?_
    refine wa_iflt (w_rg0 (by omega) (by omega)) ⟨_, rfl⟩ (fun c1 => ?_) (fun c1 => ?_)
    · skip
      refine wa_iconst ?_
      refine wa_ireturn rfl ?_
      exact ⟨rfl, rfl⟩
    · skip
      exact absurd c1 (by omega)
  | cons x r ih =>
    intro v hch hv hll
    obtain ⟨c1, c2, c3, c4⟩ := hch
    have e0 : ((x :: r).length : Int) = (r.length : Int) + 1 := rfl
    have hl1 : (x :: r).length = r.length + 1 := rfl
    refine wa_iload (n := 4) rfl ?_
    refine wa_iflt (w_rg0 (by omega) (by omega)) ⟨_, rfl⟩ (fun c1 => ?_) (fun c1 => ?_)
    · skip
      refine wa_iconst ?_
      refine wa_ireturn rfl ?_
      refine ⟨rfl, congrArg (fun z => Sum.inl (some (0, z))) ?_⟩
      omega
    · skip
      refine wa_aload_n (n := 0) rfl ?_
      refine wb_gf4 63 rfl (wy_pr rfl) wt_63 wf_1_12 (v := 68) wl_63_12 ?_
      refine wa_iconst ?_
      refine wb_aald5 68 0 rfl rfl (wy_pr rfl) wt_68 (by rw [show _ = _ from (l0)]; omega) wl_68_0 ?_
      refine wa_iload_n (n := 3) rfl ?_
      refine wb_iald 69 rfl (wy_pr rfl) wt_69 (n := (S 69 (-1))) rfl (by omega) (by omega) (v := x) (c2) (fun r2 => ?_)
      refine wa_iload_n (n := 2) rfl ?_
      refine wa_icmpne (w_rg0 (by omega) (by omega)) (w_rg0 (by omega) (by omega)) ⟨_, rfl⟩ (fun c3 => ?_) (fun c3 => ?_)
      · skip
        refine wa_aload_n (n := 0) rfl ?_
        refine wb_gf4 63 rfl (wy_pr rfl) wt_63 wf_1_12 (v := 68) wl_63_12 ?_
        refine wa_iconst ?_
        refine wb_aald5 68 1 rfl rfl (wy_pr rfl) wt_68 (by rw [show _ = _ from (l0)]; omega) wl_68_1 ?_
        refine wa_iload_n (n := 3) rfl ?_
        refine wb_iald 70 rfl (wy_pr rfl) wt_70 (n := (S 69 (-1))) (l2) (by omega) (by omega) (v := (S 70 v)) rfl (fun r4 => ?_)
        refine wa_istore_n (n := 3) rfl ?_
        refine wa_iinc rfl rfl ?_
        refine wa_goto ⟨_, rfl⟩ ?_
        have hne : vix (x :: r) y = vix r y := if_neg (by omega)
        rw [hne, show ((x :: r).length : Int) - 1 + -1 = (r.length : Int) - 1 by omega]
        exact wJ_S (ih (S 70 v) c4 ⟨by omega, by omega⟩ (by omega)) ⟨rfl, rfl, rfl, rfl, rfl, trivial⟩
      · skip
        refine wa_iload (n := 4) rfl ?_
        refine wa_ireturn rfl ?_
        refine ⟨rfl, congrArg (fun z => Sum.inl (some (0, z))) ?_⟩
        unfold vix; rw [if_pos (by omega)]; omega
theorem vo_ok {f y : Int} {l : List Int} (hC : w_CL S) (hL : va_L S) (hf : 0 ≤ f ∧ f < 400) (hy : -2147483648 ≤ y ∧ y ≤ 2147483647) (hV : fv_I S f l) (hl : l.length ≤ 1000000) : wJ (pe_GA xs) wY0 M d t_XP_variableOf ((pe_at t_XP_variableOf.bl 0).getD (0, [])).2 [(0, (2, 63)), (1, (0, f)), (2, (0, y))] [] S (fun o Z => S = Z ∧ o = .inl (some (0, vix l y))) := by
  obtain ⟨v1, v2, v3⟩ := hV
  have hL0 := hL
  obtain ⟨l0, l1, l2, l3, l4⟩ := hL
  refine wa_aload_n (n := 0) rfl ?_
  refine wb_gf4 63 rfl (wy_pr rfl) wt_63 wf_1_9 (v := 20) wl_63_9 ?_
  refine wa_bipush (w_rg2 (by omega) (by omega)) ?_
  refine wb_aald5 20 8 rfl rfl (wy_pr rfl) wt_20 (by rw [show _ = _ from ((cl_20 hC))]; omega) wl_20_8 ?_
  refine wa_iload_n (n := 1) rfl ?_
  refine wb_iald 29 rfl (wy_pr rfl) wt_29 (n := 400) ((cl_29 hC)) (by omega) (by omega) (v := (S 29 f)) rfl (fun r1 => ?_)
  refine wa_istore_n (n := 3) rfl ?_
  refine wa_aload_n (n := 0) rfl ?_
  refine wb_gf4 63 rfl (wy_pr rfl) wt_63 wf_1_9 (v := 20) wl_63_9 ?_
  refine wa_iconst ?_
  refine wb_aald5 20 2 rfl rfl (wy_pr rfl) wt_20 (by rw [show _ = _ from ((cl_20 hC))]; omega) wl_20_2 ?_
  refine wa_iload_n (n := 1) rfl ?_
  refine wb_iald 23 rfl (wy_pr rfl) wt_23 (n := 400) ((cl_23 hC)) (by omega) (by omega) (v := (l.length : Int)) (v1) (fun r2 => ?_)
  refine wa_iconst ?_
  refine wa_isub ?_
  refine wa_istore (n := 4) rfl ?_
  refine wa_fall ⟨_, rfl⟩ ?_
  exact wJ_S (vo_l hC hL0 hf hy l (S 29 f) v2 ⟨by omega, by omega⟩ hl) ⟨rfl, rfl, rfl, rfl, rfl, trivial⟩
end Wb0
