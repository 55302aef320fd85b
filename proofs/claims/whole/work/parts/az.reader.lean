/-! PART az: where the reader stands on a program; take, open, names. -/
section Waz
variable {xs : List (Nat × List Int32)} {M : Nat → Prop} {d : Nat} {A B C S Z : wS} {Q : wO → wS → Prop} {T : Int → Int} {n : Int} {N X : List (List Int)} {c i : Nat}
/-- the program's tokens stand in the reader's rows -/
def qx_T (T : Int → Int) (n : Int) (N X : List (List Int)) (c : Nat) (Z : wS) : Prop := Z 14 3 = (c : Int) + 1 ∧ (∀ k : Nat, k < c → tk2 T n N X Z k ∧ (lx_tk T n 0 (tp T n 0 k) = 5 → k + 1 = c)) ∧ (Z 16 (c : Int) = n ∧ Z 15 (c : Int) = 0) ∧ (tp T n 0 c = n ∨ ∃ k : Nat, k + 1 = c ∧ lx_tk T n 0 (tp T n 0 k) = 5) ∧ (c : Int) ≤ n ∧ n ≤ 8176 ∧ rd_L Z
/-- the reader stands at the i-th -/
def qx_P (T : Int → Int) (n : Int) (c i : Nat) (Z : wS) : Prop := Z 14 4 = (i : Int) ∧ i ≤ c ∧ ∀ k : Nat, k < i → lx_tk T n 0 (tp T n 0 k) ≠ 5
/-- the kind and the value of the i-th, the end too -/
def kq (T : Int → Int) (n : Int) (N X : List (List Int)) (i : Nat) : Int := if n ≤ tp T n 0 i then 0 else kp T n (tp T n 0 i) (NL T n N i) (XL T n X i)
def vq (T : Int → Int) (n : Int) (N X : List (List Int)) (i : Nat) : Int := vp T n (tp T n 0 i) (NL T n N i) (XL T n X i)
theorem ixL_rg (L : List (List Int)) (x : List Int) : -1 ≤ ixL L x ∧ ixL L x ≤ (L.length : Int) := by
  unfold ixL
  split
  · rename_i h
    have := (getD_idx h).1
    omega
  · omega
theorem kwL_rg (x : List Int) : -1 ≤ kwL x ∧ kwL x ≤ 21 := by
  unfold kwL
  split
  · rename_i h
    have h1 : (wl2.take 22).idxOf x < 22 := (getD_idx h).1
    omega
  · omega
theorem kp_rg (T : Int → Int) (n p : Int) (N X : List (List Int)) : 1 ≤ kp T n p N X ∧ kp T n p N X ≤ 61 := by
  have h1 := sk_rg (lx_si T n 0 p)
  have h2 := kwL_rg (nmx T n p)
  unfold kp
  repeat' split
  all_goals omega
theorem qx_at (h : qx_T T n N X c Z) (hp : qx_P T n c i Z) : (0 ≤ tp T n 0 i ∧ tp T n 0 i ≤ n) ∧ Z 16 (i : Int) = tp T n 0 i ∧ Z 15 (i : Int) = kq T n N X i ∧ (i < c → tp T n 0 i < n ∧ Z 17 (i : Int) = vq T n N X i) ∧ (i = c → kq T n N X i = 0) := by
  obtain ⟨h1, h2, h3, h4, h5, h6, h7⟩ := h
  obtain ⟨p1, p2, p3⟩ := hp
  by_cases hi : i < c
  · obtain ⟨⟨a1, a2, a3, a4, a5⟩, -⟩ := h2 i hi
    refine ⟨⟨a2, by omega⟩, a3, ?_, fun _ => ⟨a1, a5⟩, fun q => by omega⟩
    unfold kq; rw [if_neg (by omega)]; exact a4
  · have e : i = c := by omega
    subst e
    have h8 : tp T n 0 i = n := h4.elim id (fun ⟨k, k1, k2⟩ => absurd k2 (p3 k (by omega)))
    have e0 : kq T n N X i = 0 := by unfold kq; rw [if_pos (by omega)]
    exact ⟨⟨by omega, by omega⟩, by rw [h3.1, h8], by rw [h3.2, e0], fun q => absurd q hi, fun _ => e0⟩
theorem kq_rg (T : Int → Int) (n : Int) (N X : List (List Int)) (i : Nat) : 0 ≤ kq T n N X i ∧ kq T n N X i ≤ 61 := by
  have := kp_rg T n (tp T n 0 i) (NL T n N i) (XL T n X i)
  unfold kq
  split <;> omega
theorem qx_up {x : Int} (h : qx_T T n N X c S) : qx_T T n N X c (w_up S 14 4 x) := h
/-- the next token, where this one isn't bad nor the end -/
theorem qx_nx (h : qx_T T n N X c S) (hp : qx_P T n c i S) (hk : kq T n N X i ≠ 0 ∧ kq T n N X i ≠ 1) : i < c ∧ qx_P T n c (i + 1) (w_up S 14 4 ((i : Int) + 1)) := by
  obtain ⟨-, -, -, a4, a5⟩ := qx_at h hp
  obtain ⟨p1, p2, p3⟩ := hp
  have hi : i < c := by
    by_cases q : i = c
    · exact absurd (a5 q) hk.1
    · omega
  refine ⟨hi, ?_, by omega, fun k hk2 => ?_⟩
  · show w_up S 14 4 ((i : Int) + 1) 14 4 = ((i + 1 : Nat) : Int)
    rw [w_up_same]; omega
  · by_cases q : k = i
    · subst q
      intro h5
      apply hk.2
      have := (a4 hi).1
      unfold kq kp
      rw [if_neg (by omega), h5]
      rfl
    · exact p3 k (by omega)
theorem tkp {k : Int} (hI : gI S) (hT : qx_T T n N X c S) (hP : qx_P T n c i S) (hk : 2 ≤ k ∧ k ≤ 61) : wJ (pe_GA xs) wY0 M (d + 7) t_XP_take ((pe_at t_XP_take.bl 0).getD (0, [])).2 [(0, (2, 63)), (1, (0, k))] [] S (fun o Z => (o = .inl none ∧ kq T n N X i = k ∧ w_up S 14 4 ((i : Int) + 1) = Z) ∨ (∃ v : Nat, o = .inr v ∧ kq T n N X i ≠ k ∧ ry_ag S Z v (1 + 16 * tp T n 0 i))) := by
  obtain ⟨q1, q2, q3, q4, q5⟩ := qx_at hT hP
  have p4 := hP.1
  have hkr := kq_rg T n N X i
  have h3 : S 14 3 = (c : Int) + 1 := hT.1
  have hic : i ≤ c := hP.2.1
  have hnn : n ≤ 8176 := hT.2.2.2.2.2.1
  have hcn : (c : Int) ≤ n := hT.2.2.2.2.1
  obtain ⟨r1, r2, r3, r4, r5⟩ := hT.2.2.2.2.2.2
  refine wa_aload_n (n := 0) rfl ?_
  refine wb_gf4 63 rfl (wy_pr rfl) wt_63 wf_1_0 (v := 14) wl_63_0 ?_
  refine wa_cv 14 rfl (wy_pr rfl) wt_14 (M2 := fun _ => False) rfl at_XR_kind ⟨_, rfl⟩ rfl rfl ⟨(Or.inr ⟨wy_pr rfl, fun q => q⟩), trivial, trivial⟩ trivial (fun _ _ q => False.elim q) ?_ (fun _ _ _ q => q)
  refine wa_aload_n (n := 0) rfl ?_
  refine wb_gf4 14 rfl (wy_pr rfl) wt_14 wf_6_0 (v := 15) wl_14_0 ?_
  refine wa_aload_n (n := 0) rfl ?_
  refine wb_gfi 14 rfl (wy_pr rfl) wt_14 wf_6_4 (v := (i : Int)) (p4) (fun r101 => ?_)
  refine wb_bald 15 rfl (wy_pr rfl) wt_15 (n := (S 15 (-1))) rfl (by omega) (by omega) (v := (kq T n N X i)) (q3) (fun r102 => ?_)
  refine wa_ireturn rfl ?_
  show wJ _ _ _ _ _ _ _ _ _ _
  refine wa_iload_n (n := 1) rfl ?_
  refine wa_icmpeq (w_rg0 (by omega) (by omega)) (w_rg0 (by omega) (by omega)) ⟨_, rfl⟩ (fun c103 => ?_) (fun c103 => ?_)
  · skip
    refine wa_aload_n (n := 0) rfl ?_
    refine wb_gf4 63 rfl (wy_pr rfl) wt_63 wf_1_0 (v := 14) wl_63_0 ?_
    refine wa_cv 14 rfl (wy_pr rfl) wt_14 (M2 := fun _ => False) rfl at_XR_next ⟨_, rfl⟩ rfl rfl ⟨(Or.inr ⟨wy_pr rfl, fun q => q⟩), trivial, trivial⟩ trivial (fun _ _ q => False.elim q) ?_ (fun _ _ _ q => q)
    refine wa_aload_n (n := 0) rfl ?_
    refine wb_gfi 14 rfl (wy_pr rfl) wt_14 wf_6_4 (v := (i : Int)) (p4) (fun r104 => ?_)
    refine wa_iconst ?_
    refine wa_iadd ?_
    refine wa_aload_n (n := 0) rfl ?_
    refine wb_gfi 14 rfl (wy_pr rfl) wt_14 wf_6_3 (v := ((c : Int) + 1)) (h3) (fun r105 => ?_)
    refine wa_icmpge (w_rg0 (by omega) (by omega)) (w_rg0 (by omega) (by omega)) ⟨_, rfl⟩ (fun c106 => ?_) (fun c106 => ?_)
    · skip
      refine wa_return rfl ?_
      show wJ _ _ _ _ _ _ _ _ _ _
      refine wa_return rfl ?_
      exact absurd (qx_nx hT hP ⟨by omega, by omega⟩).1 (by omega)
    · skip
      refine wa_aload_n (n := 0) rfl ?_
      refine wa_dup (by decide) ?_
      refine wb_gfi 14 rfl (wy_pr rfl) wt_14 wf_6_4 (v := (i : Int)) (p4) (fun r107 => ?_)
      refine wa_iconst ?_
      refine wa_iadd ?_
      refine wb_pfi 14 rfl (wy_pr rfl) wt_14 wf_6_4 (n := 4) rfl ⟨(by omega), (by omega)⟩ ?_
      refine wa_fall ⟨_, rfl⟩ ?_
      refine wa_return rfl ?_
      show wJ _ _ _ _ _ _ _ _ _ _
      refine wa_return rfl ?_
      exact Or.inl ⟨rfl, by omega, rfl⟩
  · skip
    refine wa_aload_n (n := 0) rfl ?_
    refine wa_iconst ?_
    refine wa_cv 63 rfl (wy_pr rfl) wt_63 (M2 := fun _ => False) rfl at_XP_refuse ⟨_, rfl⟩ rfl rfl ⟨(Or.inr ⟨wy_pr rfl, fun q => q⟩), trivial, trivial⟩ trivial (fun _ _ q => False.elim q) (rfp_c (S := S) (k := 1) (p := tp T n 0 i) (i := (i : Int)) hI (p4) q2 ⟨by omega, by omega⟩ ⟨by omega, by omega⟩ ⟨by omega, by omega⟩) (fun oq110 Sq110 hp111 q110 => ?_)
    rcases q110 with ⟨v109, rfl, hz108⟩
    have hthr := hz108
    refine ⟨rfl, ?_⟩
    exact Or.inr ⟨_, rfl, by omega, hthr⟩
theorem opp {k dp : Int} (hI : gI S) (hT : qx_T T n N X c S) (hP : qx_P T n c i S) (hk : 2 ≤ k ∧ k ≤ 61) (hdp : 0 ≤ dp ∧ dp ≤ 1000) : wJ (pe_GA xs) wY0 M (d + 7) t_XP_open ((pe_at t_XP_open.bl 0).getD (0, [])).2 [(0, (2, 63)), (1, (0, k)), (2, (0, dp))] [] S (fun o Z => (o = .inl none ∧ (kq T n N X i = k ∧ dp < 50) ∧ w_up S 14 4 ((i : Int) + 1) = Z) ∨ (∃ v : Nat, o = .inr v ∧ kq T n N X i ≠ k ∧ ry_ag S Z v (1 + 16 * tp T n 0 i)) ∨ (∃ v : Nat, o = .inr v ∧ (kq T n N X i = k ∧ 50 ≤ dp) ∧ ry_ag S Z v (4 + 16 * tp T n 0 i))) := by
  obtain ⟨q1, q2, q3, q4, q5⟩ := qx_at hT hP
  have p4 := hP.1
  have hkr := kq_rg T n N X i
  have h3 : S 14 3 = (c : Int) + 1 := hT.1
  have hic : i ≤ c := hP.2.1
  have hnn : n ≤ 8176 := hT.2.2.2.2.2.1
  have hcn : (c : Int) ≤ n := hT.2.2.2.2.1
  obtain ⟨r1, r2, r3, r4, r5⟩ := hT.2.2.2.2.2.2
  refine wa_aload_n (n := 0) rfl ?_
  refine wb_gf4 63 rfl (wy_pr rfl) wt_63 wf_1_0 (v := 14) wl_63_0 ?_
  refine wa_cv 14 rfl (wy_pr rfl) wt_14 (M2 := fun _ => False) rfl at_XR_kind ⟨_, rfl⟩ rfl rfl ⟨(Or.inr ⟨wy_pr rfl, fun q => q⟩), trivial, trivial, trivial⟩ trivial (fun _ _ q => False.elim q) ?_ (fun _ _ _ q => q)
  refine wa_aload_n (n := 0) rfl ?_
  refine wb_gf4 14 rfl (wy_pr rfl) wt_14 wf_6_0 (v := 15) wl_14_0 ?_
  refine wa_aload_n (n := 0) rfl ?_
  refine wb_gfi 14 rfl (wy_pr rfl) wt_14 wf_6_4 (v := (i : Int)) (p4) (fun r101 => ?_)
  refine wb_bald 15 rfl (wy_pr rfl) wt_15 (n := (S 15 (-1))) rfl (by omega) (by omega) (v := (kq T n N X i)) (q3) (fun r102 => ?_)
  refine wa_ireturn rfl ?_
  show wJ _ _ _ _ _ _ _ _ _ _
  refine wa_iload_n (n := 1) rfl ?_
  refine wa_icmpeq (w_rg0 (by omega) (by omega)) (w_rg0 (by omega) (by omega)) ⟨_, rfl⟩ (fun c103 => ?_) (fun c103 => ?_)
  · skip
    refine wa_iload_n (n := 2) rfl ?_
    refine wa_bipush (w_rg2 (by omega) (by omega)) ?_
    refine wa_icmplt (w_rg0 (by omega) (by omega)) (w_rg0 (by omega) (by omega)) ⟨_, rfl⟩ (fun c104 => ?_) (fun c104 => ?_)
    · skip
      refine wa_aload_n (n := 0) rfl ?_
      refine wb_gf4 63 rfl (wy_pr rfl) wt_63 wf_1_0 (v := 14) wl_63_0 ?_
      refine wa_cv 14 rfl (wy_pr rfl) wt_14 (M2 := fun _ => False) rfl at_XR_next ⟨_, rfl⟩ rfl rfl ⟨(Or.inr ⟨wy_pr rfl, fun q => q⟩), trivial, trivial, trivial⟩ trivial (fun _ _ q => False.elim q) ?_ (fun _ _ _ q => q)
      refine wa_aload_n (n := 0) rfl ?_
      refine wb_gfi 14 rfl (wy_pr rfl) wt_14 wf_6_4 (v := (i : Int)) (p4) (fun r105 => ?_)
      refine wa_iconst ?_
      refine wa_iadd ?_
      refine wa_aload_n (n := 0) rfl ?_
      refine wb_gfi 14 rfl (wy_pr rfl) wt_14 wf_6_3 (v := ((c : Int) + 1)) (h3) (fun r106 => ?_)
      refine wa_icmpge (w_rg0 (by omega) (by omega)) (w_rg0 (by omega) (by omega)) ⟨_, rfl⟩ (fun c107 => ?_) (fun c107 => ?_)
      · skip
        refine wa_return rfl ?_
        show wJ _ _ _ _ _ _ _ _ _ _
        refine wa_return rfl ?_
        exact absurd (qx_nx hT hP ⟨by omega, by omega⟩).1 (by omega)
      · skip
        refine wa_aload_n (n := 0) rfl ?_
        refine wa_dup (by decide) ?_
        refine wb_gfi 14 rfl (wy_pr rfl) wt_14 wf_6_4 (v := (i : Int)) (p4) (fun r108 => ?_)
        refine wa_iconst ?_
        refine wa_iadd ?_
        refine wb_pfi 14 rfl (wy_pr rfl) wt_14 wf_6_4 (n := 4) rfl ⟨(by omega), (by omega)⟩ ?_
        refine wa_fall ⟨_, rfl⟩ ?_
        refine wa_return rfl ?_
        show wJ _ _ _ _ _ _ _ _ _ _
        refine wa_return rfl ?_
        exact Or.inl ⟨rfl, by omega, rfl⟩
    · skip
      refine wa_aload_n (n := 0) rfl ?_
      refine wa_iconst ?_
      refine wa_cv 63 rfl (wy_pr rfl) wt_63 (M2 := fun _ => False) rfl at_XP_refuse ⟨_, rfl⟩ rfl rfl ⟨(Or.inr ⟨wy_pr rfl, fun q => q⟩), trivial, trivial, trivial⟩ trivial (fun _ _ q => False.elim q) (rfp_c (S := S) (k := 4) (p := tp T n 0 i) (i := (i : Int)) hI (p4) q2 ⟨by omega, by omega⟩ ⟨by omega, by omega⟩ ⟨by omega, by omega⟩) (fun oq111 Sq111 hp112 q111 => ?_)
      rcases q111 with ⟨v110, rfl, hz109⟩
      have hthr := hz109
      refine ⟨rfl, ?_⟩
      exact Or.inr (by first | exact Or.inl ⟨_, rfl, by omega, hthr⟩ | exact Or.inr ⟨_, rfl, by omega, hthr⟩)
  · skip
    refine wa_aload_n (n := 0) rfl ?_
    refine wa_iconst ?_
    refine wa_cv 63 rfl (wy_pr rfl) wt_63 (M2 := fun _ => False) rfl at_XP_refuse ⟨_, rfl⟩ rfl rfl ⟨(Or.inr ⟨wy_pr rfl, fun q => q⟩), trivial, trivial, trivial⟩ trivial (fun _ _ q => False.elim q) (rfp_c (S := S) (k := 1) (p := tp T n 0 i) (i := (i : Int)) hI (p4) q2 ⟨by omega, by omega⟩ ⟨by omega, by omega⟩ ⟨by omega, by omega⟩) (fun oq115 Sq115 hp116 q115 => ?_)
    rcases q115 with ⟨v114, rfl, hz113⟩
    have hthr := hz113
    refine ⟨rfl, ?_⟩
    exact Or.inr (by first | exact Or.inl ⟨_, rfl, by omega, hthr⟩ | exact Or.inr ⟨_, rfl, by omega, hthr⟩)
theorem cnp (hI : gI S) (hT : qx_T T n N X c S) (hP : qx_P T n c i S) : wJ (pe_GA xs) wY0 M (d + 7) t_XP_checkName ((pe_at t_XP_checkName.bl 0).getD (0, [])).2 [(0, (2, 63))] [] S (fun o Z => (o = .inl none ∧ (kq T n N X i = 5 ∨ kq T n N X i = 6) ∧ S = Z) ∨ (∃ v : Nat, o = .inr v ∧ (kq T n N X i ≠ 5 ∧ kq T n N X i ≠ 6) ∧ ry_ag S Z v (1 + 16 * tp T n 0 i))) := by
  obtain ⟨q1, q2, q3, q4, q5⟩ := qx_at hT hP
  have p4 := hP.1
  have hkr := kq_rg T n N X i
  have h3 : S 14 3 = (c : Int) + 1 := hT.1
  have hic : i ≤ c := hP.2.1
  have hnn : n ≤ 8176 := hT.2.2.2.2.2.1
  have hcn : (c : Int) ≤ n := hT.2.2.2.2.1
  obtain ⟨r1, r2, r3, r4, r5⟩ := hT.2.2.2.2.2.2
  refine wa_aload_n (n := 0) rfl ?_
  refine wb_gf4 63 rfl (wy_pr rfl) wt_63 wf_1_0 (v := 14) wl_63_0 ?_
  refine wa_cv 14 rfl (wy_pr rfl) wt_14 (M2 := fun _ => False) rfl at_XR_kind ⟨_, rfl⟩ rfl rfl ⟨(Or.inr ⟨wy_pr rfl, fun q => q⟩), trivial⟩ trivial (fun _ _ q => False.elim q) ?_ (fun _ _ _ q => q)
  refine wa_aload_n (n := 0) rfl ?_
  refine wb_gf4 14 rfl (wy_pr rfl) wt_14 wf_6_0 (v := 15) wl_14_0 ?_
  refine wa_aload_n (n := 0) rfl ?_
  refine wb_gfi 14 rfl (wy_pr rfl) wt_14 wf_6_4 (v := (i : Int)) (p4) (fun r101 => ?_)
  refine wb_bald 15 rfl (wy_pr rfl) wt_15 (n := (S 15 (-1))) rfl (by omega) (by omega) (v := (kq T n N X i)) (q3) (fun r102 => ?_)
  refine wa_ireturn rfl ?_
  show wJ _ _ _ _ _ _ _ _ _ _
  refine wa_iconst ?_
  refine wa_icmpeq (w_rg0 (by omega) (by omega)) (w_rg0 (by omega) (by omega)) ⟨_, rfl⟩ (fun c103 => ?_) (fun c103 => ?_)
  · skip
    refine wa_return rfl ?_
    exact Or.inl ⟨rfl, by omega, rfl⟩
  · skip
    refine wa_aload_n (n := 0) rfl ?_
    refine wb_gf4 63 rfl (wy_pr rfl) wt_63 wf_1_0 (v := 14) wl_63_0 ?_
    refine wa_cv 14 rfl (wy_pr rfl) wt_14 (M2 := fun _ => False) rfl at_XR_kind ⟨_, rfl⟩ rfl rfl ⟨(Or.inr ⟨wy_pr rfl, fun q => q⟩), trivial⟩ trivial (fun _ _ q => False.elim q) ?_ (fun _ _ _ q => q)
    refine wa_aload_n (n := 0) rfl ?_
    refine wb_gf4 14 rfl (wy_pr rfl) wt_14 wf_6_0 (v := 15) wl_14_0 ?_
    refine wa_aload_n (n := 0) rfl ?_
    refine wb_gfi 14 rfl (wy_pr rfl) wt_14 wf_6_4 (v := (i : Int)) (p4) (fun r104 => ?_)
    refine wb_bald 15 rfl (wy_pr rfl) wt_15 (n := (S 15 (-1))) rfl (by omega) (by omega) (v := (kq T n N X i)) (q3) (fun r105 => ?_)
    refine wa_ireturn rfl ?_
    show wJ _ _ _ _ _ _ _ _ _ _
    refine wa_bipush (w_rg2 (by omega) (by omega)) ?_
    refine wa_icmpeq (w_rg0 (by omega) (by omega)) (w_rg0 (by omega) (by omega)) ⟨_, rfl⟩ (fun c106 => ?_) (fun c106 => ?_)
    · skip
      refine wa_return rfl ?_
      exact Or.inl ⟨rfl, by omega, rfl⟩
    · skip
      refine wa_aload_n (n := 0) rfl ?_
      refine wa_iconst ?_
      refine wa_cv 63 rfl (wy_pr rfl) wt_63 (M2 := fun _ => False) rfl at_XP_refuse ⟨_, rfl⟩ rfl rfl ⟨(Or.inr ⟨wy_pr rfl, fun q => q⟩), trivial⟩ trivial (fun _ _ q => False.elim q) (rfp_c (S := S) (k := 1) (p := tp T n 0 i) (i := (i : Int)) hI (p4) q2 ⟨by omega, by omega⟩ ⟨by omega, by omega⟩ ⟨by omega, by omega⟩) (fun oq109 Sq109 hp110 q109 => ?_)
      rcases q109 with ⟨v108, rfl, hz107⟩
      have hthr := hz107
      refine ⟨rfl, ?_⟩
      exact Or.inr ⟨_, rfl, by omega, hthr⟩
end Waz
