/-! PART hr: the class: construct's first loop. -/
section Whr
variable {xs : List (Nat × List Int32)} {M : Nat → Prop} {d : Nat} {S Z A : wS} {T : Int → Int} {cs : List hCR} {ms : List hMR} {os : Int → List Int} {Q : wO → wS → Prop}
/-- n fields of a new instance are there, none of them set -/
def cvR (g st cs : Int) (nf n : Nat) (A Z : wS) : Prop := (Z 134 g = (n : Int) ∧ Z 150 1 = A 150 1 + (n : Int)) ∧ (Z 133 g = st ∧ Z 135 g = (nf : Int) ∧ Z 140 2 = cs) ∧ (∀ i : Nat, i < n → Z 141 (st + (i : Int)) = -1 ∧ Z 142 (st + (i : Int)) = 0) ∧ (∀ i : Int, 0 ≤ i → i < cs → (i < st ∨ st + (nf : Int) ≤ i) → Z 141 i = A 141 i ∧ Z 142 i = A 142 i) ∧ (Z 142 (-1) = Z 141 (-1) ∧ cs ≤ Z 141 (-1) ∧ A 141 (-1) ≤ Z 141 (-1) ∧ (Z 141 (-1) = A 141 (-1) ∨ Z 141 (-1) ≤ 2 * cs)) ∧ (∀ (j : Nat) (i : Int), j < 4000000 → j ≠ wG → j ≠ 141 → j ≠ 142 → (j ≠ 134 ∨ i ≠ g) → (j ≠ 150 ∨ i ≠ 1) → Z j i = A j i) ∧ gI Z ∧ rmR A Z
theorem cv_n {g st cs : Int} {nf n : Nat} (h : cvR g st cs nf n A S) (hn : n < nf) (hg : 0 ≤ g) (h0 : 0 ≤ st) (hcs : st + (nf : Int) ≤ cs) (v : avH_ag g (-1) 0 S Z) : cvR g st cs nf (n + 1) A Z := by
  have hwg : wG = 1000000 := rfl
  obtain ⟨⟨a1, a2⟩, ⟨a3, a4, a5⟩, a6, a7, ⟨a8, a9, a10, a11⟩, a12, a13, a14⟩ := h
  obtain ⟨⟨v1, v2⟩, v3, v4, v5, v6, ⟨v7, v8, v9, v10⟩, v11, v12, v13⟩ := v
  have w : Z 133 g = S 133 g ∧ Z 135 g = S 135 g ∧ Z 140 2 = S 140 2 := by omega
  rw [w.1, a3, a1] at v5
  simp only [w.1, a3, a1] at v4
  refine ⟨⟨by omega, by omega⟩, ⟨by omega, by omega, by omega⟩, fun i hi => ?_, fun i i0 i1 i2 => ?_, ⟨v7, by omega, by omega, by omega⟩, fun j i j0 j1 j2 j3 j4 j5 => ?_, v12, rmR_tr a14 v13⟩
  · by_cases c : i < n
    · have z := v4 i (by omega) (by omega)
      rw [z.1, z.2]
      exact a6 i c
    · obtain rfl : i = n := by omega
      exact v5
  · have z := v6 i i0 (by omega) (by omega)
    rw [z.1, z.2]
    exact a7 i i0 i1 i2
  · by_cases c : (j = 133 ∨ j = 135) ∧ i = g
    · obtain ⟨c1, rfl⟩ := c
      rcases c1 with rfl | rfl
      · rw [w.1]; exact a12 133 i j0 j1 j2 j3 j4 j5
      · rw [w.2.1]; exact a12 135 i j0 j1 j2 j3 j4 j5
    · by_cases c2 : j = 140 ∧ i = 2
      · obtain ⟨rfl, rfl⟩ := c2
        rw [w.2.2]; exact a12 140 2 j0 j1 j2 j3 j4 j5
      · exact (v11 j i j0 j1 j2 j3 (by omega) (by omega) j5).trans (a12 j i j0 j1 j2 j3 j4 j5)
theorem CL_cv {g st cs : Int} {nf n : Nat} (hC : w_CL A) (hg : 0 ≤ g) (h : cvR g st cs nf n A S) : w_CL S := by
  intro q hq
  have hwg : wG = 1000000 := rfl
  have h1 : ∀ q ∈ wz_n, q.1 < 237 ∧ q.1 ≠ 141 ∧ q.1 ≠ 142 := by decide
  obtain ⟨a1, a2, a3⟩ := h1 q hq
  exact (h.2.2.2.2.2.1 q.1 (-1) (by omega) (by omega) a2 a3 (Or.inr (by omega)) (Or.inr (by first | decide | omega))).trans (hC q hq)
theorem cvl_73 {m k g st cs v0 : Int} {nf : Nat} (hC : w_CL A) (hth : ∀ x : Nat, x < 10 → A (127 + x) (-1) = A 127 (-1)) (hn2 : A 127 (-1) ≤ 16383) (hg : 0 ≤ g ∧ g < A 127 (-1)) (hz : 16 ≤ A 141 (-1) ∧ A 141 (-1) ≤ 480400) (hcs : 0 ≤ st ∧ st + (nf : Int) ≤ cs ∧ cs ≤ 240200) (hnf : nf ≤ 1000) (hv : A 150 1 = v0) (hv0 : 0 ≤ v0 ∧ v0 + (nf : Int) ≤ 60000) : ∀ (f n : Nat), n + f = nf → ∀ S : wS, cvR g st cs nf n A S → (∀ Z : wS, cvR g st cs nf nf A Z → wJ (pe_GA xs) wY0 (mS [127, 128, 129, 130, 131, 132, 133, 134, 135, 136, 141, 142]) (d + 6) t_XL_construct ((pe_at t_XL_construct.bl 2).getD (0, [])).2 [(0, (2, 158)), (1, (0, m)), (2, (2, 73)), (3, (0, k)), (4, (0, (nf : Int))), (5, (0, g))] [] Z Q) → wJ (pe_GA xs) wY0 (mS [127, 128, 129, 130, 131, 132, 133, 134, 135, 136, 141, 142]) (d + 6) t_XL_construct ((pe_at t_XL_construct.bl 1).getD (0, [])).2 [(0, (2, 158)), (1, (0, m)), (2, (2, 73)), (3, (0, k)), (4, (0, (nf : Int))), (5, (0, g)), (6, (0, (n : Int)))] [] S Q := by
  intro f
  induction f with
  | zero =>
    intro n hn S hc K
    have hen : n = nf := by omega
    subst hen
    refine wa_iload (n := 6) rfl ?_
    refine wa_iload (n := 4) rfl ?_
    refine wa_icmpge (w_rg0 (by omega) (by omega)) (w_rg0 (by omega) (by omega)) ⟨_, rfl⟩ (fun c1 => ?_) (fun c1 => ?_)
    · skip
      exact wJ_S (K S hc) ⟨rfl, rfl, rfl, rfl, rfl, rfl, trivial⟩
    · skip
      exfalso; omega
  | succ f ih =>
    intro n hn S hc K
    have hwg : wG = 1000000 := rfl
    have hC2 : w_CL S := CL_cv hC hg.1 hc
    have hf : ∀ j : Nat, j < 237 → j ≠ 141 → j ≠ 142 → S j (-1) = A j (-1) := fun j j0 j1 j2 => hc.2.2.2.2.2.1 j (-1) (by omega) (by omega) j1 j2 (Or.inr (by omega)) (Or.inr (by first | decide | omega))
    obtain ⟨⟨a1, a2⟩, ⟨a3, a4, a5⟩, -, -, ⟨a8, a9, a10, a11⟩, -, a13, -⟩ := id hc
    have e127 : S 127 (-1) = A 127 (-1) := hf 127 (by first | decide | omega) (by first | decide | omega) (by first | decide | omega)
    have hth2 : ∀ x : Nat, x < 10 → S (127 + x) (-1) = S 127 (-1) := fun x hx => by rw [hf (127 + x) (by omega) (by omega) (by omega), e127]; exact hth x hx
    have a2b : S 150 1 = v0 + (n : Int) := by omega
    refine wa_iload (n := 6) rfl ?_
    refine wa_iload (n := 4) rfl ?_
    refine wa_icmpge (w_rg0 (by omega) (by omega)) (w_rg0 (by omega) (by omega)) ⟨_, rfl⟩ (fun c51 => ?_) (fun c51 => ?_)
    · skip
      exfalso; omega
    · skip
      refine wa_aload_n (n := 0) rfl ?_
      refine wb_gf4 158 rfl (wy_pr rfl) wt_158 wf_5_0 (v := 72) wl_158_0 ?_
      refine wa_iload (n := 5) rfl ?_
      refine wa_iconst ?_
      refine wb_lconst (m := 0) rfl ?_
      refine wa_cv 72 rfl (wy_pr rfl) wt_72 (M2 := mS [141, 142]) rfl at_XH_addValue ⟨_, rfl⟩ rfl rfl ⟨(Or.inr ⟨wy_pr rfl, mS_no rfl⟩), trivial, (Or.inr ⟨wy_pr rfl, mS_no rfl⟩), trivial, trivial, trivial, trivial, trivial⟩ trivial (fun _ _ q => mS_sub (by decide) q) (avH_ok (S := S) (k := g) (kd := -1) (bt := 0) (st := st) (sz := (n : Int)) (rm := (nf : Int)) (cs := cs) (v0 := v0 + (n : Int)) hC2 a13 a5 ⟨by omega, by omega⟩ a8 ⟨by omega, by omega⟩ hth2 ⟨by omega, by omega⟩ (by omega) a3 a1 a4 ⟨by omega, by omega, by omega, by omega⟩ a2b ⟨by omega, by omega⟩ (by omega) ⟨by omega, by omega⟩ ⟨by omega, by omega⟩) (fun oq52 Sq52 hp53 q52 => ?_)
      rcases q52 with ⟨rfl, hav52⟩
      show wJ _ _ _ _ _ _ _ _ _ _
      refine wa_iinc rfl rfl ?_
      refine wa_goto ⟨_, rfl⟩ ?_
      exact wJ_S (ih (n + 1) (by omega) Sq52 (cv_n hc (by omega) hg.1 hcs.1 hcs.2.1 hav52) K) ⟨rfl, rfl, rfl, rfl, rfl, rfl, rfl, trivial⟩
theorem cvl_162 {m k g st cs v0 : Int} {nf : Nat} (hC : w_CL A) (hth : ∀ x : Nat, x < 10 → A (127 + x) (-1) = A 127 (-1)) (hn2 : A 127 (-1) ≤ 16383) (hg : 0 ≤ g ∧ g < A 127 (-1)) (hz : 16 ≤ A 141 (-1) ∧ A 141 (-1) ≤ 480400) (hcs : 0 ≤ st ∧ st + (nf : Int) ≤ cs ∧ cs ≤ 240200) (hnf : nf ≤ 1000) (hv : A 150 1 = v0) (hv0 : 0 ≤ v0 ∧ v0 + (nf : Int) ≤ 60000) : ∀ (f n : Nat), n + f = nf → ∀ S : wS, cvR g st cs nf n A S → (∀ Z : wS, cvR g st cs nf nf A Z → wJ (pe_GA xs) wY0 (mS [127, 128, 129, 130, 131, 132, 133, 134, 135, 136, 141, 142]) (d + 6) t_XL_construct ((pe_at t_XL_construct.bl 2).getD (0, [])).2 [(0, (2, 158)), (1, (0, m)), (2, (2, 162)), (3, (0, k)), (4, (0, (nf : Int))), (5, (0, g))] [] Z Q) → wJ (pe_GA xs) wY0 (mS [127, 128, 129, 130, 131, 132, 133, 134, 135, 136, 141, 142]) (d + 6) t_XL_construct ((pe_at t_XL_construct.bl 1).getD (0, [])).2 [(0, (2, 158)), (1, (0, m)), (2, (2, 162)), (3, (0, k)), (4, (0, (nf : Int))), (5, (0, g)), (6, (0, (n : Int)))] [] S Q := by
  intro f
  induction f with
  | zero =>
    intro n hn S hc K
    have hen : n = nf := by omega
    subst hen
    refine wa_iload (n := 6) rfl ?_
    refine wa_iload (n := 4) rfl ?_
    refine wa_icmpge (w_rg0 (by omega) (by omega)) (w_rg0 (by omega) (by omega)) ⟨_, rfl⟩ (fun c1 => ?_) (fun c1 => ?_)
    · skip
      exact wJ_S (K S hc) ⟨rfl, rfl, rfl, rfl, rfl, rfl, trivial⟩
    · skip
      exfalso; omega
  | succ f ih =>
    intro n hn S hc K
    have hwg : wG = 1000000 := rfl
    have hC2 : w_CL S := CL_cv hC hg.1 hc
    have hf : ∀ j : Nat, j < 237 → j ≠ 141 → j ≠ 142 → S j (-1) = A j (-1) := fun j j0 j1 j2 => hc.2.2.2.2.2.1 j (-1) (by omega) (by omega) j1 j2 (Or.inr (by omega)) (Or.inr (by first | decide | omega))
    obtain ⟨⟨a1, a2⟩, ⟨a3, a4, a5⟩, -, -, ⟨a8, a9, a10, a11⟩, -, a13, -⟩ := id hc
    have e127 : S 127 (-1) = A 127 (-1) := hf 127 (by first | decide | omega) (by first | decide | omega) (by first | decide | omega)
    have hth2 : ∀ x : Nat, x < 10 → S (127 + x) (-1) = S 127 (-1) := fun x hx => by rw [hf (127 + x) (by omega) (by omega) (by omega), e127]; exact hth x hx
    have a2b : S 150 1 = v0 + (n : Int) := by omega
    refine wa_iload (n := 6) rfl ?_
    refine wa_iload (n := 4) rfl ?_
    refine wa_icmpge (w_rg0 (by omega) (by omega)) (w_rg0 (by omega) (by omega)) ⟨_, rfl⟩ (fun c51 => ?_) (fun c51 => ?_)
    · skip
      exfalso; omega
    · skip
      refine wa_aload_n (n := 0) rfl ?_
      refine wb_gf4 158 rfl (wy_pr rfl) wt_158 wf_5_0 (v := 72) wl_158_0 ?_
      refine wa_iload (n := 5) rfl ?_
      refine wa_iconst ?_
      refine wb_lconst (m := 0) rfl ?_
      refine wa_cv 72 rfl (wy_pr rfl) wt_72 (M2 := mS [141, 142]) rfl at_XH_addValue ⟨_, rfl⟩ rfl rfl ⟨(Or.inr ⟨wy_pr rfl, mS_no rfl⟩), trivial, (Or.inr ⟨wy_pr rfl, mS_no rfl⟩), trivial, trivial, trivial, trivial, trivial⟩ trivial (fun _ _ q => mS_sub (by decide) q) (avH_ok (S := S) (k := g) (kd := -1) (bt := 0) (st := st) (sz := (n : Int)) (rm := (nf : Int)) (cs := cs) (v0 := v0 + (n : Int)) hC2 a13 a5 ⟨by omega, by omega⟩ a8 ⟨by omega, by omega⟩ hth2 ⟨by omega, by omega⟩ (by omega) a3 a1 a4 ⟨by omega, by omega, by omega, by omega⟩ a2b ⟨by omega, by omega⟩ (by omega) ⟨by omega, by omega⟩ ⟨by omega, by omega⟩) (fun oq52 Sq52 hp53 q52 => ?_)
      rcases q52 with ⟨rfl, hav52⟩
      show wJ _ _ _ _ _ _ _ _ _ _
      refine wa_iinc rfl rfl ?_
      refine wa_goto ⟨_, rfl⟩ ?_
      exact wJ_S (ih (n + 1) (by omega) Sq52 (cv_n hc (by omega) hg.1 hcs.1 hcs.2.1 hav52) K) ⟨rfl, rfl, rfl, rfl, rfl, rfl, rfl, trivial⟩
end Whr
