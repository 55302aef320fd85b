/-! PART 9j: the class's HostReader: where it stands; wordHere, take, next. -/
section W9j
variable {xs : List (Nat × List Int32)} {M : Nat → Prop} {d : Nat} {A B C S Z : wS} {Q : wO → wS → Prop} {T : Int → Int} {n : Int}
/-- the tokens of a host's text stand in their rows -/
def cx_T (w : Nat) (T : Int → Int) (n : Int) (c : Nat) (Z : wS) : Prop := Z 14 3 = (c : Int) + 1 ∧ (∀ k : Nat, k < c → tk_ok w T n Z k ∧ (lx_tk T n 1 (tp T n 1 k) = 5 → k + 1 = c)) ∧ (Z 16 (c : Int) = n ∧ Z 15 (c : Int) = 0) ∧ (tp T n 1 c = n ∨ ∃ k : Nat, k + 1 = c ∧ lx_tk T n 1 (tp T n 1 k) = 5) ∧ (c : Int) ≤ n ∧ n ≤ 65536 ∧ rd_L Z
/-- the reader stands at the i-th -/
def cx_P (T : Int → Int) (n : Int) (c i : Nat) (Z : wS) : Prop := Z 14 4 = (i : Int) ∧ i ≤ c ∧ ∀ k : Nat, k < i → lx_tk T n 1 (tp T n 1 k) ≠ 5
/-- the class's kind of a token, the end too -/
def kg (T : Int → Int) (n p : Int) : Int := if n ≤ p then 0 else kh T n p
theorem sk_rg (c : Int) : 10 ≤ sk c ∧ sk c ≤ 35 := by
  unfold sk
  repeat' split
  all_goals omega
theorem kh_rg (T : Int → Int) (n p : Int) : 1 ≤ kh T n p ∧ kh T n p ≤ 35 := by
  have := sk_rg (lx_si T n 1 p)
  unfold kh
  repeat' split
  all_goals omega
theorem kg_rg (T : Int → Int) (n p : Int) : 0 ≤ kg T n p ∧ kg T n p ≤ 35 := by
  have := kh_rg T n p
  unfold kg
  split <;> omega
theorem tk_0 {T : Int → Int} {n h p : Int} (hp : n ≤ p) : lx_tk T n h p = 0 := if_pos hp
theorem tk_n0 {T : Int → Int} {n h p : Int} (hp : p < n) : lx_tk T n h p = 1 ∨ lx_tk T n h p = 2 ∨ lx_tk T n h p = 3 ∨ lx_tk T n h p = 4 ∨ lx_tk T n h p = 5 := by
  unfold lx_tk
  rw [if_neg (by omega)]
  split
  · split
    · exact Or.inl rfl
    · omega
  · split
    · split
      · exact Or.inr (Or.inl rfl)
      · omega
    · split
      · have := lx_tx_tk T n ((n - p).toNat + 1) (p + 1) []
        omega
      · have := lx_sf_tk (T p) (lx_at T n (p + 1)) (lx_at T n (p + 2)) h
        omega
/-- names are the class's kind 5 -/
theorem kg_5 (T : Int → Int) (n p : Int) : kg T n p = 5 ↔ lx_tk T n 1 p = 1 := by
  have hs := sk_rg (lx_si T n 1 p)
  by_cases hp : n ≤ p
  · rw [show kg T n p = 0 from if_pos hp, tk_0 hp]; omega
  · have h := tk_n0 (T := T) (n := n) (h := 1) (p := p) (by omega)
    rw [show kg T n p = kh T n p from if_neg hp]
    unfold kh
    repeat' split
    all_goals omega
theorem kg_1 (T : Int → Int) (n p : Int) : kg T n p = 1 ↔ lx_tk T n 1 p = 5 := by
  have hs := sk_rg (lx_si T n 1 p)
  by_cases hp : n ≤ p
  · rw [show kg T n p = 0 from if_pos hp, tk_0 hp]; omega
  · have h := tk_n0 (T := T) (n := n) (h := 1) (p := p) (by omega)
    rw [show kg T n p = kh T n p from if_neg hp]
    unfold kh
    repeat' split
    all_goals omega
theorem kg_0 (T : Int → Int) (n p : Int) : kg T n p = 0 ↔ n ≤ p := by
  have := kh_rg T n p
  unfold kg
  split <;> omega
theorem cx_at {w c i : Nat} (hT : cx_T w T n c S) (hP : cx_P T n c i S) : S 16 (i : Int) = tp T n 1 i ∧ S 15 (i : Int) = kg T n (tp T n 1 i) ∧ 0 ≤ tp T n 1 i ∧ tp T n 1 i ≤ n := by
  by_cases hic : i < c
  · obtain ⟨a1, a2, a3, a4, -⟩ := (hT.2.1 i hic).1
    exact ⟨a3, by rw [a4]; exact (if_neg (by omega)).symm, a2, by omega⟩
  · have hi : i = c := by have := hP.2.1; omega
    subst hi
    rcases hT.2.2.2.1 with h | ⟨k, k1, k2⟩
    · have := hT.2.2.2.2.1
      exact ⟨hT.2.2.1.1.trans h.symm, hT.2.2.1.2.trans (by rw [h]; exact (if_pos (Int.le_refl _)).symm), by omega, by omega⟩
    · exact absurd k2 (hP.2.2 k (by omega))
theorem cx_lt {w c i : Nat} (hT : cx_T w T n c S) (hP : cx_P T n c i S) (h : kg T n (tp T n 1 i) ≠ 0) : i < c := by
  by_cases hic : i < c
  · exact hic
  · exfalso
    have hi : i = c := by have := hP.2.1; omega
    subst hi
    rcases hT.2.2.2.1 with h' | ⟨k, k1, k2⟩
    · exact h ((kg_0 T n _).2 (by omega))
    · exact absurd k2 (hP.2.2 k (by omega))
/-- the states are the same but for where the reader stands, and the reader of hosts -/
theorem cx_T_ag {w c : Nat} (hw : 18 < w) (hT : cx_T w T n c S) (h1 : Z 14 3 = S 14 3) (h2 : ∀ j : Nat, (j = 15 ∨ j = 16 ∨ j = 17 ∨ (w ≤ j ∧ j ≤ w + 3)) → Z j = S j) : cx_T w T n c Z := by
  obtain ⟨a1, a2, a3, a4, a5, a6, a7⟩ := hT
  have e15 := h2 15 (by omega)
  have e16 := h2 16 (by omega)
  have e17 := h2 17 (by omega)
  have ew := h2 w (by omega)
  have ew1 := h2 (w + 1) (by omega)
  have ew2 := h2 (w + 2) (by omega)
  have ew3 := h2 (w + 3) (by omega)
  refine ⟨h1.trans a1, fun k hk => ⟨?_, (a2 k hk).2⟩, ?_, a4, a5, a6, ?_⟩
  · have := (a2 k hk).1
    unfold tk_ok
    rw [e15, e16, e17, ew, ew1, ew2, ew3]
    exact this
  · rw [e15, e16]; exact a3
  · unfold rd_L
    rw [e15, e16, e17, h1]; exact a7
theorem cx_next {w c i : Nat} (hT : cx_T w T n c S) (hP : cx_P T n c i S) (h0 : kg T n (tp T n 1 i) ≠ 0) (h1 : kg T n (tp T n 1 i) ≠ 1) (hz : Z 14 4 = (i : Int) + 1) : cx_P T n c (i + 1) Z := by
  have := cx_lt hT hP h0
  refine ⟨by rw [hz]; omega, by omega, fun k hk => ?_⟩
  by_cases hki : k = i
  · subst hki
    exact fun q => h1 ((kg_1 T n _).2 q)
  · exact hP.2.2 k (by omega)
theorem nx_c {w : Nat} {c i : Nat} {p : Int} (hT : cx_T w T n c S) (hP : cx_P T n c i S) (hp : tp T n 1 i = p) (hI : gI S) (h0 : kg T n p ≠ 0) : wJ (pe_GA xs) wY0 M d t_XR_next ((pe_at t_XR_next.bl 0).getD (0, [])).2 [(0, (2, 14))] [] S (fun o Z => o = .inl none ∧ w_up S 14 4 ((i : Int) + 1) = Z) := by
  have hA := cx_at hT hP
  rw [hp] at hA
  obtain ⟨h16, h15, hp0, hp1⟩ := hA
  have h4 : S 14 4 = (i : Int) := hP.1
  have h3 : S 14 3 = (c : Int) + 1 := hT.1
  have hic : i ≤ c := hP.2.1
  have hn6 : n ≤ 65536 := hT.2.2.2.2.2.1
  have hcn : (c : Int) ≤ n := hT.2.2.2.2.1
  have hR : rd_L S := hT.2.2.2.2.2.2
  have hl15 : S 14 3 ≤ S 15 (-1) := hR.1.2
  have hl16 : S 16 (-1) = S 15 (-1) := hR.2.1
  have hl17 : S 17 (-1) = S 15 (-1) := hR.2.2.1
  have hkr := kg_rg T n p
  have hlt : i < c := cx_lt hT hP (by rw [hp]; exact h0)
  refine wa_aload_n (n := 0) rfl ?_
  refine wb_gfi 14 rfl (wy_pr rfl) wt_14 wf_6_4 (v := (i : Int)) (h4) (fun r1 => ?_)
  refine wa_iconst ?_
  refine wa_iadd ?_
  refine wa_aload_n (n := 0) rfl ?_
  refine wb_gfi 14 rfl (wy_pr rfl) wt_14 wf_6_3 (v := ((c : Int) + 1)) (h3) (fun r2 => ?_)
  refine wa_icmpge (w_rg0 (by omega) (by omega)) (w_rg0 (by omega) (by omega)) ⟨_, rfl⟩ (fun c3 => ?_) (fun c3 => ?_)
  · skip
    refine wa_return rfl ?_
    exact absurd hlt (by omega)
  · skip
    refine wa_aload_n (n := 0) rfl ?_
    refine wa_dup (by decide) ?_
    refine wb_gfi 14 rfl (wy_pr rfl) wt_14 wf_6_4 (v := (i : Int)) (h4) (fun r4 => ?_)
    refine wa_iconst ?_
    refine wa_iadd ?_
    refine wb_pfi 14 rfl (wy_pr rfl) wt_14 wf_6_4 (n := 4) rfl ⟨(by omega), (by omega)⟩ ?_
    refine wa_fall ⟨_, rfl⟩ ?_
    refine wa_return rfl ?_
    exact ⟨rfl, rfl⟩
theorem wh_c {w : Nat} {c i : Nat} {p : Int} (hT : cx_T w T n c S) (hP : cx_P T n c i S) (hp : tp T n 1 i = p) (hI : gI S) : wJ (pe_GA xs) wY0 M (d + 7) t_XT_wordHere ((pe_at t_XT_wordHere.bl 0).getD (0, [])).2 [(0, (2, 61))] [] S (fun o Z => (kg T n p = 5 ∧ o = .inl (some (0, S 17 (i : Int))) ∧ S = Z) ∨ (kg T n p ≠ 5 ∧ ∃ v : Nat, o = .inr v ∧ rz_ag S Z v (1 + 16 * p))) := by
  have hA := cx_at hT hP
  rw [hp] at hA
  obtain ⟨h16, h15, hp0, hp1⟩ := hA
  have h4 : S 14 4 = (i : Int) := hP.1
  have h3 : S 14 3 = (c : Int) + 1 := hT.1
  have hic : i ≤ c := hP.2.1
  have hn6 : n ≤ 65536 := hT.2.2.2.2.2.1
  have hcn : (c : Int) ≤ n := hT.2.2.2.2.1
  have hR : rd_L S := hT.2.2.2.2.2.2
  have hl15 : S 14 3 ≤ S 15 (-1) := hR.1.2
  have hl16 : S 16 (-1) = S 15 (-1) := hR.2.1
  have hl17 : S 17 (-1) = S 15 (-1) := hR.2.2.1
  have hkr := kg_rg T n p
  refine wa_aload_n (n := 0) rfl ?_
  refine wb_gf4 61 rfl (wy_pr rfl) wt_61 wf_4_0 (v := 14) wl_61_0 ?_
  refine wa_cv 14 rfl (wy_pr rfl) wt_14 (M2 := fun _ => False) rfl at_XR_kind ⟨_, rfl⟩ rfl rfl ⟨(Or.inr ⟨wy_pr rfl, fun q => q⟩), trivial⟩ trivial (fun _ _ q => False.elim q) ?_ (fun _ _ _ q => q)
  refine wa_aload_n (n := 0) rfl ?_
  refine wb_gf4 14 rfl (wy_pr rfl) wt_14 wf_6_0 (v := 15) wl_14_0 ?_
  refine wa_aload_n (n := 0) rfl ?_
  refine wb_gfi 14 rfl (wy_pr rfl) wt_14 wf_6_4 (v := (i : Int)) (h4) (fun r1 => ?_)
  refine wb_bald 15 rfl (wy_pr rfl) wt_15 (n := (S 15 (-1))) rfl (by omega) (by omega) (v := (kg T n p)) (h15) (fun r2 => ?_)
  refine wa_ireturn rfl ?_
  show wJ _ _ _ _ _ _ _ _ _ _
  refine wa_iconst ?_
  refine wa_icmpeq (w_rg0 (by omega) (by omega)) (w_rg0 (by omega) (by omega)) ⟨_, rfl⟩ (fun c3 => ?_) (fun c3 => ?_)
  · skip
    refine wa_aload_n (n := 0) rfl ?_
    refine wb_gf4 61 rfl (wy_pr rfl) wt_61 wf_4_0 (v := 14) wl_61_0 ?_
    refine wa_cv 14 rfl (wy_pr rfl) wt_14 (M2 := fun _ => False) rfl at_XR_value ⟨_, rfl⟩ rfl rfl ⟨(Or.inr ⟨wy_pr rfl, fun q => q⟩), trivial⟩ trivial (fun _ _ q => False.elim q) ?_ (fun _ _ _ q => q)
    refine wa_aload_n (n := 0) rfl ?_
    refine wb_gf4 14 rfl (wy_pr rfl) wt_14 wf_6_2 (v := 17) wl_14_2 ?_
    refine wa_aload_n (n := 0) rfl ?_
    refine wb_gfi 14 rfl (wy_pr rfl) wt_14 wf_6_4 (v := (i : Int)) (h4) (fun r4 => ?_)
    refine wb_iald 17 rfl (wy_pr rfl) wt_17 (n := (S 17 (-1))) rfl (by omega) (by omega) (v := (S 17 (i : Int))) rfl (fun r5 => ?_)
    refine wa_ireturn rfl ?_
    show wJ _ _ _ _ _ _ _ _ _ _
    refine wa_ireturn rfl ?_
    exact Or.inl ⟨by omega, rfl, rfl⟩
  · skip
    refine wa_aload_n (n := 0) rfl ?_
    refine wa_iconst ?_
    refine wa_cv 61 rfl (wy_pr rfl) wt_61 (M2 := fun _ => False) rfl at_XT_refuse ⟨_, rfl⟩ rfl rfl ⟨(Or.inr ⟨wy_pr rfl, fun q => q⟩), trivial⟩ trivial (fun _ _ q => False.elim q) (rf_c (S := S) (k := 1) (p := p) (i := (i : Int)) hI h4 h16 ⟨by omega, by omega⟩ ⟨by omega, by omega⟩ ⟨by omega, by omega⟩) (fun oq7 Sq7 hp8 q7 => ?_)
    rcases q7 with ⟨v, rfl, rz6⟩
    have hrz := rz6
    refine ⟨rfl, ?_⟩
    exact Or.inr ⟨by omega, v, rfl, hrz⟩
theorem ta_c {w : Nat} {c i : Nat} {p : Int} (hT : cx_T w T n c S) (hP : cx_P T n c i S) (hp : tp T n 1 i = p) (hI : gI S) {k : Int} (hk : 2 ≤ k ∧ k ≤ 127) : wJ (pe_GA xs) wY0 M (d + 7) t_XT_take ((pe_at t_XT_take.bl 0).getD (0, [])).2 [(0, (2, 61)), (1, (0, k))] [] S (fun o Z => (kg T n p = k ∧ o = .inl none ∧ w_up S 14 4 ((i : Int) + 1) = Z) ∨ (kg T n p ≠ k ∧ ∃ v : Nat, o = .inr v ∧ rz_ag S Z v (1 + 16 * p))) := by
  have hA := cx_at hT hP
  rw [hp] at hA
  obtain ⟨h16, h15, hp0, hp1⟩ := hA
  have h4 : S 14 4 = (i : Int) := hP.1
  have h3 : S 14 3 = (c : Int) + 1 := hT.1
  have hic : i ≤ c := hP.2.1
  have hn6 : n ≤ 65536 := hT.2.2.2.2.2.1
  have hcn : (c : Int) ≤ n := hT.2.2.2.2.1
  have hR : rd_L S := hT.2.2.2.2.2.2
  have hl15 : S 14 3 ≤ S 15 (-1) := hR.1.2
  have hl16 : S 16 (-1) = S 15 (-1) := hR.2.1
  have hl17 : S 17 (-1) = S 15 (-1) := hR.2.2.1
  have hkr := kg_rg T n p
  refine wa_aload_n (n := 0) rfl ?_
  refine wb_gf4 61 rfl (wy_pr rfl) wt_61 wf_4_0 (v := 14) wl_61_0 ?_
  refine wa_cv 14 rfl (wy_pr rfl) wt_14 (M2 := fun _ => False) rfl at_XR_kind ⟨_, rfl⟩ rfl rfl ⟨(Or.inr ⟨wy_pr rfl, fun q => q⟩), trivial, trivial⟩ trivial (fun _ _ q => False.elim q) ?_ (fun _ _ _ q => q)
  refine wa_aload_n (n := 0) rfl ?_
  refine wb_gf4 14 rfl (wy_pr rfl) wt_14 wf_6_0 (v := 15) wl_14_0 ?_
  refine wa_aload_n (n := 0) rfl ?_
  refine wb_gfi 14 rfl (wy_pr rfl) wt_14 wf_6_4 (v := (i : Int)) (h4) (fun r1 => ?_)
  refine wb_bald 15 rfl (wy_pr rfl) wt_15 (n := (S 15 (-1))) rfl (by omega) (by omega) (v := (kg T n p)) (h15) (fun r2 => ?_)
  refine wa_ireturn rfl ?_
  show wJ _ _ _ _ _ _ _ _ _ _
  refine wa_iload_n (n := 1) rfl ?_
  refine wa_icmpeq (w_rg0 (by omega) (by omega)) (w_rg0 (by omega) (by omega)) ⟨_, rfl⟩ (fun c3 => ?_) (fun c3 => ?_)
  · skip
    refine wa_aload_n (n := 0) rfl ?_
    refine wb_gf4 61 rfl (wy_pr rfl) wt_61 wf_4_0 (v := 14) wl_61_0 ?_
    refine wa_cv 14 rfl (wy_pr rfl) wt_14 (M2 := fun _ => False) rfl at_XR_next ⟨_, rfl⟩ rfl rfl ⟨(Or.inr ⟨wy_pr rfl, fun q => q⟩), trivial, trivial⟩ trivial (fun _ _ q => False.elim q) (nx_c hT hP hp hI (by omega)) (fun oq4 Sq4 hp5 q4 => ?_)
    rcases q4 with ⟨rfl, rfl⟩
    show wJ _ _ _ _ _ _ _ _ _ _
    refine wa_return rfl ?_
    exact Or.inl ⟨by omega, rfl, rfl⟩
  · skip
    refine wa_aload_n (n := 0) rfl ?_
    refine wa_iconst ?_
    refine wa_cv 61 rfl (wy_pr rfl) wt_61 (M2 := fun _ => False) rfl at_XT_refuse ⟨_, rfl⟩ rfl rfl ⟨(Or.inr ⟨wy_pr rfl, fun q => q⟩), trivial, trivial⟩ trivial (fun _ _ q => False.elim q) (rf_c (S := S) (k := 1) (p := p) (i := (i : Int)) hI h4 h16 ⟨by omega, by omega⟩ ⟨by omega, by omega⟩ ⟨by omega, by omega⟩) (fun oq7 Sq7 hp8 q7 => ?_)
    rcases q7 with ⟨v, rfl, rz6⟩
    have hrz := rz6
    refine ⟨rfl, ?_⟩
    exact Or.inr ⟨by omega, v, rfl, hrz⟩
end W9j
