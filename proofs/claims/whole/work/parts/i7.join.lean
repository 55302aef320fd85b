/-! PART i7: texts joined, of the class. -/
section Wi7
variable {xs : List (Nat × List Int32)} {M : Nat → Prop} {d : Nat} {S S0 Z A B C : wS} {k v s : Int} {l : List Int} {u u1 u2 : aV}
/-- signs have come behind the bytes of all texts -/
def asQ (l : List Int) (S Z : wS) : Prop := Z 2 1 = S 2 1 + (l.length : Int) ∧ (∀ i : Int, 0 ≤ i → i < S 2 1 → Z 3 i = S 3 i) ∧ (∀ k : Nat, k < l.length → Z 3 (S 2 1 + (k : Int)) = l.getD k 0) ∧ (∀ (j : Nat) (x : Int), j < 4000000 → j ≠ wG → j ≠ 3 → (j ≠ 2 ∨ x ≠ 1) → (j ≠ 157 ∨ x < 0) → (j ≠ 72 ∨ x ≠ 19) → Z j x = S j x) ∧ (S 2 1 + (l.length : Int) ≤ Z 3 (-1) ∧ S 3 (-1) ≤ Z 3 (-1) ∧ (Z 3 (-1) = S 3 (-1) ∨ Z 3 (-1) ≤ 2 * (S 2 1 + (l.length : Int)))) ∧ gI Z ∧ rmR S Z
theorem prN_tr (h : prN S A) (k : prN A Z) : prN S Z := ⟨fun j x j0 j1 => (k.1 j x j0 j1).trans (h.1 j x j0 j1), k.2.1, rmR_tr h.2.2 k.2.2⟩
theorem prN_cl (hC : w_CL S) (h : prN S Z) : w_CL Z := fun q hq => (h.1 q.1 (-1) (Or.inr (by first | decide | omega)) (Or.inr (by first | decide | omega))).trans (hC q hq)
theorem asQ_cl (hC : w_CL S) (h : asQ l S Z) : w_CL Z := fun q hq => by
  have hg : wG = 1000000 := rfl
  have h1 : ∀ q ∈ wz_n, q.1 < 237 ∧ q.1 ≠ 3 := by decide
  exact (h.2.2.2.1 q.1 (-1) (by have := (h1 q hq).1; omega) (by have := (h1 q hq).1; omega) (h1 q hq).2 (Or.inr (by first | decide | omega)) (Or.inr (by first | decide | omega)) (Or.inr (by first | decide | omega))).trans (hC q hq)
theorem asQ_n (h1 : shA l 64 (w_up S 72 19 64) A) (hl : l.length ≤ 64) (h : ap_ag A Z 2 157 (64 - (l.length : Int)) (l.length : Int)) : asQ l S Z := by
  have hg : wG = 1000000 := rfl
  obtain ⟨-, a2, a3, a4, a5⟩ := h1
  obtain ⟨b1, b2, b3, b4, b5, b6, b7⟩ := h
  have eA : ∀ (j : Nat) (x : Int), (j ≠ 157 ∨ x < 0) → (j ≠ 72 ∨ x ≠ 19) → A j x = S j x := fun j x j0 j1 => (a3 j x (by omega) j1).trans (w_up_no (by omega))
  have e21 : A 2 1 = S 2 1 := eA 2 1 (Or.inl (by first | decide | omega)) (Or.inl (by first | decide | omega))
  have e31 : A 3 (-1) = S 3 (-1) := eA 3 (-1) (Or.inl (by first | decide | omega)) (Or.inl (by first | decide | omega))
  rw [e21] at b1 b2 b3 b5
  replace b5 : S 2 1 + (l.length : Int) ≤ Z 3 (-1) ∧ A 3 (-1) ≤ Z 3 (-1) ∧ (Z 3 (-1) = A 3 (-1) ∨ Z 3 (-1) ≤ 2 * (S 2 1 + (l.length : Int))) := b5
  rw [e31] at b5
  exact ⟨b1, fun i i0 i1 => (b2 i i0 i1).trans (eA 3 i (Or.inl (by first | decide | omega)) (Or.inl (by first | decide | omega))), fun k hk => (b3 (k : Int) (by omega) (by omega)).trans (a2 k hk), fun j x j0 j1 j2 j3 j4 j5 => (b4 j x j0 j1 j2 j3).trans (eA j x j4 j5), b5, b6, rmR_tr (rmR_tr (rmR_up (rmR_rfl S) (by first | decide | omega) (by first | decide | omega)) a5) b7⟩
theorem asQ_t (he : ∀ i : Nat, i < l.length → S 3 (s + (i : Int)) = l.getD i 0) (h : ap_ag (w_up S 72 19 64) Z 2 3 s (l.length : Int)) : asQ l S Z := by
  have hg : wG = 1000000 := rfl
  obtain ⟨b1, b2, b3, b4, b5, b6, b7⟩ := h
  have eA : ∀ (j : Nat) (x : Int), (j ≠ 72 ∨ x ≠ 19) → (w_up S 72 19 64) j x = S j x := fun j x j1 => w_up_no (by omega)
  rw [eA 2 1 (Or.inl (by first | decide | omega))] at b1 b2 b3 b5
  replace b5 : S 2 1 + (l.length : Int) ≤ Z 3 (-1) ∧ (w_up S 72 19 64) 3 (-1) ≤ Z 3 (-1) ∧ (Z 3 (-1) = (w_up S 72 19 64) 3 (-1) ∨ Z 3 (-1) ≤ 2 * (S 2 1 + (l.length : Int))) := b5
  rw [eA 3 (-1) (Or.inl (by first | decide | omega))] at b5
  exact ⟨b1, fun i i0 i1 => (b2 i i0 i1).trans (eA 3 i (Or.inl (by first | decide | omega))), fun k hk => (b3 (k : Int) (by omega) (by omega)).trans ((eA 3 _ (Or.inl (by first | decide | omega))).trans (he k hk)), fun j x j0 j1 j2 j3 j4 j5 => (b4 j x j0 j1 j2 j3).trans (eA j x j5), b5, b6, rmR_tr (rmR_up (rmR_rfl S) (by first | decide | omega) (by first | decide | omega)) b7⟩
/-- the signs of two values, one behind the other -/
theorem asQ_2 {l1 l2 : List Int} (h1 : asQ l1 S A) (h2 : asQ l2 A Z) (h0 : 0 ≤ S 2 1) : asQ (l1 ++ l2) S Z := by
  obtain ⟨a1, a2, a3, a4, a5, a6, a7⟩ := h1
  obtain ⟨b1, b2, b3, b4, b5, b6, b7⟩ := h2
  have hl : ((l1 ++ l2).length : Int) = (l1.length : Int) + (l2.length : Int) := by rw [List.length_append]; omega
  refine ⟨by rw [hl]; omega, fun i i0 i1 => (b2 i i0 (by omega)).trans (a2 i i0 i1), fun k hk => ?_, fun j x j0 j1 j2 j3 j4 j5 => (b4 j x j0 j1 j2 j3 j4 j5).trans (a4 j x j0 j1 j2 j3 j4 j5), by rw [hl]; omega, b6, rmR_tr a7 b7⟩
  by_cases c : k < l1.length
  · rw [List.getD_eq_getElem?_getD, List.getElem?_append_left c, ← List.getD_eq_getElem?_getD]; exact (b2 _ (by omega) (by omega)).trans (a3 k c)
  · rw [List.length_append] at hk
    have z := b3 (k - l1.length) (by omega)
    rw [a1, show S 2 1 + (l1.length : Int) + ((k - l1.length : Nat) : Int) = S 2 1 + (k : Int) by omega] at z
    rw [z, List.getD_eq_getElem?_getD, List.getD_eq_getElem?_getD, List.getElem?_append_right (by omega)]
theorem ap_2_3L {a0 n : Int} (hI : gI S) (h0 : 0 ≤ S 2 1 ∧ S 2 1 ≤ S 3 (-1) ∧ 1024 ≤ S 3 (-1) ∧ S 3 (-1) ≤ 16777216) (hn : 0 ≤ n ∧ n ≤ 400000) (ha : 0 ≤ a0 ∧ a0 + n ≤ S 3 (-1)) : wJ (pe_GA xs) wY0 (mS [3]) (d + 3) t_XW_append ((pe_at t_XW_append.bl 0).getD (0, [])).2 [(0, (2, 2)), (1, (2, 3)), (2, (0, a0)), (3, (0, n))] [] S (fun o Z => o = .inl (some (0, S 2 1)) ∧ ap_ag S Z 2 3 a0 n) := by
  have hR := rmR_rfl S
  refine wa_aload_n (n := 0) rfl ?_
  refine wb_gfi 2 rfl (wy_pr rfl) wt_2 wf_9_1 (v := (S 2 1)) rfl (fun r1 => ?_)
  refine wa_iload_n (n := 3) rfl ?_
  refine wa_iadd ?_
  refine wa_aload_n (n := 0) rfl ?_
  refine wb_gf4 2 rfl (wy_pr rfl) wt_2 wf_9_0 (v := 3) wl_2_0 ?_
  refine wb_alen 3 rfl (wy_pr rfl) (by rw [wt_3]; rfl) (v := (S 3 (-1))) rfl (fun r2 => ?_)
  refine wa_icmple (w_rg0 (by omega) (by omega)) (w_rg0 (by omega) (by omega)) ⟨_, rfl⟩ (fun c3 => ?_) (fun c3 => ?_)
  · skip
    refine wa_aload_n (n := 1) rfl ?_
    refine wa_iload_n (n := 2) rfl ?_
    refine wa_aload_n (n := 0) rfl ?_
    refine wb_gf4 2 rfl (wy_pr rfl) wt_2 wf_9_0 (v := 3) wl_2_0 ?_
    refine wa_aload_n (n := 0) rfl ?_
    refine wb_gfi 2 rfl (wy_pr rfl) wt_2 wf_9_1 (v := (S 2 1)) rfl (fun r4 => ?_)
    refine wa_iload_n (n := 3) rfl ?_
    refine wb_acB (S := S) 3 3 rfl rfl (wy_pr rfl) (wy_pr rfl) wt_3 wt_3 hI hR (by decide) (by omega) (by omega) (by omega) (by have e : S 3 (-1) = (S 3 (-1)) := rfl; omega) (by have e : S 3 (-1) = (S 3 (-1)) := rfl; omega) (by omega) rfl (fun Z5 g6 gi7 rm8 => ?_)
    refine wa_aload_n (n := 0) rfl ?_
    refine wa_dup (by decide) ?_
    refine wb_gfi 2 rfl (wy_pr rfl) wt_2 wf_9_1 (v := (S 2 1)) ((g6.1 2 1 (Or.inl (by decide)))) (fun r9 => ?_)
    refine wa_iload_n (n := 3) rfl ?_
    refine wa_iadd ?_
    refine wb_pfi 2 rfl (wy_pr rfl) wt_2 wf_9_1 (n := 1) rfl ⟨(by omega), (by omega)⟩ ?_
    refine wa_aload_n (n := 0) rfl ?_
    refine wb_gfi 2 rfl (wy_pr rfl) wt_2 wf_9_1 (v := ((S 2 1) + n)) (w_up_same _ _ _ _) (fun r10 => ?_)
    refine wa_iload_n (n := 3) rfl ?_
    refine wa_isub ?_
    refine wa_ireturn rfl ?_
    have e0 : ∀ (j : Nat) (i : Int), (j ≠ 3 ∨ i < S 2 1 ∨ S 2 1 + n ≤ i) → Z5 j i = S j i := g6.1
    refine ⟨congrArg (fun z => Sum.inl (some (0, z))) (by omega), w_up_same _ _ _ _, fun i i0 i1 => (w_up_slot (by first | decide | omega)).trans (e0 3 i (by omega)), fun i i0 i1 => (w_up_slot (by first | decide | omega)).trans (g6.2 i i0 i1), fun j i j0 j1 j2 j3 => (w_up_no (by omega)).trans (e0 j i (by omega)), ?_, gI_up gi7 (by omega) (by omega) (by omega), rmR_up rm8 (by omega) (by first | decide | omega)⟩
    have e1 : (w_up Z5 2 1 (S 2 1 + n)) 3 (-1) = S 3 (-1) := (w_up_slot (by first | decide | omega)).trans (e0 3 (-1) (by omega))
    show S 2 1 + n ≤ (w_up Z5 2 1 (S 2 1 + n)) 3 (-1) ∧ S 3 (-1) ≤ (w_up Z5 2 1 (S 2 1 + n)) 3 (-1) ∧ ((w_up Z5 2 1 (S 2 1 + n)) 3 (-1) = S 3 (-1) ∨ (w_up Z5 2 1 (S 2 1 + n)) 3 (-1) ≤ 2 * (S 2 1 + n))
    rw [e1]; omega
  · skip
    refine wa_aload_n (n := 0) rfl ?_
    refine wa_aload_n (n := 0) rfl ?_
    refine wb_gf4 2 rfl (wy_pr rfl) wt_2 wf_9_0 (v := 3) wl_2_0 ?_
    refine wa_aload_n (n := 0) rfl ?_
    refine wb_gfi 2 rfl (wy_pr rfl) wt_2 wf_9_1 (v := (S 2 1)) rfl (fun r11 => ?_)
    refine wa_iload_n (n := 3) rfl ?_
    refine wa_iadd ?_
    refine wa_aload_n (n := 0) rfl ?_
    refine wb_gf4 2 rfl (wy_pr rfl) wt_2 wf_9_0 (v := 3) wl_2_0 ?_
    refine wb_alen 3 rfl (wy_pr rfl) (by rw [wt_3]; rfl) (v := (S 3 (-1))) rfl (fun r12 => ?_)
    refine wa_iconst ?_
    refine wa_imul ?_
    refine wa_cs (M2 := fun _ => False) rfl at_JM_max ⟨_, rfl⟩ rfl rfl ⟨(Or.inr ⟨wy_pr rfl, fun q => q⟩), (Or.inr ⟨wy_pr rfl, fun q => q⟩), trivial, trivial, trivial⟩ ⟨(Or.inr ⟨wy_pr rfl, fun q => q⟩), (Or.inr ⟨wy_pr rfl, fun q => q⟩), trivial⟩ (fun _ _ q => False.elim q) (mx_ok (S := S) ⟨by omega, by omega⟩ ⟨by omega, by omega⟩) (fun oq14 Sq14 hp15 q14 => ?_)
    rcases q14 with ⟨rfl, rfl⟩
    show wJ _ _ _ _ _ _ _ _ _ _
    generalize hvv13 : (if ((S 2 1) + n) ≥ ((S 3 (-1)) * 2) then ((S 2 1) + n) else ((S 3 (-1)) * 2)) = v13
    have hwv13 : ((S 2 1) + n) ≤ v13 ∧ ((S 3 (-1)) * 2) ≤ v13 ∧ (v13 = ((S 2 1) + n) ∨ v13 = ((S 3 (-1)) * 2)) := by subst hvv13; split <;> omega
    refine wa_cs (M2 := fun _ => False) rfl at_JA_copyOf ⟨_, rfl⟩ rfl rfl ⟨(Or.inr ⟨wy_pr rfl, fun q => q⟩), (Or.inr ⟨wy_pr rfl, fun q => q⟩), trivial, trivial, trivial⟩ ⟨(Or.inr ⟨wy_pr rfl, fun q => q⟩), trivial⟩ (fun _ _ q => False.elim q) (cp_B (S := S) (a := 3) (n := v13) (len := (S 3 (-1))) (wy_pr rfl) wt_3 rfl ⟨by omega, by omega, by omega⟩) (fun oq16 Sq16 _ q16 => ?_)
    rcases q16 with ⟨rfl, rfl⟩
    show wJ _ _ _ _ _ _ _ _ _ _
    refine wg_pfr (S := S) (len := (S 3 (-1))) (L2 := [(0, (2, 2)), (1, (2, ((nN S 2 : Nat) : Int))), (2, (0, a0)), (3, (0, n))]) 2 2 3 rfl rfl rfl wt_2 wf_9_0 wl_2_0 (by decide +kernel) wt_3 (by first | decide | omega) (by decide +kernel) hI (fun q => absurd q (by first | decide | omega)) (by first | decide | omega) ⟨by omega, by omega⟩ rfl (fun _ => ⟨Or.inr (by first | decide | omega), Or.inl (nN_ge _)⟩) (fun ad Lc hL => LL_ap (nN_3) hL) trivial (fun Zg gg ggi gen gpn => ?_)
    have hrm := rmR_gr hR gg (by decide +kernel) (len := (S 3 (-1))) rfl ⟨by omega, by omega⟩ ⟨fun q => by first | omega | exact absurd q (by decide), by show _ ≤ (100000000 : Int); omega⟩
    refine wa_fall ⟨_, rfl⟩ ?_
    refine wa_aload_n (n := 1) rfl ?_
    refine wa_iload_n (n := 2) rfl ?_
    refine wa_aload_n (n := 0) rfl ?_
    refine wb_gf4 2 rfl (wy_pr rfl) wt_2 wf_9_0 (v := 3) wl_2_0 ?_
    refine wa_aload_n (n := 0) rfl ?_
    refine wb_gfi 2 rfl (wy_pr rfl) wt_2 wf_9_1 (v := (S 2 1)) ((congrFun (gg.2.2.1 2 (by decide) (by decide) (by decide)) 1)) (fun r17 => ?_)
    refine wa_iload_n (n := 3) rfl ?_
    refine wb_acB (S := Zg) (nN S 2) 3 rfl rfl gpn (wy_pr rfl) (wt_nN (by decide)) wt_3 ggi hrm (by decide) (by omega) (by omega) (by omega) (by have e : Zg (nN S 2) (-1) = (S 3 (-1)) := ((congrFun gen (-1))); omega) (by have e : Zg 3 (-1) = v13 := (gg.1); omega) (by omega) rfl (fun Z18 g19 gi20 rm21 => ?_)
    refine wa_aload_n (n := 0) rfl ?_
    refine wa_dup (by decide) ?_
    refine wb_gfi 2 rfl (wy_pr rfl) wt_2 wf_9_1 (v := (S 2 1)) (((g19.1 2 1 (Or.inl (by decide))).trans ((congrFun (gg.2.2.1 2 (by decide) (by decide) (by decide)) 1)))) (fun r22 => ?_)
    refine wa_iload_n (n := 3) rfl ?_
    refine wa_iadd ?_
    refine wb_pfi 2 rfl (wy_pr rfl) wt_2 wf_9_1 (n := 1) rfl ⟨(by omega), (by omega)⟩ ?_
    refine wa_aload_n (n := 0) rfl ?_
    refine wb_gfi 2 rfl (wy_pr rfl) wt_2 wf_9_1 (v := ((S 2 1) + n)) (w_up_same _ _ _ _) (fun r23 => ?_)
    refine wa_iload_n (n := 3) rfl ?_
    refine wa_isub ?_
    refine wa_ireturn rfl ?_
    have e0 : ∀ (j : Nat) (i : Int), (j ≠ 3 ∨ i < S 2 1 ∨ S 2 1 + n ≤ i) → Z18 j i = Zg j i := g19.1
    have zz : ∀ (j : Nat) (i : Int), j < 4000000 → j ≠ wG → j ≠ 3 → Zg j i = S j i := fun j i j1 j2 j3 => congrFun (gg.2.2.1 j j3 j1 j2) i
    have zl : Zg 3 (-1) = v13 := gg.1
    refine ⟨congrArg (fun z => Sum.inl (some (0, z))) (by omega), w_up_same _ _ _ _, fun i i0 i1 => (w_up_slot (by first | decide | omega)).trans ((e0 3 i (by omega)).trans (gg.2.1 i i0 (by omega))), fun i i0 i1 => (w_up_slot (by first | decide | omega)).trans ((g19.2 i i0 i1).trans (congrFun gen _)), fun j i j0 j1 j2 j3 => (w_up_no (by omega)).trans ((e0 j i (by omega)).trans (zz j i j0 j1 j2)), ?_, gI_up gi20 (by omega) (by omega) (by omega), rmR_up rm21 (by omega) (by first | decide | omega)⟩
    have e1 : (w_up Z18 2 1 (S 2 1 + n)) 3 (-1) = v13 := (w_up_slot (by first | decide | omega)).trans ((e0 3 (-1) (by omega)).trans zl)
    show S 2 1 + n ≤ (w_up Z18 2 1 (S 2 1 + n)) 3 (-1) ∧ S 3 (-1) ≤ (w_up Z18 2 1 (S 2 1 + n)) 3 (-1) ∧ ((w_up Z18 2 1 (S 2 1 + n)) 3 (-1) = S 3 (-1) ∨ (w_up Z18 2 1 (S 2 1 + n)) 3 (-1) ≤ 2 * (S 2 1 + n))
    rw [e1]; omega
theorem ap_2_157 {a0 n : Int} (hI : gI S) (h0 : 0 ≤ S 2 1 ∧ S 2 1 ≤ S 3 (-1) ∧ 1024 ≤ S 3 (-1) ∧ S 3 (-1) ≤ 16777216) (hn : 0 ≤ n ∧ n ≤ 1024) (ha : 0 ≤ a0 ∧ a0 + n ≤ S 157 (-1)) : wJ (pe_GA xs) wY0 (mS [3]) (d + 3) t_XW_append ((pe_at t_XW_append.bl 0).getD (0, [])).2 [(0, (2, 2)), (1, (2, 157)), (2, (0, a0)), (3, (0, n))] [] S (fun o Z => o = .inl (some (0, S 2 1)) ∧ ap_ag S Z 2 157 a0 n) := by
  have hR := rmR_rfl S
  refine wa_aload_n (n := 0) rfl ?_
  refine wb_gfi 2 rfl (wy_pr rfl) wt_2 wf_9_1 (v := (S 2 1)) rfl (fun r1 => ?_)
  refine wa_iload_n (n := 3) rfl ?_
  refine wa_iadd ?_
  refine wa_aload_n (n := 0) rfl ?_
  refine wb_gf4 2 rfl (wy_pr rfl) wt_2 wf_9_0 (v := 3) wl_2_0 ?_
  refine wb_alen 3 rfl (wy_pr rfl) (by rw [wt_3]; rfl) (v := (S 3 (-1))) rfl (fun r2 => ?_)
  refine wa_icmple (w_rg0 (by omega) (by omega)) (w_rg0 (by omega) (by omega)) ⟨_, rfl⟩ (fun c3 => ?_) (fun c3 => ?_)
  · skip
    refine wa_aload_n (n := 1) rfl ?_
    refine wa_iload_n (n := 2) rfl ?_
    refine wa_aload_n (n := 0) rfl ?_
    refine wb_gf4 2 rfl (wy_pr rfl) wt_2 wf_9_0 (v := 3) wl_2_0 ?_
    refine wa_aload_n (n := 0) rfl ?_
    refine wb_gfi 2 rfl (wy_pr rfl) wt_2 wf_9_1 (v := (S 2 1)) rfl (fun r4 => ?_)
    refine wa_iload_n (n := 3) rfl ?_
    refine wb_acB (S := S) 157 3 rfl rfl (wy_pr rfl) (wy_pr rfl) wt_157 wt_3 hI hR (by decide) (by omega) (by omega) (by omega) (by have e : S 157 (-1) = (S 157 (-1)) := rfl; omega) (by have e : S 3 (-1) = (S 3 (-1)) := rfl; omega) (by omega) rfl (fun Z5 g6 gi7 rm8 => ?_)
    refine wa_aload_n (n := 0) rfl ?_
    refine wa_dup (by decide) ?_
    refine wb_gfi 2 rfl (wy_pr rfl) wt_2 wf_9_1 (v := (S 2 1)) ((g6.1 2 1 (Or.inl (by decide)))) (fun r9 => ?_)
    refine wa_iload_n (n := 3) rfl ?_
    refine wa_iadd ?_
    refine wb_pfi 2 rfl (wy_pr rfl) wt_2 wf_9_1 (n := 1) rfl ⟨(by omega), (by omega)⟩ ?_
    refine wa_aload_n (n := 0) rfl ?_
    refine wb_gfi 2 rfl (wy_pr rfl) wt_2 wf_9_1 (v := ((S 2 1) + n)) (w_up_same _ _ _ _) (fun r10 => ?_)
    refine wa_iload_n (n := 3) rfl ?_
    refine wa_isub ?_
    refine wa_ireturn rfl ?_
    have e0 : ∀ (j : Nat) (i : Int), (j ≠ 3 ∨ i < S 2 1 ∨ S 2 1 + n ≤ i) → Z5 j i = S j i := g6.1
    refine ⟨congrArg (fun z => Sum.inl (some (0, z))) (by omega), w_up_same _ _ _ _, fun i i0 i1 => (w_up_slot (by first | decide | omega)).trans (e0 3 i (by omega)), fun i i0 i1 => (w_up_slot (by first | decide | omega)).trans (g6.2 i i0 i1), fun j i j0 j1 j2 j3 => (w_up_no (by omega)).trans (e0 j i (by omega)), ?_, gI_up gi7 (by omega) (by omega) (by omega), rmR_up rm8 (by omega) (by first | decide | omega)⟩
    have e1 : (w_up Z5 2 1 (S 2 1 + n)) 3 (-1) = S 3 (-1) := (w_up_slot (by first | decide | omega)).trans (e0 3 (-1) (by omega))
    show S 2 1 + n ≤ (w_up Z5 2 1 (S 2 1 + n)) 3 (-1) ∧ S 3 (-1) ≤ (w_up Z5 2 1 (S 2 1 + n)) 3 (-1) ∧ ((w_up Z5 2 1 (S 2 1 + n)) 3 (-1) = S 3 (-1) ∨ (w_up Z5 2 1 (S 2 1 + n)) 3 (-1) ≤ 2 * (S 2 1 + n))
    rw [e1]; omega
  · skip
    refine wa_aload_n (n := 0) rfl ?_
    refine wa_aload_n (n := 0) rfl ?_
    refine wb_gf4 2 rfl (wy_pr rfl) wt_2 wf_9_0 (v := 3) wl_2_0 ?_
    refine wa_aload_n (n := 0) rfl ?_
    refine wb_gfi 2 rfl (wy_pr rfl) wt_2 wf_9_1 (v := (S 2 1)) rfl (fun r11 => ?_)
    refine wa_iload_n (n := 3) rfl ?_
    refine wa_iadd ?_
    refine wa_aload_n (n := 0) rfl ?_
    refine wb_gf4 2 rfl (wy_pr rfl) wt_2 wf_9_0 (v := 3) wl_2_0 ?_
    refine wb_alen 3 rfl (wy_pr rfl) (by rw [wt_3]; rfl) (v := (S 3 (-1))) rfl (fun r12 => ?_)
    refine wa_iconst ?_
    refine wa_imul ?_
    refine wa_cs (M2 := fun _ => False) rfl at_JM_max ⟨_, rfl⟩ rfl rfl ⟨(Or.inr ⟨wy_pr rfl, fun q => q⟩), (Or.inr ⟨wy_pr rfl, fun q => q⟩), trivial, trivial, trivial⟩ ⟨(Or.inr ⟨wy_pr rfl, fun q => q⟩), (Or.inr ⟨wy_pr rfl, fun q => q⟩), trivial⟩ (fun _ _ q => False.elim q) (mx_ok (S := S) ⟨by omega, by omega⟩ ⟨by omega, by omega⟩) (fun oq14 Sq14 hp15 q14 => ?_)
    rcases q14 with ⟨rfl, rfl⟩
    show wJ _ _ _ _ _ _ _ _ _ _
    generalize hvv13 : (if ((S 2 1) + n) ≥ ((S 3 (-1)) * 2) then ((S 2 1) + n) else ((S 3 (-1)) * 2)) = v13
    have hwv13 : ((S 2 1) + n) ≤ v13 ∧ ((S 3 (-1)) * 2) ≤ v13 ∧ (v13 = ((S 2 1) + n) ∨ v13 = ((S 3 (-1)) * 2)) := by subst hvv13; split <;> omega
    refine wa_cs (M2 := fun _ => False) rfl at_JA_copyOf ⟨_, rfl⟩ rfl rfl ⟨(Or.inr ⟨wy_pr rfl, fun q => q⟩), (Or.inr ⟨wy_pr rfl, fun q => q⟩), trivial, trivial, trivial⟩ ⟨(Or.inr ⟨wy_pr rfl, fun q => q⟩), trivial⟩ (fun _ _ q => False.elim q) (cp_B (S := S) (a := 3) (n := v13) (len := (S 3 (-1))) (wy_pr rfl) wt_3 rfl ⟨by omega, by omega, by omega⟩) (fun oq16 Sq16 _ q16 => ?_)
    rcases q16 with ⟨rfl, rfl⟩
    show wJ _ _ _ _ _ _ _ _ _ _
    refine wg_pf (S := S) (len := (S 3 (-1))) 2 2 3 rfl rfl rfl wt_2 wf_9_0 wl_2_0 (by decide +kernel) wt_3 (by first | decide | omega) (by decide +kernel) hI (fun q => absurd q (by first | decide | omega)) (by first | decide | omega) ⟨by omega, by omega⟩ rfl (fun _ => ⟨Or.inr (by first | decide | omega), Or.inl (nN_ge _)⟩) ⟨(Or.inr ⟨wy_pr rfl, mS_no rfl⟩), (Or.inr ⟨wy_pr rfl, mS_no rfl⟩), trivial, trivial, trivial⟩ trivial (fun Z17 g18 gi19 => ?_)
    have rm20 := rmR_gr hR g18 (by decide +kernel) (len := (S 3 (-1))) rfl ⟨by omega, by omega⟩ ⟨fun q => by first | omega | exact absurd q (by decide), by show _ ≤ (100000000 : Int); omega⟩
    refine wa_fall ⟨_, rfl⟩ ?_
    refine wa_aload_n (n := 1) rfl ?_
    refine wa_iload_n (n := 2) rfl ?_
    refine wa_aload_n (n := 0) rfl ?_
    refine wb_gf4 2 rfl (wy_pr rfl) wt_2 wf_9_0 (v := 3) wl_2_0 ?_
    refine wa_aload_n (n := 0) rfl ?_
    refine wb_gfi 2 rfl (wy_pr rfl) wt_2 wf_9_1 (v := (S 2 1)) ((congrFun (g18.2.2.1 2 (by decide) (by decide) (by decide)) 1)) (fun r21 => ?_)
    refine wa_iload_n (n := 3) rfl ?_
    refine wb_acB (S := Z17) 157 3 rfl rfl (wy_pr rfl) (wy_pr rfl) wt_157 wt_3 gi19 rm20 (by decide) (by omega) (by omega) (by omega) (by have e : Z17 157 (-1) = (S 157 (-1)) := ((congrFun (g18.2.2.1 157 (by decide) (by decide) (by decide)) (-1))); omega) (by have e : Z17 3 (-1) = v13 := (g18.1); omega) (by omega) rfl (fun Z22 g23 gi24 rm25 => ?_)
    refine wa_aload_n (n := 0) rfl ?_
    refine wa_dup (by decide) ?_
    refine wb_gfi 2 rfl (wy_pr rfl) wt_2 wf_9_1 (v := (S 2 1)) (((g23.1 2 1 (Or.inl (by decide))).trans ((congrFun (g18.2.2.1 2 (by decide) (by decide) (by decide)) 1)))) (fun r26 => ?_)
    refine wa_iload_n (n := 3) rfl ?_
    refine wa_iadd ?_
    refine wb_pfi 2 rfl (wy_pr rfl) wt_2 wf_9_1 (n := 1) rfl ⟨(by omega), (by omega)⟩ ?_
    refine wa_aload_n (n := 0) rfl ?_
    refine wb_gfi 2 rfl (wy_pr rfl) wt_2 wf_9_1 (v := ((S 2 1) + n)) (w_up_same _ _ _ _) (fun r27 => ?_)
    refine wa_iload_n (n := 3) rfl ?_
    refine wa_isub ?_
    refine wa_ireturn rfl ?_
    have e0 : ∀ (j : Nat) (i : Int), (j ≠ 3 ∨ i < S 2 1 ∨ S 2 1 + n ≤ i) → Z22 j i = Z17 j i := g23.1
    have zz : ∀ (j : Nat) (i : Int), j < 4000000 → j ≠ wG → j ≠ 3 → Z17 j i = S j i := fun j i j1 j2 j3 => congrFun (g18.2.2.1 j j3 j1 j2) i
    have zl : Z17 3 (-1) = v13 := g18.1
    refine ⟨congrArg (fun z => Sum.inl (some (0, z))) (by omega), w_up_same _ _ _ _, fun i i0 i1 => (w_up_slot (by first | decide | omega)).trans ((e0 3 i (by omega)).trans (g18.2.1 i i0 (by omega))), fun i i0 i1 => (w_up_slot (by first | decide | omega)).trans ((g23.2 i i0 i1).trans (zz 157 _ (by first | decide | omega) (by first | decide | omega) (by first | decide | omega))), fun j i j0 j1 j2 j3 => (w_up_no (by omega)).trans ((e0 j i (by omega)).trans (zz j i j0 j1 j2)), ?_, gI_up gi24 (by omega) (by omega) (by omega), rmR_up rm25 (by omega) (by first | decide | omega)⟩
    have e1 : (w_up Z22 2 1 (S 2 1 + n)) 3 (-1) = v13 := (w_up_slot (by first | decide | omega)).trans ((e0 3 (-1) (by omega)).trans zl)
    show S 2 1 + n ≤ (w_up Z22 2 1 (S 2 1 + n)) 3 (-1) ∧ S 3 (-1) ≤ (w_up Z22 2 1 (S 2 1 + n)) 3 (-1) ∧ ((w_up Z22 2 1 (S 2 1 + n)) 3 (-1) = S 3 (-1) ∨ (w_up Z22 2 1 (S 2 1 + n)) 3 (-1) ≤ 2 * (S 2 1 + n))
    rw [e1]; omega
theorem xapn (hX : w_X xs) (h57 : S 157 (-1) = 64) (hI : gI S) (h0 : 0 ≤ S 2 1 ∧ S 2 1 ≤ S 3 (-1) ∧ 1024 ≤ S 3 (-1) ∧ S 3 (-1) ≤ 16777216) (hk : k = 0 ∨ k = 1 ∨ k = 2 ∨ k = 4 ∨ k = 5 ∨ k = 6) (hv : -9223372036854775808 ≤ v ∧ v ≤ 9223372036854775807) : wJ (pe_GA xs) wY0 (mS [3]) (d + 6) t_XH_appendShown ((pe_at t_XH_appendShown.bl 0).getD (0, [])).2 [(0, (2, 72)), (1, (0, k)), (2, (1, v))] [] S (fun o Z => o = .inl none ∧ asQ (vL k v) S Z) := by
  have hlv := vL_len (k := k) (v := v)
  have hg : wG = 1000000 := rfl
  refine wa_aload_n (n := 0) rfl ?_
  refine wa_iload_n (n := 1) rfl ?_
  refine wa_lload_n (n := 2) rfl ?_
  refine wa_cv 72 rfl (wy_pr rfl) wt_72 (M2 := mS []) rfl at_XH_show ⟨_, rfl⟩ rfl rfl ⟨(Or.inr ⟨wy_pr rfl, mS_no rfl⟩), trivial, trivial, trivial⟩ trivial (fun _ _ q => mS_sub (by decide) q) (xshow (k := k) (v := v) hX h57 hI hk hv) (fun oq1 Sq1 hp2 q1 => ?_)
  rcases q1 with ⟨rfl, hsh⟩
  show wJ _ _ _ _ _ _ _ _ _ _
  have hshF := (prN_s hsh (by omega)).1
  refine wa_lstore (n := 4) rfl ?_
  refine wa_aload_n (n := 0) rfl ?_
  refine wb_gf4 72 rfl (wy_pr rfl) wt_72 wf_2_0 (v := 2) wl_72_0 ?_
  refine wa_aload_n (n := 0) rfl ?_
  refine wa_iload_n (n := 1) rfl ?_
  refine wa_cv 72 rfl (wy_pr rfl) wt_72 (M2 := mS []) rfl at_XH_shownIn ⟨_, rfl⟩ rfl rfl ⟨trivial, (Or.inr ⟨wy_pr rfl, mS_no rfl⟩), trivial, trivial, trivial⟩ ⟨(Or.inr ⟨wy_pr rfl, mS_no rfl⟩), trivial⟩ (fun _ _ q => mS_sub (by decide) q) ?_ (fun _ _ _ q => q)
  refine wa_iload_n (n := 1) rfl ?_
  refine wa_iconst ?_
  refine wa_icmpne (w_rg0 (by omega) (by omega)) (w_rg0 (by omega) (by omega)) ⟨_, rfl⟩ (fun c3 => ?_) (fun c3 => ?_)
  · skip
    refine wa_aload_n (n := 0) rfl ?_
    refine wb_gf4 72 rfl (wy_pr rfl) wt_72 wf_2_18 (v := 157) wl_72_18 ?_
    refine wa_fall ⟨_, rfl⟩ ?_
    refine wa_areturn rfl ?_
    show wJ _ _ _ _ _ _ _ _ _ _
    refine wa_lload (n := 4) rfl ?_
    refine wa_cs (M2 := mS []) rfl at_X_sliceStart ⟨_, rfl⟩ rfl rfl ⟨trivial, (Or.inr ⟨wy_pr rfl, mS_no rfl⟩), trivial, trivial, trivial⟩ ⟨(Or.inr ⟨wy_pr rfl, mS_no rfl⟩), (Or.inr ⟨wy_pr rfl, mS_no rfl⟩), trivial⟩ (fun _ _ q => mS_sub (by decide) q) ?_ (fun _ _ _ q => q)
    refine wa_lload_n (n := 0) rfl ?_
    refine wa_bipush (w_rg2 (by omega) (by omega)) ?_
    refine wa_lushr ?_
    refine wb_l2i_r (y := (64 - ((vL k v).length : Int))) (sl_s ⟨by omega, by omega⟩ ⟨by omega, by omega⟩) ?_
    refine wa_ireturn rfl ?_
    show wJ _ _ _ _ _ _ _ _ _ _
    refine wa_lload (n := 4) rfl ?_
    refine wa_cs (M2 := mS []) rfl at_X_sliceSize ⟨_, rfl⟩ rfl rfl ⟨trivial, (Or.inr ⟨wy_pr rfl, mS_no rfl⟩), trivial, trivial, trivial⟩ ⟨trivial, (Or.inr ⟨wy_pr rfl, mS_no rfl⟩), (Or.inr ⟨wy_pr rfl, mS_no rfl⟩), trivial⟩ (fun _ _ q => mS_sub (by decide) q) ?_ (fun _ _ _ q => q)
    refine wa_lload_n (n := 0) rfl ?_
    refine wb_l2i_r (y := ((vL k v).length : Int)) (sl_z ⟨by omega, by omega⟩ ⟨by omega, by omega⟩) ?_
    refine wa_ireturn rfl ?_
    show wJ _ _ _ _ _ _ _ _ _ _
    refine wa_cv 2 rfl (wy_pr rfl) wt_2 (M2 := mS [3]) rfl at_XW_append ⟨_, rfl⟩ rfl rfl ⟨trivial, (Or.inr ⟨wy_pr rfl, mS_no rfl⟩), trivial, trivial, trivial⟩ trivial (fun _ _ q => q) (ap_2_157 (S := Sq1) (a0 := 64 - ((vL k v).length : Int)) (n := ((vL k v).length : Int)) hsh.2.2.2.1 (by rw [hshF 2 1 (Or.inl (by decide)) (Or.inl (by decide)), hshF 3 (-1) (Or.inl (by decide)) (Or.inl (by decide))]; exact h0) ⟨by omega, by omega⟩ ⟨by omega, by rw [hshF 157 (-1) (Or.inr (by decide)) (Or.inl (by decide)), h57]; omega⟩) (fun oq4 Sq4 hp5 q4 => ?_)
    rcases q4 with ⟨rfl, hap⟩
    show wJ _ _ _ _ _ _ _ _ _ _
    refine wa_pop (by decide) ?_
    refine wa_return rfl ?_
    exact ⟨rfl, asQ_n hsh (by omega) hap⟩
  · skip
    exact absurd c3 (by omega)
theorem xapt (h57 : S 157 (-1) = 64) (hI : gI S) (h0 : 0 ≤ S 2 1 ∧ S 2 1 ≤ S 3 (-1) ∧ 1024 ≤ S 3 (-1) ∧ S 3 (-1) ≤ 16777216) (hvb : v = s * 4294967296 + (l.length : Int)) (hs : 0 ≤ s ∧ s + (l.length : Int) ≤ S 2 1) (hll : l.length ≤ 400000) (he : ∀ i : Nat, i < l.length → S 3 (s + (i : Int)) = l.getD i 0) : wJ (pe_GA xs) wY0 (mS [3]) (d + 6) t_XH_appendShown ((pe_at t_XH_appendShown.bl 0).getD (0, [])).2 [(0, (2, 72)), (1, (0, 3)), (2, (1, v))] [] S (fun o Z => o = .inl none ∧ asQ l S Z) := by
  have hg : wG = 1000000 := rfl
  refine wa_aload_n (n := 0) rfl ?_
  refine wa_iload_n (n := 1) rfl ?_
  refine wa_lload_n (n := 2) rfl ?_
  refine wa_cv 72 rfl (wy_pr rfl) wt_72 (M2 := mS []) rfl at_XH_show ⟨_, rfl⟩ rfl rfl ⟨(Or.inr ⟨wy_pr rfl, mS_no rfl⟩), trivial, trivial, trivial⟩ trivial (fun _ _ q => mS_sub (by decide) q) ?_ (fun _ _ _ q => q)
  refine wa_aload_n (n := 0) rfl ?_
  refine wa_aload_n (n := 0) rfl ?_
  refine wb_gf4 72 rfl (wy_pr rfl) wt_72 wf_2_18 (v := 157) wl_72_18 ?_
  refine wb_alen 157 rfl (wy_pr rfl) (by rw [wt_157]; rfl) (v := 64) (h57) (fun r1 => ?_)
  refine wb_pfi 72 rfl (wy_pr rfl) wt_72 wf_2_19 (n := 19) rfl ⟨(by omega), (by omega)⟩ ?_
  refine wa_iload_n (n := 1) rfl ?_
  refine wb_sw (w_rg0 (by omega) (by omega)) (tb := 6) rfl ⟨_, rfl⟩ ?_
  refine wa_lload_n (n := 2) rfl ?_
  refine wa_lreturn rfl ?_
  show wJ _ _ _ _ _ _ _ _ _ _
  refine wa_lstore (n := 4) rfl ?_
  refine wa_aload_n (n := 0) rfl ?_
  refine wb_gf4 72 rfl (wy_pr rfl) wt_72 wf_2_0 (v := 2) wl_72_0 ?_
  refine wa_aload_n (n := 0) rfl ?_
  refine wa_iload_n (n := 1) rfl ?_
  refine wa_cv 72 rfl (wy_pr rfl) wt_72 (M2 := mS []) rfl at_XH_shownIn ⟨_, rfl⟩ rfl rfl ⟨trivial, (Or.inr ⟨wy_pr rfl, mS_no rfl⟩), trivial, trivial, trivial⟩ ⟨(Or.inr ⟨wy_pr rfl, mS_no rfl⟩), trivial⟩ (fun _ _ q => mS_sub (by decide) q) ?_ (fun _ _ _ q => q)
  refine wa_iload_n (n := 1) rfl ?_
  refine wa_iconst ?_
  refine wa_icmpne (w_rg0 (by omega) (by omega)) (w_rg0 (by omega) (by omega)) ⟨_, rfl⟩ (fun c2 => ?_) (fun c2 => ?_)
  · skip
    exact absurd c2 (by omega)
  · skip
    refine wa_aload_n (n := 0) rfl ?_
    refine wb_gf4 72 rfl (wy_pr rfl) wt_72 wf_2_0 (v := 2) wl_72_0 ?_
    refine wb_gf4 2 rfl (wy_pr rfl) wt_2 wf_9_0 (v := 3) wl_2_0 ?_
    refine wa_goto ⟨_, rfl⟩ ?_
    refine wa_areturn rfl ?_
    show wJ _ _ _ _ _ _ _ _ _ _
    refine wa_lload (n := 4) rfl ?_
    refine wa_cs (M2 := mS []) rfl at_X_sliceStart ⟨_, rfl⟩ rfl rfl ⟨trivial, (Or.inr ⟨wy_pr rfl, mS_no rfl⟩), trivial, trivial, trivial⟩ ⟨(Or.inr ⟨wy_pr rfl, mS_no rfl⟩), (Or.inr ⟨wy_pr rfl, mS_no rfl⟩), trivial⟩ (fun _ _ q => mS_sub (by decide) q) ?_ (fun _ _ _ q => q)
    refine wa_lload_n (n := 0) rfl ?_
    refine wa_bipush (w_rg2 (by omega) (by omega)) ?_
    refine wa_lushr ?_
    refine wb_l2i_r (y := s) (by rw [hvb]; exact sl_s ⟨by omega, by omega⟩ ⟨by omega, by omega⟩) ?_
    refine wa_ireturn rfl ?_
    show wJ _ _ _ _ _ _ _ _ _ _
    refine wa_lload (n := 4) rfl ?_
    refine wa_cs (M2 := mS []) rfl at_X_sliceSize ⟨_, rfl⟩ rfl rfl ⟨trivial, (Or.inr ⟨wy_pr rfl, mS_no rfl⟩), trivial, trivial, trivial⟩ ⟨trivial, (Or.inr ⟨wy_pr rfl, mS_no rfl⟩), (Or.inr ⟨wy_pr rfl, mS_no rfl⟩), trivial⟩ (fun _ _ q => mS_sub (by decide) q) ?_ (fun _ _ _ q => q)
    refine wa_lload_n (n := 0) rfl ?_
    refine wb_l2i_r (y := (l.length : Int)) (by rw [hvb]; exact sl_z ⟨by omega, by omega⟩ ⟨by omega, by omega⟩) ?_
    refine wa_ireturn rfl ?_
    show wJ _ _ _ _ _ _ _ _ _ _
    refine wa_cv 2 rfl (wy_pr rfl) wt_2 (M2 := mS [3]) rfl at_XW_append ⟨_, rfl⟩ rfl rfl ⟨trivial, (Or.inr ⟨wy_pr rfl, mS_no rfl⟩), trivial, trivial, trivial⟩ trivial (fun _ _ q => q) (ap_2_3L (S := (w_up S 72 19 64)) (a0 := s) (n := (l.length : Int)) (gI_up hI (by decide) (by decide) (by decide)) h0 ⟨by omega, by omega⟩ ⟨by omega, by show s + (l.length : Int) ≤ S 3 (-1); omega⟩) (fun oq3 Sq3 hp4 q3 => ?_)
    rcases q3 with ⟨rfl, hap⟩
    show wJ _ _ _ _ _ _ _ _ _ _
    refine wa_pop (by decide) ?_
    refine wa_return rfl ?_
    exact ⟨rfl, asQ_t he hap⟩
theorem pL_t (h : u.1 = 3) : pL u = u.2.2 := if_pos h
theorem pL_o (h : u.1 ≠ 3) : pL u = vL u.1 u.2.1 := if_neg h
theorem xap (hX : w_X xs) (h57 : S 157 (-1) = 64) (hI : gI S) (h0 : 0 ≤ S 2 1 ∧ S 2 1 ≤ S 3 (-1) ∧ 1024 ≤ S 3 (-1) ∧ S 3 (-1) ≤ 16777216) (hu : cVl S k v u) (hk : 0 ≤ k ∧ k ≤ 3) (hv : -9223372036854775808 ≤ v ∧ v ≤ 9223372036854775807) (hl : (pL u).length ≤ 200000) : wJ (pe_GA xs) wY0 (mS [3]) (d + 6) t_XH_appendShown ((pe_at t_XH_appendShown.bl 0).getD (0, [])).2 [(0, (2, 72)), (1, (0, k)), (2, (1, v))] [] S (fun o Z => o = .inl none ∧ asQ (pL u) S Z) := by
  obtain ⟨hu1, hu2, hu3⟩ := hu
  by_cases c : k = 3
  · rw [hu1] at c
    obtain ⟨-, s, hb, s0, s1, he⟩ := hu3 c
    rw [pL_t c] at hl ⊢
    have hk3 : k = 3 := hu1.trans c
    rw [hk3]
    exact xapt h57 hI h0 hb ⟨s0, s1⟩ (by omega) he
  · have hb := hu2 (by rw [← hu1]; exact c)
    rw [pL_o (by rw [← hu1]; exact c), ← hu1, ← hb.1]
    exact xapn hX h57 hI h0 (by omega) hv
theorem xsz (hX : w_X xs) (h57 : S 157 (-1) = 64) (hI : gI S) (h0 : 0 ≤ S 2 1 ∧ S 2 1 ≤ 16777216) (hu : cVl S k v u) (hk : 0 ≤ k ∧ k ≤ 3) (hv : -9223372036854775808 ≤ v ∧ v ≤ 9223372036854775807) : wJ (pe_GA xs) wY0 M (d + 5) t_XH_show ((pe_at t_XH_show.bl 0).getD (0, [])).2 [(0, (2, 72)), (1, (0, k)), (2, (1, v))] [] S (fun o Z => ∃ x : Int, o = .inl (some (1, x)) ∧ wb_l2i x = ((pL u).length : Int) ∧ prN S Z) := by
  obtain ⟨hu1, hu2, hu3⟩ := hu
  by_cases c : k = 3
  · rw [hu1] at c
    obtain ⟨-, s, hb, s0, s1, he⟩ := hu3 c
    rw [pL_t c]
    have hk3 : k = 3 := hu1.trans c
    rw [hk3]
    refine wa_aload_n (n := 0) rfl ?_
    refine wa_aload_n (n := 0) rfl ?_
    refine wb_gf4 72 rfl (wy_pr rfl) wt_72 wf_2_18 (v := 157) wl_72_18 ?_
    refine wb_alen 157 rfl (wy_pr rfl) (by rw [wt_157]; rfl) (v := 64) (h57) (fun r1 => ?_)
    refine wb_pfi 72 rfl (wy_pr rfl) wt_72 wf_2_19 (n := 19) rfl ⟨(by omega), (by omega)⟩ ?_
    refine wa_iload_n (n := 1) rfl ?_
    refine wb_sw (w_rg0 (by omega) (by omega)) (tb := 6) rfl ⟨_, rfl⟩ ?_
    refine wa_lload_n (n := 2) rfl ?_
    refine wa_lreturn rfl ?_
    exact ⟨v, rfl, by rw [hb]; exact sl_z ⟨by omega, by omega⟩ ⟨by omega, by omega⟩, prN_t hI⟩
  · have hb := hu2 (by rw [← hu1]; exact c)
    rw [pL_o (by rw [← hu1]; exact c), ← hu1, ← hb.1]
    have hlv := vL_len (k := k) (v := v)
    exact wJ_mono (xshow hX h57 hI (by omega) hv) (fun o Z hz => ⟨_, hz.1, sl_z ⟨by omega, by omega⟩ ⟨by omega, by omega⟩, prN_s hz.2 (by omega)⟩)
theorem cVl_pr (h : cVl S k v u) (hp : prN S Z) : cVl Z k v u := ⟨h.1, h.2.1, fun z => by
  obtain ⟨a, s, b, c, e, f⟩ := h.2.2 z
  exact ⟨a, s, b, c, by rw [hp.1 2 1 (Or.inl (by first | decide | omega)) (Or.inl (by first | decide | omega))]; exact e, fun i hi => (hp.1 3 _ (Or.inl (by first | decide | omega)) (Or.inl (by first | decide | omega))).trans (f i hi)⟩⟩
theorem cVl_as (h : cVl S k v u) (hp : asQ l S Z) (h0 : 0 ≤ S 2 1) : cVl Z k v u := ⟨h.1, h.2.1, fun z => by
  obtain ⟨a, s, b, c, e, f⟩ := h.2.2 z
  exact ⟨a, s, b, c, by rw [hp.1]; omega, fun i hi => (hp.2.1 _ (by omega) (by omega)).trans (f i hi)⟩⟩
set_option maxHeartbeats 4000000 in
theorem xjn_215 {c p h k1 v1 k2 v2 y2 y3 : Int} (hP : xP 215 c p h S) (hX : w_X xs) (hx1 : pe_at (pe_GA xs).xs 1 = some (1, tx_1)) (h57 : S 157 (-1) = 64) (h0 : 0 ≤ S 2 1 ∧ S 2 1 ≤ S 3 (-1) ∧ 1024 ≤ S 3 (-1) ∧ S 3 (-1) ≤ 8000000) (h21 : S 2 1 ≤ 4000000) (hh2 : 2 ≤ h) (e1 : S 217 (h - 1 - 1) = k1) (f1 : S 218 (h - 1 - 1) = v1) (e2 : S 217 (h - 1) = k2) (f2 : S 218 (h - 1) = v2) (hu1 : cVl S k1 v1 u1) (hk1 : 0 ≤ k1 ∧ k1 ≤ 3) (hv1 : -9223372036854775808 ≤ v1 ∧ v1 ≤ 9223372036854775807) (hl1 : (pL u1).length ≤ 200000) (hu2 : cVl S k2 v2 u2) (hk2 : 0 ≤ k2 ∧ k2 ≤ 3) (hv2 : -9223372036854775808 ≤ v2 ∧ v2 ≤ 9223372036854775807) (hl2 : (pL u2).length ≤ 200000) (h3 : k1 = 3 ∨ k2 = 3) (hq2 : S 150 2 = y2) (hq3 : S 150 3 = y3) (hy2r : 0 ≤ y2 ∧ y2 ≤ 12000) (hy3r : 0 ≤ y3 ∧ y3 ≤ 200000) : wJ (pe_GA xs) wY0 (mS [217, 218, 3]) (d + 9) t_XK_join ((pe_at t_XK_join.bl 0).getD (0, [])).2 [(0, (2, 215)), (1, (0, h - 1 - 1)), (2, (0, h - 1))] [] S (fun o Z => o = .inl none ∧ (((12000 ≤ y2 ∨ 200000 < y3 + (((pL u1).length : Int) + ((pL u2).length : Int))) ∧ ∃ A : wS, prN S A ∧ w_up A 215 16 99 = Z) ∨ (y2 < 12000 ∧ y3 + (((pL u1).length : Int) + ((pL u2).length : Int)) ≤ 200000 ∧ ∃ A B : wS, prN S A ∧ asQ (pL u1 ++ pL u2) (w_up (w_up A 150 2 (y2 + 1)) 150 3 (y3 + (((pL u1).length : Int) + ((pL u2).length : Int)))) B ∧ sO 215 h c p 2 3 (S 2 1 * 4294967296 + (((pL u1).length : Int) + ((pL u2).length : Int))) B Z))) := by
  obtain ⟨⟨hC, hI⟩, ⟨bc, bc0, bc1⟩, ⟨bp, bp0, bp1⟩, ⟨bh, bh0, bh1, bh2⟩, bl1, bl2, bl3⟩ := hP
  replace bp : S 220 (c - 1) = p := bp
  replace bh : S 216 2 = h := bh
  replace bh2 : h ≤ S 217 (-1) := bh2
  replace bl1 : S 218 (-1) = S 217 (-1) := bl1
  replace bl2 : 64 ≤ S 217 (-1) := bl2
  replace bl3 : S 217 (-1) ≤ 4095 := bl3
  have hg : wG = 1000000 := rfl
  refine wa_aload_n (n := 0) rfl ?_
  refine wb_gf4 215 rfl (wy_pr rfl) wt_215 wf_8_3 (v := 216) wl_215_3 ?_
  refine wb_gf4 216 rfl (wy_pr rfl) wt_216 wf_7_0 (v := 217) wl_216_0 ?_
  refine wa_iload_n (n := 1) rfl ?_
  refine wb_bald 217 rfl (wy_pr rfl) wt_217 (n := (S 217 (-1))) (rfl) (by omega) (by omega) (v := k1) (e1) (fun r1 => ?_)
  refine wa_istore_n (n := 3) rfl ?_
  refine wa_aload_n (n := 0) rfl ?_
  refine wb_gf4 215 rfl (wy_pr rfl) wt_215 wf_8_3 (v := 216) wl_215_3 ?_
  refine wb_gf4 216 rfl (wy_pr rfl) wt_216 wf_7_0 (v := 217) wl_216_0 ?_
  refine wa_iload_n (n := 2) rfl ?_
  refine wb_bald 217 rfl (wy_pr rfl) wt_217 (n := (S 217 (-1))) (rfl) (by omega) (by omega) (v := k2) (e2) (fun r2 => ?_)
  refine wa_istore (n := 4) rfl ?_
  refine wa_iload_n (n := 3) rfl ?_
  refine wa_iconst ?_
  refine wa_icmpgt (w_rg0 (by omega) (by omega)) (w_rg0 (by omega) (by omega)) ⟨_, rfl⟩ (fun c3 => ?_) (fun c3 => ?_)
  · skip
    exact absurd c3 (by omega)
  · skip
    refine wa_iload (n := 4) rfl ?_
    refine wa_iconst ?_
    refine wa_icmpgt (w_rg0 (by omega) (by omega)) (w_rg0 (by omega) (by omega)) ⟨_, rfl⟩ (fun c4 => ?_) (fun c4 => ?_)
    · skip
      exact absurd c4 (by omega)
    · skip
      refine wa_iload_n (n := 3) rfl ?_
      refine wa_iconst ?_
      refine wa_icmpeq (w_rg0 (by omega) (by omega)) (w_rg0 (by omega) (by omega)) ⟨_, rfl⟩ (fun c5 => ?_) (fun c5 => ?_)
      · skip
        refine wa_aload_n (n := 0) rfl ?_
        refine wb_gf4 215 rfl (wy_pr rfl) wt_215 wf_8_0 (v := 72) wl_215_0 ?_
        refine wa_iload_n (n := 3) rfl ?_
        refine wa_aload_n (n := 0) rfl ?_
        refine wb_gf4 215 rfl (wy_pr rfl) wt_215 wf_8_3 (v := 216) wl_215_3 ?_
        refine wb_gf4 216 rfl (wy_pr rfl) wt_216 wf_7_1 (v := 218) wl_216_1 ?_
        refine wa_iload_n (n := 1) rfl ?_
        refine wb_lald 218 rfl (wy_pr rfl) wt_218 (n := (S 217 (-1))) (bl1) (by omega) (by omega) (v := v1) (f1) (fun r6 => ?_)
        refine wa_cv 72 rfl (wy_pr rfl) wt_72 (M2 := mS []) rfl at_XH_show ⟨_, rfl⟩ rfl rfl ⟨trivial, trivial, (Or.inr ⟨wy_pr rfl, mS_no rfl⟩), trivial, trivial, trivial⟩ trivial (fun _ _ q => mS_sub (by decide) q) (xsz (S := S) (u := u1) hX h57 hI ⟨by omega, by omega⟩ hu1 hk1 hv1) (fun oq7 Sq7 hp8 q7 => ?_)
        rcases q7 with ⟨x1, rfl, hx1z, hp1⟩
        show wJ _ _ _ _ _ _ _ _ _ _
        refine wa_cs (M2 := mS [217, 218, 3]) rfl at_X_sliceSize ⟨_, rfl⟩ rfl rfl ⟨trivial, trivial, (Or.inr ⟨wy_pr rfl, mS_no rfl⟩), trivial, trivial, trivial⟩ trivial (fun _ _ q => q) ?_ (fun _ _ _ q => q)
        refine wa_lload_n (n := 0) rfl ?_
        refine wb_l2i_r (y := ((pL u1).length : Int)) hx1z ?_
        refine wa_ireturn rfl ?_
        show wJ _ _ _ _ _ _ _ _ _ _
        refine wa_aload_n (n := 0) rfl ?_
        refine wb_gf4 215 rfl (wy_pr rfl) wt_215 wf_8_0 (v := 72) wl_215_0 ?_
        refine wa_iload (n := 4) rfl ?_
        refine wa_aload_n (n := 0) rfl ?_
        refine wb_gf4 215 rfl (wy_pr rfl) wt_215 wf_8_3 (v := 216) wl_215_3 ?_
        refine wb_gf4 216 rfl (wy_pr rfl) wt_216 wf_7_1 (v := 218) wl_216_1 ?_
        refine wa_iload_n (n := 2) rfl ?_
        refine wb_lald 218 rfl (wy_pr rfl) wt_218 (n := (S 217 (-1))) (((hp1.1 218 (-1) (Or.inl (by decide)) (by omega)).trans (bl1))) (by omega) (by omega) (v := v2) (((hp1.1 218 (h - 1) (Or.inl (by decide)) (by omega)).trans (f2))) (fun r9 => ?_)
        refine wa_cv 72 rfl (wy_pr rfl) wt_72 (M2 := mS []) rfl at_XH_show ⟨_, rfl⟩ rfl rfl ⟨trivial, trivial, (Or.inr ⟨wy_pr rfl, mS_no rfl⟩), trivial, trivial, trivial⟩ ⟨trivial, trivial⟩ (fun _ _ q => mS_sub (by decide) q) (xsz (S := Sq7) (u := u2) hX ((hp1.1 157 (-1) (Or.inr (by decide)) (Or.inl (by decide))).trans h57) hp1.2.1 (by rw [hp1.1 2 1 (Or.inl (by decide)) (Or.inl (by decide))]; exact ⟨by omega, by omega⟩) (cVl_pr hu2 hp1) hk2 hv2) (fun oq10 Sq10 hp11 q10 => ?_)
        rcases q10 with ⟨x2, rfl, hx2z, hp2⟩
        show wJ _ _ _ _ _ _ _ _ _ _
        refine wa_cs (M2 := mS [217, 218, 3]) rfl at_X_sliceSize ⟨_, rfl⟩ rfl rfl ⟨trivial, trivial, (Or.inr ⟨wy_pr rfl, mS_no rfl⟩), trivial, trivial, trivial⟩ ⟨trivial, trivial⟩ (fun _ _ q => q) ?_ (fun _ _ _ q => q)
        refine wa_lload_n (n := 0) rfl ?_
        refine wb_l2i_r (y := ((pL u2).length : Int)) hx2z ?_
        refine wa_ireturn rfl ?_
        show wJ _ _ _ _ _ _ _ _ _ _
        refine wa_iadd ?_
        refine wa_istore (n := 5) rfl ?_
        refine wa_aload_n (n := 0) rfl ?_
        refine wb_gf4 215 rfl (wy_pr rfl) wt_215 wf_8_0 (v := 72) wl_215_0 ?_
        refine wa_iload (n := 5) rfl ?_
        refine wa_cv 72 rfl (wy_pr rfl) wt_72 (M2 := mS [217, 218, 3]) rfl at_XH_hasTextRoom ⟨_, rfl⟩ rfl rfl ⟨trivial, trivial, trivial, (Or.inr ⟨wy_pr rfl, mS_no rfl⟩), trivial, trivial, trivial⟩ trivial (fun _ _ q => q) ?_ (fun _ _ _ q => q)
        refine wa_aload_n (n := 0) rfl ?_
        refine wa_iconst ?_
        refine wa_iconst ?_
        refine wa_cv 72 rfl (wy_pr rfl) wt_72 (M2 := mS [217, 218, 3]) rfl at_XH_hasRoom ⟨_, rfl⟩ rfl rfl ⟨(Or.inr ⟨wy_pr rfl, mS_no rfl⟩), trivial, trivial⟩ trivial (fun _ _ q => q) ?_ (fun _ _ _ q => q)
        refine wa_aload_n (n := 0) rfl ?_
        refine wb_gf4 72 rfl (wy_pr rfl) wt_72 wf_2_10 (v := 150) wl_72_10 ?_
        refine wa_iload_n (n := 1) rfl ?_
        refine wb_iald 150 rfl (wy_pr rfl) wt_150 (n := 6) (((hp2.1 150 (-1) (Or.inl (by decide)) (by omega)).trans (((hp1.1 150 (-1) (Or.inl (by decide)) (by omega)).trans ((cl_150 hC)))))) (by omega) (by omega) (v := y2) (((hp2.1 150 2 (Or.inl (by decide)) (by omega)).trans (((hp1.1 150 2 (Or.inl (by decide)) (by omega)).trans (hq2))))) (fun r12 => ?_)
        refine wa_iload_n (n := 2) rfl ?_
        refine wa_iadd ?_
        refine wa_gs ?_
        refine wa_iload_n (n := 1) rfl ?_
        refine wb_xald 1 rfl hx1 (by decide) (by omega) (by decide) (v := 12000) (by decide) (fun r13 => ?_)
        refine wa_icmpgt (w_rg0 (by omega) (by omega)) (w_rg0 (by omega) (by omega)) ⟨_, rfl⟩ (fun c14 => ?_) (fun c14 => ?_)
        · skip
          refine wa_iconst ?_
          refine wa_fall ⟨_, rfl⟩ ?_
          refine wa_zreturn rfl (Or.inl rfl) ?_
          show wJ _ _ _ _ _ _ _ _ _ _
          refine wa_ifeq (w_rg0 (by omega) (by omega)) ⟨_, rfl⟩ (fun c15 => ?_) (fun c15 => ?_)
          · skip
            refine wa_iconst ?_
            refine wa_fall ⟨_, rfl⟩ ?_
            refine wa_zreturn rfl (Or.inl rfl) ?_
            show wJ _ _ _ _ _ _ _ _ _ _
            refine wa_ifne (w_rg0 (by omega) (by omega)) ⟨_, rfl⟩ (fun c16 => ?_) (fun c16 => ?_)
            · skip
              exact absurd c16 (by omega)
            · skip
              refine wa_aload_n (n := 0) rfl ?_
              refine wa_bipush (w_rg2 (by omega) (by omega)) ?_
              refine wb_pfi 215 rfl (wy_pr rfl) wt_215 wf_8_16 (n := 16) rfl ⟨(by omega), (by omega)⟩ ?_
              refine wa_return rfl ?_
              exact ⟨rfl, Or.inl ⟨by omega, _, prN_tr hp1 hp2, rfl⟩⟩
          · skip
            exact absurd c15 (by omega)
        · skip
          refine wa_iconst ?_
          refine wa_goto ⟨_, rfl⟩ ?_
          refine wa_zreturn rfl (Or.inr rfl) ?_
          show wJ _ _ _ _ _ _ _ _ _ _
          refine wa_ifeq (w_rg0 (by omega) (by omega)) ⟨_, rfl⟩ (fun c17 => ?_) (fun c17 => ?_)
          · skip
            exact absurd c17 (by omega)
          · skip
            refine wa_aload_n (n := 0) rfl ?_
            refine wa_iconst ?_
            refine wa_iload_n (n := 1) rfl ?_
            refine wa_cv 72 rfl (wy_pr rfl) wt_72 (M2 := mS [217, 218, 3]) rfl at_XH_hasRoom ⟨_, rfl⟩ rfl rfl ⟨(Or.inr ⟨wy_pr rfl, mS_no rfl⟩), trivial, trivial⟩ trivial (fun _ _ q => q) ?_ (fun _ _ _ q => q)
            refine wa_aload_n (n := 0) rfl ?_
            refine wb_gf4 72 rfl (wy_pr rfl) wt_72 wf_2_10 (v := 150) wl_72_10 ?_
            refine wa_iload_n (n := 1) rfl ?_
            refine wb_iald 150 rfl (wy_pr rfl) wt_150 (n := 6) (((hp2.1 150 (-1) (Or.inl (by decide)) (by omega)).trans (((hp1.1 150 (-1) (Or.inl (by decide)) (by omega)).trans ((cl_150 hC)))))) (by omega) (by omega) (v := y3) (((hp2.1 150 3 (Or.inl (by decide)) (by omega)).trans (((hp1.1 150 3 (Or.inl (by decide)) (by omega)).trans (hq3))))) (fun r18 => ?_)
            refine wa_iload_n (n := 2) rfl ?_
            refine wa_iadd ?_
            refine wa_gs ?_
            refine wa_iload_n (n := 1) rfl ?_
            refine wb_xald 1 rfl hx1 (by decide) (by omega) (by decide) (v := 200000) (by decide) (fun r19 => ?_)
            refine wa_icmpgt (w_rg0 (by omega) (by omega)) (w_rg0 (by omega) (by omega)) ⟨_, rfl⟩ (fun c20 => ?_) (fun c20 => ?_)
            · skip
              refine wa_iconst ?_
              refine wa_fall ⟨_, rfl⟩ ?_
              refine wa_zreturn rfl (Or.inl rfl) ?_
              show wJ _ _ _ _ _ _ _ _ _ _
              refine wa_ifeq (w_rg0 (by omega) (by omega)) ⟨_, rfl⟩ (fun c21 => ?_) (fun c21 => ?_)
              · skip
                refine wa_iconst ?_
                refine wa_fall ⟨_, rfl⟩ ?_
                refine wa_zreturn rfl (Or.inl rfl) ?_
                show wJ _ _ _ _ _ _ _ _ _ _
                refine wa_ifne (w_rg0 (by omega) (by omega)) ⟨_, rfl⟩ (fun c22 => ?_) (fun c22 => ?_)
                · skip
                  exact absurd c22 (by omega)
                · skip
                  refine wa_aload_n (n := 0) rfl ?_
                  refine wa_bipush (w_rg2 (by omega) (by omega)) ?_
                  refine wb_pfi 215 rfl (wy_pr rfl) wt_215 wf_8_16 (n := 16) rfl ⟨(by omega), (by omega)⟩ ?_
                  refine wa_return rfl ?_
                  exact ⟨rfl, Or.inl ⟨by omega, _, prN_tr hp1 hp2, rfl⟩⟩
              · skip
                exact absurd c21 (by omega)
            · skip
              refine wa_iconst ?_
              refine wa_goto ⟨_, rfl⟩ ?_
              refine wa_zreturn rfl (Or.inr rfl) ?_
              show wJ _ _ _ _ _ _ _ _ _ _
              refine wa_ifeq (w_rg0 (by omega) (by omega)) ⟨_, rfl⟩ (fun c23 => ?_) (fun c23 => ?_)
              · skip
                exact absurd c23 (by omega)
              · skip
                refine wa_iconst ?_
                refine wa_goto ⟨_, rfl⟩ ?_
                refine wa_zreturn rfl (Or.inr rfl) ?_
                show wJ _ _ _ _ _ _ _ _ _ _
                refine wa_ifne (w_rg0 (by omega) (by omega)) ⟨_, rfl⟩ (fun c24 => ?_) (fun c24 => ?_)
                · skip
                  refine wa_aload_n (n := 0) rfl ?_
                  refine wb_gf4 215 rfl (wy_pr rfl) wt_215 wf_8_0 (v := 72) wl_215_0 ?_
                  refine wa_iload (n := 5) rfl ?_
                  refine wa_cv 72 rfl (wy_pr rfl) wt_72 (M2 := mS [217, 218, 3]) rfl at_XH_useText ⟨_, rfl⟩ rfl rfl ⟨trivial, trivial, trivial, (Or.inr ⟨wy_pr rfl, mS_no rfl⟩), trivial, trivial, trivial⟩ trivial (fun _ _ q => q) ?_ (fun _ _ _ q => q)
                  refine wa_aload_n (n := 0) rfl ?_
                  refine wb_gf4 72 rfl (wy_pr rfl) wt_72 wf_2_10 (v := 150) wl_72_10 ?_
                  refine wa_iconst ?_
                  refine wa_dup2 (by decide) (by decide) ?_
                  refine wb_iald 150 rfl (wy_pr rfl) wt_150 (n := 6) (((hp2.1 150 (-1) (Or.inl (by decide)) (by omega)).trans (((hp1.1 150 (-1) (Or.inl (by decide)) (by omega)).trans ((cl_150 hC)))))) (by omega) (by omega) (v := y2) (((hp2.1 150 2 (Or.inl (by decide)) (by omega)).trans (((hp1.1 150 2 (Or.inl (by decide)) (by omega)).trans (hq2))))) (fun r25 => ?_)
                  refine wa_iconst ?_
                  refine wa_iadd ?_
                  refine wb_iast 150 rfl (wy_pr rfl) wt_150 (n := 6) (((hp2.1 150 (-1) (Or.inl (by decide)) (by omega)).trans (((hp1.1 150 (-1) (Or.inl (by decide)) (by omega)).trans ((cl_150 hC)))))) (by omega) (by omega) ⟨(by omega), (by omega)⟩ ?_
                  refine wa_aload_n (n := 0) rfl ?_
                  refine wb_gf4 72 rfl (wy_pr rfl) wt_72 wf_2_10 (v := 150) wl_72_10 ?_
                  refine wa_iconst ?_
                  refine wa_dup2 (by decide) (by decide) ?_
                  refine wb_iald 150 rfl (wy_pr rfl) wt_150 (n := 6) ((w_up_at (by decide)).trans (((hp2.1 150 (-1) (Or.inl (by decide)) (by omega)).trans (((hp1.1 150 (-1) (Or.inl (by decide)) (by omega)).trans ((cl_150 hC))))))) (by omega) (by omega) (v := y3) ((w_up_at (by decide)).trans (((hp2.1 150 3 (Or.inl (by decide)) (by omega)).trans (((hp1.1 150 3 (Or.inl (by decide)) (by omega)).trans (hq3)))))) (fun r26 => ?_)
                  refine wa_iload_n (n := 1) rfl ?_
                  refine wa_iadd ?_
                  refine wb_iast 150 rfl (wy_pr rfl) wt_150 (n := 6) ((w_up_at (by decide)).trans (((hp2.1 150 (-1) (Or.inl (by decide)) (by omega)).trans (((hp1.1 150 (-1) (Or.inl (by decide)) (by omega)).trans ((cl_150 hC))))))) (by omega) (by omega) ⟨(by omega), (by omega)⟩ ?_
                  refine wa_return rfl ?_
                  show wJ _ _ _ _ _ _ _ _ _ _
                  refine wa_aload_n (n := 0) rfl ?_
                  refine wb_gf4 215 rfl (wy_pr rfl) wt_215 wf_8_0 (v := 72) wl_215_0 ?_
                  refine wb_gf4 72 rfl (wy_pr rfl) wt_72 wf_2_0 (v := 2) wl_72_0 ?_
                  refine wb_gfi 2 rfl (wy_pr rfl) wt_2 wf_9_1 (v := (S 2 1)) ((w_up_slot (by decide)).trans ((w_up_slot (by decide)).trans (((hp2.1 2 1 (Or.inl (by decide)) (by omega)).trans ((hp1.1 2 1 (Or.inl (by decide)) (by omega))))))) (fun r27 => ?_)
                  refine wa_istore (n := 6) rfl ?_
                  refine wa_aload_n (n := 0) rfl ?_
                  refine wb_gf4 215 rfl (wy_pr rfl) wt_215 wf_8_0 (v := 72) wl_215_0 ?_
                  refine wa_iload_n (n := 3) rfl ?_
                  refine wa_aload_n (n := 0) rfl ?_
                  refine wb_gf4 215 rfl (wy_pr rfl) wt_215 wf_8_3 (v := 216) wl_215_3 ?_
                  refine wb_gf4 216 rfl (wy_pr rfl) wt_216 wf_7_1 (v := 218) wl_216_1 ?_
                  refine wa_iload_n (n := 1) rfl ?_
                  refine wb_lald 218 rfl (wy_pr rfl) wt_218 (n := (S 217 (-1))) ((w_up_slot (by decide)).trans ((w_up_slot (by decide)).trans (((hp2.1 218 (-1) (Or.inl (by decide)) (by omega)).trans (((hp1.1 218 (-1) (Or.inl (by decide)) (by omega)).trans (bl1))))))) (by omega) (by omega) (v := v1) ((w_up_slot (by decide)).trans ((w_up_slot (by decide)).trans (((hp2.1 218 ((h - 1) - 1) (Or.inl (by decide)) (by omega)).trans (((hp1.1 218 ((h - 1) - 1) (Or.inl (by decide)) (by omega)).trans (f1))))))) (fun r28 => ?_)
                  have hpp : prN S Sq10 := prN_tr hp1 hp2
                  obtain ⟨C, hCe⟩ : ∃ C : wS, C = (w_up (w_up Sq10 150 2 (y2 + 1)) 150 3 (y3 + (((pL u1).length : Int) + ((pL u2).length : Int)))) := ⟨_, rfl⟩
                  rw [← hCe]
                  have hfC : ∀ (j : Nat) (x : Int), (j ≠ 157 ∨ x < 0) → (j ≠ 72 ∨ x ≠ 19) → (j ≠ 150 ∨ (x ≠ 2 ∧ x ≠ 3)) → C j x = S j x := fun j x j0 j1 j2 => by rw [hCe]; exact (w_up_no (by omega)).trans ((w_up_no (by omega)).trans (hpp.1 j x j0 j1))
                  have hgC : gI C := by rw [hCe]; exact gI_up (gI_up hpp.2.1 (by first | decide | omega) (by first | decide | omega) (by first | decide | omega)) (by first | decide | omega) (by first | decide | omega) (by first | decide | omega)
                  have c21 : C 2 1 = S 2 1 := hfC 2 1 (Or.inl (by first | decide | omega)) (Or.inl (by first | decide | omega)) (Or.inl (by first | decide | omega))
                  have c31 : C 3 (-1) = S 3 (-1) := hfC 3 (-1) (Or.inl (by first | decide | omega)) (Or.inl (by first | decide | omega)) (Or.inl (by first | decide | omega))
                  have c57 : C 157 (-1) = 64 := (hfC 157 (-1) (Or.inr (by first | decide | omega)) (Or.inl (by first | decide | omega)) (Or.inl (by first | decide | omega))).trans h57
                  have hCC : w_CL C := by rw [hCe]; exact w_CL_up (w_CL_up (prN_cl hC hpp) (by first | decide | omega)) (by first | decide | omega)
                  have hcv1 : cVl C k1 v1 u1 := ⟨hu1.1, hu1.2.1, fun z => by obtain ⟨a, s, b, c, e, f⟩ := hu1.2.2 z; exact ⟨a, s, b, c, by rw [c21]; exact e, fun i hi => (hfC 3 _ (Or.inl (by first | decide | omega)) (Or.inl (by first | decide | omega)) (Or.inl (by first | decide | omega))).trans (f i hi)⟩⟩
                  have hcv2 : cVl C k2 v2 u2 := ⟨hu2.1, hu2.2.1, fun z => by obtain ⟨a, s, b, c, e, f⟩ := hu2.2.2 z; exact ⟨a, s, b, c, by rw [c21]; exact e, fun i hi => (hfC 3 _ (Or.inl (by first | decide | omega)) (Or.inl (by first | decide | omega)) (Or.inl (by first | decide | omega))).trans (f i hi)⟩⟩
                  refine wa_cv 72 rfl (wy_pr rfl) wt_72 (M2 := mS [3]) rfl at_XH_appendShown ⟨_, rfl⟩ rfl rfl ⟨trivial, trivial, trivial, trivial, (Or.inr ⟨wy_pr rfl, mS_no rfl⟩), trivial, trivial, trivial⟩ trivial (fun _ _ q => mS_sub (by decide) q) (xap (S := C) (u := u1) hX c57 hgC (by rw [c21, c31]; exact ⟨by omega, by omega, by omega, by omega⟩) hcv1 hk1 hv1 hl1) (fun oq29 Sq29 hp30 q29 => ?_)
                  rcases q29 with ⟨rfl, ha1⟩
                  show wJ _ _ _ _ _ _ _ _ _ _
                  have a21 := ha1.1
                  have a31 := ha1.2.2.2.2.1
                  rw [c21] at a21 a31
                  rw [c31] at a31
                  refine wa_aload_n (n := 0) rfl ?_
                  refine wb_gf4 215 rfl (wy_pr rfl) wt_215 wf_8_0 (v := 72) wl_215_0 ?_
                  refine wa_iload (n := 4) rfl ?_
                  refine wa_aload_n (n := 0) rfl ?_
                  refine wb_gf4 215 rfl (wy_pr rfl) wt_215 wf_8_3 (v := 216) wl_215_3 ?_
                  refine wb_gf4 216 rfl (wy_pr rfl) wt_216 wf_7_1 (v := 218) wl_216_1 ?_
                  refine wa_iload_n (n := 2) rfl ?_
                  refine wb_lald 218 rfl (wy_pr rfl) wt_218 (n := (S 217 (-1))) (((ha1.2.2.2.1 218 (-1) (by decide) (by decide) (by decide) (by omega) (Or.inl (by decide)) (by omega)).trans ((congrFun (congrFun hCe 218) (-1)).trans ((w_up_slot (by decide)).trans ((w_up_slot (by decide)).trans (((hp2.1 218 (-1) (Or.inl (by decide)) (by omega)).trans (((hp1.1 218 (-1) (Or.inl (by decide)) (by omega)).trans (bl1)))))))))) (by omega) (by omega) (v := v2) (((ha1.2.2.2.1 218 (h - 1) (by decide) (by decide) (by decide) (by omega) (Or.inl (by decide)) (by omega)).trans ((congrFun (congrFun hCe 218) (h - 1)).trans ((w_up_slot (by decide)).trans ((w_up_slot (by decide)).trans (((hp2.1 218 (h - 1) (Or.inl (by decide)) (by omega)).trans (((hp1.1 218 (h - 1) (Or.inl (by decide)) (by omega)).trans (f2)))))))))) (fun r31 => ?_)
                  refine wa_cv 72 rfl (wy_pr rfl) wt_72 (M2 := mS [3]) rfl at_XH_appendShown ⟨_, rfl⟩ rfl rfl ⟨trivial, trivial, trivial, trivial, (Or.inr ⟨wy_pr rfl, mS_no rfl⟩), trivial, trivial, trivial⟩ trivial (fun _ _ q => mS_sub (by decide) q) (xap (S := Sq29) (u := u2) hX ((ha1.2.2.2.1 157 (-1) (by decide) (by decide) (by decide) (by decide) (Or.inr (by decide)) (by decide)).trans c57) ha1.2.2.2.2.2.1 ⟨by omega, by omega, by omega, by omega⟩ (cVl_as hcv2 ha1 (by omega)) hk2 hv2 hl2) (fun oq32 Sq32 hp33 q32 => ?_)
                  rcases q32 with ⟨rfl, ha2⟩
                  show wJ _ _ _ _ _ _ _ _ _ _
                  refine wa_aload_n (n := 0) rfl ?_
                  refine wa_iconst ?_
                  refine wa_iconst ?_
                  refine wa_iload (n := 6) rfl ?_
                  refine wa_iload (n := 5) rfl ?_
                  refine wa_cs (M2 := mS [217, 218, 3]) rfl at_X_slice ⟨_, rfl⟩ rfl rfl ⟨trivial, trivial, trivial, trivial, (Or.inr ⟨wy_pr rfl, mS_no rfl⟩), trivial, trivial, trivial⟩ ⟨trivial, trivial, (Or.inr ⟨wy_pr rfl, mS_no rfl⟩), trivial⟩ (fun _ _ q => q) ?_ (fun _ _ _ q => q)
                  refine wa_iload_n (n := 0) rfl ?_
                  refine wa_i2l (w_rg0 (by omega) (by omega)) ?_
                  refine wa_bipush (w_rg2 (by omega) (by omega)) ?_
                  refine wa_lshl ?_
                  refine wa_iload_n (n := 1) rfl ?_
                  refine wa_i2l (w_rg0 (by omega) (by omega)) ?_
                  refine wa_lor ?_
                  rw [sl_mk (s := S 2 1) (n := (((pL u1).length : Int) + ((pL u2).length : Int))) ⟨by omega, by omega⟩ ⟨by omega, by omega⟩]
                  have hwr := sl_rg (s := S 2 1) (n := (((pL u1).length : Int) + ((pL u2).length : Int))) ⟨by omega, by omega⟩ ⟨by omega, by omega⟩
                  refine wa_lreturn rfl ?_
                  show wJ _ _ _ _ _ _ _ _ _ _
                  refine wa_cv 215 rfl (wy_pr rfl) wt_215 (M2 := mS [217, 218]) rfl at_XK_give ⟨_, rfl⟩ rfl rfl ⟨trivial, trivial, trivial, trivial, (Or.inr ⟨wy_pr rfl, mS_no rfl⟩), trivial, trivial, trivial⟩ trivial (fun _ _ q => mS_sub (by decide) q) (gw_215 (S := Sq32) (n := 2) (k := 3) (v := (S 2 1 * 4294967296 + (((pL u1).length : Int) + ((pL u2).length : Int)))) (h := h) (c := c) (p := p) (ln := (S 217 (-1))) (asQ_cl (asQ_cl hCC ha1) ha2) ha2.2.2.2.2.2.1 ⟨by omega, by omega⟩ ⟨by omega, by omega⟩ (((ha2.2.2.2.1 216 2 (by decide) (by decide) (by decide) (by omega) (Or.inl (by decide)) (by omega)).trans (((ha1.2.2.2.1 216 2 (by decide) (by decide) (by decide) (by omega) (Or.inl (by decide)) (by omega)).trans ((congrFun (congrFun hCe 216) 2).trans ((w_up_slot (by decide)).trans ((w_up_slot (by decide)).trans (((hp2.1 216 2 (Or.inl (by decide)) (by omega)).trans (((hp1.1 216 2 (Or.inl (by decide)) (by omega)).trans (bh)))))))))))) (((ha2.2.2.2.1 215 4 (by decide) (by decide) (by decide) (by omega) (Or.inl (by decide)) (by omega)).trans (((ha1.2.2.2.1 215 4 (by decide) (by decide) (by decide) (by omega) (Or.inl (by decide)) (by omega)).trans ((congrFun (congrFun hCe 215) 4).trans ((w_up_slot (by decide)).trans ((w_up_slot (by decide)).trans (((hp2.1 215 4 (Or.inl (by decide)) (by omega)).trans (((hp1.1 215 4 (Or.inl (by decide)) (by omega)).trans (bc)))))))))))) (((ha2.2.2.2.1 220 (c - 1) (by decide) (by decide) (by decide) (by omega) (Or.inl (by decide)) (by omega)).trans (((ha1.2.2.2.1 220 (c - 1) (by decide) (by decide) (by decide) (by omega) (Or.inl (by decide)) (by omega)).trans ((congrFun (congrFun hCe 220) (c - 1)).trans ((w_up_slot (by decide)).trans ((w_up_slot (by decide)).trans (((hp2.1 220 (c - 1) (Or.inl (by decide)) (by omega)).trans (((hp1.1 220 (c - 1) (Or.inl (by decide)) (by omega)).trans (bp)))))))))))) (((ha2.2.2.2.1 217 (-1) (by decide) (by decide) (by decide) (by omega) (Or.inl (by decide)) (by omega)).trans (((ha1.2.2.2.1 217 (-1) (by decide) (by decide) (by decide) (by omega) (Or.inl (by decide)) (by omega)).trans ((congrFun (congrFun hCe 217) (-1)).trans ((w_up_slot (by decide)).trans ((w_up_slot (by decide)).trans (((hp2.1 217 (-1) (Or.inl (by decide)) (by omega)).trans (((hp1.1 217 (-1) (Or.inl (by decide)) (by omega)).trans (rfl)))))))))))) (((ha2.2.2.2.1 218 (-1) (by decide) (by decide) (by decide) (by omega) (Or.inl (by decide)) (by omega)).trans (((ha1.2.2.2.1 218 (-1) (by decide) (by decide) (by decide) (by omega) (Or.inl (by decide)) (by omega)).trans ((congrFun (congrFun hCe 218) (-1)).trans ((w_up_slot (by decide)).trans ((w_up_slot (by decide)).trans (((hp2.1 218 (-1) (Or.inl (by decide)) (by omega)).trans (((hp1.1 218 (-1) (Or.inl (by decide)) (by omega)).trans (bl1)))))))))))) ⟨by omega, by omega⟩ ⟨by omega, by omega, by omega⟩ ⟨by omega, by omega⟩ ⟨by omega, by omega⟩) (fun oq34 Sq34 hp35 q34 => ?_)
                  rcases q34 with ⟨rfl, A34, ra34, rfl⟩
                  show wJ _ _ _ _ _ _ _ _ _ _
                  refine wa_return rfl ?_
                  exact ⟨rfl, Or.inr ⟨by omega, by omega, _, _, hpp, by rw [← hCe]; exact asQ_2 ha1 ha2 (by omega), A34, ra34, rfl⟩⟩
                · skip
                  exact absurd c24 (by omega)
      · skip
        refine wa_iload (n := 4) rfl ?_
        refine wa_iconst ?_
        refine wa_icmpeq (w_rg0 (by omega) (by omega)) (w_rg0 (by omega) (by omega)) ⟨_, rfl⟩ (fun c36 => ?_) (fun c36 => ?_)
        · skip
          refine wa_aload_n (n := 0) rfl ?_
          refine wb_gf4 215 rfl (wy_pr rfl) wt_215 wf_8_0 (v := 72) wl_215_0 ?_
          refine wa_iload_n (n := 3) rfl ?_
          refine wa_aload_n (n := 0) rfl ?_
          refine wb_gf4 215 rfl (wy_pr rfl) wt_215 wf_8_3 (v := 216) wl_215_3 ?_
          refine wb_gf4 216 rfl (wy_pr rfl) wt_216 wf_7_1 (v := 218) wl_216_1 ?_
          refine wa_iload_n (n := 1) rfl ?_
          refine wb_lald 218 rfl (wy_pr rfl) wt_218 (n := (S 217 (-1))) (bl1) (by omega) (by omega) (v := v1) (f1) (fun r37 => ?_)
          refine wa_cv 72 rfl (wy_pr rfl) wt_72 (M2 := mS []) rfl at_XH_show ⟨_, rfl⟩ rfl rfl ⟨trivial, trivial, (Or.inr ⟨wy_pr rfl, mS_no rfl⟩), trivial, trivial, trivial⟩ trivial (fun _ _ q => mS_sub (by decide) q) (xsz (S := S) (u := u1) hX h57 hI ⟨by omega, by omega⟩ hu1 hk1 hv1) (fun oq38 Sq38 hp39 q38 => ?_)
          rcases q38 with ⟨x1, rfl, hx1z, hp1⟩
          show wJ _ _ _ _ _ _ _ _ _ _
          refine wa_cs (M2 := mS [217, 218, 3]) rfl at_X_sliceSize ⟨_, rfl⟩ rfl rfl ⟨trivial, trivial, (Or.inr ⟨wy_pr rfl, mS_no rfl⟩), trivial, trivial, trivial⟩ trivial (fun _ _ q => q) ?_ (fun _ _ _ q => q)
          refine wa_lload_n (n := 0) rfl ?_
          refine wb_l2i_r (y := ((pL u1).length : Int)) hx1z ?_
          refine wa_ireturn rfl ?_
          show wJ _ _ _ _ _ _ _ _ _ _
          refine wa_aload_n (n := 0) rfl ?_
          refine wb_gf4 215 rfl (wy_pr rfl) wt_215 wf_8_0 (v := 72) wl_215_0 ?_
          refine wa_iload (n := 4) rfl ?_
          refine wa_aload_n (n := 0) rfl ?_
          refine wb_gf4 215 rfl (wy_pr rfl) wt_215 wf_8_3 (v := 216) wl_215_3 ?_
          refine wb_gf4 216 rfl (wy_pr rfl) wt_216 wf_7_1 (v := 218) wl_216_1 ?_
          refine wa_iload_n (n := 2) rfl ?_
          refine wb_lald 218 rfl (wy_pr rfl) wt_218 (n := (S 217 (-1))) (((hp1.1 218 (-1) (Or.inl (by decide)) (by omega)).trans (bl1))) (by omega) (by omega) (v := v2) (((hp1.1 218 (h - 1) (Or.inl (by decide)) (by omega)).trans (f2))) (fun r40 => ?_)
          refine wa_cv 72 rfl (wy_pr rfl) wt_72 (M2 := mS []) rfl at_XH_show ⟨_, rfl⟩ rfl rfl ⟨trivial, trivial, (Or.inr ⟨wy_pr rfl, mS_no rfl⟩), trivial, trivial, trivial⟩ ⟨trivial, trivial⟩ (fun _ _ q => mS_sub (by decide) q) (xsz (S := Sq38) (u := u2) hX ((hp1.1 157 (-1) (Or.inr (by decide)) (Or.inl (by decide))).trans h57) hp1.2.1 (by rw [hp1.1 2 1 (Or.inl (by decide)) (Or.inl (by decide))]; exact ⟨by omega, by omega⟩) (cVl_pr hu2 hp1) hk2 hv2) (fun oq41 Sq41 hp42 q41 => ?_)
          rcases q41 with ⟨x2, rfl, hx2z, hp2⟩
          show wJ _ _ _ _ _ _ _ _ _ _
          refine wa_cs (M2 := mS [217, 218, 3]) rfl at_X_sliceSize ⟨_, rfl⟩ rfl rfl ⟨trivial, trivial, (Or.inr ⟨wy_pr rfl, mS_no rfl⟩), trivial, trivial, trivial⟩ ⟨trivial, trivial⟩ (fun _ _ q => q) ?_ (fun _ _ _ q => q)
          refine wa_lload_n (n := 0) rfl ?_
          refine wb_l2i_r (y := ((pL u2).length : Int)) hx2z ?_
          refine wa_ireturn rfl ?_
          show wJ _ _ _ _ _ _ _ _ _ _
          refine wa_iadd ?_
          refine wa_istore (n := 5) rfl ?_
          refine wa_aload_n (n := 0) rfl ?_
          refine wb_gf4 215 rfl (wy_pr rfl) wt_215 wf_8_0 (v := 72) wl_215_0 ?_
          refine wa_iload (n := 5) rfl ?_
          refine wa_cv 72 rfl (wy_pr rfl) wt_72 (M2 := mS [217, 218, 3]) rfl at_XH_hasTextRoom ⟨_, rfl⟩ rfl rfl ⟨trivial, trivial, trivial, (Or.inr ⟨wy_pr rfl, mS_no rfl⟩), trivial, trivial, trivial⟩ trivial (fun _ _ q => q) ?_ (fun _ _ _ q => q)
          refine wa_aload_n (n := 0) rfl ?_
          refine wa_iconst ?_
          refine wa_iconst ?_
          refine wa_cv 72 rfl (wy_pr rfl) wt_72 (M2 := mS [217, 218, 3]) rfl at_XH_hasRoom ⟨_, rfl⟩ rfl rfl ⟨(Or.inr ⟨wy_pr rfl, mS_no rfl⟩), trivial, trivial⟩ trivial (fun _ _ q => q) ?_ (fun _ _ _ q => q)
          refine wa_aload_n (n := 0) rfl ?_
          refine wb_gf4 72 rfl (wy_pr rfl) wt_72 wf_2_10 (v := 150) wl_72_10 ?_
          refine wa_iload_n (n := 1) rfl ?_
          refine wb_iald 150 rfl (wy_pr rfl) wt_150 (n := 6) (((hp2.1 150 (-1) (Or.inl (by decide)) (by omega)).trans (((hp1.1 150 (-1) (Or.inl (by decide)) (by omega)).trans ((cl_150 hC)))))) (by omega) (by omega) (v := y2) (((hp2.1 150 2 (Or.inl (by decide)) (by omega)).trans (((hp1.1 150 2 (Or.inl (by decide)) (by omega)).trans (hq2))))) (fun r43 => ?_)
          refine wa_iload_n (n := 2) rfl ?_
          refine wa_iadd ?_
          refine wa_gs ?_
          refine wa_iload_n (n := 1) rfl ?_
          refine wb_xald 1 rfl hx1 (by decide) (by omega) (by decide) (v := 12000) (by decide) (fun r44 => ?_)
          refine wa_icmpgt (w_rg0 (by omega) (by omega)) (w_rg0 (by omega) (by omega)) ⟨_, rfl⟩ (fun c45 => ?_) (fun c45 => ?_)
          · skip
            refine wa_iconst ?_
            refine wa_fall ⟨_, rfl⟩ ?_
            refine wa_zreturn rfl (Or.inl rfl) ?_
            show wJ _ _ _ _ _ _ _ _ _ _
            refine wa_ifeq (w_rg0 (by omega) (by omega)) ⟨_, rfl⟩ (fun c46 => ?_) (fun c46 => ?_)
            · skip
              refine wa_iconst ?_
              refine wa_fall ⟨_, rfl⟩ ?_
              refine wa_zreturn rfl (Or.inl rfl) ?_
              show wJ _ _ _ _ _ _ _ _ _ _
              refine wa_ifne (w_rg0 (by omega) (by omega)) ⟨_, rfl⟩ (fun c47 => ?_) (fun c47 => ?_)
              · skip
                exact absurd c47 (by omega)
              · skip
                refine wa_aload_n (n := 0) rfl ?_
                refine wa_bipush (w_rg2 (by omega) (by omega)) ?_
                refine wb_pfi 215 rfl (wy_pr rfl) wt_215 wf_8_16 (n := 16) rfl ⟨(by omega), (by omega)⟩ ?_
                refine wa_return rfl ?_
                exact ⟨rfl, Or.inl ⟨by omega, _, prN_tr hp1 hp2, rfl⟩⟩
            · skip
              exact absurd c46 (by omega)
          · skip
            refine wa_iconst ?_
            refine wa_goto ⟨_, rfl⟩ ?_
            refine wa_zreturn rfl (Or.inr rfl) ?_
            show wJ _ _ _ _ _ _ _ _ _ _
            refine wa_ifeq (w_rg0 (by omega) (by omega)) ⟨_, rfl⟩ (fun c48 => ?_) (fun c48 => ?_)
            · skip
              exact absurd c48 (by omega)
            · skip
              refine wa_aload_n (n := 0) rfl ?_
              refine wa_iconst ?_
              refine wa_iload_n (n := 1) rfl ?_
              refine wa_cv 72 rfl (wy_pr rfl) wt_72 (M2 := mS [217, 218, 3]) rfl at_XH_hasRoom ⟨_, rfl⟩ rfl rfl ⟨(Or.inr ⟨wy_pr rfl, mS_no rfl⟩), trivial, trivial⟩ trivial (fun _ _ q => q) ?_ (fun _ _ _ q => q)
              refine wa_aload_n (n := 0) rfl ?_
              refine wb_gf4 72 rfl (wy_pr rfl) wt_72 wf_2_10 (v := 150) wl_72_10 ?_
              refine wa_iload_n (n := 1) rfl ?_
              refine wb_iald 150 rfl (wy_pr rfl) wt_150 (n := 6) (((hp2.1 150 (-1) (Or.inl (by decide)) (by omega)).trans (((hp1.1 150 (-1) (Or.inl (by decide)) (by omega)).trans ((cl_150 hC)))))) (by omega) (by omega) (v := y3) (((hp2.1 150 3 (Or.inl (by decide)) (by omega)).trans (((hp1.1 150 3 (Or.inl (by decide)) (by omega)).trans (hq3))))) (fun r49 => ?_)
              refine wa_iload_n (n := 2) rfl ?_
              refine wa_iadd ?_
              refine wa_gs ?_
              refine wa_iload_n (n := 1) rfl ?_
              refine wb_xald 1 rfl hx1 (by decide) (by omega) (by decide) (v := 200000) (by decide) (fun r50 => ?_)
              refine wa_icmpgt (w_rg0 (by omega) (by omega)) (w_rg0 (by omega) (by omega)) ⟨_, rfl⟩ (fun c51 => ?_) (fun c51 => ?_)
              · skip
                refine wa_iconst ?_
                refine wa_fall ⟨_, rfl⟩ ?_
                refine wa_zreturn rfl (Or.inl rfl) ?_
                show wJ _ _ _ _ _ _ _ _ _ _
                refine wa_ifeq (w_rg0 (by omega) (by omega)) ⟨_, rfl⟩ (fun c52 => ?_) (fun c52 => ?_)
                · skip
                  refine wa_iconst ?_
                  refine wa_fall ⟨_, rfl⟩ ?_
                  refine wa_zreturn rfl (Or.inl rfl) ?_
                  show wJ _ _ _ _ _ _ _ _ _ _
                  refine wa_ifne (w_rg0 (by omega) (by omega)) ⟨_, rfl⟩ (fun c53 => ?_) (fun c53 => ?_)
                  · skip
                    exact absurd c53 (by omega)
                  · skip
                    refine wa_aload_n (n := 0) rfl ?_
                    refine wa_bipush (w_rg2 (by omega) (by omega)) ?_
                    refine wb_pfi 215 rfl (wy_pr rfl) wt_215 wf_8_16 (n := 16) rfl ⟨(by omega), (by omega)⟩ ?_
                    refine wa_return rfl ?_
                    exact ⟨rfl, Or.inl ⟨by omega, _, prN_tr hp1 hp2, rfl⟩⟩
                · skip
                  exact absurd c52 (by omega)
              · skip
                refine wa_iconst ?_
                refine wa_goto ⟨_, rfl⟩ ?_
                refine wa_zreturn rfl (Or.inr rfl) ?_
                show wJ _ _ _ _ _ _ _ _ _ _
                refine wa_ifeq (w_rg0 (by omega) (by omega)) ⟨_, rfl⟩ (fun c54 => ?_) (fun c54 => ?_)
                · skip
                  exact absurd c54 (by omega)
                · skip
                  refine wa_iconst ?_
                  refine wa_goto ⟨_, rfl⟩ ?_
                  refine wa_zreturn rfl (Or.inr rfl) ?_
                  show wJ _ _ _ _ _ _ _ _ _ _
                  refine wa_ifne (w_rg0 (by omega) (by omega)) ⟨_, rfl⟩ (fun c55 => ?_) (fun c55 => ?_)
                  · skip
                    refine wa_aload_n (n := 0) rfl ?_
                    refine wb_gf4 215 rfl (wy_pr rfl) wt_215 wf_8_0 (v := 72) wl_215_0 ?_
                    refine wa_iload (n := 5) rfl ?_
                    refine wa_cv 72 rfl (wy_pr rfl) wt_72 (M2 := mS [217, 218, 3]) rfl at_XH_useText ⟨_, rfl⟩ rfl rfl ⟨trivial, trivial, trivial, (Or.inr ⟨wy_pr rfl, mS_no rfl⟩), trivial, trivial, trivial⟩ trivial (fun _ _ q => q) ?_ (fun _ _ _ q => q)
                    refine wa_aload_n (n := 0) rfl ?_
                    refine wb_gf4 72 rfl (wy_pr rfl) wt_72 wf_2_10 (v := 150) wl_72_10 ?_
                    refine wa_iconst ?_
                    refine wa_dup2 (by decide) (by decide) ?_
                    refine wb_iald 150 rfl (wy_pr rfl) wt_150 (n := 6) (((hp2.1 150 (-1) (Or.inl (by decide)) (by omega)).trans (((hp1.1 150 (-1) (Or.inl (by decide)) (by omega)).trans ((cl_150 hC)))))) (by omega) (by omega) (v := y2) (((hp2.1 150 2 (Or.inl (by decide)) (by omega)).trans (((hp1.1 150 2 (Or.inl (by decide)) (by omega)).trans (hq2))))) (fun r56 => ?_)
                    refine wa_iconst ?_
                    refine wa_iadd ?_
                    refine wb_iast 150 rfl (wy_pr rfl) wt_150 (n := 6) (((hp2.1 150 (-1) (Or.inl (by decide)) (by omega)).trans (((hp1.1 150 (-1) (Or.inl (by decide)) (by omega)).trans ((cl_150 hC)))))) (by omega) (by omega) ⟨(by omega), (by omega)⟩ ?_
                    refine wa_aload_n (n := 0) rfl ?_
                    refine wb_gf4 72 rfl (wy_pr rfl) wt_72 wf_2_10 (v := 150) wl_72_10 ?_
                    refine wa_iconst ?_
                    refine wa_dup2 (by decide) (by decide) ?_
                    refine wb_iald 150 rfl (wy_pr rfl) wt_150 (n := 6) ((w_up_at (by decide)).trans (((hp2.1 150 (-1) (Or.inl (by decide)) (by omega)).trans (((hp1.1 150 (-1) (Or.inl (by decide)) (by omega)).trans ((cl_150 hC))))))) (by omega) (by omega) (v := y3) ((w_up_at (by decide)).trans (((hp2.1 150 3 (Or.inl (by decide)) (by omega)).trans (((hp1.1 150 3 (Or.inl (by decide)) (by omega)).trans (hq3)))))) (fun r57 => ?_)
                    refine wa_iload_n (n := 1) rfl ?_
                    refine wa_iadd ?_
                    refine wb_iast 150 rfl (wy_pr rfl) wt_150 (n := 6) ((w_up_at (by decide)).trans (((hp2.1 150 (-1) (Or.inl (by decide)) (by omega)).trans (((hp1.1 150 (-1) (Or.inl (by decide)) (by omega)).trans ((cl_150 hC))))))) (by omega) (by omega) ⟨(by omega), (by omega)⟩ ?_
                    refine wa_return rfl ?_
                    show wJ _ _ _ _ _ _ _ _ _ _
                    refine wa_aload_n (n := 0) rfl ?_
                    refine wb_gf4 215 rfl (wy_pr rfl) wt_215 wf_8_0 (v := 72) wl_215_0 ?_
                    refine wb_gf4 72 rfl (wy_pr rfl) wt_72 wf_2_0 (v := 2) wl_72_0 ?_
                    refine wb_gfi 2 rfl (wy_pr rfl) wt_2 wf_9_1 (v := (S 2 1)) ((w_up_slot (by decide)).trans ((w_up_slot (by decide)).trans (((hp2.1 2 1 (Or.inl (by decide)) (by omega)).trans ((hp1.1 2 1 (Or.inl (by decide)) (by omega))))))) (fun r58 => ?_)
                    refine wa_istore (n := 6) rfl ?_
                    refine wa_aload_n (n := 0) rfl ?_
                    refine wb_gf4 215 rfl (wy_pr rfl) wt_215 wf_8_0 (v := 72) wl_215_0 ?_
                    refine wa_iload_n (n := 3) rfl ?_
                    refine wa_aload_n (n := 0) rfl ?_
                    refine wb_gf4 215 rfl (wy_pr rfl) wt_215 wf_8_3 (v := 216) wl_215_3 ?_
                    refine wb_gf4 216 rfl (wy_pr rfl) wt_216 wf_7_1 (v := 218) wl_216_1 ?_
                    refine wa_iload_n (n := 1) rfl ?_
                    refine wb_lald 218 rfl (wy_pr rfl) wt_218 (n := (S 217 (-1))) ((w_up_slot (by decide)).trans ((w_up_slot (by decide)).trans (((hp2.1 218 (-1) (Or.inl (by decide)) (by omega)).trans (((hp1.1 218 (-1) (Or.inl (by decide)) (by omega)).trans (bl1))))))) (by omega) (by omega) (v := v1) ((w_up_slot (by decide)).trans ((w_up_slot (by decide)).trans (((hp2.1 218 ((h - 1) - 1) (Or.inl (by decide)) (by omega)).trans (((hp1.1 218 ((h - 1) - 1) (Or.inl (by decide)) (by omega)).trans (f1))))))) (fun r59 => ?_)
                    have hpp : prN S Sq41 := prN_tr hp1 hp2
                    obtain ⟨C, hCe⟩ : ∃ C : wS, C = (w_up (w_up Sq41 150 2 (y2 + 1)) 150 3 (y3 + (((pL u1).length : Int) + ((pL u2).length : Int)))) := ⟨_, rfl⟩
                    rw [← hCe]
                    have hfC : ∀ (j : Nat) (x : Int), (j ≠ 157 ∨ x < 0) → (j ≠ 72 ∨ x ≠ 19) → (j ≠ 150 ∨ (x ≠ 2 ∧ x ≠ 3)) → C j x = S j x := fun j x j0 j1 j2 => by rw [hCe]; exact (w_up_no (by omega)).trans ((w_up_no (by omega)).trans (hpp.1 j x j0 j1))
                    have hgC : gI C := by rw [hCe]; exact gI_up (gI_up hpp.2.1 (by first | decide | omega) (by first | decide | omega) (by first | decide | omega)) (by first | decide | omega) (by first | decide | omega) (by first | decide | omega)
                    have c21 : C 2 1 = S 2 1 := hfC 2 1 (Or.inl (by first | decide | omega)) (Or.inl (by first | decide | omega)) (Or.inl (by first | decide | omega))
                    have c31 : C 3 (-1) = S 3 (-1) := hfC 3 (-1) (Or.inl (by first | decide | omega)) (Or.inl (by first | decide | omega)) (Or.inl (by first | decide | omega))
                    have c57 : C 157 (-1) = 64 := (hfC 157 (-1) (Or.inr (by first | decide | omega)) (Or.inl (by first | decide | omega)) (Or.inl (by first | decide | omega))).trans h57
                    have hCC : w_CL C := by rw [hCe]; exact w_CL_up (w_CL_up (prN_cl hC hpp) (by first | decide | omega)) (by first | decide | omega)
                    have hcv1 : cVl C k1 v1 u1 := ⟨hu1.1, hu1.2.1, fun z => by obtain ⟨a, s, b, c, e, f⟩ := hu1.2.2 z; exact ⟨a, s, b, c, by rw [c21]; exact e, fun i hi => (hfC 3 _ (Or.inl (by first | decide | omega)) (Or.inl (by first | decide | omega)) (Or.inl (by first | decide | omega))).trans (f i hi)⟩⟩
                    have hcv2 : cVl C k2 v2 u2 := ⟨hu2.1, hu2.2.1, fun z => by obtain ⟨a, s, b, c, e, f⟩ := hu2.2.2 z; exact ⟨a, s, b, c, by rw [c21]; exact e, fun i hi => (hfC 3 _ (Or.inl (by first | decide | omega)) (Or.inl (by first | decide | omega)) (Or.inl (by first | decide | omega))).trans (f i hi)⟩⟩
                    refine wa_cv 72 rfl (wy_pr rfl) wt_72 (M2 := mS [3]) rfl at_XH_appendShown ⟨_, rfl⟩ rfl rfl ⟨trivial, trivial, trivial, trivial, (Or.inr ⟨wy_pr rfl, mS_no rfl⟩), trivial, trivial, trivial⟩ trivial (fun _ _ q => mS_sub (by decide) q) (xap (S := C) (u := u1) hX c57 hgC (by rw [c21, c31]; exact ⟨by omega, by omega, by omega, by omega⟩) hcv1 hk1 hv1 hl1) (fun oq60 Sq60 hp61 q60 => ?_)
                    rcases q60 with ⟨rfl, ha1⟩
                    show wJ _ _ _ _ _ _ _ _ _ _
                    have a21 := ha1.1
                    have a31 := ha1.2.2.2.2.1
                    rw [c21] at a21 a31
                    rw [c31] at a31
                    refine wa_aload_n (n := 0) rfl ?_
                    refine wb_gf4 215 rfl (wy_pr rfl) wt_215 wf_8_0 (v := 72) wl_215_0 ?_
                    refine wa_iload (n := 4) rfl ?_
                    refine wa_aload_n (n := 0) rfl ?_
                    refine wb_gf4 215 rfl (wy_pr rfl) wt_215 wf_8_3 (v := 216) wl_215_3 ?_
                    refine wb_gf4 216 rfl (wy_pr rfl) wt_216 wf_7_1 (v := 218) wl_216_1 ?_
                    refine wa_iload_n (n := 2) rfl ?_
                    refine wb_lald 218 rfl (wy_pr rfl) wt_218 (n := (S 217 (-1))) (((ha1.2.2.2.1 218 (-1) (by decide) (by decide) (by decide) (by omega) (Or.inl (by decide)) (by omega)).trans ((congrFun (congrFun hCe 218) (-1)).trans ((w_up_slot (by decide)).trans ((w_up_slot (by decide)).trans (((hp2.1 218 (-1) (Or.inl (by decide)) (by omega)).trans (((hp1.1 218 (-1) (Or.inl (by decide)) (by omega)).trans (bl1)))))))))) (by omega) (by omega) (v := v2) (((ha1.2.2.2.1 218 (h - 1) (by decide) (by decide) (by decide) (by omega) (Or.inl (by decide)) (by omega)).trans ((congrFun (congrFun hCe 218) (h - 1)).trans ((w_up_slot (by decide)).trans ((w_up_slot (by decide)).trans (((hp2.1 218 (h - 1) (Or.inl (by decide)) (by omega)).trans (((hp1.1 218 (h - 1) (Or.inl (by decide)) (by omega)).trans (f2)))))))))) (fun r62 => ?_)
                    refine wa_cv 72 rfl (wy_pr rfl) wt_72 (M2 := mS [3]) rfl at_XH_appendShown ⟨_, rfl⟩ rfl rfl ⟨trivial, trivial, trivial, trivial, (Or.inr ⟨wy_pr rfl, mS_no rfl⟩), trivial, trivial, trivial⟩ trivial (fun _ _ q => mS_sub (by decide) q) (xap (S := Sq60) (u := u2) hX ((ha1.2.2.2.1 157 (-1) (by decide) (by decide) (by decide) (by decide) (Or.inr (by decide)) (by decide)).trans c57) ha1.2.2.2.2.2.1 ⟨by omega, by omega, by omega, by omega⟩ (cVl_as hcv2 ha1 (by omega)) hk2 hv2 hl2) (fun oq63 Sq63 hp64 q63 => ?_)
                    rcases q63 with ⟨rfl, ha2⟩
                    show wJ _ _ _ _ _ _ _ _ _ _
                    refine wa_aload_n (n := 0) rfl ?_
                    refine wa_iconst ?_
                    refine wa_iconst ?_
                    refine wa_iload (n := 6) rfl ?_
                    refine wa_iload (n := 5) rfl ?_
                    refine wa_cs (M2 := mS [217, 218, 3]) rfl at_X_slice ⟨_, rfl⟩ rfl rfl ⟨trivial, trivial, trivial, trivial, (Or.inr ⟨wy_pr rfl, mS_no rfl⟩), trivial, trivial, trivial⟩ ⟨trivial, trivial, (Or.inr ⟨wy_pr rfl, mS_no rfl⟩), trivial⟩ (fun _ _ q => q) ?_ (fun _ _ _ q => q)
                    refine wa_iload_n (n := 0) rfl ?_
                    refine wa_i2l (w_rg0 (by omega) (by omega)) ?_
                    refine wa_bipush (w_rg2 (by omega) (by omega)) ?_
                    refine wa_lshl ?_
                    refine wa_iload_n (n := 1) rfl ?_
                    refine wa_i2l (w_rg0 (by omega) (by omega)) ?_
                    refine wa_lor ?_
                    rw [sl_mk (s := S 2 1) (n := (((pL u1).length : Int) + ((pL u2).length : Int))) ⟨by omega, by omega⟩ ⟨by omega, by omega⟩]
                    have hwr := sl_rg (s := S 2 1) (n := (((pL u1).length : Int) + ((pL u2).length : Int))) ⟨by omega, by omega⟩ ⟨by omega, by omega⟩
                    refine wa_lreturn rfl ?_
                    show wJ _ _ _ _ _ _ _ _ _ _
                    refine wa_cv 215 rfl (wy_pr rfl) wt_215 (M2 := mS [217, 218]) rfl at_XK_give ⟨_, rfl⟩ rfl rfl ⟨trivial, trivial, trivial, trivial, (Or.inr ⟨wy_pr rfl, mS_no rfl⟩), trivial, trivial, trivial⟩ trivial (fun _ _ q => mS_sub (by decide) q) (gw_215 (S := Sq63) (n := 2) (k := 3) (v := (S 2 1 * 4294967296 + (((pL u1).length : Int) + ((pL u2).length : Int)))) (h := h) (c := c) (p := p) (ln := (S 217 (-1))) (asQ_cl (asQ_cl hCC ha1) ha2) ha2.2.2.2.2.2.1 ⟨by omega, by omega⟩ ⟨by omega, by omega⟩ (((ha2.2.2.2.1 216 2 (by decide) (by decide) (by decide) (by omega) (Or.inl (by decide)) (by omega)).trans (((ha1.2.2.2.1 216 2 (by decide) (by decide) (by decide) (by omega) (Or.inl (by decide)) (by omega)).trans ((congrFun (congrFun hCe 216) 2).trans ((w_up_slot (by decide)).trans ((w_up_slot (by decide)).trans (((hp2.1 216 2 (Or.inl (by decide)) (by omega)).trans (((hp1.1 216 2 (Or.inl (by decide)) (by omega)).trans (bh)))))))))))) (((ha2.2.2.2.1 215 4 (by decide) (by decide) (by decide) (by omega) (Or.inl (by decide)) (by omega)).trans (((ha1.2.2.2.1 215 4 (by decide) (by decide) (by decide) (by omega) (Or.inl (by decide)) (by omega)).trans ((congrFun (congrFun hCe 215) 4).trans ((w_up_slot (by decide)).trans ((w_up_slot (by decide)).trans (((hp2.1 215 4 (Or.inl (by decide)) (by omega)).trans (((hp1.1 215 4 (Or.inl (by decide)) (by omega)).trans (bc)))))))))))) (((ha2.2.2.2.1 220 (c - 1) (by decide) (by decide) (by decide) (by omega) (Or.inl (by decide)) (by omega)).trans (((ha1.2.2.2.1 220 (c - 1) (by decide) (by decide) (by decide) (by omega) (Or.inl (by decide)) (by omega)).trans ((congrFun (congrFun hCe 220) (c - 1)).trans ((w_up_slot (by decide)).trans ((w_up_slot (by decide)).trans (((hp2.1 220 (c - 1) (Or.inl (by decide)) (by omega)).trans (((hp1.1 220 (c - 1) (Or.inl (by decide)) (by omega)).trans (bp)))))))))))) (((ha2.2.2.2.1 217 (-1) (by decide) (by decide) (by decide) (by omega) (Or.inl (by decide)) (by omega)).trans (((ha1.2.2.2.1 217 (-1) (by decide) (by decide) (by decide) (by omega) (Or.inl (by decide)) (by omega)).trans ((congrFun (congrFun hCe 217) (-1)).trans ((w_up_slot (by decide)).trans ((w_up_slot (by decide)).trans (((hp2.1 217 (-1) (Or.inl (by decide)) (by omega)).trans (((hp1.1 217 (-1) (Or.inl (by decide)) (by omega)).trans (rfl)))))))))))) (((ha2.2.2.2.1 218 (-1) (by decide) (by decide) (by decide) (by omega) (Or.inl (by decide)) (by omega)).trans (((ha1.2.2.2.1 218 (-1) (by decide) (by decide) (by decide) (by omega) (Or.inl (by decide)) (by omega)).trans ((congrFun (congrFun hCe 218) (-1)).trans ((w_up_slot (by decide)).trans ((w_up_slot (by decide)).trans (((hp2.1 218 (-1) (Or.inl (by decide)) (by omega)).trans (((hp1.1 218 (-1) (Or.inl (by decide)) (by omega)).trans (bl1)))))))))))) ⟨by omega, by omega⟩ ⟨by omega, by omega, by omega⟩ ⟨by omega, by omega⟩ ⟨by omega, by omega⟩) (fun oq65 Sq65 hp66 q65 => ?_)
                    rcases q65 with ⟨rfl, A65, ra65, rfl⟩
                    show wJ _ _ _ _ _ _ _ _ _ _
                    refine wa_return rfl ?_
                    exact ⟨rfl, Or.inr ⟨by omega, by omega, _, _, hpp, by rw [← hCe]; exact asQ_2 ha1 ha2 (by omega), A65, ra65, rfl⟩⟩
                  · skip
                    exact absurd c55 (by omega)
        · skip
          exfalso; omega
set_option maxHeartbeats 4000000 in
theorem xjn_226 {c p h k1 v1 k2 v2 y2 y3 : Int} (hP : xP 226 c p h S) (hX : w_X xs) (hx1 : pe_at (pe_GA xs).xs 1 = some (1, tx_1)) (h57 : S 157 (-1) = 64) (h0 : 0 ≤ S 2 1 ∧ S 2 1 ≤ S 3 (-1) ∧ 1024 ≤ S 3 (-1) ∧ S 3 (-1) ≤ 8000000) (h21 : S 2 1 ≤ 4000000) (hh2 : 2 ≤ h) (e1 : S 228 (h - 1 - 1) = k1) (f1 : S 229 (h - 1 - 1) = v1) (e2 : S 228 (h - 1) = k2) (f2 : S 229 (h - 1) = v2) (hu1 : cVl S k1 v1 u1) (hk1 : 0 ≤ k1 ∧ k1 ≤ 3) (hv1 : -9223372036854775808 ≤ v1 ∧ v1 ≤ 9223372036854775807) (hl1 : (pL u1).length ≤ 200000) (hu2 : cVl S k2 v2 u2) (hk2 : 0 ≤ k2 ∧ k2 ≤ 3) (hv2 : -9223372036854775808 ≤ v2 ∧ v2 ≤ 9223372036854775807) (hl2 : (pL u2).length ≤ 200000) (h3 : k1 = 3 ∨ k2 = 3) (hq2 : S 150 2 = y2) (hq3 : S 150 3 = y3) (hy2r : 0 ≤ y2 ∧ y2 ≤ 12000) (hy3r : 0 ≤ y3 ∧ y3 ≤ 200000) : wJ (pe_GA xs) wY0 (mS [228, 229, 3]) (d + 9) t_XK_join ((pe_at t_XK_join.bl 0).getD (0, [])).2 [(0, (2, 226)), (1, (0, h - 1 - 1)), (2, (0, h - 1))] [] S (fun o Z => o = .inl none ∧ (((12000 ≤ y2 ∨ 200000 < y3 + (((pL u1).length : Int) + ((pL u2).length : Int))) ∧ ∃ A : wS, prN S A ∧ w_up A 226 16 99 = Z) ∨ (y2 < 12000 ∧ y3 + (((pL u1).length : Int) + ((pL u2).length : Int)) ≤ 200000 ∧ ∃ A B : wS, prN S A ∧ asQ (pL u1 ++ pL u2) (w_up (w_up A 150 2 (y2 + 1)) 150 3 (y3 + (((pL u1).length : Int) + ((pL u2).length : Int)))) B ∧ sO 226 h c p 2 3 (S 2 1 * 4294967296 + (((pL u1).length : Int) + ((pL u2).length : Int))) B Z))) := by
  obtain ⟨⟨hC, hI⟩, ⟨bc, bc0, bc1⟩, ⟨bp, bp0, bp1⟩, ⟨bh, bh0, bh1, bh2⟩, bl1, bl2, bl3⟩ := hP
  replace bp : S 231 (c - 1) = p := bp
  replace bh : S 227 2 = h := bh
  replace bh2 : h ≤ S 228 (-1) := bh2
  replace bl1 : S 229 (-1) = S 228 (-1) := bl1
  replace bl2 : 64 ≤ S 228 (-1) := bl2
  replace bl3 : S 228 (-1) ≤ 4095 := bl3
  have hg : wG = 1000000 := rfl
  refine wa_aload_n (n := 0) rfl ?_
  refine wb_gf4 226 rfl (wy_pr rfl) wt_226 wf_8_3 (v := 227) wl_226_3 ?_
  refine wb_gf4 227 rfl (wy_pr rfl) wt_227 wf_7_0 (v := 228) wl_227_0 ?_
  refine wa_iload_n (n := 1) rfl ?_
  refine wb_bald 228 rfl (wy_pr rfl) wt_228 (n := (S 228 (-1))) (rfl) (by omega) (by omega) (v := k1) (e1) (fun r1 => ?_)
  refine wa_istore_n (n := 3) rfl ?_
  refine wa_aload_n (n := 0) rfl ?_
  refine wb_gf4 226 rfl (wy_pr rfl) wt_226 wf_8_3 (v := 227) wl_226_3 ?_
  refine wb_gf4 227 rfl (wy_pr rfl) wt_227 wf_7_0 (v := 228) wl_227_0 ?_
  refine wa_iload_n (n := 2) rfl ?_
  refine wb_bald 228 rfl (wy_pr rfl) wt_228 (n := (S 228 (-1))) (rfl) (by omega) (by omega) (v := k2) (e2) (fun r2 => ?_)
  refine wa_istore (n := 4) rfl ?_
  refine wa_iload_n (n := 3) rfl ?_
  refine wa_iconst ?_
  refine wa_icmpgt (w_rg0 (by omega) (by omega)) (w_rg0 (by omega) (by omega)) ⟨_, rfl⟩ (fun c3 => ?_) (fun c3 => ?_)
  · skip
    exact absurd c3 (by omega)
  · skip
    refine wa_iload (n := 4) rfl ?_
    refine wa_iconst ?_
    refine wa_icmpgt (w_rg0 (by omega) (by omega)) (w_rg0 (by omega) (by omega)) ⟨_, rfl⟩ (fun c4 => ?_) (fun c4 => ?_)
    · skip
      exact absurd c4 (by omega)
    · skip
      refine wa_iload_n (n := 3) rfl ?_
      refine wa_iconst ?_
      refine wa_icmpeq (w_rg0 (by omega) (by omega)) (w_rg0 (by omega) (by omega)) ⟨_, rfl⟩ (fun c5 => ?_) (fun c5 => ?_)
      · skip
        refine wa_aload_n (n := 0) rfl ?_
        refine wb_gf4 226 rfl (wy_pr rfl) wt_226 wf_8_0 (v := 72) wl_226_0 ?_
        refine wa_iload_n (n := 3) rfl ?_
        refine wa_aload_n (n := 0) rfl ?_
        refine wb_gf4 226 rfl (wy_pr rfl) wt_226 wf_8_3 (v := 227) wl_226_3 ?_
        refine wb_gf4 227 rfl (wy_pr rfl) wt_227 wf_7_1 (v := 229) wl_227_1 ?_
        refine wa_iload_n (n := 1) rfl ?_
        refine wb_lald 229 rfl (wy_pr rfl) wt_229 (n := (S 228 (-1))) (bl1) (by omega) (by omega) (v := v1) (f1) (fun r6 => ?_)
        refine wa_cv 72 rfl (wy_pr rfl) wt_72 (M2 := mS []) rfl at_XH_show ⟨_, rfl⟩ rfl rfl ⟨trivial, trivial, (Or.inr ⟨wy_pr rfl, mS_no rfl⟩), trivial, trivial, trivial⟩ trivial (fun _ _ q => mS_sub (by decide) q) (xsz (S := S) (u := u1) hX h57 hI ⟨by omega, by omega⟩ hu1 hk1 hv1) (fun oq7 Sq7 hp8 q7 => ?_)
        rcases q7 with ⟨x1, rfl, hx1z, hp1⟩
        show wJ _ _ _ _ _ _ _ _ _ _
        refine wa_cs (M2 := mS [228, 229, 3]) rfl at_X_sliceSize ⟨_, rfl⟩ rfl rfl ⟨trivial, trivial, (Or.inr ⟨wy_pr rfl, mS_no rfl⟩), trivial, trivial, trivial⟩ trivial (fun _ _ q => q) ?_ (fun _ _ _ q => q)
        refine wa_lload_n (n := 0) rfl ?_
        refine wb_l2i_r (y := ((pL u1).length : Int)) hx1z ?_
        refine wa_ireturn rfl ?_
        show wJ _ _ _ _ _ _ _ _ _ _
        refine wa_aload_n (n := 0) rfl ?_
        refine wb_gf4 226 rfl (wy_pr rfl) wt_226 wf_8_0 (v := 72) wl_226_0 ?_
        refine wa_iload (n := 4) rfl ?_
        refine wa_aload_n (n := 0) rfl ?_
        refine wb_gf4 226 rfl (wy_pr rfl) wt_226 wf_8_3 (v := 227) wl_226_3 ?_
        refine wb_gf4 227 rfl (wy_pr rfl) wt_227 wf_7_1 (v := 229) wl_227_1 ?_
        refine wa_iload_n (n := 2) rfl ?_
        refine wb_lald 229 rfl (wy_pr rfl) wt_229 (n := (S 228 (-1))) (((hp1.1 229 (-1) (Or.inl (by decide)) (by omega)).trans (bl1))) (by omega) (by omega) (v := v2) (((hp1.1 229 (h - 1) (Or.inl (by decide)) (by omega)).trans (f2))) (fun r9 => ?_)
        refine wa_cv 72 rfl (wy_pr rfl) wt_72 (M2 := mS []) rfl at_XH_show ⟨_, rfl⟩ rfl rfl ⟨trivial, trivial, (Or.inr ⟨wy_pr rfl, mS_no rfl⟩), trivial, trivial, trivial⟩ ⟨trivial, trivial⟩ (fun _ _ q => mS_sub (by decide) q) (xsz (S := Sq7) (u := u2) hX ((hp1.1 157 (-1) (Or.inr (by decide)) (Or.inl (by decide))).trans h57) hp1.2.1 (by rw [hp1.1 2 1 (Or.inl (by decide)) (Or.inl (by decide))]; exact ⟨by omega, by omega⟩) (cVl_pr hu2 hp1) hk2 hv2) (fun oq10 Sq10 hp11 q10 => ?_)
        rcases q10 with ⟨x2, rfl, hx2z, hp2⟩
        show wJ _ _ _ _ _ _ _ _ _ _
        refine wa_cs (M2 := mS [228, 229, 3]) rfl at_X_sliceSize ⟨_, rfl⟩ rfl rfl ⟨trivial, trivial, (Or.inr ⟨wy_pr rfl, mS_no rfl⟩), trivial, trivial, trivial⟩ ⟨trivial, trivial⟩ (fun _ _ q => q) ?_ (fun _ _ _ q => q)
        refine wa_lload_n (n := 0) rfl ?_
        refine wb_l2i_r (y := ((pL u2).length : Int)) hx2z ?_
        refine wa_ireturn rfl ?_
        show wJ _ _ _ _ _ _ _ _ _ _
        refine wa_iadd ?_
        refine wa_istore (n := 5) rfl ?_
        refine wa_aload_n (n := 0) rfl ?_
        refine wb_gf4 226 rfl (wy_pr rfl) wt_226 wf_8_0 (v := 72) wl_226_0 ?_
        refine wa_iload (n := 5) rfl ?_
        refine wa_cv 72 rfl (wy_pr rfl) wt_72 (M2 := mS [228, 229, 3]) rfl at_XH_hasTextRoom ⟨_, rfl⟩ rfl rfl ⟨trivial, trivial, trivial, (Or.inr ⟨wy_pr rfl, mS_no rfl⟩), trivial, trivial, trivial⟩ trivial (fun _ _ q => q) ?_ (fun _ _ _ q => q)
        refine wa_aload_n (n := 0) rfl ?_
        refine wa_iconst ?_
        refine wa_iconst ?_
        refine wa_cv 72 rfl (wy_pr rfl) wt_72 (M2 := mS [228, 229, 3]) rfl at_XH_hasRoom ⟨_, rfl⟩ rfl rfl ⟨(Or.inr ⟨wy_pr rfl, mS_no rfl⟩), trivial, trivial⟩ trivial (fun _ _ q => q) ?_ (fun _ _ _ q => q)
        refine wa_aload_n (n := 0) rfl ?_
        refine wb_gf4 72 rfl (wy_pr rfl) wt_72 wf_2_10 (v := 150) wl_72_10 ?_
        refine wa_iload_n (n := 1) rfl ?_
        refine wb_iald 150 rfl (wy_pr rfl) wt_150 (n := 6) (((hp2.1 150 (-1) (Or.inl (by decide)) (by omega)).trans (((hp1.1 150 (-1) (Or.inl (by decide)) (by omega)).trans ((cl_150 hC)))))) (by omega) (by omega) (v := y2) (((hp2.1 150 2 (Or.inl (by decide)) (by omega)).trans (((hp1.1 150 2 (Or.inl (by decide)) (by omega)).trans (hq2))))) (fun r12 => ?_)
        refine wa_iload_n (n := 2) rfl ?_
        refine wa_iadd ?_
        refine wa_gs ?_
        refine wa_iload_n (n := 1) rfl ?_
        refine wb_xald 1 rfl hx1 (by decide) (by omega) (by decide) (v := 12000) (by decide) (fun r13 => ?_)
        refine wa_icmpgt (w_rg0 (by omega) (by omega)) (w_rg0 (by omega) (by omega)) ⟨_, rfl⟩ (fun c14 => ?_) (fun c14 => ?_)
        · skip
          refine wa_iconst ?_
          refine wa_fall ⟨_, rfl⟩ ?_
          refine wa_zreturn rfl (Or.inl rfl) ?_
          show wJ _ _ _ _ _ _ _ _ _ _
          refine wa_ifeq (w_rg0 (by omega) (by omega)) ⟨_, rfl⟩ (fun c15 => ?_) (fun c15 => ?_)
          · skip
            refine wa_iconst ?_
            refine wa_fall ⟨_, rfl⟩ ?_
            refine wa_zreturn rfl (Or.inl rfl) ?_
            show wJ _ _ _ _ _ _ _ _ _ _
            refine wa_ifne (w_rg0 (by omega) (by omega)) ⟨_, rfl⟩ (fun c16 => ?_) (fun c16 => ?_)
            · skip
              exact absurd c16 (by omega)
            · skip
              refine wa_aload_n (n := 0) rfl ?_
              refine wa_bipush (w_rg2 (by omega) (by omega)) ?_
              refine wb_pfi 226 rfl (wy_pr rfl) wt_226 wf_8_16 (n := 16) rfl ⟨(by omega), (by omega)⟩ ?_
              refine wa_return rfl ?_
              exact ⟨rfl, Or.inl ⟨by omega, _, prN_tr hp1 hp2, rfl⟩⟩
          · skip
            exact absurd c15 (by omega)
        · skip
          refine wa_iconst ?_
          refine wa_goto ⟨_, rfl⟩ ?_
          refine wa_zreturn rfl (Or.inr rfl) ?_
          show wJ _ _ _ _ _ _ _ _ _ _
          refine wa_ifeq (w_rg0 (by omega) (by omega)) ⟨_, rfl⟩ (fun c17 => ?_) (fun c17 => ?_)
          · skip
            exact absurd c17 (by omega)
          · skip
            refine wa_aload_n (n := 0) rfl ?_
            refine wa_iconst ?_
            refine wa_iload_n (n := 1) rfl ?_
            refine wa_cv 72 rfl (wy_pr rfl) wt_72 (M2 := mS [228, 229, 3]) rfl at_XH_hasRoom ⟨_, rfl⟩ rfl rfl ⟨(Or.inr ⟨wy_pr rfl, mS_no rfl⟩), trivial, trivial⟩ trivial (fun _ _ q => q) ?_ (fun _ _ _ q => q)
            refine wa_aload_n (n := 0) rfl ?_
            refine wb_gf4 72 rfl (wy_pr rfl) wt_72 wf_2_10 (v := 150) wl_72_10 ?_
            refine wa_iload_n (n := 1) rfl ?_
            refine wb_iald 150 rfl (wy_pr rfl) wt_150 (n := 6) (((hp2.1 150 (-1) (Or.inl (by decide)) (by omega)).trans (((hp1.1 150 (-1) (Or.inl (by decide)) (by omega)).trans ((cl_150 hC)))))) (by omega) (by omega) (v := y3) (((hp2.1 150 3 (Or.inl (by decide)) (by omega)).trans (((hp1.1 150 3 (Or.inl (by decide)) (by omega)).trans (hq3))))) (fun r18 => ?_)
            refine wa_iload_n (n := 2) rfl ?_
            refine wa_iadd ?_
            refine wa_gs ?_
            refine wa_iload_n (n := 1) rfl ?_
            refine wb_xald 1 rfl hx1 (by decide) (by omega) (by decide) (v := 200000) (by decide) (fun r19 => ?_)
            refine wa_icmpgt (w_rg0 (by omega) (by omega)) (w_rg0 (by omega) (by omega)) ⟨_, rfl⟩ (fun c20 => ?_) (fun c20 => ?_)
            · skip
              refine wa_iconst ?_
              refine wa_fall ⟨_, rfl⟩ ?_
              refine wa_zreturn rfl (Or.inl rfl) ?_
              show wJ _ _ _ _ _ _ _ _ _ _
              refine wa_ifeq (w_rg0 (by omega) (by omega)) ⟨_, rfl⟩ (fun c21 => ?_) (fun c21 => ?_)
              · skip
                refine wa_iconst ?_
                refine wa_fall ⟨_, rfl⟩ ?_
                refine wa_zreturn rfl (Or.inl rfl) ?_
                show wJ _ _ _ _ _ _ _ _ _ _
                refine wa_ifne (w_rg0 (by omega) (by omega)) ⟨_, rfl⟩ (fun c22 => ?_) (fun c22 => ?_)
                · skip
                  exact absurd c22 (by omega)
                · skip
                  refine wa_aload_n (n := 0) rfl ?_
                  refine wa_bipush (w_rg2 (by omega) (by omega)) ?_
                  refine wb_pfi 226 rfl (wy_pr rfl) wt_226 wf_8_16 (n := 16) rfl ⟨(by omega), (by omega)⟩ ?_
                  refine wa_return rfl ?_
                  exact ⟨rfl, Or.inl ⟨by omega, _, prN_tr hp1 hp2, rfl⟩⟩
              · skip
                exact absurd c21 (by omega)
            · skip
              refine wa_iconst ?_
              refine wa_goto ⟨_, rfl⟩ ?_
              refine wa_zreturn rfl (Or.inr rfl) ?_
              show wJ _ _ _ _ _ _ _ _ _ _
              refine wa_ifeq (w_rg0 (by omega) (by omega)) ⟨_, rfl⟩ (fun c23 => ?_) (fun c23 => ?_)
              · skip
                exact absurd c23 (by omega)
              · skip
                refine wa_iconst ?_
                refine wa_goto ⟨_, rfl⟩ ?_
                refine wa_zreturn rfl (Or.inr rfl) ?_
                show wJ _ _ _ _ _ _ _ _ _ _
                refine wa_ifne (w_rg0 (by omega) (by omega)) ⟨_, rfl⟩ (fun c24 => ?_) (fun c24 => ?_)
                · skip
                  refine wa_aload_n (n := 0) rfl ?_
                  refine wb_gf4 226 rfl (wy_pr rfl) wt_226 wf_8_0 (v := 72) wl_226_0 ?_
                  refine wa_iload (n := 5) rfl ?_
                  refine wa_cv 72 rfl (wy_pr rfl) wt_72 (M2 := mS [228, 229, 3]) rfl at_XH_useText ⟨_, rfl⟩ rfl rfl ⟨trivial, trivial, trivial, (Or.inr ⟨wy_pr rfl, mS_no rfl⟩), trivial, trivial, trivial⟩ trivial (fun _ _ q => q) ?_ (fun _ _ _ q => q)
                  refine wa_aload_n (n := 0) rfl ?_
                  refine wb_gf4 72 rfl (wy_pr rfl) wt_72 wf_2_10 (v := 150) wl_72_10 ?_
                  refine wa_iconst ?_
                  refine wa_dup2 (by decide) (by decide) ?_
                  refine wb_iald 150 rfl (wy_pr rfl) wt_150 (n := 6) (((hp2.1 150 (-1) (Or.inl (by decide)) (by omega)).trans (((hp1.1 150 (-1) (Or.inl (by decide)) (by omega)).trans ((cl_150 hC)))))) (by omega) (by omega) (v := y2) (((hp2.1 150 2 (Or.inl (by decide)) (by omega)).trans (((hp1.1 150 2 (Or.inl (by decide)) (by omega)).trans (hq2))))) (fun r25 => ?_)
                  refine wa_iconst ?_
                  refine wa_iadd ?_
                  refine wb_iast 150 rfl (wy_pr rfl) wt_150 (n := 6) (((hp2.1 150 (-1) (Or.inl (by decide)) (by omega)).trans (((hp1.1 150 (-1) (Or.inl (by decide)) (by omega)).trans ((cl_150 hC)))))) (by omega) (by omega) ⟨(by omega), (by omega)⟩ ?_
                  refine wa_aload_n (n := 0) rfl ?_
                  refine wb_gf4 72 rfl (wy_pr rfl) wt_72 wf_2_10 (v := 150) wl_72_10 ?_
                  refine wa_iconst ?_
                  refine wa_dup2 (by decide) (by decide) ?_
                  refine wb_iald 150 rfl (wy_pr rfl) wt_150 (n := 6) ((w_up_at (by decide)).trans (((hp2.1 150 (-1) (Or.inl (by decide)) (by omega)).trans (((hp1.1 150 (-1) (Or.inl (by decide)) (by omega)).trans ((cl_150 hC))))))) (by omega) (by omega) (v := y3) ((w_up_at (by decide)).trans (((hp2.1 150 3 (Or.inl (by decide)) (by omega)).trans (((hp1.1 150 3 (Or.inl (by decide)) (by omega)).trans (hq3)))))) (fun r26 => ?_)
                  refine wa_iload_n (n := 1) rfl ?_
                  refine wa_iadd ?_
                  refine wb_iast 150 rfl (wy_pr rfl) wt_150 (n := 6) ((w_up_at (by decide)).trans (((hp2.1 150 (-1) (Or.inl (by decide)) (by omega)).trans (((hp1.1 150 (-1) (Or.inl (by decide)) (by omega)).trans ((cl_150 hC))))))) (by omega) (by omega) ⟨(by omega), (by omega)⟩ ?_
                  refine wa_return rfl ?_
                  show wJ _ _ _ _ _ _ _ _ _ _
                  refine wa_aload_n (n := 0) rfl ?_
                  refine wb_gf4 226 rfl (wy_pr rfl) wt_226 wf_8_0 (v := 72) wl_226_0 ?_
                  refine wb_gf4 72 rfl (wy_pr rfl) wt_72 wf_2_0 (v := 2) wl_72_0 ?_
                  refine wb_gfi 2 rfl (wy_pr rfl) wt_2 wf_9_1 (v := (S 2 1)) ((w_up_slot (by decide)).trans ((w_up_slot (by decide)).trans (((hp2.1 2 1 (Or.inl (by decide)) (by omega)).trans ((hp1.1 2 1 (Or.inl (by decide)) (by omega))))))) (fun r27 => ?_)
                  refine wa_istore (n := 6) rfl ?_
                  refine wa_aload_n (n := 0) rfl ?_
                  refine wb_gf4 226 rfl (wy_pr rfl) wt_226 wf_8_0 (v := 72) wl_226_0 ?_
                  refine wa_iload_n (n := 3) rfl ?_
                  refine wa_aload_n (n := 0) rfl ?_
                  refine wb_gf4 226 rfl (wy_pr rfl) wt_226 wf_8_3 (v := 227) wl_226_3 ?_
                  refine wb_gf4 227 rfl (wy_pr rfl) wt_227 wf_7_1 (v := 229) wl_227_1 ?_
                  refine wa_iload_n (n := 1) rfl ?_
                  refine wb_lald 229 rfl (wy_pr rfl) wt_229 (n := (S 228 (-1))) ((w_up_slot (by decide)).trans ((w_up_slot (by decide)).trans (((hp2.1 229 (-1) (Or.inl (by decide)) (by omega)).trans (((hp1.1 229 (-1) (Or.inl (by decide)) (by omega)).trans (bl1))))))) (by omega) (by omega) (v := v1) ((w_up_slot (by decide)).trans ((w_up_slot (by decide)).trans (((hp2.1 229 ((h - 1) - 1) (Or.inl (by decide)) (by omega)).trans (((hp1.1 229 ((h - 1) - 1) (Or.inl (by decide)) (by omega)).trans (f1))))))) (fun r28 => ?_)
                  have hpp : prN S Sq10 := prN_tr hp1 hp2
                  obtain ⟨C, hCe⟩ : ∃ C : wS, C = (w_up (w_up Sq10 150 2 (y2 + 1)) 150 3 (y3 + (((pL u1).length : Int) + ((pL u2).length : Int)))) := ⟨_, rfl⟩
                  rw [← hCe]
                  have hfC : ∀ (j : Nat) (x : Int), (j ≠ 157 ∨ x < 0) → (j ≠ 72 ∨ x ≠ 19) → (j ≠ 150 ∨ (x ≠ 2 ∧ x ≠ 3)) → C j x = S j x := fun j x j0 j1 j2 => by rw [hCe]; exact (w_up_no (by omega)).trans ((w_up_no (by omega)).trans (hpp.1 j x j0 j1))
                  have hgC : gI C := by rw [hCe]; exact gI_up (gI_up hpp.2.1 (by first | decide | omega) (by first | decide | omega) (by first | decide | omega)) (by first | decide | omega) (by first | decide | omega) (by first | decide | omega)
                  have c21 : C 2 1 = S 2 1 := hfC 2 1 (Or.inl (by first | decide | omega)) (Or.inl (by first | decide | omega)) (Or.inl (by first | decide | omega))
                  have c31 : C 3 (-1) = S 3 (-1) := hfC 3 (-1) (Or.inl (by first | decide | omega)) (Or.inl (by first | decide | omega)) (Or.inl (by first | decide | omega))
                  have c57 : C 157 (-1) = 64 := (hfC 157 (-1) (Or.inr (by first | decide | omega)) (Or.inl (by first | decide | omega)) (Or.inl (by first | decide | omega))).trans h57
                  have hCC : w_CL C := by rw [hCe]; exact w_CL_up (w_CL_up (prN_cl hC hpp) (by first | decide | omega)) (by first | decide | omega)
                  have hcv1 : cVl C k1 v1 u1 := ⟨hu1.1, hu1.2.1, fun z => by obtain ⟨a, s, b, c, e, f⟩ := hu1.2.2 z; exact ⟨a, s, b, c, by rw [c21]; exact e, fun i hi => (hfC 3 _ (Or.inl (by first | decide | omega)) (Or.inl (by first | decide | omega)) (Or.inl (by first | decide | omega))).trans (f i hi)⟩⟩
                  have hcv2 : cVl C k2 v2 u2 := ⟨hu2.1, hu2.2.1, fun z => by obtain ⟨a, s, b, c, e, f⟩ := hu2.2.2 z; exact ⟨a, s, b, c, by rw [c21]; exact e, fun i hi => (hfC 3 _ (Or.inl (by first | decide | omega)) (Or.inl (by first | decide | omega)) (Or.inl (by first | decide | omega))).trans (f i hi)⟩⟩
                  refine wa_cv 72 rfl (wy_pr rfl) wt_72 (M2 := mS [3]) rfl at_XH_appendShown ⟨_, rfl⟩ rfl rfl ⟨trivial, trivial, trivial, trivial, (Or.inr ⟨wy_pr rfl, mS_no rfl⟩), trivial, trivial, trivial⟩ trivial (fun _ _ q => mS_sub (by decide) q) (xap (S := C) (u := u1) hX c57 hgC (by rw [c21, c31]; exact ⟨by omega, by omega, by omega, by omega⟩) hcv1 hk1 hv1 hl1) (fun oq29 Sq29 hp30 q29 => ?_)
                  rcases q29 with ⟨rfl, ha1⟩
                  show wJ _ _ _ _ _ _ _ _ _ _
                  have a21 := ha1.1
                  have a31 := ha1.2.2.2.2.1
                  rw [c21] at a21 a31
                  rw [c31] at a31
                  refine wa_aload_n (n := 0) rfl ?_
                  refine wb_gf4 226 rfl (wy_pr rfl) wt_226 wf_8_0 (v := 72) wl_226_0 ?_
                  refine wa_iload (n := 4) rfl ?_
                  refine wa_aload_n (n := 0) rfl ?_
                  refine wb_gf4 226 rfl (wy_pr rfl) wt_226 wf_8_3 (v := 227) wl_226_3 ?_
                  refine wb_gf4 227 rfl (wy_pr rfl) wt_227 wf_7_1 (v := 229) wl_227_1 ?_
                  refine wa_iload_n (n := 2) rfl ?_
                  refine wb_lald 229 rfl (wy_pr rfl) wt_229 (n := (S 228 (-1))) (((ha1.2.2.2.1 229 (-1) (by decide) (by decide) (by decide) (by omega) (Or.inl (by decide)) (by omega)).trans ((congrFun (congrFun hCe 229) (-1)).trans ((w_up_slot (by decide)).trans ((w_up_slot (by decide)).trans (((hp2.1 229 (-1) (Or.inl (by decide)) (by omega)).trans (((hp1.1 229 (-1) (Or.inl (by decide)) (by omega)).trans (bl1)))))))))) (by omega) (by omega) (v := v2) (((ha1.2.2.2.1 229 (h - 1) (by decide) (by decide) (by decide) (by omega) (Or.inl (by decide)) (by omega)).trans ((congrFun (congrFun hCe 229) (h - 1)).trans ((w_up_slot (by decide)).trans ((w_up_slot (by decide)).trans (((hp2.1 229 (h - 1) (Or.inl (by decide)) (by omega)).trans (((hp1.1 229 (h - 1) (Or.inl (by decide)) (by omega)).trans (f2)))))))))) (fun r31 => ?_)
                  refine wa_cv 72 rfl (wy_pr rfl) wt_72 (M2 := mS [3]) rfl at_XH_appendShown ⟨_, rfl⟩ rfl rfl ⟨trivial, trivial, trivial, trivial, (Or.inr ⟨wy_pr rfl, mS_no rfl⟩), trivial, trivial, trivial⟩ trivial (fun _ _ q => mS_sub (by decide) q) (xap (S := Sq29) (u := u2) hX ((ha1.2.2.2.1 157 (-1) (by decide) (by decide) (by decide) (by decide) (Or.inr (by decide)) (by decide)).trans c57) ha1.2.2.2.2.2.1 ⟨by omega, by omega, by omega, by omega⟩ (cVl_as hcv2 ha1 (by omega)) hk2 hv2 hl2) (fun oq32 Sq32 hp33 q32 => ?_)
                  rcases q32 with ⟨rfl, ha2⟩
                  show wJ _ _ _ _ _ _ _ _ _ _
                  refine wa_aload_n (n := 0) rfl ?_
                  refine wa_iconst ?_
                  refine wa_iconst ?_
                  refine wa_iload (n := 6) rfl ?_
                  refine wa_iload (n := 5) rfl ?_
                  refine wa_cs (M2 := mS [228, 229, 3]) rfl at_X_slice ⟨_, rfl⟩ rfl rfl ⟨trivial, trivial, trivial, trivial, (Or.inr ⟨wy_pr rfl, mS_no rfl⟩), trivial, trivial, trivial⟩ ⟨trivial, trivial, (Or.inr ⟨wy_pr rfl, mS_no rfl⟩), trivial⟩ (fun _ _ q => q) ?_ (fun _ _ _ q => q)
                  refine wa_iload_n (n := 0) rfl ?_
                  refine wa_i2l (w_rg0 (by omega) (by omega)) ?_
                  refine wa_bipush (w_rg2 (by omega) (by omega)) ?_
                  refine wa_lshl ?_
                  refine wa_iload_n (n := 1) rfl ?_
                  refine wa_i2l (w_rg0 (by omega) (by omega)) ?_
                  refine wa_lor ?_
                  rw [sl_mk (s := S 2 1) (n := (((pL u1).length : Int) + ((pL u2).length : Int))) ⟨by omega, by omega⟩ ⟨by omega, by omega⟩]
                  have hwr := sl_rg (s := S 2 1) (n := (((pL u1).length : Int) + ((pL u2).length : Int))) ⟨by omega, by omega⟩ ⟨by omega, by omega⟩
                  refine wa_lreturn rfl ?_
                  show wJ _ _ _ _ _ _ _ _ _ _
                  refine wa_cv 226 rfl (wy_pr rfl) wt_226 (M2 := mS [228, 229]) rfl at_XK_give ⟨_, rfl⟩ rfl rfl ⟨trivial, trivial, trivial, trivial, (Or.inr ⟨wy_pr rfl, mS_no rfl⟩), trivial, trivial, trivial⟩ trivial (fun _ _ q => mS_sub (by decide) q) (gw_226 (S := Sq32) (n := 2) (k := 3) (v := (S 2 1 * 4294967296 + (((pL u1).length : Int) + ((pL u2).length : Int)))) (h := h) (c := c) (p := p) (ln := (S 228 (-1))) (asQ_cl (asQ_cl hCC ha1) ha2) ha2.2.2.2.2.2.1 ⟨by omega, by omega⟩ ⟨by omega, by omega⟩ (((ha2.2.2.2.1 227 2 (by decide) (by decide) (by decide) (by omega) (Or.inl (by decide)) (by omega)).trans (((ha1.2.2.2.1 227 2 (by decide) (by decide) (by decide) (by omega) (Or.inl (by decide)) (by omega)).trans ((congrFun (congrFun hCe 227) 2).trans ((w_up_slot (by decide)).trans ((w_up_slot (by decide)).trans (((hp2.1 227 2 (Or.inl (by decide)) (by omega)).trans (((hp1.1 227 2 (Or.inl (by decide)) (by omega)).trans (bh)))))))))))) (((ha2.2.2.2.1 226 4 (by decide) (by decide) (by decide) (by omega) (Or.inl (by decide)) (by omega)).trans (((ha1.2.2.2.1 226 4 (by decide) (by decide) (by decide) (by omega) (Or.inl (by decide)) (by omega)).trans ((congrFun (congrFun hCe 226) 4).trans ((w_up_slot (by decide)).trans ((w_up_slot (by decide)).trans (((hp2.1 226 4 (Or.inl (by decide)) (by omega)).trans (((hp1.1 226 4 (Or.inl (by decide)) (by omega)).trans (bc)))))))))))) (((ha2.2.2.2.1 231 (c - 1) (by decide) (by decide) (by decide) (by omega) (Or.inl (by decide)) (by omega)).trans (((ha1.2.2.2.1 231 (c - 1) (by decide) (by decide) (by decide) (by omega) (Or.inl (by decide)) (by omega)).trans ((congrFun (congrFun hCe 231) (c - 1)).trans ((w_up_slot (by decide)).trans ((w_up_slot (by decide)).trans (((hp2.1 231 (c - 1) (Or.inl (by decide)) (by omega)).trans (((hp1.1 231 (c - 1) (Or.inl (by decide)) (by omega)).trans (bp)))))))))))) (((ha2.2.2.2.1 228 (-1) (by decide) (by decide) (by decide) (by omega) (Or.inl (by decide)) (by omega)).trans (((ha1.2.2.2.1 228 (-1) (by decide) (by decide) (by decide) (by omega) (Or.inl (by decide)) (by omega)).trans ((congrFun (congrFun hCe 228) (-1)).trans ((w_up_slot (by decide)).trans ((w_up_slot (by decide)).trans (((hp2.1 228 (-1) (Or.inl (by decide)) (by omega)).trans (((hp1.1 228 (-1) (Or.inl (by decide)) (by omega)).trans (rfl)))))))))))) (((ha2.2.2.2.1 229 (-1) (by decide) (by decide) (by decide) (by omega) (Or.inl (by decide)) (by omega)).trans (((ha1.2.2.2.1 229 (-1) (by decide) (by decide) (by decide) (by omega) (Or.inl (by decide)) (by omega)).trans ((congrFun (congrFun hCe 229) (-1)).trans ((w_up_slot (by decide)).trans ((w_up_slot (by decide)).trans (((hp2.1 229 (-1) (Or.inl (by decide)) (by omega)).trans (((hp1.1 229 (-1) (Or.inl (by decide)) (by omega)).trans (bl1)))))))))))) ⟨by omega, by omega⟩ ⟨by omega, by omega, by omega⟩ ⟨by omega, by omega⟩ ⟨by omega, by omega⟩) (fun oq34 Sq34 hp35 q34 => ?_)
                  rcases q34 with ⟨rfl, A34, ra34, rfl⟩
                  show wJ _ _ _ _ _ _ _ _ _ _
                  refine wa_return rfl ?_
                  exact ⟨rfl, Or.inr ⟨by omega, by omega, _, _, hpp, by rw [← hCe]; exact asQ_2 ha1 ha2 (by omega), A34, ra34, rfl⟩⟩
                · skip
                  exact absurd c24 (by omega)
      · skip
        refine wa_iload (n := 4) rfl ?_
        refine wa_iconst ?_
        refine wa_icmpeq (w_rg0 (by omega) (by omega)) (w_rg0 (by omega) (by omega)) ⟨_, rfl⟩ (fun c36 => ?_) (fun c36 => ?_)
        · skip
          refine wa_aload_n (n := 0) rfl ?_
          refine wb_gf4 226 rfl (wy_pr rfl) wt_226 wf_8_0 (v := 72) wl_226_0 ?_
          refine wa_iload_n (n := 3) rfl ?_
          refine wa_aload_n (n := 0) rfl ?_
          refine wb_gf4 226 rfl (wy_pr rfl) wt_226 wf_8_3 (v := 227) wl_226_3 ?_
          refine wb_gf4 227 rfl (wy_pr rfl) wt_227 wf_7_1 (v := 229) wl_227_1 ?_
          refine wa_iload_n (n := 1) rfl ?_
          refine wb_lald 229 rfl (wy_pr rfl) wt_229 (n := (S 228 (-1))) (bl1) (by omega) (by omega) (v := v1) (f1) (fun r37 => ?_)
          refine wa_cv 72 rfl (wy_pr rfl) wt_72 (M2 := mS []) rfl at_XH_show ⟨_, rfl⟩ rfl rfl ⟨trivial, trivial, (Or.inr ⟨wy_pr rfl, mS_no rfl⟩), trivial, trivial, trivial⟩ trivial (fun _ _ q => mS_sub (by decide) q) (xsz (S := S) (u := u1) hX h57 hI ⟨by omega, by omega⟩ hu1 hk1 hv1) (fun oq38 Sq38 hp39 q38 => ?_)
          rcases q38 with ⟨x1, rfl, hx1z, hp1⟩
          show wJ _ _ _ _ _ _ _ _ _ _
          refine wa_cs (M2 := mS [228, 229, 3]) rfl at_X_sliceSize ⟨_, rfl⟩ rfl rfl ⟨trivial, trivial, (Or.inr ⟨wy_pr rfl, mS_no rfl⟩), trivial, trivial, trivial⟩ trivial (fun _ _ q => q) ?_ (fun _ _ _ q => q)
          refine wa_lload_n (n := 0) rfl ?_
          refine wb_l2i_r (y := ((pL u1).length : Int)) hx1z ?_
          refine wa_ireturn rfl ?_
          show wJ _ _ _ _ _ _ _ _ _ _
          refine wa_aload_n (n := 0) rfl ?_
          refine wb_gf4 226 rfl (wy_pr rfl) wt_226 wf_8_0 (v := 72) wl_226_0 ?_
          refine wa_iload (n := 4) rfl ?_
          refine wa_aload_n (n := 0) rfl ?_
          refine wb_gf4 226 rfl (wy_pr rfl) wt_226 wf_8_3 (v := 227) wl_226_3 ?_
          refine wb_gf4 227 rfl (wy_pr rfl) wt_227 wf_7_1 (v := 229) wl_227_1 ?_
          refine wa_iload_n (n := 2) rfl ?_
          refine wb_lald 229 rfl (wy_pr rfl) wt_229 (n := (S 228 (-1))) (((hp1.1 229 (-1) (Or.inl (by decide)) (by omega)).trans (bl1))) (by omega) (by omega) (v := v2) (((hp1.1 229 (h - 1) (Or.inl (by decide)) (by omega)).trans (f2))) (fun r40 => ?_)
          refine wa_cv 72 rfl (wy_pr rfl) wt_72 (M2 := mS []) rfl at_XH_show ⟨_, rfl⟩ rfl rfl ⟨trivial, trivial, (Or.inr ⟨wy_pr rfl, mS_no rfl⟩), trivial, trivial, trivial⟩ ⟨trivial, trivial⟩ (fun _ _ q => mS_sub (by decide) q) (xsz (S := Sq38) (u := u2) hX ((hp1.1 157 (-1) (Or.inr (by decide)) (Or.inl (by decide))).trans h57) hp1.2.1 (by rw [hp1.1 2 1 (Or.inl (by decide)) (Or.inl (by decide))]; exact ⟨by omega, by omega⟩) (cVl_pr hu2 hp1) hk2 hv2) (fun oq41 Sq41 hp42 q41 => ?_)
          rcases q41 with ⟨x2, rfl, hx2z, hp2⟩
          show wJ _ _ _ _ _ _ _ _ _ _
          refine wa_cs (M2 := mS [228, 229, 3]) rfl at_X_sliceSize ⟨_, rfl⟩ rfl rfl ⟨trivial, trivial, (Or.inr ⟨wy_pr rfl, mS_no rfl⟩), trivial, trivial, trivial⟩ ⟨trivial, trivial⟩ (fun _ _ q => q) ?_ (fun _ _ _ q => q)
          refine wa_lload_n (n := 0) rfl ?_
          refine wb_l2i_r (y := ((pL u2).length : Int)) hx2z ?_
          refine wa_ireturn rfl ?_
          show wJ _ _ _ _ _ _ _ _ _ _
          refine wa_iadd ?_
          refine wa_istore (n := 5) rfl ?_
          refine wa_aload_n (n := 0) rfl ?_
          refine wb_gf4 226 rfl (wy_pr rfl) wt_226 wf_8_0 (v := 72) wl_226_0 ?_
          refine wa_iload (n := 5) rfl ?_
          refine wa_cv 72 rfl (wy_pr rfl) wt_72 (M2 := mS [228, 229, 3]) rfl at_XH_hasTextRoom ⟨_, rfl⟩ rfl rfl ⟨trivial, trivial, trivial, (Or.inr ⟨wy_pr rfl, mS_no rfl⟩), trivial, trivial, trivial⟩ trivial (fun _ _ q => q) ?_ (fun _ _ _ q => q)
          refine wa_aload_n (n := 0) rfl ?_
          refine wa_iconst ?_
          refine wa_iconst ?_
          refine wa_cv 72 rfl (wy_pr rfl) wt_72 (M2 := mS [228, 229, 3]) rfl at_XH_hasRoom ⟨_, rfl⟩ rfl rfl ⟨(Or.inr ⟨wy_pr rfl, mS_no rfl⟩), trivial, trivial⟩ trivial (fun _ _ q => q) ?_ (fun _ _ _ q => q)
          refine wa_aload_n (n := 0) rfl ?_
          refine wb_gf4 72 rfl (wy_pr rfl) wt_72 wf_2_10 (v := 150) wl_72_10 ?_
          refine wa_iload_n (n := 1) rfl ?_
          refine wb_iald 150 rfl (wy_pr rfl) wt_150 (n := 6) (((hp2.1 150 (-1) (Or.inl (by decide)) (by omega)).trans (((hp1.1 150 (-1) (Or.inl (by decide)) (by omega)).trans ((cl_150 hC)))))) (by omega) (by omega) (v := y2) (((hp2.1 150 2 (Or.inl (by decide)) (by omega)).trans (((hp1.1 150 2 (Or.inl (by decide)) (by omega)).trans (hq2))))) (fun r43 => ?_)
          refine wa_iload_n (n := 2) rfl ?_
          refine wa_iadd ?_
          refine wa_gs ?_
          refine wa_iload_n (n := 1) rfl ?_
          refine wb_xald 1 rfl hx1 (by decide) (by omega) (by decide) (v := 12000) (by decide) (fun r44 => ?_)
          refine wa_icmpgt (w_rg0 (by omega) (by omega)) (w_rg0 (by omega) (by omega)) ⟨_, rfl⟩ (fun c45 => ?_) (fun c45 => ?_)
          · skip
            refine wa_iconst ?_
            refine wa_fall ⟨_, rfl⟩ ?_
            refine wa_zreturn rfl (Or.inl rfl) ?_
            show wJ _ _ _ _ _ _ _ _ _ _
            refine wa_ifeq (w_rg0 (by omega) (by omega)) ⟨_, rfl⟩ (fun c46 => ?_) (fun c46 => ?_)
            · skip
              refine wa_iconst ?_
              refine wa_fall ⟨_, rfl⟩ ?_
              refine wa_zreturn rfl (Or.inl rfl) ?_
              show wJ _ _ _ _ _ _ _ _ _ _
              refine wa_ifne (w_rg0 (by omega) (by omega)) ⟨_, rfl⟩ (fun c47 => ?_) (fun c47 => ?_)
              · skip
                exact absurd c47 (by omega)
              · skip
                refine wa_aload_n (n := 0) rfl ?_
                refine wa_bipush (w_rg2 (by omega) (by omega)) ?_
                refine wb_pfi 226 rfl (wy_pr rfl) wt_226 wf_8_16 (n := 16) rfl ⟨(by omega), (by omega)⟩ ?_
                refine wa_return rfl ?_
                exact ⟨rfl, Or.inl ⟨by omega, _, prN_tr hp1 hp2, rfl⟩⟩
            · skip
              exact absurd c46 (by omega)
          · skip
            refine wa_iconst ?_
            refine wa_goto ⟨_, rfl⟩ ?_
            refine wa_zreturn rfl (Or.inr rfl) ?_
            show wJ _ _ _ _ _ _ _ _ _ _
            refine wa_ifeq (w_rg0 (by omega) (by omega)) ⟨_, rfl⟩ (fun c48 => ?_) (fun c48 => ?_)
            · skip
              exact absurd c48 (by omega)
            · skip
              refine wa_aload_n (n := 0) rfl ?_
              refine wa_iconst ?_
              refine wa_iload_n (n := 1) rfl ?_
              refine wa_cv 72 rfl (wy_pr rfl) wt_72 (M2 := mS [228, 229, 3]) rfl at_XH_hasRoom ⟨_, rfl⟩ rfl rfl ⟨(Or.inr ⟨wy_pr rfl, mS_no rfl⟩), trivial, trivial⟩ trivial (fun _ _ q => q) ?_ (fun _ _ _ q => q)
              refine wa_aload_n (n := 0) rfl ?_
              refine wb_gf4 72 rfl (wy_pr rfl) wt_72 wf_2_10 (v := 150) wl_72_10 ?_
              refine wa_iload_n (n := 1) rfl ?_
              refine wb_iald 150 rfl (wy_pr rfl) wt_150 (n := 6) (((hp2.1 150 (-1) (Or.inl (by decide)) (by omega)).trans (((hp1.1 150 (-1) (Or.inl (by decide)) (by omega)).trans ((cl_150 hC)))))) (by omega) (by omega) (v := y3) (((hp2.1 150 3 (Or.inl (by decide)) (by omega)).trans (((hp1.1 150 3 (Or.inl (by decide)) (by omega)).trans (hq3))))) (fun r49 => ?_)
              refine wa_iload_n (n := 2) rfl ?_
              refine wa_iadd ?_
              refine wa_gs ?_
              refine wa_iload_n (n := 1) rfl ?_
              refine wb_xald 1 rfl hx1 (by decide) (by omega) (by decide) (v := 200000) (by decide) (fun r50 => ?_)
              refine wa_icmpgt (w_rg0 (by omega) (by omega)) (w_rg0 (by omega) (by omega)) ⟨_, rfl⟩ (fun c51 => ?_) (fun c51 => ?_)
              · skip
                refine wa_iconst ?_
                refine wa_fall ⟨_, rfl⟩ ?_
                refine wa_zreturn rfl (Or.inl rfl) ?_
                show wJ _ _ _ _ _ _ _ _ _ _
                refine wa_ifeq (w_rg0 (by omega) (by omega)) ⟨_, rfl⟩ (fun c52 => ?_) (fun c52 => ?_)
                · skip
                  refine wa_iconst ?_
                  refine wa_fall ⟨_, rfl⟩ ?_
                  refine wa_zreturn rfl (Or.inl rfl) ?_
                  show wJ _ _ _ _ _ _ _ _ _ _
                  refine wa_ifne (w_rg0 (by omega) (by omega)) ⟨_, rfl⟩ (fun c53 => ?_) (fun c53 => ?_)
                  · skip
                    exact absurd c53 (by omega)
                  · skip
                    refine wa_aload_n (n := 0) rfl ?_
                    refine wa_bipush (w_rg2 (by omega) (by omega)) ?_
                    refine wb_pfi 226 rfl (wy_pr rfl) wt_226 wf_8_16 (n := 16) rfl ⟨(by omega), (by omega)⟩ ?_
                    refine wa_return rfl ?_
                    exact ⟨rfl, Or.inl ⟨by omega, _, prN_tr hp1 hp2, rfl⟩⟩
                · skip
                  exact absurd c52 (by omega)
              · skip
                refine wa_iconst ?_
                refine wa_goto ⟨_, rfl⟩ ?_
                refine wa_zreturn rfl (Or.inr rfl) ?_
                show wJ _ _ _ _ _ _ _ _ _ _
                refine wa_ifeq (w_rg0 (by omega) (by omega)) ⟨_, rfl⟩ (fun c54 => ?_) (fun c54 => ?_)
                · skip
                  exact absurd c54 (by omega)
                · skip
                  refine wa_iconst ?_
                  refine wa_goto ⟨_, rfl⟩ ?_
                  refine wa_zreturn rfl (Or.inr rfl) ?_
                  show wJ _ _ _ _ _ _ _ _ _ _
                  refine wa_ifne (w_rg0 (by omega) (by omega)) ⟨_, rfl⟩ (fun c55 => ?_) (fun c55 => ?_)
                  · skip
                    refine wa_aload_n (n := 0) rfl ?_
                    refine wb_gf4 226 rfl (wy_pr rfl) wt_226 wf_8_0 (v := 72) wl_226_0 ?_
                    refine wa_iload (n := 5) rfl ?_
                    refine wa_cv 72 rfl (wy_pr rfl) wt_72 (M2 := mS [228, 229, 3]) rfl at_XH_useText ⟨_, rfl⟩ rfl rfl ⟨trivial, trivial, trivial, (Or.inr ⟨wy_pr rfl, mS_no rfl⟩), trivial, trivial, trivial⟩ trivial (fun _ _ q => q) ?_ (fun _ _ _ q => q)
                    refine wa_aload_n (n := 0) rfl ?_
                    refine wb_gf4 72 rfl (wy_pr rfl) wt_72 wf_2_10 (v := 150) wl_72_10 ?_
                    refine wa_iconst ?_
                    refine wa_dup2 (by decide) (by decide) ?_
                    refine wb_iald 150 rfl (wy_pr rfl) wt_150 (n := 6) (((hp2.1 150 (-1) (Or.inl (by decide)) (by omega)).trans (((hp1.1 150 (-1) (Or.inl (by decide)) (by omega)).trans ((cl_150 hC)))))) (by omega) (by omega) (v := y2) (((hp2.1 150 2 (Or.inl (by decide)) (by omega)).trans (((hp1.1 150 2 (Or.inl (by decide)) (by omega)).trans (hq2))))) (fun r56 => ?_)
                    refine wa_iconst ?_
                    refine wa_iadd ?_
                    refine wb_iast 150 rfl (wy_pr rfl) wt_150 (n := 6) (((hp2.1 150 (-1) (Or.inl (by decide)) (by omega)).trans (((hp1.1 150 (-1) (Or.inl (by decide)) (by omega)).trans ((cl_150 hC)))))) (by omega) (by omega) ⟨(by omega), (by omega)⟩ ?_
                    refine wa_aload_n (n := 0) rfl ?_
                    refine wb_gf4 72 rfl (wy_pr rfl) wt_72 wf_2_10 (v := 150) wl_72_10 ?_
                    refine wa_iconst ?_
                    refine wa_dup2 (by decide) (by decide) ?_
                    refine wb_iald 150 rfl (wy_pr rfl) wt_150 (n := 6) ((w_up_at (by decide)).trans (((hp2.1 150 (-1) (Or.inl (by decide)) (by omega)).trans (((hp1.1 150 (-1) (Or.inl (by decide)) (by omega)).trans ((cl_150 hC))))))) (by omega) (by omega) (v := y3) ((w_up_at (by decide)).trans (((hp2.1 150 3 (Or.inl (by decide)) (by omega)).trans (((hp1.1 150 3 (Or.inl (by decide)) (by omega)).trans (hq3)))))) (fun r57 => ?_)
                    refine wa_iload_n (n := 1) rfl ?_
                    refine wa_iadd ?_
                    refine wb_iast 150 rfl (wy_pr rfl) wt_150 (n := 6) ((w_up_at (by decide)).trans (((hp2.1 150 (-1) (Or.inl (by decide)) (by omega)).trans (((hp1.1 150 (-1) (Or.inl (by decide)) (by omega)).trans ((cl_150 hC))))))) (by omega) (by omega) ⟨(by omega), (by omega)⟩ ?_
                    refine wa_return rfl ?_
                    show wJ _ _ _ _ _ _ _ _ _ _
                    refine wa_aload_n (n := 0) rfl ?_
                    refine wb_gf4 226 rfl (wy_pr rfl) wt_226 wf_8_0 (v := 72) wl_226_0 ?_
                    refine wb_gf4 72 rfl (wy_pr rfl) wt_72 wf_2_0 (v := 2) wl_72_0 ?_
                    refine wb_gfi 2 rfl (wy_pr rfl) wt_2 wf_9_1 (v := (S 2 1)) ((w_up_slot (by decide)).trans ((w_up_slot (by decide)).trans (((hp2.1 2 1 (Or.inl (by decide)) (by omega)).trans ((hp1.1 2 1 (Or.inl (by decide)) (by omega))))))) (fun r58 => ?_)
                    refine wa_istore (n := 6) rfl ?_
                    refine wa_aload_n (n := 0) rfl ?_
                    refine wb_gf4 226 rfl (wy_pr rfl) wt_226 wf_8_0 (v := 72) wl_226_0 ?_
                    refine wa_iload_n (n := 3) rfl ?_
                    refine wa_aload_n (n := 0) rfl ?_
                    refine wb_gf4 226 rfl (wy_pr rfl) wt_226 wf_8_3 (v := 227) wl_226_3 ?_
                    refine wb_gf4 227 rfl (wy_pr rfl) wt_227 wf_7_1 (v := 229) wl_227_1 ?_
                    refine wa_iload_n (n := 1) rfl ?_
                    refine wb_lald 229 rfl (wy_pr rfl) wt_229 (n := (S 228 (-1))) ((w_up_slot (by decide)).trans ((w_up_slot (by decide)).trans (((hp2.1 229 (-1) (Or.inl (by decide)) (by omega)).trans (((hp1.1 229 (-1) (Or.inl (by decide)) (by omega)).trans (bl1))))))) (by omega) (by omega) (v := v1) ((w_up_slot (by decide)).trans ((w_up_slot (by decide)).trans (((hp2.1 229 ((h - 1) - 1) (Or.inl (by decide)) (by omega)).trans (((hp1.1 229 ((h - 1) - 1) (Or.inl (by decide)) (by omega)).trans (f1))))))) (fun r59 => ?_)
                    have hpp : prN S Sq41 := prN_tr hp1 hp2
                    obtain ⟨C, hCe⟩ : ∃ C : wS, C = (w_up (w_up Sq41 150 2 (y2 + 1)) 150 3 (y3 + (((pL u1).length : Int) + ((pL u2).length : Int)))) := ⟨_, rfl⟩
                    rw [← hCe]
                    have hfC : ∀ (j : Nat) (x : Int), (j ≠ 157 ∨ x < 0) → (j ≠ 72 ∨ x ≠ 19) → (j ≠ 150 ∨ (x ≠ 2 ∧ x ≠ 3)) → C j x = S j x := fun j x j0 j1 j2 => by rw [hCe]; exact (w_up_no (by omega)).trans ((w_up_no (by omega)).trans (hpp.1 j x j0 j1))
                    have hgC : gI C := by rw [hCe]; exact gI_up (gI_up hpp.2.1 (by first | decide | omega) (by first | decide | omega) (by first | decide | omega)) (by first | decide | omega) (by first | decide | omega) (by first | decide | omega)
                    have c21 : C 2 1 = S 2 1 := hfC 2 1 (Or.inl (by first | decide | omega)) (Or.inl (by first | decide | omega)) (Or.inl (by first | decide | omega))
                    have c31 : C 3 (-1) = S 3 (-1) := hfC 3 (-1) (Or.inl (by first | decide | omega)) (Or.inl (by first | decide | omega)) (Or.inl (by first | decide | omega))
                    have c57 : C 157 (-1) = 64 := (hfC 157 (-1) (Or.inr (by first | decide | omega)) (Or.inl (by first | decide | omega)) (Or.inl (by first | decide | omega))).trans h57
                    have hCC : w_CL C := by rw [hCe]; exact w_CL_up (w_CL_up (prN_cl hC hpp) (by first | decide | omega)) (by first | decide | omega)
                    have hcv1 : cVl C k1 v1 u1 := ⟨hu1.1, hu1.2.1, fun z => by obtain ⟨a, s, b, c, e, f⟩ := hu1.2.2 z; exact ⟨a, s, b, c, by rw [c21]; exact e, fun i hi => (hfC 3 _ (Or.inl (by first | decide | omega)) (Or.inl (by first | decide | omega)) (Or.inl (by first | decide | omega))).trans (f i hi)⟩⟩
                    have hcv2 : cVl C k2 v2 u2 := ⟨hu2.1, hu2.2.1, fun z => by obtain ⟨a, s, b, c, e, f⟩ := hu2.2.2 z; exact ⟨a, s, b, c, by rw [c21]; exact e, fun i hi => (hfC 3 _ (Or.inl (by first | decide | omega)) (Or.inl (by first | decide | omega)) (Or.inl (by first | decide | omega))).trans (f i hi)⟩⟩
                    refine wa_cv 72 rfl (wy_pr rfl) wt_72 (M2 := mS [3]) rfl at_XH_appendShown ⟨_, rfl⟩ rfl rfl ⟨trivial, trivial, trivial, trivial, (Or.inr ⟨wy_pr rfl, mS_no rfl⟩), trivial, trivial, trivial⟩ trivial (fun _ _ q => mS_sub (by decide) q) (xap (S := C) (u := u1) hX c57 hgC (by rw [c21, c31]; exact ⟨by omega, by omega, by omega, by omega⟩) hcv1 hk1 hv1 hl1) (fun oq60 Sq60 hp61 q60 => ?_)
                    rcases q60 with ⟨rfl, ha1⟩
                    show wJ _ _ _ _ _ _ _ _ _ _
                    have a21 := ha1.1
                    have a31 := ha1.2.2.2.2.1
                    rw [c21] at a21 a31
                    rw [c31] at a31
                    refine wa_aload_n (n := 0) rfl ?_
                    refine wb_gf4 226 rfl (wy_pr rfl) wt_226 wf_8_0 (v := 72) wl_226_0 ?_
                    refine wa_iload (n := 4) rfl ?_
                    refine wa_aload_n (n := 0) rfl ?_
                    refine wb_gf4 226 rfl (wy_pr rfl) wt_226 wf_8_3 (v := 227) wl_226_3 ?_
                    refine wb_gf4 227 rfl (wy_pr rfl) wt_227 wf_7_1 (v := 229) wl_227_1 ?_
                    refine wa_iload_n (n := 2) rfl ?_
                    refine wb_lald 229 rfl (wy_pr rfl) wt_229 (n := (S 228 (-1))) (((ha1.2.2.2.1 229 (-1) (by decide) (by decide) (by decide) (by omega) (Or.inl (by decide)) (by omega)).trans ((congrFun (congrFun hCe 229) (-1)).trans ((w_up_slot (by decide)).trans ((w_up_slot (by decide)).trans (((hp2.1 229 (-1) (Or.inl (by decide)) (by omega)).trans (((hp1.1 229 (-1) (Or.inl (by decide)) (by omega)).trans (bl1)))))))))) (by omega) (by omega) (v := v2) (((ha1.2.2.2.1 229 (h - 1) (by decide) (by decide) (by decide) (by omega) (Or.inl (by decide)) (by omega)).trans ((congrFun (congrFun hCe 229) (h - 1)).trans ((w_up_slot (by decide)).trans ((w_up_slot (by decide)).trans (((hp2.1 229 (h - 1) (Or.inl (by decide)) (by omega)).trans (((hp1.1 229 (h - 1) (Or.inl (by decide)) (by omega)).trans (f2)))))))))) (fun r62 => ?_)
                    refine wa_cv 72 rfl (wy_pr rfl) wt_72 (M2 := mS [3]) rfl at_XH_appendShown ⟨_, rfl⟩ rfl rfl ⟨trivial, trivial, trivial, trivial, (Or.inr ⟨wy_pr rfl, mS_no rfl⟩), trivial, trivial, trivial⟩ trivial (fun _ _ q => mS_sub (by decide) q) (xap (S := Sq60) (u := u2) hX ((ha1.2.2.2.1 157 (-1) (by decide) (by decide) (by decide) (by decide) (Or.inr (by decide)) (by decide)).trans c57) ha1.2.2.2.2.2.1 ⟨by omega, by omega, by omega, by omega⟩ (cVl_as hcv2 ha1 (by omega)) hk2 hv2 hl2) (fun oq63 Sq63 hp64 q63 => ?_)
                    rcases q63 with ⟨rfl, ha2⟩
                    show wJ _ _ _ _ _ _ _ _ _ _
                    refine wa_aload_n (n := 0) rfl ?_
                    refine wa_iconst ?_
                    refine wa_iconst ?_
                    refine wa_iload (n := 6) rfl ?_
                    refine wa_iload (n := 5) rfl ?_
                    refine wa_cs (M2 := mS [228, 229, 3]) rfl at_X_slice ⟨_, rfl⟩ rfl rfl ⟨trivial, trivial, trivial, trivial, (Or.inr ⟨wy_pr rfl, mS_no rfl⟩), trivial, trivial, trivial⟩ ⟨trivial, trivial, (Or.inr ⟨wy_pr rfl, mS_no rfl⟩), trivial⟩ (fun _ _ q => q) ?_ (fun _ _ _ q => q)
                    refine wa_iload_n (n := 0) rfl ?_
                    refine wa_i2l (w_rg0 (by omega) (by omega)) ?_
                    refine wa_bipush (w_rg2 (by omega) (by omega)) ?_
                    refine wa_lshl ?_
                    refine wa_iload_n (n := 1) rfl ?_
                    refine wa_i2l (w_rg0 (by omega) (by omega)) ?_
                    refine wa_lor ?_
                    rw [sl_mk (s := S 2 1) (n := (((pL u1).length : Int) + ((pL u2).length : Int))) ⟨by omega, by omega⟩ ⟨by omega, by omega⟩]
                    have hwr := sl_rg (s := S 2 1) (n := (((pL u1).length : Int) + ((pL u2).length : Int))) ⟨by omega, by omega⟩ ⟨by omega, by omega⟩
                    refine wa_lreturn rfl ?_
                    show wJ _ _ _ _ _ _ _ _ _ _
                    refine wa_cv 226 rfl (wy_pr rfl) wt_226 (M2 := mS [228, 229]) rfl at_XK_give ⟨_, rfl⟩ rfl rfl ⟨trivial, trivial, trivial, trivial, (Or.inr ⟨wy_pr rfl, mS_no rfl⟩), trivial, trivial, trivial⟩ trivial (fun _ _ q => mS_sub (by decide) q) (gw_226 (S := Sq63) (n := 2) (k := 3) (v := (S 2 1 * 4294967296 + (((pL u1).length : Int) + ((pL u2).length : Int)))) (h := h) (c := c) (p := p) (ln := (S 228 (-1))) (asQ_cl (asQ_cl hCC ha1) ha2) ha2.2.2.2.2.2.1 ⟨by omega, by omega⟩ ⟨by omega, by omega⟩ (((ha2.2.2.2.1 227 2 (by decide) (by decide) (by decide) (by omega) (Or.inl (by decide)) (by omega)).trans (((ha1.2.2.2.1 227 2 (by decide) (by decide) (by decide) (by omega) (Or.inl (by decide)) (by omega)).trans ((congrFun (congrFun hCe 227) 2).trans ((w_up_slot (by decide)).trans ((w_up_slot (by decide)).trans (((hp2.1 227 2 (Or.inl (by decide)) (by omega)).trans (((hp1.1 227 2 (Or.inl (by decide)) (by omega)).trans (bh)))))))))))) (((ha2.2.2.2.1 226 4 (by decide) (by decide) (by decide) (by omega) (Or.inl (by decide)) (by omega)).trans (((ha1.2.2.2.1 226 4 (by decide) (by decide) (by decide) (by omega) (Or.inl (by decide)) (by omega)).trans ((congrFun (congrFun hCe 226) 4).trans ((w_up_slot (by decide)).trans ((w_up_slot (by decide)).trans (((hp2.1 226 4 (Or.inl (by decide)) (by omega)).trans (((hp1.1 226 4 (Or.inl (by decide)) (by omega)).trans (bc)))))))))))) (((ha2.2.2.2.1 231 (c - 1) (by decide) (by decide) (by decide) (by omega) (Or.inl (by decide)) (by omega)).trans (((ha1.2.2.2.1 231 (c - 1) (by decide) (by decide) (by decide) (by omega) (Or.inl (by decide)) (by omega)).trans ((congrFun (congrFun hCe 231) (c - 1)).trans ((w_up_slot (by decide)).trans ((w_up_slot (by decide)).trans (((hp2.1 231 (c - 1) (Or.inl (by decide)) (by omega)).trans (((hp1.1 231 (c - 1) (Or.inl (by decide)) (by omega)).trans (bp)))))))))))) (((ha2.2.2.2.1 228 (-1) (by decide) (by decide) (by decide) (by omega) (Or.inl (by decide)) (by omega)).trans (((ha1.2.2.2.1 228 (-1) (by decide) (by decide) (by decide) (by omega) (Or.inl (by decide)) (by omega)).trans ((congrFun (congrFun hCe 228) (-1)).trans ((w_up_slot (by decide)).trans ((w_up_slot (by decide)).trans (((hp2.1 228 (-1) (Or.inl (by decide)) (by omega)).trans (((hp1.1 228 (-1) (Or.inl (by decide)) (by omega)).trans (rfl)))))))))))) (((ha2.2.2.2.1 229 (-1) (by decide) (by decide) (by decide) (by omega) (Or.inl (by decide)) (by omega)).trans (((ha1.2.2.2.1 229 (-1) (by decide) (by decide) (by decide) (by omega) (Or.inl (by decide)) (by omega)).trans ((congrFun (congrFun hCe 229) (-1)).trans ((w_up_slot (by decide)).trans ((w_up_slot (by decide)).trans (((hp2.1 229 (-1) (Or.inl (by decide)) (by omega)).trans (((hp1.1 229 (-1) (Or.inl (by decide)) (by omega)).trans (bl1)))))))))))) ⟨by omega, by omega⟩ ⟨by omega, by omega, by omega⟩ ⟨by omega, by omega⟩ ⟨by omega, by omega⟩) (fun oq65 Sq65 hp66 q65 => ?_)
                    rcases q65 with ⟨rfl, A65, ra65, rfl⟩
                    show wJ _ _ _ _ _ _ _ _ _ _
                    refine wa_return rfl ?_
                    exact ⟨rfl, Or.inr ⟨by omega, by omega, _, _, hpp, by rw [← hCe]; exact asQ_2 ha1 ha2 (by omega), A65, ra65, rfl⟩⟩
                  · skip
                    exact absurd c55 (by omega)
        · skip
          exfalso; omega
end Wi7
