/-! PART 93: the reference's anew. -/
section W93
variable {xs : List (Nat × List Int32)} {M : Nat → Prop} {d : Nat} {S A B Z : wS} {Q : wO → wS → Prop}
/-- the same but for the first n places of the slot j -/
def fl_ag (j : Nat) (n : Int) (S Z : wS) : Prop := ∀ (a : Nat) (i : Int), (a ≠ j ∨ i < 0 ∨ n ≤ i) → Z a i = S a i
theorem fl_ag_up {j : Nat} {n k x : Int} (h : fl_ag j n S Z) (hk : 0 ≤ k ∧ k < n) : fl_ag j n S (w_up Z j k x) := by
  intro a i q
  rw [← h a i q]
  exact if_neg (fun z => by omega)
theorem fl_ag_ML {j : Nat} {n : Int} (h : fl_ag j n S Z) (hM : w_ML S) : w_ML Z := fun q hq => (h q.1 (-1) (by omega)).trans (hM q hq)
def an_ft (t : Int) : Int := if t = 1 ∨ t = 2 then 2 else if t = 3 then 1 else 0
theorem an_3 (hM : w_ML S) (hk : ∀ Z, fl_ag 344 4 S Z → (∀ i : Int, 0 ≤ i → i < 4 → Z 344 i = 0) → wJ (pe_GA xs) wY0 M (d + 1) t_M_anew ((pe_at t_M_anew.bl 4).getD (0, [])).2 [(0, (2, 237))] [] Z Q) : ∀ (f : Nat) (t : Int) (Z : wS), (4 - t).toNat < f → 0 ≤ t → t ≤ 4 → fl_ag 344 4 S Z → (∀ i : Int, 0 ≤ i → i < t → Z 344 i = 0) → wJ (pe_GA xs) wY0 M (d + 1) t_M_anew ((pe_at t_M_anew.bl 3).getD (0, [])).2 [(0, (2, 237)), (1, (0, t))] [] Z Q := by
  intro f
  induction f with
  | zero => intros; omega
  | succ f ih =>
    intro t Z hf h0 h1 hag hv
    have hMz := fl_ag_ML hag hM
    refine wa_iload_n (n := 1) rfl ?_
    refine wa_iconst ?_
    refine wa_icmpge (w_rg0 (by omega) (by omega)) (w_rg0 (by omega) (by omega)) ⟨_, rfl⟩ (fun c1 => ?_) (fun c1 => ?_)
    · skip
      exact wJ_S (hk _ hag (fun i i0 i1 => hv i i0 (by omega))) ⟨rfl, trivial⟩
    · skip
      refine wa_aload_n (n := 0) rfl ?_
      refine wb_gf4 237 rfl (wy_pr rfl) wt_237 wf_15_109 (v := 344) wl_237_109 ?_
      refine wa_iload_n (n := 1) rfl ?_
      refine wa_iconst ?_
      refine wb_iast 344 rfl (wy_pr rfl) wt_344 (n := 4) ((ml_344 hMz)) (by omega) (by omega) ⟨(by omega), (by omega)⟩ ?_
      refine wa_iinc rfl rfl ?_
      refine wa_goto ⟨_, rfl⟩ ?_
      refine wJ_S (ih (t + 1) _ (by omega) (by omega) (by omega) (fl_ag_up hag ⟨by omega, by omega⟩) (fun i i0 i1 => ?_)) ⟨rfl, rfl, trivial⟩
      by_cases hi : i = t
      · rw [hi, w_up_same]
      · rw [w_up_at hi]; exact hv i i0 (by omega)
theorem an_5 (hM : w_ML S) (hk : ∀ Z, fl_ag 337 4000 S Z → (∀ i : Int, 0 ≤ i → i < 4000 → Z 337 i = 0) → wJ (pe_GA xs) wY0 M (d + 1) t_M_anew ((pe_at t_M_anew.bl 6).getD (0, [])).2 [(0, (2, 237))] [] Z Q) : ∀ (f : Nat) (t : Int) (Z : wS), (4000 - t).toNat < f → 0 ≤ t → t ≤ 4000 → fl_ag 337 4000 S Z → (∀ i : Int, 0 ≤ i → i < t → Z 337 i = 0) → wJ (pe_GA xs) wY0 M (d + 1) t_M_anew ((pe_at t_M_anew.bl 5).getD (0, [])).2 [(0, (2, 237)), (1, (0, t))] [] Z Q := by
  intro f
  induction f with
  | zero => intros; omega
  | succ f ih =>
    intro t Z hf h0 h1 hag hv
    have hMz := fl_ag_ML hag hM
    refine wa_iload_n (n := 1) rfl ?_
    refine wa_sipush (by omega) ?_
    refine wa_icmpge (w_rg0 (by omega) (by omega)) (w_rg0 (by omega) (by omega)) ⟨_, rfl⟩ (fun c1 => ?_) (fun c1 => ?_)
    · skip
      exact wJ_S (hk _ hag (fun i i0 i1 => hv i i0 (by omega))) ⟨rfl, trivial⟩
    · skip
      refine wa_aload_n (n := 0) rfl ?_
      refine wb_gf4 237 rfl (wy_pr rfl) wt_237 wf_15_97 (v := 337) wl_237_97 ?_
      refine wa_iload_n (n := 1) rfl ?_
      refine wa_iconst ?_
      refine wb_zast 337 rfl (wy_pr rfl) wt_337 (n := 4000) ((ml_337 hMz)) (by omega) (by omega) ⟨(by omega), (by omega)⟩ ?_
      refine wa_iinc rfl rfl ?_
      refine wa_goto ⟨_, rfl⟩ ?_
      refine wJ_S (ih (t + 1) _ (by omega) (by omega) (by omega) (fl_ag_up hag ⟨by omega, by omega⟩) (fun i i0 i1 => ?_)) ⟨rfl, rfl, trivial⟩
      by_cases hi : i = t
      · rw [hi, w_up_same]
      · rw [w_up_at hi]; exact hv i i0 (by omega)
def f2_ag (n : Int) (S Z : wS) : Prop := ∀ (a : Nat) (i : Int), ((a ≠ 340 ∧ a ≠ 341) ∨ i < 0 ∨ n ≤ i) → Z a i = S a i
theorem f2_ag_up {k x y n : Int} (h : f2_ag n S Z) (hk : 0 ≤ k ∧ k < n) : f2_ag n S (w_up (w_up Z 340 k x) 341 k y) := by
  intro a i q
  rw [← h a i q]
  exact (if_neg (fun z => by omega)).trans (if_neg (fun z => by omega))
theorem f2_ag_ML {n : Int} (h : f2_ag n S Z) (hM : w_ML S) : w_ML Z := fun q hq => (h q.1 (-1) (by omega)).trans (hM q hq)
def f4_ag (S Z : wS) : Prop := ∀ (a : Nat) (i : Int), (a < 357 ∨ 360 < a ∨ i < 0 ∨ 2 ≤ i) → Z a i = S a i
theorem f4_ag_up {k x y z v : Int} (h : f4_ag S Z) (hk : 0 ≤ k ∧ k < 2) : f4_ag S (w_up (w_up (w_up (w_up Z 357 k x) 358 k y) 359 k z) 360 k v) := by
  intro a i q
  rw [← h a i q]
  exact (if_neg (fun z => by omega)).trans ((if_neg (fun z => by omega)).trans ((if_neg (fun z => by omega)).trans (if_neg (fun z => by omega))))
theorem f4_ag_ML (h : f4_ag S Z) (hM : w_ML S) : w_ML Z := fun q hq => (h q.1 (-1) (by omega)).trans (hM q hq)
theorem an_9 (hM : w_ML S) (hk : ∀ Z, f4_ag S Z → (∀ (a : Nat) (i : Int), 357 ≤ a → a ≤ 360 → 0 ≤ i → i < 2 → Z a i = 0) → wJ (pe_GA xs) wY0 M (d + 1) t_M_anew ((pe_at t_M_anew.bl 10).getD (0, [])).2 [(0, (2, 237))] [] Z Q) : ∀ (f : Nat) (t : Int) (Z : wS), (2 - t).toNat < f → 0 ≤ t → t ≤ 2 → f4_ag S Z → (∀ (a : Nat) (i : Int), 357 ≤ a → a ≤ 360 → 0 ≤ i → i < t → Z a i = 0) → wJ (pe_GA xs) wY0 M (d + 1) t_M_anew ((pe_at t_M_anew.bl 9).getD (0, [])).2 [(0, (2, 237)), (1, (0, t))] [] Z Q := by
  intro f
  induction f with
  | zero => intros; omega
  | succ f ih =>
    intro t Z hf h0 h1 hag hv
    have hMz := f4_ag_ML hag hM
    refine wa_iload_n (n := 1) rfl ?_
    refine wa_iconst ?_
    refine wa_icmpge (w_rg0 (by omega) (by omega)) (w_rg0 (by omega) (by omega)) ⟨_, rfl⟩ (fun c1 => ?_) (fun c1 => ?_)
    · skip
      exact wJ_S (hk _ hag (fun a i a0 a1 i0 i1 => hv a i a0 a1 i0 (by omega))) ⟨rfl, trivial⟩
    · skip
      refine wa_aload_n (n := 0) rfl ?_
      refine wb_gf4 237 rfl (wy_pr rfl) wt_237 wf_15_132 (v := 357) wl_237_132 ?_
      refine wa_iload_n (n := 1) rfl ?_
      refine wa_iconst ?_
      refine wb_iast 357 rfl (wy_pr rfl) wt_357 (n := 2) ((ml_357 hMz)) (by omega) (by omega) ⟨(by omega), (by omega)⟩ ?_
      refine wa_aload_n (n := 0) rfl ?_
      refine wb_gf4 237 rfl (wy_pr rfl) wt_237 wf_15_133 (v := 358) wl_237_133 ?_
      refine wa_iload_n (n := 1) rfl ?_
      refine wa_iconst ?_
      refine wb_iast 358 rfl (wy_pr rfl) wt_358 (n := 2) ((w_up_slot (by decide)).trans ((ml_358 hMz))) (by omega) (by omega) ⟨(by omega), (by omega)⟩ ?_
      refine wa_aload_n (n := 0) rfl ?_
      refine wb_gf4 237 rfl (wy_pr rfl) wt_237 wf_15_134 (v := 359) wl_237_134 ?_
      refine wa_iload_n (n := 1) rfl ?_
      refine wa_iconst ?_
      refine wb_iast 359 rfl (wy_pr rfl) wt_359 (n := 2) ((w_up_slot (by decide)).trans ((w_up_slot (by decide)).trans ((ml_359 hMz)))) (by omega) (by omega) ⟨(by omega), (by omega)⟩ ?_
      refine wa_aload_n (n := 0) rfl ?_
      refine wb_gf4 237 rfl (wy_pr rfl) wt_237 wf_15_135 (v := 360) wl_237_135 ?_
      refine wa_iload_n (n := 1) rfl ?_
      refine wa_iconst ?_
      refine wb_iast 360 rfl (wy_pr rfl) wt_360 (n := 2) ((w_up_slot (by decide)).trans ((w_up_slot (by decide)).trans ((w_up_slot (by decide)).trans ((ml_360 hMz))))) (by omega) (by omega) ⟨(by omega), (by omega)⟩ ?_
      refine wa_iinc rfl rfl ?_
      refine wa_goto ⟨_, rfl⟩ ?_
      refine wJ_S (ih (t + 1) _ (by omega) (by omega) (by omega) (f4_ag_up hag ⟨by omega, by omega⟩) (fun a i a0 a1 i0 i1 => ?_)) ⟨rfl, rfl, trivial⟩
      by_cases hi : i = t
      · subst hi
        have ha : a = 357 ∨ a = 358 ∨ a = 359 ∨ a = 360 := by omega
        rcases ha with rfl | rfl | rfl | rfl
        · rw [w_up_slot (by decide), w_up_slot (by decide), w_up_slot (by decide), w_up_same]
        · rw [w_up_slot (by decide), w_up_slot (by decide), w_up_same]
        · rw [w_up_slot (by decide), w_up_same]
        · rw [w_up_same]
      · rw [w_up_at hi, w_up_at hi, w_up_at hi, w_up_at hi]; exact hv a i a0 a1 i0 (by omega)
theorem an_7_241 (hM : w_ML S) (hb : S 237 13 = 241) (hn : 0 ≤ S 241 11 ∧ S 241 11 ≤ 400) (hk : ∀ Z, f2_ag (S 241 11) S Z → (∀ i : Int, 0 ≤ i → i < S 241 11 → Z 340 i = an_ft (S 255 i) ∧ Z 341 i = 0) → wJ (pe_GA xs) wY0 M (d + 1) t_M_anew ((pe_at t_M_anew.bl 8).getD (0, [])).2 [(0, (2, 237))] [] Z Q) : ∀ (f : Nat) (t : Int) (Z : wS), (S 241 11 - t).toNat < f → 0 ≤ t → t ≤ S 241 11 → f2_ag (S 241 11) S Z → (∀ i : Int, 0 ≤ i → i < t → Z 340 i = an_ft (S 255 i) ∧ Z 341 i = 0) → wJ (pe_GA xs) wY0 M (d + 1) t_M_anew ((pe_at t_M_anew.bl 7).getD (0, [])).2 [(0, (2, 237)), (1, (0, t))] [] Z Q := by
  intro f
  induction f with
  | zero => intros; omega
  | succ f ih =>
    intro t Z hf h0 h1 hag hv
    have hMz := f2_ag_ML hag hM
    have e13 : Z 237 13 = 241 := (hag 237 13 (by omega)).trans hb
    have e11 : Z 241 11 = S 241 11 := hag 241 11 (by omega)
    have e14 : Z 255 t = S 255 t := hag 255 t (by omega)
    refine wa_iload_n (n := 1) rfl ?_
    refine wa_aload_n (n := 0) rfl ?_
    refine wb_gf5 237 rfl (wy_pr rfl) wt_237 wf_15_13 (v := 241) (e13) (fun r1 => ?_)
    refine wb_gfi 241 rfl (wy_pr rfl) wt_241 wf_12_11 (v := (S 241 11)) (e11) (fun r2 => ?_)
    refine wa_icmpge (w_rg0 (by omega) (by omega)) (w_rg0 (by omega) (by omega)) ⟨_, rfl⟩ (fun c3 => ?_) (fun c3 => ?_)
    · skip
      exact wJ_S (hk _ hag (fun i i0 i1 => hv i i0 (by omega))) ⟨rfl, trivial⟩
    · skip
      refine wa_aload_n (n := 0) rfl ?_
      refine wb_gf4 237 rfl (wy_pr rfl) wt_237 wf_15_100 (v := 340) wl_237_100 ?_
      refine wa_iload_n (n := 1) rfl ?_
      refine wa_aload_n (n := 0) rfl ?_
      refine wb_gf5 237 rfl (wy_pr rfl) wt_237 wf_15_13 (v := 241) (e13) (fun r4 => ?_)
      refine wb_gf4 241 rfl (wy_pr rfl) wt_241 wf_12_15 (v := 255) wl_241_15 ?_
      refine wa_iload_n (n := 1) rfl ?_
      refine wb_iald 255 rfl (wy_pr rfl) wt_255 (n := 400) ((ml_255 hMz)) (by omega) (by omega) (v := (S 255 t)) (e14) (fun r5 => ?_)
      refine wa_cs (M2 := fun _ => False) rfl at_M_firstType ⟨_, rfl⟩ rfl rfl ⟨(Or.inr ⟨wy_pr rfl, fun q => q⟩), trivial, trivial⟩ ⟨trivial, (Or.inr ⟨wy_pr rfl, fun q => q⟩), trivial⟩ (fun _ _ q => False.elim q) ?_ (fun _ _ _ q => q)
      refine wa_iload_n (n := 0) rfl ?_
      refine wa_iconst ?_
      refine wa_icmpeq (w_rg0 (by omega) (by omega)) (w_rg0 (by omega) (by omega)) ⟨_, rfl⟩ (fun c6 => ?_) (fun c6 => ?_)
      · skip
        refine wa_iconst ?_
        refine wa_goto ⟨_, rfl⟩ ?_
        refine wa_ireturn rfl ?_
        show wJ _ _ _ _ _ _ _ _ _ _
        refine wb_iast 340 rfl (wy_pr rfl) wt_340 (n := 400) ((ml_340 hMz)) (by omega) (by omega) ⟨(by omega), (by omega)⟩ ?_
        refine wa_aload_n (n := 0) rfl ?_
        refine wb_gf4 237 rfl (wy_pr rfl) wt_237 wf_15_101 (v := 341) wl_237_101 ?_
        refine wa_iload_n (n := 1) rfl ?_
        refine wb_lconst (m := 0) rfl ?_
        refine wb_last 341 rfl (wy_pr rfl) wt_341 (n := 400) ((w_up_slot (by decide)).trans ((ml_341 hMz))) (by omega) (by omega) ⟨(by omega), (by omega)⟩ ?_
        refine wa_iinc rfl rfl ?_
        refine wa_goto ⟨_, rfl⟩ ?_
        refine wJ_S (ih (t + 1) _ (by omega) (by omega) (by omega) (f2_ag_up hag ⟨by omega, by omega⟩) (fun i i0 i1 => ?_)) ⟨rfl, rfl, trivial⟩
        by_cases hi : i = t
        · subst hi
          refine ⟨?_, w_up_same _ _ _ _⟩
          rw [w_up_slot (by decide), w_up_same]
          unfold an_ft
          repeat (first | rw [if_pos (by omega)] | rw [if_neg (by omega)])
        · rw [w_up_slot (by decide), w_up_at hi, w_up_at hi, w_up_slot (by decide)]; exact hv i i0 (by omega)
      · skip
        refine wa_iload_n (n := 0) rfl ?_
        refine wa_iconst ?_
        refine wa_icmpne (w_rg0 (by omega) (by omega)) (w_rg0 (by omega) (by omega)) ⟨_, rfl⟩ (fun c7 => ?_) (fun c7 => ?_)
        · skip
          refine wa_iload_n (n := 0) rfl ?_
          refine wa_iconst ?_
          refine wa_icmpne (w_rg0 (by omega) (by omega)) (w_rg0 (by omega) (by omega)) ⟨_, rfl⟩ (fun c8 => ?_) (fun c8 => ?_)
          · skip
            refine wa_iconst ?_
            refine wa_fall ⟨_, rfl⟩ ?_
            refine wa_ireturn rfl ?_
            show wJ _ _ _ _ _ _ _ _ _ _
            refine wb_iast 340 rfl (wy_pr rfl) wt_340 (n := 400) ((ml_340 hMz)) (by omega) (by omega) ⟨(by omega), (by omega)⟩ ?_
            refine wa_aload_n (n := 0) rfl ?_
            refine wb_gf4 237 rfl (wy_pr rfl) wt_237 wf_15_101 (v := 341) wl_237_101 ?_
            refine wa_iload_n (n := 1) rfl ?_
            refine wb_lconst (m := 0) rfl ?_
            refine wb_last 341 rfl (wy_pr rfl) wt_341 (n := 400) ((w_up_slot (by decide)).trans ((ml_341 hMz))) (by omega) (by omega) ⟨(by omega), (by omega)⟩ ?_
            refine wa_iinc rfl rfl ?_
            refine wa_goto ⟨_, rfl⟩ ?_
            refine wJ_S (ih (t + 1) _ (by omega) (by omega) (by omega) (f2_ag_up hag ⟨by omega, by omega⟩) (fun i i0 i1 => ?_)) ⟨rfl, rfl, trivial⟩
            by_cases hi : i = t
            · subst hi
              refine ⟨?_, w_up_same _ _ _ _⟩
              rw [w_up_slot (by decide), w_up_same]
              unfold an_ft
              repeat (first | rw [if_pos (by omega)] | rw [if_neg (by omega)])
            · rw [w_up_slot (by decide), w_up_at hi, w_up_at hi, w_up_slot (by decide)]; exact hv i i0 (by omega)
          · skip
            refine wa_iconst ?_
            refine wa_goto ⟨_, rfl⟩ ?_
            refine wa_ireturn rfl ?_
            show wJ _ _ _ _ _ _ _ _ _ _
            refine wb_iast 340 rfl (wy_pr rfl) wt_340 (n := 400) ((ml_340 hMz)) (by omega) (by omega) ⟨(by omega), (by omega)⟩ ?_
            refine wa_aload_n (n := 0) rfl ?_
            refine wb_gf4 237 rfl (wy_pr rfl) wt_237 wf_15_101 (v := 341) wl_237_101 ?_
            refine wa_iload_n (n := 1) rfl ?_
            refine wb_lconst (m := 0) rfl ?_
            refine wb_last 341 rfl (wy_pr rfl) wt_341 (n := 400) ((w_up_slot (by decide)).trans ((ml_341 hMz))) (by omega) (by omega) ⟨(by omega), (by omega)⟩ ?_
            refine wa_iinc rfl rfl ?_
            refine wa_goto ⟨_, rfl⟩ ?_
            refine wJ_S (ih (t + 1) _ (by omega) (by omega) (by omega) (f2_ag_up hag ⟨by omega, by omega⟩) (fun i i0 i1 => ?_)) ⟨rfl, rfl, trivial⟩
            by_cases hi : i = t
            · subst hi
              refine ⟨?_, w_up_same _ _ _ _⟩
              rw [w_up_slot (by decide), w_up_same]
              unfold an_ft
              repeat (first | rw [if_pos (by omega)] | rw [if_neg (by omega)])
            · rw [w_up_slot (by decide), w_up_at hi, w_up_at hi, w_up_slot (by decide)]; exact hv i i0 (by omega)
        · skip
          refine wa_fall ⟨_, rfl⟩ ?_
          refine wa_iconst ?_
          refine wa_goto ⟨_, rfl⟩ ?_
          refine wa_ireturn rfl ?_
          show wJ _ _ _ _ _ _ _ _ _ _
          refine wb_iast 340 rfl (wy_pr rfl) wt_340 (n := 400) ((ml_340 hMz)) (by omega) (by omega) ⟨(by omega), (by omega)⟩ ?_
          refine wa_aload_n (n := 0) rfl ?_
          refine wb_gf4 237 rfl (wy_pr rfl) wt_237 wf_15_101 (v := 341) wl_237_101 ?_
          refine wa_iload_n (n := 1) rfl ?_
          refine wb_lconst (m := 0) rfl ?_
          refine wb_last 341 rfl (wy_pr rfl) wt_341 (n := 400) ((w_up_slot (by decide)).trans ((ml_341 hMz))) (by omega) (by omega) ⟨(by omega), (by omega)⟩ ?_
          refine wa_iinc rfl rfl ?_
          refine wa_goto ⟨_, rfl⟩ ?_
          refine wJ_S (ih (t + 1) _ (by omega) (by omega) (by omega) (f2_ag_up hag ⟨by omega, by omega⟩) (fun i i0 i1 => ?_)) ⟨rfl, rfl, trivial⟩
          by_cases hi : i = t
          · subst hi
            refine ⟨?_, w_up_same _ _ _ _⟩
            rw [w_up_slot (by decide), w_up_same]
            unfold an_ft
            repeat (first | rw [if_pos (by omega)] | rw [if_neg (by omega)])
          · rw [w_up_slot (by decide), w_up_at hi, w_up_at hi, w_up_slot (by decide)]; exact hv i i0 (by omega)
theorem an_7_261 (hM : w_ML S) (hb : S 237 13 = 261) (hn : 0 ≤ S 261 11 ∧ S 261 11 ≤ 400) (hk : ∀ Z, f2_ag (S 261 11) S Z → (∀ i : Int, 0 ≤ i → i < S 261 11 → Z 340 i = an_ft (S 275 i) ∧ Z 341 i = 0) → wJ (pe_GA xs) wY0 M (d + 1) t_M_anew ((pe_at t_M_anew.bl 8).getD (0, [])).2 [(0, (2, 237))] [] Z Q) : ∀ (f : Nat) (t : Int) (Z : wS), (S 261 11 - t).toNat < f → 0 ≤ t → t ≤ S 261 11 → f2_ag (S 261 11) S Z → (∀ i : Int, 0 ≤ i → i < t → Z 340 i = an_ft (S 275 i) ∧ Z 341 i = 0) → wJ (pe_GA xs) wY0 M (d + 1) t_M_anew ((pe_at t_M_anew.bl 7).getD (0, [])).2 [(0, (2, 237)), (1, (0, t))] [] Z Q := by
  intro f
  induction f with
  | zero => intros; omega
  | succ f ih =>
    intro t Z hf h0 h1 hag hv
    have hMz := f2_ag_ML hag hM
    have e13 : Z 237 13 = 261 := (hag 237 13 (by omega)).trans hb
    have e11 : Z 261 11 = S 261 11 := hag 261 11 (by omega)
    have e14 : Z 275 t = S 275 t := hag 275 t (by omega)
    refine wa_iload_n (n := 1) rfl ?_
    refine wa_aload_n (n := 0) rfl ?_
    refine wb_gf5 237 rfl (wy_pr rfl) wt_237 wf_15_13 (v := 261) (e13) (fun r1 => ?_)
    refine wb_gfi 261 rfl (wy_pr rfl) wt_261 wf_12_11 (v := (S 261 11)) (e11) (fun r2 => ?_)
    refine wa_icmpge (w_rg0 (by omega) (by omega)) (w_rg0 (by omega) (by omega)) ⟨_, rfl⟩ (fun c3 => ?_) (fun c3 => ?_)
    · skip
      exact wJ_S (hk _ hag (fun i i0 i1 => hv i i0 (by omega))) ⟨rfl, trivial⟩
    · skip
      refine wa_aload_n (n := 0) rfl ?_
      refine wb_gf4 237 rfl (wy_pr rfl) wt_237 wf_15_100 (v := 340) wl_237_100 ?_
      refine wa_iload_n (n := 1) rfl ?_
      refine wa_aload_n (n := 0) rfl ?_
      refine wb_gf5 237 rfl (wy_pr rfl) wt_237 wf_15_13 (v := 261) (e13) (fun r4 => ?_)
      refine wb_gf4 261 rfl (wy_pr rfl) wt_261 wf_12_15 (v := 275) wl_261_15 ?_
      refine wa_iload_n (n := 1) rfl ?_
      refine wb_iald 275 rfl (wy_pr rfl) wt_275 (n := 400) ((ml_275 hMz)) (by omega) (by omega) (v := (S 275 t)) (e14) (fun r5 => ?_)
      refine wa_cs (M2 := fun _ => False) rfl at_M_firstType ⟨_, rfl⟩ rfl rfl ⟨(Or.inr ⟨wy_pr rfl, fun q => q⟩), trivial, trivial⟩ ⟨trivial, (Or.inr ⟨wy_pr rfl, fun q => q⟩), trivial⟩ (fun _ _ q => False.elim q) ?_ (fun _ _ _ q => q)
      refine wa_iload_n (n := 0) rfl ?_
      refine wa_iconst ?_
      refine wa_icmpeq (w_rg0 (by omega) (by omega)) (w_rg0 (by omega) (by omega)) ⟨_, rfl⟩ (fun c6 => ?_) (fun c6 => ?_)
      · skip
        refine wa_iconst ?_
        refine wa_goto ⟨_, rfl⟩ ?_
        refine wa_ireturn rfl ?_
        show wJ _ _ _ _ _ _ _ _ _ _
        refine wb_iast 340 rfl (wy_pr rfl) wt_340 (n := 400) ((ml_340 hMz)) (by omega) (by omega) ⟨(by omega), (by omega)⟩ ?_
        refine wa_aload_n (n := 0) rfl ?_
        refine wb_gf4 237 rfl (wy_pr rfl) wt_237 wf_15_101 (v := 341) wl_237_101 ?_
        refine wa_iload_n (n := 1) rfl ?_
        refine wb_lconst (m := 0) rfl ?_
        refine wb_last 341 rfl (wy_pr rfl) wt_341 (n := 400) ((w_up_slot (by decide)).trans ((ml_341 hMz))) (by omega) (by omega) ⟨(by omega), (by omega)⟩ ?_
        refine wa_iinc rfl rfl ?_
        refine wa_goto ⟨_, rfl⟩ ?_
        refine wJ_S (ih (t + 1) _ (by omega) (by omega) (by omega) (f2_ag_up hag ⟨by omega, by omega⟩) (fun i i0 i1 => ?_)) ⟨rfl, rfl, trivial⟩
        by_cases hi : i = t
        · subst hi
          refine ⟨?_, w_up_same _ _ _ _⟩
          rw [w_up_slot (by decide), w_up_same]
          unfold an_ft
          repeat (first | rw [if_pos (by omega)] | rw [if_neg (by omega)])
        · rw [w_up_slot (by decide), w_up_at hi, w_up_at hi, w_up_slot (by decide)]; exact hv i i0 (by omega)
      · skip
        refine wa_iload_n (n := 0) rfl ?_
        refine wa_iconst ?_
        refine wa_icmpne (w_rg0 (by omega) (by omega)) (w_rg0 (by omega) (by omega)) ⟨_, rfl⟩ (fun c7 => ?_) (fun c7 => ?_)
        · skip
          refine wa_iload_n (n := 0) rfl ?_
          refine wa_iconst ?_
          refine wa_icmpne (w_rg0 (by omega) (by omega)) (w_rg0 (by omega) (by omega)) ⟨_, rfl⟩ (fun c8 => ?_) (fun c8 => ?_)
          · skip
            refine wa_iconst ?_
            refine wa_fall ⟨_, rfl⟩ ?_
            refine wa_ireturn rfl ?_
            show wJ _ _ _ _ _ _ _ _ _ _
            refine wb_iast 340 rfl (wy_pr rfl) wt_340 (n := 400) ((ml_340 hMz)) (by omega) (by omega) ⟨(by omega), (by omega)⟩ ?_
            refine wa_aload_n (n := 0) rfl ?_
            refine wb_gf4 237 rfl (wy_pr rfl) wt_237 wf_15_101 (v := 341) wl_237_101 ?_
            refine wa_iload_n (n := 1) rfl ?_
            refine wb_lconst (m := 0) rfl ?_
            refine wb_last 341 rfl (wy_pr rfl) wt_341 (n := 400) ((w_up_slot (by decide)).trans ((ml_341 hMz))) (by omega) (by omega) ⟨(by omega), (by omega)⟩ ?_
            refine wa_iinc rfl rfl ?_
            refine wa_goto ⟨_, rfl⟩ ?_
            refine wJ_S (ih (t + 1) _ (by omega) (by omega) (by omega) (f2_ag_up hag ⟨by omega, by omega⟩) (fun i i0 i1 => ?_)) ⟨rfl, rfl, trivial⟩
            by_cases hi : i = t
            · subst hi
              refine ⟨?_, w_up_same _ _ _ _⟩
              rw [w_up_slot (by decide), w_up_same]
              unfold an_ft
              repeat (first | rw [if_pos (by omega)] | rw [if_neg (by omega)])
            · rw [w_up_slot (by decide), w_up_at hi, w_up_at hi, w_up_slot (by decide)]; exact hv i i0 (by omega)
          · skip
            refine wa_iconst ?_
            refine wa_goto ⟨_, rfl⟩ ?_
            refine wa_ireturn rfl ?_
            show wJ _ _ _ _ _ _ _ _ _ _
            refine wb_iast 340 rfl (wy_pr rfl) wt_340 (n := 400) ((ml_340 hMz)) (by omega) (by omega) ⟨(by omega), (by omega)⟩ ?_
            refine wa_aload_n (n := 0) rfl ?_
            refine wb_gf4 237 rfl (wy_pr rfl) wt_237 wf_15_101 (v := 341) wl_237_101 ?_
            refine wa_iload_n (n := 1) rfl ?_
            refine wb_lconst (m := 0) rfl ?_
            refine wb_last 341 rfl (wy_pr rfl) wt_341 (n := 400) ((w_up_slot (by decide)).trans ((ml_341 hMz))) (by omega) (by omega) ⟨(by omega), (by omega)⟩ ?_
            refine wa_iinc rfl rfl ?_
            refine wa_goto ⟨_, rfl⟩ ?_
            refine wJ_S (ih (t + 1) _ (by omega) (by omega) (by omega) (f2_ag_up hag ⟨by omega, by omega⟩) (fun i i0 i1 => ?_)) ⟨rfl, rfl, trivial⟩
            by_cases hi : i = t
            · subst hi
              refine ⟨?_, w_up_same _ _ _ _⟩
              rw [w_up_slot (by decide), w_up_same]
              unfold an_ft
              repeat (first | rw [if_pos (by omega)] | rw [if_neg (by omega)])
            · rw [w_up_slot (by decide), w_up_at hi, w_up_at hi, w_up_slot (by decide)]; exact hv i i0 (by omega)
        · skip
          refine wa_fall ⟨_, rfl⟩ ?_
          refine wa_iconst ?_
          refine wa_goto ⟨_, rfl⟩ ?_
          refine wa_ireturn rfl ?_
          show wJ _ _ _ _ _ _ _ _ _ _
          refine wb_iast 340 rfl (wy_pr rfl) wt_340 (n := 400) ((ml_340 hMz)) (by omega) (by omega) ⟨(by omega), (by omega)⟩ ?_
          refine wa_aload_n (n := 0) rfl ?_
          refine wb_gf4 237 rfl (wy_pr rfl) wt_237 wf_15_101 (v := 341) wl_237_101 ?_
          refine wa_iload_n (n := 1) rfl ?_
          refine wb_lconst (m := 0) rfl ?_
          refine wb_last 341 rfl (wy_pr rfl) wt_341 (n := 400) ((w_up_slot (by decide)).trans ((ml_341 hMz))) (by omega) (by omega) ⟨(by omega), (by omega)⟩ ?_
          refine wa_iinc rfl rfl ?_
          refine wa_goto ⟨_, rfl⟩ ?_
          refine wJ_S (ih (t + 1) _ (by omega) (by omega) (by omega) (f2_ag_up hag ⟨by omega, by omega⟩) (fun i i0 i1 => ?_)) ⟨rfl, rfl, trivial⟩
          by_cases hi : i = t
          · subst hi
            refine ⟨?_, w_up_same _ _ _ _⟩
            rw [w_up_slot (by decide), w_up_same]
            unfold an_ft
            repeat (first | rw [if_pos (by omega)] | rw [if_neg (by omega)])
          · rw [w_up_slot (by decide), w_up_at hi, w_up_at hi, w_up_slot (by decide)]; exact hv i i0 (by omega)
end W93
