/-! PART 94: the reference's anew, whole. -/
section W94
variable {xs : List (Nat × List Int32)} {M : Nat → Prop} {d : Nat} {S A B Z : wS} {Q : wO → wS → Prop}
theorem w_up_no {S : wS} {j k : Nat} {i n x : Int} (h : ¬ (k = j ∧ n = i)) : w_up S j i x k n = S k n := if_neg h
/-- the fields and the first shape are set -/
def an_0 (S : wS) : wS := (w_up (w_up (w_up (w_up (w_up (w_up (w_up (w_up (w_up (w_up (w_up (w_up (w_up (w_up (w_up (w_up (w_up (w_up (w_up (w_up (w_up (w_up (w_up (w_up (w_up S 237 16 0) 237 19 0) 237 20 0) 237 33 0) 237 34 0) 237 43 0) 237 47 0) 237 48 0) 237 68 0) 237 69 0) 237 81 0) 237 82 0) 237 87 1) 329 0 (-1)) 330 0 (-1)) 331 0 (-1)) 332 0 0) 237 94 0) 237 102 0) 237 103 0) 237 104 0) 237 106 0) 237 108 0) 237 114 0) 237 115 0)
def an_fr (S Z : wS) (n : Int) : Prop := ∀ (j : Nat) (i : Int), (j ≠ 237 ∨ (i ≠ 16 ∧ i ≠ 19 ∧ i ≠ 20 ∧ i ≠ 33 ∧ i ≠ 34 ∧ i ≠ 43 ∧ i ≠ 47 ∧ i ≠ 48 ∧ i ≠ 68 ∧ i ≠ 69 ∧ i ≠ 81 ∧ i ≠ 82 ∧ i ≠ 87 ∧ i ≠ 94 ∧ i ≠ 102 ∧ i ≠ 103 ∧ i ≠ 104 ∧ i ≠ 106 ∧ i ≠ 108 ∧ i ≠ 114 ∧ i ≠ 115)) → (j < 329 ∨ 332 < j ∨ i ≠ 0) → (j ≠ 344 ∨ i < 0 ∨ 4 ≤ i) → (j ≠ 337 ∨ i < 0 ∨ 4000 ≤ i) → ((j ≠ 340 ∧ j ≠ 341) ∨ i < 0 ∨ n ≤ i) → (j < 357 ∨ 360 < j ∨ i < 0 ∨ 2 ≤ i) → Z j i = S j i
theorem an_0_fr (j : Nat) (i : Int) (h1 : j ≠ 237 ∨ (i ≠ 16 ∧ i ≠ 19 ∧ i ≠ 20 ∧ i ≠ 33 ∧ i ≠ 34 ∧ i ≠ 43 ∧ i ≠ 47 ∧ i ≠ 48 ∧ i ≠ 68 ∧ i ≠ 69 ∧ i ≠ 81 ∧ i ≠ 82 ∧ i ≠ 87 ∧ i ≠ 94 ∧ i ≠ 102 ∧ i ≠ 103 ∧ i ≠ 104 ∧ i ≠ 106 ∧ i ≠ 108 ∧ i ≠ 114 ∧ i ≠ 115)) (h2 : j < 329 ∨ 332 < j ∨ i ≠ 0) : an_0 S j i = S j i := by
  unfold an_0
  rw [w_up_no (by omega)]
  rw [w_up_no (by omega)]
  rw [w_up_no (by omega)]
  rw [w_up_no (by omega)]
  rw [w_up_no (by omega)]
  rw [w_up_no (by omega)]
  rw [w_up_no (by omega)]
  rw [w_up_no (by omega)]
  rw [w_up_no (by omega)]
  rw [w_up_no (by omega)]
  rw [w_up_no (by omega)]
  rw [w_up_no (by omega)]
  rw [w_up_no (by omega)]
  rw [w_up_no (by omega)]
  rw [w_up_no (by omega)]
  rw [w_up_no (by omega)]
  rw [w_up_no (by omega)]
  rw [w_up_no (by omega)]
  rw [w_up_no (by omega)]
  rw [w_up_no (by omega)]
  rw [w_up_no (by omega)]
  rw [w_up_no (by omega)]
  rw [w_up_no (by omega)]
  rw [w_up_no (by omega)]
  rw [w_up_no (by omega)]
theorem an_0_ML (hM : w_ML S) : w_ML (an_0 S) := fun q hq => (an_0_fr q.1 (-1) (by omega) (by omega)).trans (hM q hq)
/-- what anew leaves -/
def an_va (Z : wS) : Prop := Z 237 16 = 0 ∧ Z 237 19 = 0 ∧ Z 237 20 = 0 ∧ Z 237 33 = 0 ∧ Z 237 34 = 0 ∧ Z 237 43 = 0 ∧ Z 237 47 = 0 ∧ Z 237 48 = 0 ∧ Z 237 68 = 0 ∧ Z 237 69 = 0 ∧ Z 237 81 = 0 ∧ Z 237 82 = 0 ∧ Z 237 87 = 1 ∧ Z 237 94 = 0 ∧ Z 237 102 = 0 ∧ Z 237 103 = 0 ∧ Z 237 104 = 0 ∧ Z 237 106 = 0 ∧ Z 237 108 = 0 ∧ Z 237 114 = 0 ∧ Z 237 115 = 0 ∧ Z 329 0 = -1 ∧ Z 330 0 = -1 ∧ Z 331 0 = -1 ∧ Z 332 0 = 0 ∧ (∀ i : Int, 0 ≤ i → i < 4 → Z 344 i = 0) ∧ (∀ i : Int, 0 ≤ i → i < 4000 → Z 337 i = 0) ∧ ∀ (a : Nat) (i : Int), 357 ≤ a → a ≤ 360 → 0 ≤ i → i < 2 → Z a i = 0
theorem anew_241 (hM : w_ML S) (hb : S 237 13 = 241) (hn : 0 ≤ S 241 11 ∧ S 241 11 ≤ 400) : wJ (pe_GA xs) wY0 M (d + 1) t_M_anew ((pe_at t_M_anew.bl 0).getD (0, [])).2 [(0, (2, 237))] [] S (fun o S2 => o = .inl none ∧ an_fr S S2 (S 241 11) ∧ an_va S2 ∧ ∀ i : Int, 0 ≤ i → i < S 241 11 → S2 340 i = an_ft (S 255 i) ∧ S2 341 i = 0) := by
  refine wa_aload_n (n := 0) rfl ?_
  refine wa_iconst ?_
  refine wb_pfi 237 rfl (wy_pr rfl) wt_237 wf_15_16 (n := 16) rfl ⟨(by omega), (by omega)⟩ ?_
  refine wa_aload_n (n := 0) rfl ?_
  refine wa_iconst ?_
  refine wb_pfi 237 rfl (wy_pr rfl) wt_237 wf_15_19 (n := 19) rfl ⟨(by omega), (by omega)⟩ ?_
  refine wa_aload_n (n := 0) rfl ?_
  refine wa_iconst ?_
  refine wb_pfi 237 rfl (wy_pr rfl) wt_237 wf_15_20 (n := 20) rfl ⟨(by omega), (by omega)⟩ ?_
  refine wa_aload_n (n := 0) rfl ?_
  refine wa_iconst ?_
  refine wb_pfi 237 rfl (wy_pr rfl) wt_237 wf_15_33 (n := 33) rfl ⟨(by omega), (by omega)⟩ ?_
  refine wa_aload_n (n := 0) rfl ?_
  refine wa_iconst ?_
  refine wb_pfi 237 rfl (wy_pr rfl) wt_237 wf_15_34 (n := 34) rfl ⟨(by omega), (by omega)⟩ ?_
  refine wa_aload_n (n := 0) rfl ?_
  refine wa_iconst ?_
  refine wb_pfi 237 rfl (wy_pr rfl) wt_237 wf_15_43 (n := 43) rfl ⟨(by omega), (by omega)⟩ ?_
  refine wa_aload_n (n := 0) rfl ?_
  refine wa_iconst ?_
  refine wb_pfi 237 rfl (wy_pr rfl) wt_237 wf_15_47 (n := 47) rfl ⟨(by omega), (by omega)⟩ ?_
  refine wa_aload_n (n := 0) rfl ?_
  refine wa_iconst ?_
  refine wb_pfi 237 rfl (wy_pr rfl) wt_237 wf_15_48 (n := 48) rfl ⟨(by omega), (by omega)⟩ ?_
  refine wa_aload_n (n := 0) rfl ?_
  refine wa_iconst ?_
  refine wb_pfi 237 rfl (wy_pr rfl) wt_237 wf_15_68 (n := 68) rfl ⟨(by omega), (by omega)⟩ ?_
  refine wa_aload_n (n := 0) rfl ?_
  refine wa_iconst ?_
  refine wb_pfi 237 rfl (wy_pr rfl) wt_237 wf_15_69 (n := 69) rfl ⟨(by omega), (by omega)⟩ ?_
  refine wa_aload_n (n := 0) rfl ?_
  refine wa_iconst ?_
  refine wb_pfi 237 rfl (wy_pr rfl) wt_237 wf_15_81 (n := 81) rfl ⟨(by omega), (by omega)⟩ ?_
  refine wa_aload_n (n := 0) rfl ?_
  refine wa_iconst ?_
  refine wb_pfi 237 rfl (wy_pr rfl) wt_237 wf_15_82 (n := 82) rfl ⟨(by omega), (by omega)⟩ ?_
  refine wa_aload_n (n := 0) rfl ?_
  refine wa_iconst ?_
  refine wb_pfi 237 rfl (wy_pr rfl) wt_237 wf_15_87 (n := 87) rfl ⟨(by omega), (by omega)⟩ ?_
  refine wa_aload_n (n := 0) rfl ?_
  refine wa_fall ⟨_, rfl⟩ ?_
  refine wb_gf4 237 rfl (wy_pr rfl) wt_237 wf_15_88 (v := 329) wl_237_88 ?_
  refine wa_iconst ?_
  refine wa_iconst ?_
  refine wb_iast 329 rfl (wy_pr rfl) wt_329 (n := 4001) ((w_up_slot (by decide)).trans ((w_up_slot (by decide)).trans ((w_up_slot (by decide)).trans ((w_up_slot (by decide)).trans ((w_up_slot (by decide)).trans ((w_up_slot (by decide)).trans ((w_up_slot (by decide)).trans ((w_up_slot (by decide)).trans ((w_up_slot (by decide)).trans ((w_up_slot (by decide)).trans ((w_up_slot (by decide)).trans ((w_up_slot (by decide)).trans ((w_up_slot (by decide)).trans ((ml_329 hM))))))))))))))) (by omega) (by omega) ⟨(by omega), (by omega)⟩ ?_
  refine wa_aload_n (n := 0) rfl ?_
  refine wb_gf4 237 rfl (wy_pr rfl) wt_237 wf_15_89 (v := 330) wl_237_89 ?_
  refine wa_iconst ?_
  refine wa_iconst ?_
  refine wb_iast 330 rfl (wy_pr rfl) wt_330 (n := 4001) ((w_up_slot (by decide)).trans ((w_up_slot (by decide)).trans ((w_up_slot (by decide)).trans ((w_up_slot (by decide)).trans ((w_up_slot (by decide)).trans ((w_up_slot (by decide)).trans ((w_up_slot (by decide)).trans ((w_up_slot (by decide)).trans ((w_up_slot (by decide)).trans ((w_up_slot (by decide)).trans ((w_up_slot (by decide)).trans ((w_up_slot (by decide)).trans ((w_up_slot (by decide)).trans ((w_up_slot (by decide)).trans ((ml_330 hM)))))))))))))))) (by omega) (by omega) ⟨(by omega), (by omega)⟩ ?_
  refine wa_aload_n (n := 0) rfl ?_
  refine wb_gf4 237 rfl (wy_pr rfl) wt_237 wf_15_90 (v := 331) wl_237_90 ?_
  refine wa_iconst ?_
  refine wa_iconst ?_
  refine wb_iast 331 rfl (wy_pr rfl) wt_331 (n := 4001) ((w_up_slot (by decide)).trans ((w_up_slot (by decide)).trans ((w_up_slot (by decide)).trans ((w_up_slot (by decide)).trans ((w_up_slot (by decide)).trans ((w_up_slot (by decide)).trans ((w_up_slot (by decide)).trans ((w_up_slot (by decide)).trans ((w_up_slot (by decide)).trans ((w_up_slot (by decide)).trans ((w_up_slot (by decide)).trans ((w_up_slot (by decide)).trans ((w_up_slot (by decide)).trans ((w_up_slot (by decide)).trans ((w_up_slot (by decide)).trans ((ml_331 hM))))))))))))))))) (by omega) (by omega) ⟨(by omega), (by omega)⟩ ?_
  refine wa_aload_n (n := 0) rfl ?_
  refine wb_gf4 237 rfl (wy_pr rfl) wt_237 wf_15_91 (v := 332) wl_237_91 ?_
  refine wa_iconst ?_
  refine wa_iconst ?_
  refine wb_iast 332 rfl (wy_pr rfl) wt_332 (n := 4001) ((w_up_slot (by decide)).trans ((w_up_slot (by decide)).trans ((w_up_slot (by decide)).trans ((w_up_slot (by decide)).trans ((w_up_slot (by decide)).trans ((w_up_slot (by decide)).trans ((w_up_slot (by decide)).trans ((w_up_slot (by decide)).trans ((w_up_slot (by decide)).trans ((w_up_slot (by decide)).trans ((w_up_slot (by decide)).trans ((w_up_slot (by decide)).trans ((w_up_slot (by decide)).trans ((w_up_slot (by decide)).trans ((w_up_slot (by decide)).trans ((w_up_slot (by decide)).trans ((ml_332 hM)))))))))))))))))) (by omega) (by omega) ⟨(by omega), (by omega)⟩ ?_
  refine wa_aload_n (n := 0) rfl ?_
  refine wa_iconst ?_
  refine wb_pfi 237 rfl (wy_pr rfl) wt_237 wf_15_94 (n := 94) rfl ⟨(by omega), (by omega)⟩ ?_
  refine wa_aload_n (n := 0) rfl ?_
  refine wa_iconst ?_
  refine wb_pfi 237 rfl (wy_pr rfl) wt_237 wf_15_102 (n := 102) rfl ⟨(by omega), (by omega)⟩ ?_
  refine wa_aload_n (n := 0) rfl ?_
  refine wa_iconst ?_
  refine wb_pfi 237 rfl (wy_pr rfl) wt_237 wf_15_103 (n := 103) rfl ⟨(by omega), (by omega)⟩ ?_
  refine wa_aload_n (n := 0) rfl ?_
  refine wa_iconst ?_
  refine wb_pfi 237 rfl (wy_pr rfl) wt_237 wf_15_104 (n := 104) rfl ⟨(by omega), (by omega)⟩ ?_
  refine wa_aload_n (n := 0) rfl ?_
  refine wa_iconst ?_
  refine wb_pfi 237 rfl (wy_pr rfl) wt_237 wf_15_106 (n := 106) rfl ⟨(by omega), (by omega)⟩ ?_
  refine wa_aload_n (n := 0) rfl ?_
  refine wa_iconst ?_
  refine wb_pfi 237 rfl (wy_pr rfl) wt_237 wf_15_108 (n := 108) rfl ⟨(by omega), (by omega)⟩ ?_
  refine wa_aload_n (n := 0) rfl ?_
  refine wa_iconst ?_
  refine wb_pfi 237 rfl (wy_pr rfl) wt_237 wf_15_114 (n := 114) rfl ⟨(by omega), (by omega)⟩ ?_
  refine wa_fall ⟨_, rfl⟩ ?_
  refine wa_aload_n (n := 0) rfl ?_
  refine wa_iconst ?_
  refine wb_pfi 237 rfl (wy_pr rfl) wt_237 wf_15_115 (n := 115) rfl ⟨(by omega), (by omega)⟩ ?_
  refine wa_iconst ?_
  refine wa_istore_n (n := 1) rfl ?_
  refine wa_fall ⟨_, rfl⟩ ?_
  refine wJ_S (an_3 (S := an_0 S) (an_0_ML hM) (fun Z1 g1 v1 => ?_) 5 0 (an_0 S) (by omega) (by omega) (by omega) (fun _ _ _ => rfl) (fun i i0 i1 => by omega)) ⟨rfl, rfl, trivial⟩
  have m1 := fl_ag_ML g1 (an_0_ML hM)
  refine wa_iconst ?_
  refine wa_istore_n (n := 1) rfl ?_
  refine wa_fall ⟨_, rfl⟩ ?_
  refine wJ_S (an_5 (S := Z1) m1 (fun Z2 g2 v2 => ?_) 4001 0 Z1 (by omega) (by omega) (by omega) (fun _ _ _ => rfl) (fun i i0 i1 => by omega)) ⟨rfl, rfl, trivial⟩
  have m2 := fl_ag_ML g2 m1
  have to0 : ∀ (j : Nat) (i : Int), (j ≠ 344 ∨ i < 0 ∨ 4 ≤ i) → (j ≠ 337 ∨ i < 0 ∨ 4000 ≤ i) → Z2 j i = an_0 S j i := fun j i q1 q2 => (g2 j i q2).trans (g1 j i q1)
  have f13 : Z2 237 13 = 241 := (to0 237 13 (by omega) (by omega)).trans ((an_0_fr 237 13 (by omega) (by omega)).trans hb)
  have f11 : Z2 241 11 = S 241 11 := (to0 241 11 (by omega) (by omega)).trans (an_0_fr 241 11 (by omega) (by omega))
  have f14 : ∀ i : Int, Z2 255 i = S 255 i := fun i => (to0 255 i (by omega) (by omega)).trans (an_0_fr 255 i (by omega) (by omega))
  refine wa_iconst ?_
  refine wa_istore_n (n := 1) rfl ?_
  refine wa_fall ⟨_, rfl⟩ ?_
  refine wJ_S (an_7_241 (S := Z2) m2 f13 (by rw [f11]; exact hn) (fun Z3 g3 v3 => ?_) 401 0 Z2 (by rw [f11]; omega) (by omega) (by rw [f11]; omega) (fun _ _ _ => rfl) (fun i i0 i1 => by omega)) ⟨rfl, rfl, trivial⟩
  have m3 := f2_ag_ML g3 m2
  rw [f11] at g3 v3
  refine wa_iconst ?_
  refine wa_istore_n (n := 1) rfl ?_
  refine wa_fall ⟨_, rfl⟩ ?_
  refine wJ_S (an_9 (S := Z3) m3 (fun Z4 g4 v4 => ?_) 3 0 Z3 (by omega) (by omega) (by omega) (fun _ _ _ => rfl) (fun a i a0 a1 i0 i1 => by omega)) ⟨rfl, rfl, trivial⟩
  refine wa_return rfl ?_
  have p0 : ∀ (j : Nat) (i : Int), j < 337 → Z4 j i = an_0 S j i := fun j i q => (g4 j i (by omega)).trans ((g3 j i (by omega)).trans (to0 j i (by omega) (by omega)))
  refine ⟨rfl, fun j i h1 h2 h3 h4 h5 h6 => (g4 j i h6).trans ((g3 j i h5).trans ((to0 j i h3 h4).trans (an_0_fr j i h1 h2))), ?_, fun i i0 i1 => ?_⟩
  · exact ⟨(p0 237 16 (by decide)).trans rfl, (p0 237 19 (by decide)).trans rfl, (p0 237 20 (by decide)).trans rfl, (p0 237 33 (by decide)).trans rfl, (p0 237 34 (by decide)).trans rfl, (p0 237 43 (by decide)).trans rfl, (p0 237 47 (by decide)).trans rfl, (p0 237 48 (by decide)).trans rfl, (p0 237 68 (by decide)).trans rfl, (p0 237 69 (by decide)).trans rfl, (p0 237 81 (by decide)).trans rfl, (p0 237 82 (by decide)).trans rfl, (p0 237 87 (by decide)).trans rfl, (p0 237 94 (by decide)).trans rfl, (p0 237 102 (by decide)).trans rfl, (p0 237 103 (by decide)).trans rfl, (p0 237 104 (by decide)).trans rfl, (p0 237 106 (by decide)).trans rfl, (p0 237 108 (by decide)).trans rfl, (p0 237 114 (by decide)).trans rfl, (p0 237 115 (by decide)).trans rfl, (p0 329 0 (by decide)).trans rfl, (p0 330 0 (by decide)).trans rfl, (p0 331 0 (by decide)).trans rfl, (p0 332 0 (by decide)).trans rfl, fun i i0 i1 => (g4 344 i (by omega)).trans ((g3 344 i (by omega)).trans ((g2 344 i (by omega)).trans (v1 i i0 i1))), fun i i0 i1 => (g4 337 i (by omega)).trans ((g3 337 i (by omega)).trans (v2 i i0 i1)), v4⟩
  · have := v3 i i0 i1
    rw [f14] at this
    exact ⟨(g4 340 i (by omega)).trans this.1, (g4 341 i (by omega)).trans this.2⟩
theorem anew_261 (hM : w_ML S) (hb : S 237 13 = 261) (hn : 0 ≤ S 261 11 ∧ S 261 11 ≤ 400) : wJ (pe_GA xs) wY0 M (d + 1) t_M_anew ((pe_at t_M_anew.bl 0).getD (0, [])).2 [(0, (2, 237))] [] S (fun o S2 => o = .inl none ∧ an_fr S S2 (S 261 11) ∧ an_va S2 ∧ ∀ i : Int, 0 ≤ i → i < S 261 11 → S2 340 i = an_ft (S 275 i) ∧ S2 341 i = 0) := by
  refine wa_aload_n (n := 0) rfl ?_
  refine wa_iconst ?_
  refine wb_pfi 237 rfl (wy_pr rfl) wt_237 wf_15_16 (n := 16) rfl ⟨(by omega), (by omega)⟩ ?_
  refine wa_aload_n (n := 0) rfl ?_
  refine wa_iconst ?_
  refine wb_pfi 237 rfl (wy_pr rfl) wt_237 wf_15_19 (n := 19) rfl ⟨(by omega), (by omega)⟩ ?_
  refine wa_aload_n (n := 0) rfl ?_
  refine wa_iconst ?_
  refine wb_pfi 237 rfl (wy_pr rfl) wt_237 wf_15_20 (n := 20) rfl ⟨(by omega), (by omega)⟩ ?_
  refine wa_aload_n (n := 0) rfl ?_
  refine wa_iconst ?_
  refine wb_pfi 237 rfl (wy_pr rfl) wt_237 wf_15_33 (n := 33) rfl ⟨(by omega), (by omega)⟩ ?_
  refine wa_aload_n (n := 0) rfl ?_
  refine wa_iconst ?_
  refine wb_pfi 237 rfl (wy_pr rfl) wt_237 wf_15_34 (n := 34) rfl ⟨(by omega), (by omega)⟩ ?_
  refine wa_aload_n (n := 0) rfl ?_
  refine wa_iconst ?_
  refine wb_pfi 237 rfl (wy_pr rfl) wt_237 wf_15_43 (n := 43) rfl ⟨(by omega), (by omega)⟩ ?_
  refine wa_aload_n (n := 0) rfl ?_
  refine wa_iconst ?_
  refine wb_pfi 237 rfl (wy_pr rfl) wt_237 wf_15_47 (n := 47) rfl ⟨(by omega), (by omega)⟩ ?_
  refine wa_aload_n (n := 0) rfl ?_
  refine wa_iconst ?_
  refine wb_pfi 237 rfl (wy_pr rfl) wt_237 wf_15_48 (n := 48) rfl ⟨(by omega), (by omega)⟩ ?_
  refine wa_aload_n (n := 0) rfl ?_
  refine wa_iconst ?_
  refine wb_pfi 237 rfl (wy_pr rfl) wt_237 wf_15_68 (n := 68) rfl ⟨(by omega), (by omega)⟩ ?_
  refine wa_aload_n (n := 0) rfl ?_
  refine wa_iconst ?_
  refine wb_pfi 237 rfl (wy_pr rfl) wt_237 wf_15_69 (n := 69) rfl ⟨(by omega), (by omega)⟩ ?_
  refine wa_aload_n (n := 0) rfl ?_
  refine wa_iconst ?_
  refine wb_pfi 237 rfl (wy_pr rfl) wt_237 wf_15_81 (n := 81) rfl ⟨(by omega), (by omega)⟩ ?_
  refine wa_aload_n (n := 0) rfl ?_
  refine wa_iconst ?_
  refine wb_pfi 237 rfl (wy_pr rfl) wt_237 wf_15_82 (n := 82) rfl ⟨(by omega), (by omega)⟩ ?_
  refine wa_aload_n (n := 0) rfl ?_
  refine wa_iconst ?_
  refine wb_pfi 237 rfl (wy_pr rfl) wt_237 wf_15_87 (n := 87) rfl ⟨(by omega), (by omega)⟩ ?_
  refine wa_aload_n (n := 0) rfl ?_
  refine wa_fall ⟨_, rfl⟩ ?_
  refine wb_gf4 237 rfl (wy_pr rfl) wt_237 wf_15_88 (v := 329) wl_237_88 ?_
  refine wa_iconst ?_
  refine wa_iconst ?_
  refine wb_iast 329 rfl (wy_pr rfl) wt_329 (n := 4001) ((w_up_slot (by decide)).trans ((w_up_slot (by decide)).trans ((w_up_slot (by decide)).trans ((w_up_slot (by decide)).trans ((w_up_slot (by decide)).trans ((w_up_slot (by decide)).trans ((w_up_slot (by decide)).trans ((w_up_slot (by decide)).trans ((w_up_slot (by decide)).trans ((w_up_slot (by decide)).trans ((w_up_slot (by decide)).trans ((w_up_slot (by decide)).trans ((w_up_slot (by decide)).trans ((ml_329 hM))))))))))))))) (by omega) (by omega) ⟨(by omega), (by omega)⟩ ?_
  refine wa_aload_n (n := 0) rfl ?_
  refine wb_gf4 237 rfl (wy_pr rfl) wt_237 wf_15_89 (v := 330) wl_237_89 ?_
  refine wa_iconst ?_
  refine wa_iconst ?_
  refine wb_iast 330 rfl (wy_pr rfl) wt_330 (n := 4001) ((w_up_slot (by decide)).trans ((w_up_slot (by decide)).trans ((w_up_slot (by decide)).trans ((w_up_slot (by decide)).trans ((w_up_slot (by decide)).trans ((w_up_slot (by decide)).trans ((w_up_slot (by decide)).trans ((w_up_slot (by decide)).trans ((w_up_slot (by decide)).trans ((w_up_slot (by decide)).trans ((w_up_slot (by decide)).trans ((w_up_slot (by decide)).trans ((w_up_slot (by decide)).trans ((w_up_slot (by decide)).trans ((ml_330 hM)))))))))))))))) (by omega) (by omega) ⟨(by omega), (by omega)⟩ ?_
  refine wa_aload_n (n := 0) rfl ?_
  refine wb_gf4 237 rfl (wy_pr rfl) wt_237 wf_15_90 (v := 331) wl_237_90 ?_
  refine wa_iconst ?_
  refine wa_iconst ?_
  refine wb_iast 331 rfl (wy_pr rfl) wt_331 (n := 4001) ((w_up_slot (by decide)).trans ((w_up_slot (by decide)).trans ((w_up_slot (by decide)).trans ((w_up_slot (by decide)).trans ((w_up_slot (by decide)).trans ((w_up_slot (by decide)).trans ((w_up_slot (by decide)).trans ((w_up_slot (by decide)).trans ((w_up_slot (by decide)).trans ((w_up_slot (by decide)).trans ((w_up_slot (by decide)).trans ((w_up_slot (by decide)).trans ((w_up_slot (by decide)).trans ((w_up_slot (by decide)).trans ((w_up_slot (by decide)).trans ((ml_331 hM))))))))))))))))) (by omega) (by omega) ⟨(by omega), (by omega)⟩ ?_
  refine wa_aload_n (n := 0) rfl ?_
  refine wb_gf4 237 rfl (wy_pr rfl) wt_237 wf_15_91 (v := 332) wl_237_91 ?_
  refine wa_iconst ?_
  refine wa_iconst ?_
  refine wb_iast 332 rfl (wy_pr rfl) wt_332 (n := 4001) ((w_up_slot (by decide)).trans ((w_up_slot (by decide)).trans ((w_up_slot (by decide)).trans ((w_up_slot (by decide)).trans ((w_up_slot (by decide)).trans ((w_up_slot (by decide)).trans ((w_up_slot (by decide)).trans ((w_up_slot (by decide)).trans ((w_up_slot (by decide)).trans ((w_up_slot (by decide)).trans ((w_up_slot (by decide)).trans ((w_up_slot (by decide)).trans ((w_up_slot (by decide)).trans ((w_up_slot (by decide)).trans ((w_up_slot (by decide)).trans ((w_up_slot (by decide)).trans ((ml_332 hM)))))))))))))))))) (by omega) (by omega) ⟨(by omega), (by omega)⟩ ?_
  refine wa_aload_n (n := 0) rfl ?_
  refine wa_iconst ?_
  refine wb_pfi 237 rfl (wy_pr rfl) wt_237 wf_15_94 (n := 94) rfl ⟨(by omega), (by omega)⟩ ?_
  refine wa_aload_n (n := 0) rfl ?_
  refine wa_iconst ?_
  refine wb_pfi 237 rfl (wy_pr rfl) wt_237 wf_15_102 (n := 102) rfl ⟨(by omega), (by omega)⟩ ?_
  refine wa_aload_n (n := 0) rfl ?_
  refine wa_iconst ?_
  refine wb_pfi 237 rfl (wy_pr rfl) wt_237 wf_15_103 (n := 103) rfl ⟨(by omega), (by omega)⟩ ?_
  refine wa_aload_n (n := 0) rfl ?_
  refine wa_iconst ?_
  refine wb_pfi 237 rfl (wy_pr rfl) wt_237 wf_15_104 (n := 104) rfl ⟨(by omega), (by omega)⟩ ?_
  refine wa_aload_n (n := 0) rfl ?_
  refine wa_iconst ?_
  refine wb_pfi 237 rfl (wy_pr rfl) wt_237 wf_15_106 (n := 106) rfl ⟨(by omega), (by omega)⟩ ?_
  refine wa_aload_n (n := 0) rfl ?_
  refine wa_iconst ?_
  refine wb_pfi 237 rfl (wy_pr rfl) wt_237 wf_15_108 (n := 108) rfl ⟨(by omega), (by omega)⟩ ?_
  refine wa_aload_n (n := 0) rfl ?_
  refine wa_iconst ?_
  refine wb_pfi 237 rfl (wy_pr rfl) wt_237 wf_15_114 (n := 114) rfl ⟨(by omega), (by omega)⟩ ?_
  refine wa_fall ⟨_, rfl⟩ ?_
  refine wa_aload_n (n := 0) rfl ?_
  refine wa_iconst ?_
  refine wb_pfi 237 rfl (wy_pr rfl) wt_237 wf_15_115 (n := 115) rfl ⟨(by omega), (by omega)⟩ ?_
  refine wa_iconst ?_
  refine wa_istore_n (n := 1) rfl ?_
  refine wa_fall ⟨_, rfl⟩ ?_
  refine wJ_S (an_3 (S := an_0 S) (an_0_ML hM) (fun Z1 g1 v1 => ?_) 5 0 (an_0 S) (by omega) (by omega) (by omega) (fun _ _ _ => rfl) (fun i i0 i1 => by omega)) ⟨rfl, rfl, trivial⟩
  have m1 := fl_ag_ML g1 (an_0_ML hM)
  refine wa_iconst ?_
  refine wa_istore_n (n := 1) rfl ?_
  refine wa_fall ⟨_, rfl⟩ ?_
  refine wJ_S (an_5 (S := Z1) m1 (fun Z2 g2 v2 => ?_) 4001 0 Z1 (by omega) (by omega) (by omega) (fun _ _ _ => rfl) (fun i i0 i1 => by omega)) ⟨rfl, rfl, trivial⟩
  have m2 := fl_ag_ML g2 m1
  have to0 : ∀ (j : Nat) (i : Int), (j ≠ 344 ∨ i < 0 ∨ 4 ≤ i) → (j ≠ 337 ∨ i < 0 ∨ 4000 ≤ i) → Z2 j i = an_0 S j i := fun j i q1 q2 => (g2 j i q2).trans (g1 j i q1)
  have f13 : Z2 237 13 = 261 := (to0 237 13 (by omega) (by omega)).trans ((an_0_fr 237 13 (by omega) (by omega)).trans hb)
  have f11 : Z2 261 11 = S 261 11 := (to0 261 11 (by omega) (by omega)).trans (an_0_fr 261 11 (by omega) (by omega))
  have f14 : ∀ i : Int, Z2 275 i = S 275 i := fun i => (to0 275 i (by omega) (by omega)).trans (an_0_fr 275 i (by omega) (by omega))
  refine wa_iconst ?_
  refine wa_istore_n (n := 1) rfl ?_
  refine wa_fall ⟨_, rfl⟩ ?_
  refine wJ_S (an_7_261 (S := Z2) m2 f13 (by rw [f11]; exact hn) (fun Z3 g3 v3 => ?_) 401 0 Z2 (by rw [f11]; omega) (by omega) (by rw [f11]; omega) (fun _ _ _ => rfl) (fun i i0 i1 => by omega)) ⟨rfl, rfl, trivial⟩
  have m3 := f2_ag_ML g3 m2
  rw [f11] at g3 v3
  refine wa_iconst ?_
  refine wa_istore_n (n := 1) rfl ?_
  refine wa_fall ⟨_, rfl⟩ ?_
  refine wJ_S (an_9 (S := Z3) m3 (fun Z4 g4 v4 => ?_) 3 0 Z3 (by omega) (by omega) (by omega) (fun _ _ _ => rfl) (fun a i a0 a1 i0 i1 => by omega)) ⟨rfl, rfl, trivial⟩
  refine wa_return rfl ?_
  have p0 : ∀ (j : Nat) (i : Int), j < 337 → Z4 j i = an_0 S j i := fun j i q => (g4 j i (by omega)).trans ((g3 j i (by omega)).trans (to0 j i (by omega) (by omega)))
  refine ⟨rfl, fun j i h1 h2 h3 h4 h5 h6 => (g4 j i h6).trans ((g3 j i h5).trans ((to0 j i h3 h4).trans (an_0_fr j i h1 h2))), ?_, fun i i0 i1 => ?_⟩
  · exact ⟨(p0 237 16 (by decide)).trans rfl, (p0 237 19 (by decide)).trans rfl, (p0 237 20 (by decide)).trans rfl, (p0 237 33 (by decide)).trans rfl, (p0 237 34 (by decide)).trans rfl, (p0 237 43 (by decide)).trans rfl, (p0 237 47 (by decide)).trans rfl, (p0 237 48 (by decide)).trans rfl, (p0 237 68 (by decide)).trans rfl, (p0 237 69 (by decide)).trans rfl, (p0 237 81 (by decide)).trans rfl, (p0 237 82 (by decide)).trans rfl, (p0 237 87 (by decide)).trans rfl, (p0 237 94 (by decide)).trans rfl, (p0 237 102 (by decide)).trans rfl, (p0 237 103 (by decide)).trans rfl, (p0 237 104 (by decide)).trans rfl, (p0 237 106 (by decide)).trans rfl, (p0 237 108 (by decide)).trans rfl, (p0 237 114 (by decide)).trans rfl, (p0 237 115 (by decide)).trans rfl, (p0 329 0 (by decide)).trans rfl, (p0 330 0 (by decide)).trans rfl, (p0 331 0 (by decide)).trans rfl, (p0 332 0 (by decide)).trans rfl, fun i i0 i1 => (g4 344 i (by omega)).trans ((g3 344 i (by omega)).trans ((g2 344 i (by omega)).trans (v1 i i0 i1))), fun i i0 i1 => (g4 337 i (by omega)).trans ((g3 337 i (by omega)).trans (v2 i i0 i1)), v4⟩
  · have := v3 i i0 i1
    rw [f14] at this
    exact ⟨(g4 340 i (by omega)).trans this.1, (g4 341 i (by omega)).trans this.2⟩
end W94
