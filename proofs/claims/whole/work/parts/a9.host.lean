/-! PART a9: the tables at the beginning of a host's reading. -/
section Wa9
variable {xs : List (Nat × List Int32)} {M : Nat → Prop} {d : Nat} {A B C S Z S0 : wS} {Q : wO → wS → Prop} {T : Int → Int} {n : Int} {c i : Nat}
theorem FR_rfl (ho t0 sc : Nat) (S : wS) : FR ho t0 sc S S := ⟨fun _ _ _ _ _ _ _ _ _ => rfl, fun _ _ => rfl, fun _ _ _ => rfl, fun _ _ => rfl, fun _ _ _ => rfl, rmR_rfl S⟩
theorem wz_w : ∀ q ∈ wz_n, (q.1 < 74 ∨ 82 < q.1) ∧ (q.1 < 163 ∨ 171 < q.1) := by decide
theorem JT_0_73 (hA : zT A T n) (hn : n ≤ 65536) (hC : w_CL S) (hw : wd_at S 74 64) (hrw : rw_I S 74) (h7 : S 74 7 = 13) (h2 : S 73 2 = 0) (h4 : S 73 4 = 0) (h61 : S 61 1 = 73) (h14 : S 14 4 = 0) (hst : S 116 2 = 0 ∧ rw_S 116 117 118 S) (hr : rh_I 74 64 T n S Z c) : JT_73 A T n c [] [] (fun _ => []) Z ∧ cx_P T n c 0 Z := by
  obtain ⟨r1, r2, r3, r4, r5, r6, ⟨r7, r7w⟩, r8⟩ := hr
  have fr := r1.2.2.2.2.2.2.1
  have hzW := r1.2.2.2.2.2.2.2.1
  have hzL := r1.2.2.2.2.2.2.2.2.1
  have hzR := r1.2.2.2.2.2.2.2.2.2.1
  have hzI := r1.2.2.2.2.2.2.2.2.2.2.1
  have mo : S 74 7 ≤ Z 74 7 ∧ S 74 1 ≤ Z 74 1 ∧ S 14 3 ≤ Z 14 3 := r1.1
  have fx : ∀ (j : Nat) (y : Int), j < 388 → (j < 14 ∨ 18 < j) → (j < 74 ∨ 84 < j) → Z j y = S j y := fun j y e1 e2 e3 => fr j y (by omega) (by unfold wG; omega) (by omega) (by omega) (by omega)
  have hCz : w_CL Z := by
    intro y hy
    have hlt := wz_lt y hy
    by_cases h10 : y.1 = 84
    · have e1 : Z 84 (-1) = 64 := hzL.1
      have e2 : S 84 (-1) = 64 := cl_84 hC
      have e3 := hC y hy
      rw [h10] at e3 ⊢
      rw [e1, ← e3, e2]
    · by_cases h9 : y.1 < 74 ∨ 84 < y.1 ∨ y.1 = 83
      · exact (fr y.1 (-1) (by omega) (by unfold wG; omega) (by omega) (by omega) (by omega)).trans (hC y hy)
      · exfalso
        have := wz_w y hy
        omega
  have zst : Z 116 2 = 0 := (fx 116 2 (by decide) (by decide) (by decide)).trans hst.1
  have hrwz : rw_I Z 74 := fun k hk => wq_rx hw r1 ⟨by omega, by omega⟩ (hrw k hk)
  refine ⟨⟨⟨⟨(hq_o (by decide)).trans hA.1, (congrFun (hq_o (by decide)) 4).trans hA.2.1, (congrFun (hq_o (by decide)) 5).trans hA.2.2⟩, ⟨r2, r3, r4, r5, r6, hn, hzR⟩, hzI, hzW, hrwz, ⟨by omega, by omega⟩, ⟨?_, ?_, hCz, fun k q0 q1 => ?_⟩, ?_⟩, ⟨fun q q0 q1 => absurd q1 (by show ¬ q < ((0 : Nat) : Int); omega), ⟨by rw [zst]; exact Int.le_refl _, by rw [zst]; exact Int.le_refl _⟩, ?_, hzL⟩, fun q q0 q1 => absurd q1 (by show ¬ q < ((0 : Nat) : Int); omega), ⟨by decide, fun k r h => by cases h⟩, (fx 73 4 (by decide) (by decide) (by decide)).trans h4, fun k r h => (by cases h), fun r h => absurd h List.not_mem_nil, zst⟩, ⟨?_, ⟨by omega, fun k hk => absurd hk (Nat.not_lt_zero _)⟩⟩⟩
  · exact ((fx 73 2 (by decide) (by decide) (by decide)).trans h2).trans (if_pos ⟨rfl, rfl⟩).symm
  · rw [show hq_cn A 241 [] 241 1 = 0 from if_pos ⟨rfl, rfl⟩]; exact ⟨by decide, by decide⟩
  · rw [show hq_cn A 241 [] 241 1 = 0 from if_pos ⟨rfl, rfl⟩] at q1; omega
  · exact (fx 61 1 (by decide) (by decide) (by decide)).trans h61
  · unfold rw_S
    rw [fx 116 2 (by decide) (by decide) (by decide), fx 117 (-1) (by decide) (by decide) (by decide), fx 118 (-1) (by decide) (by decide) (by decide)]
    exact hst.2
  · exact (fr 14 4 (by decide) (by decide) (by omega) (by omega) (by omega)).trans h14
theorem JT_0_162 (hA : zT A T n) (hn : n ≤ 65536) (hC : w_CL S) (hw : wd_at S 163 64) (hrw : rw_I S 163) (h7 : S 163 7 = 13) (h2 : S 162 2 = 0) (h4 : S 162 4 = 0) (h61 : S 61 1 = 162) (h14 : S 14 4 = 0) (hst : S 205 2 = 0 ∧ rw_S 205 206 207 S) (hr : rh_I 163 64 T n S Z c) : JT_162 A T n c [] [] (fun _ => []) Z ∧ cx_P T n c 0 Z := by
  obtain ⟨r1, r2, r3, r4, r5, r6, ⟨r7, r7w⟩, r8⟩ := hr
  have fr := r1.2.2.2.2.2.2.1
  have hzW := r1.2.2.2.2.2.2.2.1
  have hzL := r1.2.2.2.2.2.2.2.2.1
  have hzR := r1.2.2.2.2.2.2.2.2.2.1
  have hzI := r1.2.2.2.2.2.2.2.2.2.2.1
  have mo : S 163 7 ≤ Z 163 7 ∧ S 163 1 ≤ Z 163 1 ∧ S 14 3 ≤ Z 14 3 := r1.1
  have fx : ∀ (j : Nat) (y : Int), j < 388 → (j < 14 ∨ 18 < j) → (j < 163 ∨ 173 < j) → Z j y = S j y := fun j y e1 e2 e3 => fr j y (by omega) (by unfold wG; omega) (by omega) (by omega) (by omega)
  have hCz : w_CL Z := by
    intro y hy
    have hlt := wz_lt y hy
    by_cases h10 : y.1 = 173
    · have e1 : Z 173 (-1) = 64 := hzL.1
      have e2 : S 173 (-1) = 64 := cl_173 hC
      have e3 := hC y hy
      rw [h10] at e3 ⊢
      rw [e1, ← e3, e2]
    · by_cases h9 : y.1 < 163 ∨ 173 < y.1 ∨ y.1 = 172
      · exact (fr y.1 (-1) (by omega) (by unfold wG; omega) (by omega) (by omega) (by omega)).trans (hC y hy)
      · exfalso
        have := wz_w y hy
        omega
  have zst : Z 205 2 = 0 := (fx 205 2 (by decide) (by decide) (by decide)).trans hst.1
  have hrwz : rw_I Z 163 := fun k hk => wq_rx hw r1 ⟨by omega, by omega⟩ (hrw k hk)
  refine ⟨⟨⟨⟨(hq_o (by decide)).trans hA.1, (congrFun (hq_o (by decide)) 4).trans hA.2.1, (congrFun (hq_o (by decide)) 5).trans hA.2.2⟩, ⟨r2, r3, r4, r5, r6, hn, hzR⟩, hzI, hzW, hrwz, ⟨by omega, by omega⟩, ⟨?_, ?_, hCz, fun k q0 q1 => ?_⟩, ?_⟩, ⟨fun q q0 q1 => absurd q1 (by show ¬ q < ((0 : Nat) : Int); omega), ⟨by rw [zst]; exact Int.le_refl _, by rw [zst]; exact Int.le_refl _⟩, ?_, hzL⟩, fun q q0 q1 => absurd q1 (by show ¬ q < ((0 : Nat) : Int); omega), ⟨by decide, fun k r h => by cases h⟩, (fx 162 4 (by decide) (by decide) (by decide)).trans h4, fun k r h => (by cases h), fun r h => absurd h List.not_mem_nil, zst⟩, ⟨?_, ⟨by omega, fun k hk => absurd hk (Nat.not_lt_zero _)⟩⟩⟩
  · exact ((fx 162 2 (by decide) (by decide) (by decide)).trans h2).trans (if_pos ⟨rfl, rfl⟩).symm
  · rw [show hq_cn A 261 [] 261 1 = 0 from if_pos ⟨rfl, rfl⟩]; exact ⟨by decide, by decide⟩
  · rw [show hq_cn A 261 [] 261 1 = 0 from if_pos ⟨rfl, rfl⟩] at q1; omega
  · exact (fx 61 1 (by decide) (by decide) (by decide)).trans h61
  · unfold rw_S
    rw [fx 205 2 (by decide) (by decide) (by decide), fx 206 (-1) (by decide) (by decide) (by decide), fx 207 (-1) (by decide) (by decide) (by decide)]
    exact hst.2
  · exact (fr 14 4 (by decide) (by decide) (by omega) (by omega) (by omega)).trans h14
end Wa9
