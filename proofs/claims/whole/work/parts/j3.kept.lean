/-! PART j3: what an aimed state keeps: of the class. -/
section Wj3
variable {S Y : wS} {K : aK} {T : List aO} {H : List aH} {L : List aC} {G : Int → aV} {s kd ec ba gk gb nm es nms lo hi : Int} {E : Int → List aE} {w : Nat}
theorem gI_eq (h : gI S) (f : ∀ k : Nat, Y k (-1) = S k (-1)) (f2 : ∀ x : Int, Y 238 x = S 238 x) (f3 : Y 14 5 = S 14 5) : gI Y := by
  obtain ⟨h1, h2, h3⟩ := h
  refine ⟨fun k q1 q2 => h1 k q1 (by rw [← f k]; exact q2), fun i hi => by rw [f2]; exact h2 i hi, by rw [f3]; exact h3⟩
theorem vsC_st (hw : w = 215 ∨ w = 226) (hs : 0 ≤ s) (hv : vsC w s kd ec ba gk gb nm es nms lo hi T H E S Y) (h : stC w S K) (hW : cWd S T L G) (hsw : cSw S T H) : stC w Y K ∧ cWd Y T L G ∧ cSw Y T H := by
  obtain ⟨-, -, -, -, f⟩ := hv
  obtain ⟨h1, ⟨hC, hI⟩, h3, h4, h5, h6, h7, h8, h9⟩ := h
  have fm : ∀ k : Nat, Y k (-1) = S k (-1) := fun k => f k (-1) (by unfold hdM; omega) (by omega) (by omega)
  have fp : ∀ (j : Nat) (x : Int), j ≠ 57 → j ≠ 42 → j ≠ 43 → j ≠ 44 → j ≠ 46 → j ≠ 19 → j ≠ 158 → (j ≠ w ∨ x ≠ 16) → Y j x = S j x := fun j x a1 a2 a3 a4 a5 a6 a7 a8 => f j x (by unfold hdM; omega) (by omega) a8
  have eT : cTx S Y := cTx_of (fp 2 1 (by first | decide | omega) (by first | decide | omega) (by first | decide | omega) (by first | decide | omega) (by first | decide | omega) (by first | decide | omega) (by first | decide | omega) (by omega)) (fun x => fp 3 x (by first | decide | omega) (by first | decide | omega) (by first | decide | omega) (by first | decide | omega) (by first | decide | omega) (by first | decide | omega) (by first | decide | omega) (by omega))
  refine ⟨⟨cTk_ag h1 eT (fun j x hj => fp j x (by omega) (by omega) (by omega) (by omega) (by omega) (by omega) (by omega) (by omega)), ⟨fun q hq => (fm q.1).trans (hC q hq), gI_eq hI fm (fun x => fp 238 x (by first | decide | omega) (by first | decide | omega) (by first | decide | omega) (by first | decide | omega) (by first | decide | omega) (by first | decide | omega) (by first | decide | omega) (by omega)) (fp 14 5 (by first | decide | omega) (by first | decide | omega) (by first | decide | omega) (by first | decide | omega) (by first | decide | omega) (by first | decide | omega) (by first | decide | omega) (by omega))⟩, h3, h4, ?_⟩, cWd_ag hW eT (fun j x hj => ?_), cSw_ag hsw (fun j x hj => fp j x (by omega) (by omega) (by omega) (by omega) (by omega) (by omega) (by omega) (by omega))⟩
  · rw [fp 27 _ (by first | decide | omega) (by first | decide | omega) (by first | decide | omega) (by first | decide | omega) (by first | decide | omega) (by first | decide | omega) (by first | decide | omega) (by omega), fm 31, fm 32, fm 33]
    exact ⟨h5, h6, h7, h8, h9⟩
  · unfold cWo at hj
    exact fp j x (by omega) (by omega) (by omega) (by omega) (by omega) (by omega) (by omega) (by omega)
end Wj3
