/-! PART kda: what a step in the world may change, mask by mask. -/
section Wkda
variable {j : Nat} {x : Int}
theorem mw1 (h : 127 ≤ j ∧ j ≤ 136) : mWd j x := Or.inl h
theorem mw2 (h : j = 138 ∨ j = 139 ∨ j = 141 ∨ j = 142) : mWd j x := h.elim (fun h => Or.inr (Or.inl h)) (fun h => h.elim (fun h => Or.inr (Or.inr (Or.inl h))) (fun h => h.elim (fun h => Or.inr (Or.inr (Or.inr (Or.inl h)))) (fun h => Or.inr (Or.inr (Or.inr (Or.inr (Or.inl h)))))))
theorem mw3 (h : 144 ≤ j ∧ j ≤ 149) : mWd j x := Or.inr (Or.inr (Or.inr (Or.inr (Or.inr (Or.inl h)))))
theorem mw4 (h : j = 72 ∧ (x = 3 ∨ x = 5 ∨ x = 8 ∨ x = 11)) : mWd j x := Or.inr (Or.inr (Or.inr (Or.inr (Or.inr (Or.inr (Or.inl h))))))
theorem mw5 (h : j = 140 ∧ x = 2) : mWd j x := Or.inr (Or.inr (Or.inr (Or.inr (Or.inr (Or.inr (Or.inr (Or.inl h)))))))
theorem mw6 (h : j = 150 ∧ 0 ≤ x ∧ x < 5) : mWd j x := Or.inr (Or.inr (Or.inr (Or.inr (Or.inr (Or.inr (Or.inr (Or.inr (Or.inl h))))))))
theorem mw7 (h : j = 153 ∧ x = 2) : mWd j x := Or.inr (Or.inr (Or.inr (Or.inr (Or.inr (Or.inr (Or.inr (Or.inr (Or.inr (Or.inl h)))))))))
theorem mw8 (h : j = 154) : mWd j x := Or.inr (Or.inr (Or.inr (Or.inr (Or.inr (Or.inr (Or.inr (Or.inr (Or.inr (Or.inr (Or.inl h))))))))))
theorem mw9 (h : j = 155) : mWd j x := Or.inr (Or.inr (Or.inr (Or.inr (Or.inr (Or.inr (Or.inr (Or.inr (Or.inr (Or.inr (Or.inr (Or.inl h)))))))))))
theorem mw10 (h : j = 156 ∧ 0 ≤ x) : mWd j x := Or.inr (Or.inr (Or.inr (Or.inr (Or.inr (Or.inr (Or.inr (Or.inr (Or.inr (Or.inr (Or.inr (Or.inr h)))))))))))
theorem mw_k (h : cMk j x) : mWd j x := by
  rcases h with h | h | h | h | h | h
  · exact mw1 h
  · exact mw2 (Or.inr (Or.inr (Or.inl h)))
  · exact mw2 (Or.inr (Or.inr (Or.inr h)))
  · exact mw4 ⟨h.1, Or.inl h.2⟩
  · exact mw5 h
  · exact mw6 ⟨h.1, by omega, by omega⟩
theorem mw_l (h : cMl j x) : mWd j x := h.elim mw_k (fun h => mw6 ⟨h.1, by omega, by omega⟩)
theorem mw_i (h : cMi j x) : mWd j x := h.elim mw_k (fun h => mw6 ⟨h.1, by omega, by omega⟩)
theorem mw_b (h : cMb j x) : mWd j x := by
  rcases h with h | h | h | h
  · exact mw_k h
  · exact mw3 h
  · exact mw4 ⟨h.1, by omega⟩
  · exact mw6 ⟨h.1, by omega, by omega⟩
theorem mw_c (h : cMc j x) : mWd j x := by
  rcases h with h | h | h | h | h | h | h
  · exact mw2 (Or.inl h)
  · exact mw2 (Or.inr (Or.inl h))
  · exact mw2 (Or.inr (Or.inr (Or.inl h)))
  · exact mw2 (Or.inr (Or.inr (Or.inr h)))
  · exact mw4 ⟨h.1, by omega⟩
  · exact mw5 h
  · exact mw6 ⟨h.1, by omega, by omega⟩
theorem mw_w (h : cMw j x) : mWd j x := h.elim mw_b mw_c
theorem mw_t (h : cMt j x) : mWd j x := by
  rcases h with h | h | h | h | h | h
  · exact mw3 h
  · exact mw4 ⟨h.1, by omega⟩
  · exact mw6 ⟨h.1, by omega, by omega⟩
  · exact mw10 h
  · exact mw1 (by omega)
  · exact mw1 (by omega)
theorem mw_d (h : cMd j x) : mWd j x := by
  rcases h with h | h | h | h
  · exact mw_t h
  · exact mw1 (by omega)
  · exact mw2 (Or.inr (Or.inr (Or.inl h)))
  · exact mw2 (Or.inr (Or.inr (Or.inr h)))
theorem mw_v (h : cMv j x) : mWd j x := mw2 (Or.inr (Or.inr h.1))
theorem mw_s (h : cMs j x) : mWd j x := mw1 (by unfold cMs at h; omega)
theorem mw_e (h : cMe j x) : mWd j x := by
  rcases h with h | h | h | h | h
  · exact mw2 (Or.inr (Or.inr (Or.inl h)))
  · exact mw2 (Or.inr (Or.inr (Or.inr h)))
  · exact mw1 (by omega)
  · exact mw5 h
  · exact mw6 ⟨h.1, by omega, by omega⟩
theorem mw_a (h : cMa j x) : mWd j x := by
  rcases h with h | h | h | h | h | h
  · exact mw2 (Or.inr (Or.inr (Or.inl h)))
  · exact mw2 (Or.inr (Or.inr (Or.inr h)))
  · exact mw1 (by omega)
  · exact mw5 h
  · exact mw6 ⟨h.1, by omega, by omega⟩
  · exact mw4 ⟨h.1, by omega⟩
theorem mw_2 (h : j = 141 ∨ j = 142) : mWd j x := mw2 (Or.inr (Or.inr h))
theorem mw_g (h : (j = 153 ∧ x = 2) ∨ j = 154 ∨ j = 155) : mWd j x := by
  rcases h with h | h | h
  · exact mw7 h
  · exact mw8 h
  · exact mw9 h
end Wkda
