/-! PART f0: values come to a thing of the reference, one behind the other. -/
section Wf0
variable {S Z A : wS} {fr : Int} {n : Nat} {L : List aC} {T : List aO} {G : Int → aV} {sl : Nat → List Int}
def asL (n fr : Int) : Nat → Int → wS → wS → Prop
  | 0, _, S, Z => S = Z
  | r + 1, i, S, Z => ∃ A : wS, as_f n (-1) (S 363 (fr + i)) (S 364 (fr + i)) (S 237 82) (S 317 n) (S 318 n) S A ∧ asL n fr r (i + 1) A Z
theorem rWd_aL : ∀ (us : List aV) (i : Int) (S : wS) (T : List aO) (sl : Nat → List Int), rWd S sl T L G → n < T.length → 0 ≤ S 237 82 → asL (n : Int) fr us.length i S Z → (∀ k : Nat, k < us.length → rVl S (S 363 (fr + i + (k : Int))) (S 364 (fr + i + (k : Int))) (us.getD k (0, 0, []))) → ∃ sl2 : Nat → List Int, rWd Z sl2 (aAL n us T) L G
  | [], i, S, T, sl, hW, hn, _, h, _ => by
    have : S = Z := h
    rw [← this]; exact ⟨sl, hW⟩
  | u :: us, i, S, T, sl, hW, hn, h0, h, hv => by
    obtain ⟨A, h1, h2⟩ := (show asL (n : Int) fr (us.length + 1) i S Z from h)
    have v0 := hv 0 (Nat.zero_lt_succ _)
    rw [show fr + i + ((0 : Nat) : Int) = fr + i by omega] at v0
    have hA : rWd A (aSa sl n (S 237 82)) (aAd T n u) L G := rWd_as hW hn rfl rfl rfl h1 h0 v0
    obtain ⟨⟨a1, -⟩, -, -, fm⟩ := id h1
    have es : ∀ (j : Nat) (x : Int), j ≠ 237 → (j < 314 ∨ 328 < j) → A j x = S j x := fun j x j0 j1 => fm j x (Or.inl j0) (Or.inl (by omega)) (Or.inl (by omega)) (Or.inl (by omega))
    have tx : rTx S A := rTx_of (fm 237 19 (by decide) (Or.inl (by decide)) (Or.inl (by decide)) (Or.inl (by decide))) (fm 237 102 (by decide) (Or.inl (by decide)) (Or.inl (by decide)) (Or.inl (by decide))) (fun j x j0 j1 => es j x (by omega) (by omega))
    refine rWd_aL us (i + 1) A (aAd T n u) (aSa sl n (S 237 82)) hA (by unfold aAd; rw [List.length_set]; exact hn) (by omega) h2 (fun k hk => ?_)
    have vk := hv (k + 1) (Nat.succ_lt_succ hk)
    rw [show fr + i + ((k + 1 : Nat) : Int) = fr + (i + 1) + (k : Int) by omega] at vk
    rw [es 363 _ (by decide) (by decide), es 364 _ (by decide) (by decide)]
    exact rVl_mo vk tx
end Wf0
