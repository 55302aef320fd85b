/-! PART ez: values come to a thing of the class, one behind the other. -/
section Wez
variable {S Z A : wS} {fi : Int} {w n : Nat} {L : List aC} {T : List aO} {G : Int → aV}
/-- a value without a name comes to a thing; several come -/
def aAd (T : List aO) (n : Nat) (u : aV) : List aO := T.set n ((T.getD n (0, 0, 0, 0, 0, 0, [])).1, (T.getD n (0, 0, 0, 0, 0, 0, [])).2.1, (T.getD n (0, 0, 0, 0, 0, 0, [])).2.2.1, (T.getD n (0, 0, 0, 0, 0, 0, [])).2.2.2.1, (T.getD n (0, 0, 0, 0, 0, 0, [])).2.2.2.2.1, (T.getD n (0, 0, 0, 0, 0, 0, [])).2.2.2.2.2.1, (T.getD n (0, 0, 0, 0, 0, 0, [])).2.2.2.2.2.2 ++ [(-1, u)])
def aAL (n : Nat) : List aV → List aO → List aO
  | [], T => T
  | u :: l, T => aAL n l (aAd T n u)
/-- r values of the pile, from the i-th behind fi on, are added to the thing n -/
def avL (w : Nat) (n fi : Int) : Nat → Int → wS → wS → Prop
  | 0, _, S, Z => S = Z
  | r + 1, i, S, Z => ∃ A : wS, avH_ag n (S (w + 2) (fi + i)) (S (w + 3) (fi + i)) S A ∧ avL w n fi r (i + 1) A Z
theorem av_mo {k kd bt : Int} (h : avH_ag k kd bt S Z) (h0 : 0 ≤ S 134 k) : S 140 2 ≤ Z 140 2 ∧ 0 ≤ Z 134 k := by
  obtain ⟨⟨a1, -⟩, b, -⟩ := h
  refine ⟨?_, by omega⟩
  rcases b with (⟨-, -, -, z⟩ | ⟨-, -, -, -, z⟩) | ⟨-, -, z1, z⟩
  · omega
  · omega
  · rw [z, z1]; split <;> omega
theorem avL_mo {k : Int} : ∀ (r : Nat) (i : Int) (S : wS), avL w k fi r i S Z → 0 ≤ S 134 k → S 140 2 ≤ Z 140 2
  | 0, _, S, h, _ => by rw [show S = Z from h]; exact Int.le_refl _
  | r + 1, i, S, h, h0 => by
    obtain ⟨A, h1, h2⟩ := h
    have g := av_mo h1 h0
    exact Int.le_trans g.1 (avL_mo r (i + 1) A h2 g.2)
theorem cWd_aL (hw : w = 215 ∨ w = 226) : ∀ (us : List aV) (i : Int) (S : wS) (T : List aO), cWd S T L G → n < T.length → avL w (n : Int) fi us.length i S Z → (∀ k : Nat, k < us.length → cVl S (S (w + 2) (fi + i + (k : Int))) (S (w + 3) (fi + i + (k : Int))) (us.getD k (0, 0, []))) → Z 140 2 ≤ 240200 → cWd Z (aAL n us T) L G
  | [], i, S, T, hW, hn, h, _, _ => by
    have : S = Z := h
    rw [← this]; exact hW
  | u :: us, i, S, T, hW, hn, h, hv, hz => by
    have hg : wG = 1000000 := rfl
    obtain ⟨A, h1, h2⟩ := (show avL w (n : Int) fi (us.length + 1) i S Z from h)
    have h34 : 0 ≤ S 134 n := by have := (hW.1.2 n hn).2.1; omega
    have g := av_mo h1 h34
    have gz := avL_mo us.length (i + 1) A h2 g.2
    have v0 := hv 0 (Nat.zero_lt_succ _)
    rw [show fi + i + ((0 : Nat) : Int) = fi + i by omega] at v0
    have hA : cWd A (aAd T n u) L G := cWd_av hW h1 hn v0 (by omega)
    obtain ⟨-, -, -, -, -, -, fr, -, -⟩ := id h1
    have es : ∀ (j : Nat) (x : Int), (j < 72 ∨ 160 < j) → j < 237 → A j x = S j x := fun j x j0 j1 => fr j x (by omega) (by omega) (by omega) (by omega) (Or.inl (by omega)) (by omega) (by omega)
    refine cWd_aL hw us (i + 1) A (aAd T n u) hA (by unfold aAd; rw [List.length_set]; exact hn) h2 (fun k hk => ?_) hz
    have vk := hv (k + 1) (Nat.succ_lt_succ hk)
    rw [show fi + i + ((k + 1 : Nat) : Int) = fi + (i + 1) + (k : Int) by omega] at vk
    rw [es (w + 2) _ (by omega) (by omega), es (w + 3) _ (by omega) (by omega)]
    exact cVl_mo vk (cTx_of (es 2 1 (by decide) (by decide)) (fun x => es 3 x (by decide) (by decide)))
end Wez
