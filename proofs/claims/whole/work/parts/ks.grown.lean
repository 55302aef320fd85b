/-! PART ks: words and names stay what they are when bytes are put behind them. -/
section Wks
variable {S Z : wS} {N X : List (List Int)}
theorem wd_gr {H used used2 plen plen2 cnt cap : Int} {P P2 ST SZ NX HD : Int → Int} (h : wd_I H P ST SZ NX HD used plen cnt cap) (hu : used ≤ used2 ∧ used2 ≤ plen2) (hP : ∀ i : Int, 0 ≤ i → i < used → P2 i = P i) : wd_I H P2 ST SZ NX HD used2 plen2 cnt cap := by
  obtain ⟨a1, a2, a3, a4, a5, a6⟩ := h
  have q : ∀ k : Int, 0 ≤ k → k < cnt → ∀ i : Nat, i < (SZ k).toNat → P2 (ST k + (i : Int)) = P (ST k + (i : Int)) := fun k k0 k1 i hi => by
    have z := a3 k k0 k1
    exact hP _ (by omega) (by omega)
  have e : ∀ k : Int, 0 ≤ k → k < cnt → hs H P2 ST SZ k = hs H P ST SZ k := fun k k0 k1 => by
    unfold hs
    exact hd_of_cg (q k k0 k1)
  refine ⟨a1, ⟨by omega, hu.2⟩, fun k k0 k1 => ?_, fun x x0 x1 => ?_, fun k hk => ?_, fun k j k0 k1 j0 j1 w => a6 k j k0 k1 j0 j1 ?_⟩
  · have z := a3 k k0 k1
    exact ⟨z.1, z.2.1, z.2.2.1, by omega⟩
  · refine (a4 x x0 x1).trans (wl_cg _ (fun i hi => (e i (by omega) (by omega)).symm))
  · rw [a5 k hk, e k (by omega) hk]
    exact wl_cg _ (fun i hi => (e i (by omega) (by omega)).symm)
  · refine ⟨w.1, fun i hi => ?_⟩
    have z := w.2 i hi
    rw [q j j0 j1 i hi, q k k0 k1 i (by rw [w.1]; exact hi)] at z
    exact z
theorem wqL_gr {x : List Int} {k : Int} (h : wqL S x k) (h4 : Z 4 k = S 4 k ∧ Z 5 k = S 5 k) (hb : 0 ≤ S 4 k ∧ S 4 k + S 5 k ≤ S 2 1) (hP : ∀ i : Int, 0 ≤ i → i < S 2 1 → Z 3 i = S 3 i) : wqL Z x k := by
  refine ⟨h4.2.trans h.1, fun i hi => ?_⟩
  have z := h.1
  rw [h4.1, hP _ (by omega) (by omega)]
  exact h.2 i hi
/-- the names, the texts and the reader's table, when bytes are put behind the words -/
theorem cNt_g (h : cNt N X S) (f : ∀ (j : Nat) (x : Int), j < 19 → j ≠ 3 → ¬ (j = 2 ∧ x = 1) → Z j x = S j x) (h1 : S 2 1 ≤ Z 2 1 ∧ Z 2 1 ≤ Z 3 (-1)) (h3 : S 3 (-1) ≤ Z 3 (-1)) (hP : ∀ i : Int, 0 ≤ i → i < S 2 1 → Z 3 i = S 3 i) (hb : Z 2 1 ≤ 5000000 ∧ Z 3 (-1) ≤ 10000000) : cNt N X Z := by
  obtain ⟨⟨⟨⟨a1, a2, a3, a4, a5, a6, a7⟩, b1, b2, b3⟩, c1⟩, d1, d2, d3, d4⟩ := h
  have er : ∀ j : Nat, j < 19 → j ≠ 3 → j ≠ 2 → Z j = S j := fun j hj h3 h2 => funext fun x => f j x hj h3 (fun z => h2 z.1)
  have a8 := a1.2.2.1
  have w4 : ∀ k : Int, Z 4 k = S 4 k ∧ Z 5 k = S 5 k := fun k => ⟨f 4 k (by first | decide | omega) (by first | decide | omega) (by omega), f 5 k (by first | decide | omega) (by first | decide | omega) (by omega)⟩
  have g7 : Z 2 7 = S 2 7 := f 2 7 (by first | decide | omega) (by first | decide | omega) (by omega)
  have g10 : Z 2 10 = S 2 10 := f 2 10 (by first | decide | omega) (by first | decide | omega) (by omega)
  have g12 : Z 2 12 = S 2 12 := f 2 12 (by first | decide | omega) (by first | decide | omega) (by omega)
  have wq : ∀ (x : List Int) (k : Int), 0 ≤ k → k < S 2 7 → wqL S x k → wqL Z x k := fun x k k0 k1 hw => by
    have z := a8 k k0 k1
    exact wqL_gr hw (w4 k) ⟨z.1, z.2.2.2⟩ hP
  refine ⟨⟨⟨⟨?_, ?_, ?_, ?_, ?_, ?_, ?_⟩, ?_, ?_, ?_⟩, ?_⟩, ?_⟩
  · unfold wd_at
    rw [er (2 + 2) (by first | decide | omega) (by first | decide | omega) (by first | decide | omega), er (2 + 3) (by first | decide | omega) (by first | decide | omega) (by first | decide | omega), er (2 + 4) (by first | decide | omega) (by first | decide | omega) (by first | decide | omega), er (2 + 10) (by first | decide | omega) (by first | decide | omega) (by first | decide | omega), g7]
    exact wd_gr a1 h1 hP
  · unfold wd_L at a2 ⊢
    rw [er (2 + 10) (by first | decide | omega) (by first | decide | omega) (by first | decide | omega), er (2 + 3) (by first | decide | omega) (by first | decide | omega) (by first | decide | omega), er (2 + 2) (by first | decide | omega) (by first | decide | omega) (by first | decide | omega), er (2 + 4) (by first | decide | omega) (by first | decide | omega) (by first | decide | omega), er (2 + 5) (by first | decide | omega) (by first | decide | omega) (by first | decide | omega), er (2 + 6) (by first | decide | omega) (by first | decide | omega) (by first | decide | omega)]
    have z1 : 1024 ≤ S 3 (-1) := a2.2.2.2.2.2.2.1
    refine ⟨a2.1, a2.2.1, a2.2.2.1, a2.2.2.2.1, a2.2.2.2.2.1, a2.2.2.2.2.2.1, ?_, a2.2.2.2.2.2.2.2.1, ?_⟩
    · show 1024 ≤ Z 3 (-1)
      omega
    · show Z 3 (-1) ≤ 2147483647
      omega
  · unfold wv_L at a3 ⊢
    rw [er (2 + 5) (by first | decide | omega) (by first | decide | omega) (by first | decide | omega), er (2 + 6) (by first | decide | omega) (by first | decide | omega) (by first | decide | omega), er (2 + 7) (by first | decide | omega) (by first | decide | omega) (by first | decide | omega), er (2 + 8) (by first | decide | omega) (by first | decide | omega) (by first | decide | omega), g7, g10, g12]
    exact a3
  · rw [f 2 14 (by first | decide | omega) (by first | decide | omega) (by omega), f 2 15 (by first | decide | omega) (by first | decide | omega) (by omega)]
    exact a4
  · rw [g7]
    exact ⟨a5.1, by omega⟩
  · rw [er 11 (by first | decide | omega) (by first | decide | omega) (by first | decide | omega)]
    exact a6
  · intro k k0 k1
    rw [(w4 k).1, (w4 k).2]
    exact a7 k k0 k1
  · intro k hk
    exact wq _ _ (by omega) (by omega) (b1 k hk)
  · refine ⟨g10.trans b2.1, fun k hk => ?_⟩
    have z := b2.2 k hk
    rw [er 9 (by first | decide | omega) (by first | decide | omega) (by first | decide | omega), g7]
    exact ⟨z.1, wq _ _ z.1.1 z.1.2 z.2⟩
  · refine ⟨g12.trans b3.1, fun k hk => ?_⟩
    have z := b3.2 k hk
    rw [er 10 (by first | decide | omega) (by first | decide | omega) (by first | decide | omega), g7]
    exact ⟨z.1, wq _ _ z.1.1 z.1.2 z.2⟩
  · unfold rd_L at c1 ⊢
    rw [er 14 (by first | decide | omega) (by first | decide | omega) (by first | decide | omega), er 15 (by first | decide | omega) (by first | decide | omega) (by first | decide | omega), er 16 (by first | decide | omega) (by first | decide | omega) (by first | decide | omega), er 17 (by first | decide | omega) (by first | decide | omega) (by first | decide | omega)]
    exact c1
  · rw [g7, er 4 (by first | decide | omega) (by first | decide | omega) (by first | decide | omega)]
    exact ⟨d1, hb.1, d3, hb.2⟩
end Wks
