/-! PART aq: the words of the language while a program is read. -/
section Waq
variable {xs : List (Nat × List Int32)} {M : Nat → Prop} {d : Nat} {A B C S Z : wS} {Q : wO → wS → Prop} {T : Int → Int} {n : Int}
/-- words, names, texts and tokens may have come -/
def rp_ag (S Z : wS) : Prop :=
  (S 2 7 ≤ Z 2 7 ∧ S 2 1 ≤ Z 2 1 ∧ S 14 3 ≤ Z 14 3 ∧ S 2 10 ≤ Z 2 10 ∧ S 2 12 ≤ Z 2 12) ∧
  (∀ k : Int, 0 ≤ k → k < S 2 7 → Z 4 k = S 4 k ∧ Z 5 k = S 5 k) ∧
  (∀ i : Int, 0 ≤ i → i < S 2 1 → Z 3 i = S 3 i) ∧
  (∀ i : Int, 0 ≤ i → i < S 2 10 → Z 9 i = S 9 i) ∧
  (∀ i : Int, 0 ≤ i → i < S 2 12 → Z 10 i = S 10 i) ∧
  (∀ i : Int, 0 ≤ i → i < S 14 3 → Z 15 i = S 15 i ∧ Z 16 i = S 16 i ∧ Z 17 i = S 17 i) ∧
  ((Z 4 (-1) ≤ S 4 (-1) ∨ Z 4 (-1) ≤ 2 * Z 2 7) ∧ (Z 3 (-1) ≤ S 3 (-1) ∨ Z 3 (-1) ≤ 2 * Z 2 1) ∧ (Z 15 (-1) ≤ S 15 (-1) ∨ Z 15 (-1) ≤ 2 * Z 14 3)) ∧
  (∀ (j : Nat) (i : Int), j < 4000000 → j ≠ wG → (j = 0 ∨ j = 1 ∨ j = 11 ∨ j = 13 ∨ (j = 14 ∧ i ≠ 3) ∨ 18 < j ∨ (j = 18 ∧ i < 0) ∨ (j = 2 ∧ i ≠ 1 ∧ i ≠ 7 ∧ i ≠ 10 ∧ i ≠ 12)) → Z j i = S j i) ∧
  wd_at Z 2 1024 ∧ wd_L Z 2 1024 ∧ wv_L Z 2 ∧ rd_L Z ∧ gI Z ∧ rmR S Z
theorem rp_rfl (h1 : wd_at S 2 1024) (h2 : wd_L S 2 1024) (h3 : wv_L S 2) (h4 : rd_L S) (h5 : gI S) : rp_ag S S := ⟨⟨by omega, by omega, by omega, by omega, by omega⟩, fun _ _ _ => ⟨rfl, rfl⟩, fun _ _ _ => rfl, fun _ _ _ => rfl, fun _ _ _ => rfl, fun _ _ _ => ⟨rfl, rfl, rfl⟩, ⟨by omega, by omega, by omega⟩, fun _ _ _ _ _ => rfl, h1, h2, h3, h4, h5, rmR_rfl S⟩
theorem rp_tr (h0 : 0 ≤ A 2 7 ∧ 0 ≤ A 2 1 ∧ 0 ≤ A 14 3 ∧ 0 ≤ A 2 10 ∧ 0 ≤ A 2 12) (h : rp_ag A B) (k : rp_ag B C) : rp_ag A C := by
  obtain ⟨⟨a1, a2, a3, a4, a5⟩, h2, h3, h4, h5, h6, h7, h8, h9, h10, h11, h12, h13, h14⟩ := h
  obtain ⟨⟨b1, b2, b3, b4, b5⟩, k2, k3, k4, k5, k6, k7, k8, k9, k10, k11, k12, k13, k14⟩ := k
  refine ⟨⟨by omega, by omega, by omega, by omega, by omega⟩, fun x x0 x1 => ?_, fun i i0 i1 => (k3 i i0 (by omega)).trans (h3 i i0 i1), fun i i0 i1 => (k4 i i0 (by omega)).trans (h4 i i0 i1), fun i i0 i1 => (k5 i i0 (by omega)).trans (h5 i i0 i1), fun i i0 i1 => ?_, ⟨by omega, by omega, by omega⟩, fun j i e1 e2 e3 => (k8 j i e1 e2 e3).trans (h8 j i e1 e2 e3), k9, k10, k11, k12, k13, rmR_tr h14 k14⟩
  · exact ⟨(k2 x x0 (by omega)).1.trans (h2 x x0 x1).1, (k2 x x0 (by omega)).2.trans (h2 x x0 x1).2⟩
  · obtain ⟨p1, p2, p3⟩ := h6 i i0 i1
    obtain ⟨q1, q2, q3⟩ := k6 i i0 (by omega)
    exact ⟨q1.trans p1, q2.trans p2, q3.trans p3⟩
theorem rp_ad {k p v : Int} (h1 : wd_at S 2 1024) (h2 : wd_L S 2 1024) (hv : wv_L S 2) (h3 : rd_L S) (hb : S 14 3 ≤ 500000) (g : ad_ag S Z k p v) : rp_ag S Z := by
  have h3z := rd_L_ad h3 g hb
  obtain ⟨g1, g2, g3, g4, ⟨g5, g6, g7, g8⟩, g9, g10⟩ := g
  have hG : ∀ j : Nat, j < 300 → j ≠ wG := fun j hj => by unfold wG; omega
  have e : ∀ j : Nat, j < 14 → Z j = S j := fun j hj => funext fun i => g4 j i (by omega) (hG _ (by omega)) (by omega) (by omega) (by omega) (by omega)
  refine ⟨⟨by rw [e 2 (by decide)]; omega, by rw [e 2 (by decide)]; omega, by omega, by rw [e 2 (by decide)]; omega, by rw [e 2 (by decide)]; omega⟩, fun x _ _ => ⟨by rw [e 4 (by decide)], by rw [e 5 (by decide)]⟩, fun i _ _ => by rw [e 3 (by decide)], fun i _ _ => by rw [e 9 (by decide)], fun i _ _ => by rw [e 10 (by decide)], g3, ⟨Or.inl (by rw [e 4 (by decide)]; omega), Or.inl (by rw [e 3 (by decide)]; omega), by omega⟩, fun j i e1 e2 e3 => g4 j i e1 e2 (by omega) (by omega) (by omega) (by omega), ?_, ?_, ?_, h3z, g9, g10⟩
  · unfold wd_at; rw [e (2 + 1) (by decide), e (2 + 2) (by decide), e (2 + 3) (by decide), e (2 + 4) (by decide), e (2 + 10) (by decide), e 2 (by decide)]; exact h1
  · unfold wd_L; rw [e (2 + 1) (by decide), e (2 + 2) (by decide), e (2 + 3) (by decide), e (2 + 4) (by decide), e (2 + 5) (by decide), e (2 + 6) (by decide), e (2 + 10) (by decide)]; exact h2
  · unfold wv_L; rw [e (2 + 5) (by decide), e (2 + 6) (by decide), e (2 + 7) (by decide), e (2 + 8) (by decide), e 2 (by decide)]; exact hv
theorem wv_new {NO NM NO2 : Int → Int} {nc cnt : Int} (h : wv_I NO NM nc cnt) (h0 : 0 ≤ cnt) (e : ∀ k : Int, 0 ≤ k → k < cnt → NO2 k = NO k) (en : NO2 cnt = -1) : wv_I NO2 NM nc (cnt + 1) := by
  obtain ⟨h1, h2, h3⟩ := h
  refine ⟨h1, fun m m0 m1 => ?_, fun k k0 k1 => ?_⟩
  · obtain ⟨a, b, c⟩ := h2 m m0 m1
    exact ⟨a, by omega, (e _ a b).trans c⟩
  · by_cases hk : k = cnt
    · rw [hk]; exact Or.inl en
    · rw [e k k0 (by omega)]; exact h3 k k0 (by omega)
theorem wv_nam {NO NM NO2 NM2 : Int → Int} {nc cnt k : Int} (h : wv_I NO NM nc cnt) (hk : 0 ≤ k ∧ k < cnt) (hn : NO k = -1) (e1 : NO2 k = nc) (e2 : NM2 nc = k) (e3 : ∀ i : Int, i ≠ k → 0 ≤ i → NO2 i = NO i) (e4 : ∀ i : Int, 0 ≤ i → i < nc → NM2 i = NM i) : wv_I NO2 NM2 (nc + 1) cnt := by
  obtain ⟨h1, h2, h3⟩ := h
  refine ⟨by omega, fun m m0 m1 => ?_, fun x x0 x1 => ?_⟩
  · by_cases hm : m = nc
    · rw [hm, e2]; exact ⟨hk.1, hk.2, e1⟩
    · obtain ⟨a, b, c⟩ := h2 m m0 (by omega)
      rw [e4 m m0 (by omega)]
      refine ⟨a, b, ?_⟩
      rw [e3 _ (fun q => by rw [q, hn] at c; omega) a]; exact c
  · by_cases hx : x = k
    · rw [hx, e1, e2]; exact Or.inr ⟨h1, by omega, rfl⟩
    · rw [e3 x hx x0]
      rcases h3 x x0 x1 with q | ⟨q1, q2, q3⟩
      · exact Or.inl q
      · exact Or.inr ⟨q1, by omega, by rw [e4 _ q1 q2]; exact q3⟩
theorem rp_wn {b : Nat} {a0 m : Int} (h1 : wd_at S 2 1024) (h2 : wd_L S 2 1024) (hv : wv_L S 2) (h3 : rd_L S) (hb : S 2 7 ≤ 500000 ∧ S 2 1 ≤ 5000000) (hm : 0 ≤ m ∧ m ≤ 60) (g : wn_ag 2 b 1024 a0 m S Z) (hz : wd_at Z 2 1024) : rp_ag S Z := by
  obtain ⟨⟨g1, g2⟩, g3, ⟨g4, g5, g6, g7, g8⟩, ⟨g9, g10⟩, g11, g12, g13, ⟨g14, g15, g16, g17, g18, g19⟩, ⟨g20, g21, g22⟩, g23, g24⟩ := g
  have hG : ∀ j : Nat, j < 300 → j ≠ wG := fun j hj => by unfold wG; omega
  have e : ∀ (j : Nat) (i : Int), j < 300 → (j < 2 ∨ 12 < j ∨ j = 9 ∨ j = 10 ∨ j = 11) → Z j i = S j i := fun j i hj hk => g13 j i (by omega) (hG j (by omega)) (by omega)
  have e2 : ∀ i : Int, i ≠ 1 → i ≠ 7 → Z 2 i = S 2 i := fun i q1 q2 => g13 2 i (by decide) (by decide) (by omega)
  have hd0 : (-1 : Int) ≠ hd_of (S b) a0 m 1024 := by
    intro q
    have : 0 ≤ hd_of (S b) a0 m 1024 := (hd_rg (Or.inr rfl)).1
    omega
  have c0 : 0 ≤ S 2 7 := h1.1.1
  obtain ⟨l1, l2, l3, l4, l5, l6, l7, l8, l9⟩ := h2
  have l6 : 64 ≤ S 4 (-1) := l6
  have l7 : 1024 ≤ S 3 (-1) := l7
  have l8 : S 4 (-1) ≤ 2147483647 := l8
  have l9 : S 3 (-1) ≤ 2147483647 := l9
  have g19 : Z 4 (-1) = S 4 (-1) ∨ (S 2 7 = S 4 (-1) ∧ Z 4 (-1) = 2 * S 2 7) := g19
  have g20 : S 2 1 + m ≤ Z 3 (-1) := g20
  have g21 : S 3 (-1) ≤ Z 3 (-1) := g21
  have g22 : Z 3 (-1) = S 3 (-1) ∨ Z 3 (-1) ≤ 2 * (S 2 1 + m) := g22
  refine ⟨⟨by omega, by omega, by rw [e 14 3 (by decide) (by decide)]; omega, by rw [e2 10 (by decide) (by decide)]; omega, by rw [e2 12 (by decide) (by decide)]; omega⟩, fun x x0 x1 => ⟨(g3 x x0 x1).1, (g3 x x0 x1).2.1⟩, g11, fun i _ _ => e 9 i (by decide) (by decide), fun i _ _ => e 10 i (by decide) (by decide), fun i _ _ => ⟨e 15 i (by decide) (by decide), e 16 i (by decide) (by decide), e 17 i (by decide) (by decide)⟩, ⟨by omega, by omega, by rw [e 15 (-1) (by decide) (by decide)]; omega⟩, fun j i e1 e3 e4 => g13 j i e1 e3 (by omega), hz, ⟨?_, g14, g15, g16, g17, ?_, ?_, ?_, ?_⟩, ?_, ?_, g23, g24⟩
  · rw [g10 (-1) hd0]; exact l1
  · show 64 ≤ Z 4 (-1); omega
  · show 1024 ≤ Z 3 (-1); omega
  · show Z 4 (-1) ≤ 2147483647; omega
  · show Z 3 (-1) ≤ 2147483647; omega
  · obtain ⟨v1, v2, v3, v4, v5, v6, v7, v8⟩ := hv
    unfold wv_L
    rw [show Z (2 + 7) = S (2 + 7) from funext fun i => e 9 i (by decide) (by decide), show Z (2 + 8) = S (2 + 8) from funext fun i => e 10 i (by decide) (by decide), e2 10 (by decide) (by decide), e2 12 (by decide) (by decide), g2]
    exact ⟨wv_new v1 c0 (fun k k0 k1 => (g3 k k0 k1).2.2.2.1) g7, wv_new v2 c0 (fun k k0 k1 => (g3 k k0 k1).2.2.2.2) g8, v3, v4, v5, v6, v7, v8⟩
  · unfold rd_L; rw [e 14 3 (by decide) (by decide), e 15 (-1) (by decide) (by decide), e 16 (-1) (by decide) (by decide), e 17 (-1) (by decide) (by decide)]; exact h3
theorem rp_nf {k : Int} (h1 : wd_at S 2 1024) (h2 : wd_L S 2 1024) (hv : wv_L S 2) (h3 : rd_L S) (hk : (0 ≤ k ∧ k < S 2 7) ∧ S 7 k = -1 ∧ S 2 10 < 4000) (g : nf_ag 7 9 10 k S Z) : rp_ag S Z := by
  obtain ⟨⟨g1, g2, g3⟩, g4, g5, g6, g7, g8⟩ := g
  have hG : ∀ j : Nat, j < 300 → j ≠ wG := fun j hj => by unfold wG; omega
  have e : ∀ j : Nat, j < 300 → j ≠ 9 → j ≠ 7 → j ≠ 2 → Z j = S j := fun j hj q1 q2 q3 => funext fun i => g6 j i (by omega) (hG j hj) q1 (by omega) (by omega)
  have e2 : ∀ i : Int, i ≠ 10 → Z 2 i = S 2 i := fun i q => g6 2 i (by decide) (by decide) (by decide) (by omega) (by omega)
  have en : ∀ i : Int, i ≠ k → Z 7 i = S 7 i := fun i q => g6 7 i (by decide) (by decide) (by decide) (by omega) (by omega)
  obtain ⟨v1, v2, v3, v4, v5, v6, v7, v8⟩ := hv
  have v3 : S 2 10 ≤ S 9 (-1) := v3
  have v4 : S 2 12 ≤ S 10 (-1) := v4
  have v5 : 64 ≤ S 9 (-1) ∧ S 9 (-1) ≤ 8192 := v5
  have v6 : 64 ≤ S 10 (-1) ∧ S 10 (-1) ≤ 8192 := v6
  refine ⟨⟨by rw [e2 7 (by decide)]; omega, by rw [e2 1 (by decide)]; omega, by rw [e 14 (by decide) (by decide) (by decide) (by decide)]; omega, ?_, ?_⟩, fun x _ _ => ⟨by rw [e 4 (by decide) (by decide) (by decide) (by decide)], by rw [e 5 (by decide) (by decide) (by decide) (by decide)]⟩, fun i _ _ => by rw [e 3 (by decide) (by decide) (by decide) (by decide)], ?_, ?_, fun i _ _ => ⟨by rw [e 15 (by decide) (by decide) (by decide) (by decide)], by rw [e 16 (by decide) (by decide) (by decide) (by decide)], by rw [e 17 (by decide) (by decide) (by decide) (by decide)]⟩, ⟨Or.inl (by rw [e 4 (by decide) (by decide) (by decide) (by decide)]; omega), Or.inl (by rw [e 3 (by decide) (by decide) (by decide) (by decide)]; omega), Or.inl (by rw [e 15 (by decide) (by decide) (by decide) (by decide)]; omega)⟩, fun j i q1 q2 q3 => g6 j i q1 q2 (by omega) (by omega) (by omega), ?_, ?_, ?_, ?_, g7, g8⟩
  · omega
  · rw [e2 12 (by decide)]; omega
  · exact g4
  · exact fun i _ _ => by rw [e 10 (by decide) (by decide) (by decide) (by decide)]
  · unfold wd_at; rw [e (2 + 1) (by decide) (by decide) (by decide) (by decide), e (2 + 2) (by decide) (by decide) (by decide) (by decide), e (2 + 3) (by decide) (by decide) (by decide) (by decide), e (2 + 4) (by decide) (by decide) (by decide) (by decide), e (2 + 10) (by decide) (by decide) (by decide) (by decide), e2 1 (by decide), e2 7 (by decide)]; exact h1
  · unfold wd_L; rw [e (2 + 1) (by decide) (by decide) (by decide) (by decide), e (2 + 2) (by decide) (by decide) (by decide) (by decide), e (2 + 3) (by decide) (by decide) (by decide) (by decide), e (2 + 4) (by decide) (by decide) (by decide) (by decide), e (2 + 10) (by decide) (by decide) (by decide) (by decide), show Z (2 + 6) = S (2 + 6) from e 8 (by decide) (by decide) (by decide) (by decide), show Z (2 + 5) (-1) = S (2 + 5) (-1) from en (-1) (by omega)]; exact h2
  · unfold wv_L
    rw [show Z (2 + 6) = S (2 + 6) from e 8 (by decide) (by decide) (by decide) (by decide), show Z (2 + 8) = S (2 + 8) from e 10 (by decide) (by decide) (by decide) (by decide), e2 12 (by decide), e2 7 (by decide), g3]
    refine ⟨wv_nam v1 hk.1 hk.2.1 g1 g2 (fun i q _ => en i q) g4, v2, ?_, v4, ?_, v6, by omega, v8⟩
    · show S 2 10 + 1 ≤ Z 9 (-1); omega
    · show 64 ≤ Z 9 (-1) ∧ Z 9 (-1) ≤ 8192; omega
  · unfold rd_L; rw [e 14 (by decide) (by decide) (by decide) (by decide), e 15 (by decide) (by decide) (by decide) (by decide), e 16 (by decide) (by decide) (by decide) (by decide), e 17 (by decide) (by decide) (by decide) (by decide)]; exact h3
theorem rp_tf {k : Int} (h1 : wd_at S 2 1024) (h2 : wd_L S 2 1024) (hv : wv_L S 2) (h3 : rd_L S) (hk : (0 ≤ k ∧ k < S 2 7) ∧ S 8 k = -1 ∧ S 2 12 < 4000) (g : nf_ag 8 10 12 k S Z) : rp_ag S Z := by
  obtain ⟨⟨g1, g2, g3⟩, g4, g5, g6, g7, g8⟩ := g
  have hG : ∀ j : Nat, j < 300 → j ≠ wG := fun j hj => by unfold wG; omega
  have e : ∀ j : Nat, j < 300 → j ≠ 10 → j ≠ 8 → j ≠ 2 → Z j = S j := fun j hj q1 q2 q3 => funext fun i => g6 j i (by omega) (hG j hj) q1 (by omega) (by omega)
  have e2 : ∀ i : Int, i ≠ 12 → Z 2 i = S 2 i := fun i q => g6 2 i (by decide) (by decide) (by decide) (by omega) (by omega)
  have en : ∀ i : Int, i ≠ k → Z 8 i = S 8 i := fun i q => g6 8 i (by decide) (by decide) (by decide) (by omega) (by omega)
  obtain ⟨v1, v2, v3, v4, v5, v6, v7, v8⟩ := hv
  have v3 : S 2 10 ≤ S 9 (-1) := v3
  have v4 : S 2 12 ≤ S 10 (-1) := v4
  have v5 : 64 ≤ S 9 (-1) ∧ S 9 (-1) ≤ 8192 := v5
  have v6 : 64 ≤ S 10 (-1) ∧ S 10 (-1) ≤ 8192 := v6
  refine ⟨⟨by rw [e2 7 (by decide)]; omega, by rw [e2 1 (by decide)]; omega, by rw [e 14 (by decide) (by decide) (by decide) (by decide)]; omega, ?_, ?_⟩, fun x _ _ => ⟨by rw [e 4 (by decide) (by decide) (by decide) (by decide)], by rw [e 5 (by decide) (by decide) (by decide) (by decide)]⟩, fun i _ _ => by rw [e 3 (by decide) (by decide) (by decide) (by decide)], ?_, ?_, fun i _ _ => ⟨by rw [e 15 (by decide) (by decide) (by decide) (by decide)], by rw [e 16 (by decide) (by decide) (by decide) (by decide)], by rw [e 17 (by decide) (by decide) (by decide) (by decide)]⟩, ⟨Or.inl (by rw [e 4 (by decide) (by decide) (by decide) (by decide)]; omega), Or.inl (by rw [e 3 (by decide) (by decide) (by decide) (by decide)]; omega), Or.inl (by rw [e 15 (by decide) (by decide) (by decide) (by decide)]; omega)⟩, fun j i q1 q2 q3 => g6 j i q1 q2 (by omega) (by omega) (by omega), ?_, ?_, ?_, ?_, g7, g8⟩
  · rw [e2 10 (by decide)]; omega
  · omega
  · exact fun i _ _ => by rw [e 9 (by decide) (by decide) (by decide) (by decide)]
  · exact g4
  · unfold wd_at; rw [e (2 + 1) (by decide) (by decide) (by decide) (by decide), e (2 + 2) (by decide) (by decide) (by decide) (by decide), e (2 + 3) (by decide) (by decide) (by decide) (by decide), e (2 + 4) (by decide) (by decide) (by decide) (by decide), e (2 + 10) (by decide) (by decide) (by decide) (by decide), e2 1 (by decide), e2 7 (by decide)]; exact h1
  · unfold wd_L; rw [e (2 + 1) (by decide) (by decide) (by decide) (by decide), e (2 + 2) (by decide) (by decide) (by decide) (by decide), e (2 + 3) (by decide) (by decide) (by decide) (by decide), e (2 + 4) (by decide) (by decide) (by decide) (by decide), e (2 + 10) (by decide) (by decide) (by decide) (by decide), show Z (2 + 5) = S (2 + 5) from e 7 (by decide) (by decide) (by decide) (by decide), show Z (2 + 6) (-1) = S (2 + 6) (-1) from en (-1) (by omega)]; exact h2
  · unfold wv_L
    rw [show Z (2 + 5) = S (2 + 5) from e 7 (by decide) (by decide) (by decide) (by decide), show Z (2 + 7) = S (2 + 7) from e 9 (by decide) (by decide) (by decide) (by decide), e2 10 (by decide), e2 7 (by decide), g3]
    refine ⟨v1, wv_nam v2 hk.1 hk.2.1 g1 g2 (fun i q _ => en i q) g4, v3, ?_, v5, ?_, v7, by omega⟩
    · show S 2 12 + 1 ≤ Z 10 (-1); omega
    · show 64 ≤ Z 10 (-1) ∧ Z 10 (-1) ≤ 8192; omega
  · unfold rd_L; rw [e 14 (by decide) (by decide) (by decide) (by decide), e 15 (by decide) (by decide) (by decide) (by decide), e 16 (by decide) (by decide) (by decide) (by decide), e 17 (by decide) (by decide) (by decide) (by decide)]; exact h3
theorem wq_rp {a m k : Int} {g : Int → Int} (h1 : wd_at S 2 1024) (h : rp_ag S Z) (hk : 0 ≤ k ∧ k < S 2 7) (hq : wq (S 3) (S 4) (S 5) g a m k) : wq (Z 3) (Z 4) (Z 5) g a m k := by
  obtain ⟨-, h2, h3, -⟩ := h
  obtain ⟨a1, a2⟩ := h2 k hk.1 hk.2
  have w3 : 0 ≤ S 4 k ∧ 0 ≤ S 5 k ∧ S 4 k + S 5 k ≤ S 2 1 := by
    have := h1.2.2.1 k hk.1 hk.2
    simp only [Nat.reduceAdd] at this
    omega
  have e := hq.1
  refine ⟨a2.trans hq.1, fun i hi => ?_⟩
  rw [a1, h3 _ (by omega) (by omega)]
  exact hq.2 i hi
theorem rd_B_rp (h : rd_B T n S) (g : rp_ag S Z) : rd_B T n Z := by
  obtain ⟨h1, h2, h3, h4, h5, h6, h7⟩ := h
  have e := g.2.2.2.2.2.2.2.1
  have e1 : ∀ i : Int, Z 1 i = S 1 i := fun i => e 1 i (by decide) (by decide) (by omega)
  refine ⟨(e 14 5 (by decide) (by decide) (by omega)).trans h1, (e 14 6 (by decide) (by decide) (by omega)).trans h2, h3, by rw [e1]; exact h4, by rw [e1]; exact h5, fun i a b => (e1 i).trans (h6 i a b), h7⟩
end Waq
