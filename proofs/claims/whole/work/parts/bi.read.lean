/-! PART bi: what Reader.read leaves for readUnit. -/
section Wbi
variable {xs : List (Nat × List Int32)} {M : Nat → Prop} {d : Nat} {A B C S Z : wS} {Q : wO → wS → Prop} {T : Int → Int} {n : Int} {N X : List (List Int)} {c i : Nat} {f u w : Int} {I : List pz_I} {F : List pz_F}
theorem wz_lo : ∀ q ∈ wz_n, q.1 = 11 ∨ q.1 = 12 ∨ q.1 = 18 ∨ 18 < q.1 := by decide +kernel
theorem cQ0_r (hq : rq_I T n N X A Z c) (hn : n ≤ 8176) (h4 : A 14 4 = 0) (hC : w_CL A) (hN : nt_L A) (h63 : A 63 7 = 0 ∧ A 63 8 = 0 ∧ A 63 10 = 0 ∧ A 63 13 = 0 ∧ A 63 15 = 0) (h19 : A 19 1 = f ∧ (0 ≤ f ∧ f ≤ 400) ∧ 0 ≤ A 19 3 ∧ A 19 3 ≤ 1000) (hV : va_L A) (h64 : A 64 (-1) ≤ 16383) (h12 : Z 12 (-1) = A 12 (-1)) : cQ0 T n N X c f Z := by
  obtain ⟨hr, a1, a2, a3, a4, a5, -⟩ := hq
  have fr := hr.2.2.2.2.2.2.2.1
  have rd := hr.2.2.2.2.2.2.2.2.2.2.2.1
  have gi := hr.2.2.2.2.2.2.2.2.2.2.2.2.1
  have e : ∀ (j : Nat) (x : Int), 18 < j → j < 100 → Z j x = A j x := fun j x h1 h2 => fr j x (by omega) (by have : wG = 1000000 := rfl; omega) (by omega)
  have q63 : ∀ x : Int, Z 63 x = A 63 x := fun x => e 63 x (by decide) (by decide)
  have q64 : Z 64 = A 64 := funext fun x => e 64 x (by decide) (by decide)
  have q65 : Z 65 = A 65 := funext fun x => e 65 x (by decide) (by decide)
  have q66 : Z 66 = A 66 := funext fun x => e 66 x (by decide) (by decide)
  have q67 : Z 67 = A 67 := funext fun x => e 67 x (by decide) (by decide)
  refine ⟨⟨⟨a1, a2, a3, a4, a5, hn, rd⟩, ⟨(fr 14 4 (by decide) (by decide) (by omega)).trans h4, Nat.zero_le _, fun k hk => absurd hk (Nat.not_lt_zero _)⟩⟩, ⟨gi, fun q hq => ?_⟩, ⟨?_, (q63 7).trans h63.1, (q63 8).trans h63.2.1⟩, ⟨(e 19 1 (by decide) (by decide)).trans h19.1, (q63 10).trans h63.2.2.1, h19.2.1, by rw [e 19 3 (by decide) (by decide)]; exact h19.2.2⟩, ⟨?_, (q63 13).trans h63.2.2.2.1⟩, by rw [q64]; exact h64, (q63 15).trans h63.2.2.2.2⟩
  · have hb := wz_ub q hq
    have h0 := hC q hq
    have key : Z q.1 (-1) = A q.1 (-1) := by
      rcases wz_lo q hq with h1 | h1 | h1 | h1
      · exact fr q.1 (-1) hb.1 hb.2 (by omega)
      · rw [h1]; exact h12
      · exact fr q.1 (-1) hb.1 hb.2 (by omega)
      · exact fr q.1 (-1) hb.1 hb.2 (by omega)
    exact key.trans h0
  · unfold nt_L
    rw [q63 7, q64, q65, q66, q67]
    exact hN
  · unfold va_L
    rw [q63 13, e 68 (-1) (by decide) (by decide), e 69 (-1) (by decide) (by decide), e 70 (-1) (by decide) (by decide)]
    exact hV
end Wbi
