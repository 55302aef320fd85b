/-! PART nx: what holds of an empty machine; its code. -/
section Wnx
variable {S S0 Sb Z : wS} {p q : Nat} {HT : Int → Int} {cs : List hCR} {ms : List hMR} {os : Int → List Int} {N X : List (List Int)} {mo n B : Int} {A : aA} {c fa : Int → Int} {SF : Int → aV}
/-- static fields at first -/
def sfZ (ms : List hMR) (m : Int) : aV := (an_ft (hmR ms m).2.2.2.1, 0, [])
theorem sfZ_g {m : Int} : vG [] n (sfZ ms m) := by
  have h : an_ft (hmR ms m).2.2.2.1 = 0 ∨ an_ft (hmR ms m).2.2.2.1 = 1 ∨ an_ft (hmR ms m).2.2.2.1 = 2 := by
    unfold an_ft
    split
    · exact Or.inr (Or.inr rfl)
    · split
      · exact Or.inr (Or.inl rfl)
      · exact Or.inl rfl
  unfold vG vOk sfZ
  dsimp only
  refine ⟨⟨by omega, fun z => by omega, fun z => by omega, fun z => by omega, fun _ => rfl, fun _ => Or.inl rfl⟩, fun z => by omega, fun z => by omega, fun x hx => absurd hx List.not_mem_nil, Nat.zero_le _⟩
theorem cVl_s {m : Int} {k b : Int} (h1 : k = an_ft (hmR ms m).2.2.2.1) (h2 : b = 0) : cVl S k b (sfZ ms m) ∧ rVl S k b (sfZ ms m) := by
  have h : an_ft (hmR ms m).2.2.2.1 ≠ 3 := by
    unfold an_ft
    split
    · decide
    · split <;> decide
  exact ⟨⟨h1, fun _ => ⟨h2, rfl⟩, fun z => absurd z h⟩, ⟨h1, fun _ => ⟨h2, rfl⟩, fun z => absurd z h⟩⟩
theorem wf_0 (h47 : Z 237 47 = 0) (h16 : Z 237 16 = 0) (hB : 0 ≤ B ∧ B ≤ 600000) (hc : (0 ≤ c 0 ∧ c 0 ≤ 8000) ∧ (0 ≤ c 1 ∧ c 1 ≤ 60000) ∧ (0 ≤ c 2 ∧ c 2 ≤ 12000) ∧ (0 ≤ c 3 ∧ c 3 ≤ 200000) ∧ (0 ≤ c 4 ∧ c 4 ≤ 4000)) (h0 : ∀ i : Int, 5 ≤ i → c i = 0) : wfA Z fa ms n (WEs Z HT cs ms os) B (aZ c (sfZ ms)) := by
  have nk : ∀ {k : Int}, 0 ≤ k → k < ((([] : List aO).length : Nat) : Int) → False := fun a b => by
    have b2 : _ < ((0 : Nat) : Int) := b
    omega
  have n1 : ∀ {k : Int}, 0 ≤ k → k < ((([(-1, -1, -1, 0)] : List aH).length : Nat) : Int) → k = 0 := fun a b => by
    have b2 : _ < ((1 : Nat) : Int) := b
    omega
  have tk : wTk fa Z ([], [], [], 0, (0, 0, [])) := ⟨⟨Nat.zero_le _, Nat.zero_le _⟩, fun z => absurd z (by show ¬ (0 : Int) = 1; decide), fun f hf => absurd hf List.not_mem_nil⟩
  have kv : wKv [] n ([], [], [], 0, (0, 0, [])) := ⟨fun v hv => absurd hv List.not_mem_nil, fun v hv => absurd hv List.not_mem_nil, fun z => absurd z (by show ¬ ((0 : Int) = 2 ∨ (0 : Int) = 3); omega)⟩
  refine ⟨⟨tk, tk⟩, ⟨⟨rfl, ?_, fun k k0 k1 => ?_, fun k q hk hq _ _ _ => ?_⟩, fun k k0 k1 hb => ?_, fun k hk => absurd hk (Nat.not_lt_zero _), fun k hk => (nk hk.1.1 hk.1.2).elim, fun k k0 k1 => (nk k0 k1).elim, fun s s0 s1 => Or.inl ?_, fun k k0 k1 => (nk k0 k1).elim, fun _ => 0, fun k hk => (nk hk.1.1 hk.1.2).elim⟩, ⟨⟨kv, kv⟩, fun o ho => absurd ho List.not_mem_nil, fun o ho => absurd ho List.not_mem_nil, fun a ha => absurd rfl ha, fun m _ => sfZ_g⟩, ⟨fun _ => 0, ⟨fun k hk => absurd hk (Nat.not_lt_zero _), fun k k0 k1 => (nk k0 k1).elim⟩, fun f hf => absurd hf List.not_mem_nil, fun f hf => absurd hf List.not_mem_nil⟩, ⟨⟨?_, hc.1.2⟩, ⟨hc.2.1.1, hc.2.1.2, fun o ho => absurd ho List.not_mem_nil⟩, hc.2.2.1, hc.2.2.2.1, ⟨hc.2.2.2.2.1, hc.2.2.2.2.2, ?_⟩, ⟨?_, ?_, fun i i0 i1 => ?_⟩, fun s s0 s1 => ?_, fun k k0 k1 => (nk k0 k1).elim, hB⟩, ⟨⟨Nat.zero_le _, ?_, fun _ _ => rfl⟩, fun s s0 s1 => Or.inl ?_, Nat.zero_le _⟩, fun s s0 s1 => ?_, ⟨?_, List.nodup_nil⟩, fun k k0 k1 => (nk k0 k1).elim⟩
  · show ((1 : Nat) : Int) ≤ 4001; omega
  · have k2 : k < 1 := k1
    omega
  · have k2 : k < 1 := hk
    have q2 : q < 1 := hq
    omega
  · have e : k = 0 := n1 k0 k1
    rw [e] at hb
    exact absurd hb (by show ¬ (0 : Int) ≤ -1; decide)
  · have e : s = 0 := n1 s0 s1
    rw [e]; rfl
  · show ((0 : Nat) : Int) + ((0 : Nat) : Int) ≤ c 0
    omega
  · show ((1 : Nat) : Int) ≤ c 4 + 1
    omega
  · show 0 ≤ c 11 ∧ c 11 ≤ B
    rw [h0 11 (by first | decide | omega)]; omega
  · show 0 ≤ c 19 ∧ c 19 ≤ B
    rw [h0 19 (by first | decide | omega)]; omega
  · show 0 ≤ c i ∧ c i ≤ B
    rw [h0 i (by omega)]; omega
  · rw [h47] at s1; omega
  · rw [h16]; exact Int.le_refl _
  · have e : s = 0 := n1 s0 s1
    rw [e]; rfl
  · rw [h47] at s1; omega
  · show (0 : Int) ≤ c 21 + c 22
    rw [h0 21 (by first | decide | omega), h0 22 (by first | decide | omega)]; decide
/-- no code -/
theorem cK_0 (h : cK N X S) (hW : w2_I Z) (he : eC Z) (e3 : Z 3 = S 3 ∧ Z 4 = S 4 ∧ Z 5 = S 5) (e63 : Z 63 = S 63) (el : ∀ j : Nat, (31 ≤ j ∧ j ≤ 46) ∨ (58 ≤ j ∧ j ≤ 60) ∨ (63 ≤ j ∧ j ≤ 70) → Z j (-1) = S j (-1)) : cK [] [] Z := by
  obtain ⟨⟨-, r2, -⟩, ⟨n1, v1, l1⟩, l2, ⟨c1, c2, c3, c4, c5⟩, ⟨s1, s2, s3, s4, s5, s6, s7, s8⟩, -⟩ := h
  obtain ⟨⟨a1, a2, a3, a4⟩, ⟨⟨b1, b2, b3, b4, b5, b6, b7⟩, b8⟩, -⟩ := he
  refine ⟨⟨hW, ?_, ⟨a3, fun k hk => absurd hk (Nat.not_lt_zero _)⟩, ⟨a4, fun k hk => absurd hk (Nat.not_lt_zero _)⟩⟩, ⟨?_, ?_, ?_⟩, ?_, ?_, ⟨?_, ?_, ?_, ?_, ?_, ?_, ?_, ?_⟩, ?_⟩
  · unfold r2_I wqL at r2 ⊢
    rw [e3.1, e3.2.1, e3.2.2]
    exact r2
  · unfold nt_L at n1 ⊢
    rw [e63, el 64 (by omega), el 65 (by omega), el 66 (by omega), el 67 (by omega)]
    exact n1
  · unfold va_L at v1 ⊢
    rw [e63, el 68 (by omega), el 69 (by omega), el 70 (by omega)]
    exact v1
  · rw [el 64 (by omega)]; exact l1
  · rw [e3.1, e3.2.1]; exact l2
  · rw [el 31 (by omega), el 32 (by omega), el 33 (by omega), b3]
    exact ⟨c1, c2, c3, c4, by omega⟩
  · rw [b4]; decide
  · intro x hx
    rw [el (35 + x) (by omega), el 35 (by omega)]
    exact s2 x hx
  · rw [el 35 (by omega), b4]
    exact ⟨by omega, s3.2⟩
  · rw [el 34 (by omega)]; exact s4
  · rw [el 59 (by omega), el 58 (by omega)]; exact s5
  · rw [el 58 (by omega), b7]
    exact ⟨by omega, s6.2⟩
  · rw [el 60 (by omega)]; exact s7
  · rw [b4, b7]
    refine ⟨⟨by decide, by decide⟩, fun e e0 e1 => by omega, fun h h0 h1 => ?_, fun e e0 e1 => by omega, fun e e2 e0 e1 e3 => by omega, fun s s0 s1 => by omega, fun e e2 e0 e1 e3 e4 => by omega⟩
    rw [b8 h h0 h1]
    exact ⟨by decide, by decide, fun z => absurd z (by first | decide | omega)⟩
  · rw [b4, b7]
    exact ⟨rfl, fun s hs => by omega⟩
theorem mK_0 (he : eC Z) (ha : an_va Z) : mK Z ∧ mWf fa Z ∧ rD Z ∧ mN [] Z ∧ mX [] Z := by
  obtain ⟨-, ⟨⟨b1, b2, b3, b4, b5, b6, b7⟩, b8⟩, -⟩ := he
  obtain ⟨a16, a19, a20, a33, a34, a43, a47, a48, -⟩ := ha
  refine ⟨⟨⟨by omega, by omega, by omega⟩, ⟨by omega, by omega, by omega⟩, ⟨by omega, by omega, by omega⟩, ⟨by omega, by omega, by omega⟩, fun k k0 k1 => by omega, fun k k0 k1 => by omega, fun k k0 k1 => by omega, fun k k0 k1 => by omega⟩, ⟨fun g g0 g1 => by omega, fun g g0 g1 => by omega⟩, ?_, ⟨a16, Nat.zero_le _, fun k hk => absurd hk (Nat.not_lt_zero _)⟩, ⟨a19, Nat.zero_le _, a20, fun k hk => absurd hk (Nat.not_lt_zero _)⟩⟩
  unfold rD
  rw [a47, a48]
  exact ⟨⟨rfl, fun s hs => by omega⟩, fun a b x0 x1 => by omega, fun a x0 x1 => by omega, by decide, by decide⟩
end Wnx
