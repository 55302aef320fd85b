/-! PART nw: a machine that is empty. -/
section Wnw
variable {S S0 Sb Z : wS} {p q : Nat} {HT : Int → Int} {cs : List hCR} {ms : List hMR} {os : Int → List Int} {X : List (List Int)} {mo : Int} {A : aA} {c : Int → Int} {SF : Int → aV}
/-- nothing has been made; c: counters that go on, SF: static fields -/
def aZ (c : Int → Int) (SF : Int → aV) : aA := (fun _ => ([], [], [], 0, (0, 0, [])), ([], [], fun _ => (-1, 0, []), [(-1, -1, -1, 0)]), ([], fun _ => []), ([], [], SF), ([], 0), c, fun _ _ => 0)
/-- lengths of the class's rows -/
def lC (S : wS) : Prop := ((S 218 (-1) = S 217 (-1) ∧ 64 ≤ S 217 (-1) ∧ S 217 (-1) ≤ 4095) ∧ 48 ≤ S 225 (-1) ∧ S 225 (-1) ≤ 60000) ∧ ((S 229 (-1) = S 228 (-1) ∧ 64 ≤ S 228 (-1) ∧ S 228 (-1) ≤ 4095) ∧ 48 ≤ S 236 (-1) ∧ S 236 (-1) ≤ 60000) ∧ ((S 139 (-1) = S 138 (-1) ∧ 64 ≤ S 138 (-1) ∧ S 138 (-1) ≤ 16383) ∧ S 142 (-1) = S 141 (-1) ∧ 16 ≤ S 141 (-1) ∧ S 141 (-1) ≤ 480400) ∧ ((∀ x : Nat, x < 10 → S (127 + x) (-1) = S 127 (-1)) ∧ 64 ≤ S 127 (-1) ∧ S 127 (-1) ≤ 16383) ∧ (16 ≤ S 154 (-1) ∧ S 154 (-1) ≤ 8191 ∧ S 155 (-1) = S 154 (-1)) ∧ ((∀ x : Nat, x < 5 → S (144 + x) (-1) = S 144 (-1)) ∧ 64 ≤ S 144 (-1) ∧ S 144 (-1) ≤ 8191) ∧ ((∀ x : Nat, x < 12 → S (35 + x) (-1) = S 35 (-1)) ∧ 0 ≤ S 35 (-1) ∧ S 35 (-1) ≤ 8191 ∧ (∀ x : Nat, x < 10 → S (48 + x) (-1) = S 48 (-1)) ∧ 16 ≤ S 48 (-1) ∧ S 48 (-1) ≤ 32767) ∧ (16 ≤ S 151 (-1) ∧ S 151 (-1) ≤ 131072) ∧ (16 ≤ S 152 (-1) ∧ S 152 (-1) ≤ 262143) ∧ S 3 (-1) ≤ 1048575 ∧ S 4 (-1) ≤ 32767
def lCd (j : Nat) : Prop := j = 3 ∨ j = 4 ∨ (35 ≤ j ∧ j ≤ 57) ∨ (127 ≤ j ∧ j ≤ 160) ∨ (215 ≤ j ∧ j ≤ 236)
theorem lC_of (h : cRel S0 p HT cs ms os X mo A S) : lC S := by
  obtain ⟨-, ⟨⟨t1, -, t2, -⟩, ⟨u1, -, u2, -⟩⟩, ⟨⟨-, -, -, w1, w2, w3⟩, ⟨-, w4, -⟩, -⟩, -, ⟨ix, fl, ow, s1, -⟩, ⟨o1, o2⟩, -, n1, -⟩ := h
  have a1 := t1.2.2.2
  have a2 := u1.2.2.2
  have a3 := n1.2.1.2
  unfold cPl at a3
  obtain ⟨e1, e2, e3, e4⟩ := w1
  obtain ⟨l1, l2, l3, l4⟩ := s1
  exact ⟨⟨a1, t2.2.2.1, t2.2.2.2.1⟩, ⟨a2, u2.2.2.1, u2.2.2.2.1⟩, ⟨⟨e1.1, e1.2.2⟩, e2, e4⟩, ⟨w2.1, w2.2.2⟩, ⟨w3.1.2.2.1, w3.1.2.2.2.1, w3.1.2.2.2.2⟩, ⟨w4.1, w4.2.2⟩, ⟨l1, by omega, l2.2.2.2, l3, l4.2.2⟩, ⟨o1.2.2.1.2.1, o1.2.2.1.2.2⟩, o2.2.2.2, a3.1.2.2, a3.2.2⟩
theorem lC_ag (h : lC S) (e : ∀ j : Nat, lCd j → Z j (-1) = S j (-1)) : lC Z := by
  obtain ⟨h1, h2, h3, h4, h5, h6, h7, h8, h9, h10⟩ := h
  have f : ∀ j : Nat, lCd j → Z j (-1) = S j (-1) := e
  unfold lCd at f
  unfold lC
  rw [f 218 (by omega), f 217 (by omega), f 225 (by omega), f 229 (by omega), f 228 (by omega), f 236 (by omega), f 139 (by omega), f 138 (by omega), f 142 (by omega), f 141 (by omega), f 127 (by omega), f 154 (by omega), f 155 (by omega), f 144 (by omega), f 35 (by omega), f 48 (by omega), f 151 (by omega), f 152 (by omega), f 3 (by omega), f 4 (by omega)]
  exact ⟨h1, h2, h3, ⟨fun x hx => by rw [f (127 + x) (by omega)]; exact h4.1 x hx, h4.2⟩, h5, ⟨fun x hx => by rw [f (144 + x) (by omega)]; exact h6.1 x hx, h6.2⟩, ⟨fun x hx => by rw [f (35 + x) (by omega)]; exact h7.1 x hx, h7.2.1, h7.2.2.1, fun x hx => by rw [f (48 + x) (by omega)]; exact h7.2.2.2.1 x hx, h7.2.2.2.2⟩, h8, h9, h10⟩
/-- what a cleared class holds -/
def eC (Z : wS) : Prop := (Z 2 1 = 133 ∧ Z 2 7 = 33 ∧ Z 2 10 = 0 ∧ Z 2 12 = 0) ∧ ((Z 19 1 = 0 ∧ Z 19 3 = 0 ∧ Z 19 7 = 0 ∧ Z 19 9 = 0 ∧ Z 19 11 = 1 ∧ Z 19 12 = -1 ∧ Z 19 16 = 0) ∧ ∀ k : Int, 0 ≤ k → k < 256 → Z 60 k = 0) ∧ ((Z 72 3 = 0 ∧ Z 72 5 = 0 ∧ Z 72 8 = 1 ∧ Z 72 11 = 0 ∧ Z 72 13 = 0 ∧ Z 72 15 = 0) ∧ (Z 140 2 = 0 ∧ Z 153 2 = 0 ∧ Z 144 0 = -1 ∧ Z 145 0 = 0 ∧ Z 146 0 = -1 ∧ Z 147 0 = -1) ∧ ∀ k : Int, 0 ≤ k → k < 1024 → Z 149 k = 0) ∧ ((Z 158 19 = 0 ∧ Z 158 14 = 0) ∧ ∀ k : Int, 0 ≤ k → k < 4 → Z 160 k = 0) ∧ (Z 215 13 = 0 ∧ Z 215 4 = 0 ∧ Z 215 12 = 0 ∧ Z 216 2 = 0) ∧ (Z 226 13 = 0 ∧ Z 226 4 = 0 ∧ Z 226 12 = 0 ∧ Z 227 2 = 0)
theorem eC_of (h : cl_V p q S Z) (h6 : S 60 (-1) = 256) (h1 : S 160 (-1) = 4) : eC Z := by
  obtain ⟨-, ⟨a1, -⟩, ⟨a2, a3⟩, ⟨-, a4⟩, ⟨a5, a6⟩, a7⟩ := h
  rw [h6] at a3
  rw [h1] at a6
  exact ⟨a1, ⟨a2, a3⟩, a4, ⟨a5, a6⟩, a7⟩
theorem pV_e (he : eC Z) (h3 : 0 ≤ Z 150 3) : pV Z = 133 := by
  obtain ⟨⟨a1, a2, a3, a4⟩, -⟩ := he
  unfold pV
  rw [a1, a2, a3]
  omega
theorem cRel_0 (hC : w_CL Z) (hI : gI Z) (hl : lC Z) (he : eC Z) (hN : cN [] [] Z) (hd : rd_L Z) (hch : cCh q (q + 48) (q + 47) (q + 1) HT cs ms os [] 0 mo Z) (hst : cStc (q + 24) (q + 44) ms SF Z) (h5 : ∀ i : Nat, i < 5 → Z 150 (i : Int) = c (i : Int) ∧ 0 ≤ c (i : Int)) (h0 : ∀ i : Int, 5 ≤ i → c i = 0) : cRel Z q HT cs ms os [] mo (aZ c SF) Z := by
  have he0 := he
  obtain ⟨⟨a1, a2, a3, a4⟩, ⟨⟨b1, b2, b3, b4, b5, b6, b7⟩, b8⟩, ⟨⟨d1, d2, d3, d4, d5, d6⟩, ⟨d7, d8, d9, d10, d11, d12⟩, d13⟩, ⟨⟨f1, f2⟩, f3⟩, ⟨g1, g2, g3, g4⟩, ⟨g5, g6, g7, g8⟩⟩ := he
  obtain ⟨l1, l2, l3, l4, l5, l6, l7, l8, l9, l10, l11⟩ := hl
  have c1 := h5 1 (by first | decide | omega)
  have c3 := h5 3 (by first | decide | omega)
  have c3' : 0 ≤ Z 150 3 := by rw [show Z 150 3 = c 3 from c3.1]; exact c3.2
  have pv := pV_e he0 c3'
  have tk : ∀ w : Nat, (Z (w + 1) 2 = 0 ∧ Z w 4 = 0 ∧ Z w 12 = 0 ∧ Z w 13 = 0) → (Z (w + 3) (-1) = Z (w + 2) (-1) ∧ 64 ≤ Z (w + 2) (-1) ∧ Z (w + 2) (-1) ≤ 4095) → (48 ≤ Z (w + 10) (-1) ∧ Z (w + 10) (-1) ≤ 60000) → cTk w Z ([], [], [], 0, (0, 0, [])) := fun w u v x => by
    refine ⟨⟨u.1, fun i hi => absurd hi (Nat.not_lt_zero _), ?_, v⟩, ⟨u.2.1, by decide, fun i hi => absurd hi (Nat.not_lt_zero _)⟩, ⟨u.2.2.1, ?_, x.1, x.2, fun i hi => absurd hi (Nat.not_lt_zero _)⟩, u.2.2.2, fun z => absurd z (by show ¬ ((0 : Int) = 2 ∨ (0 : Int) = 3); omega)⟩
    · show (0 : Int) ≤ _; omega
    · show 3 * (0 : Int) ≤ _; omega
  refine ⟨⟨hC, hI, rmR_rfl Z⟩, ⟨tk 215 ⟨g4, g2, g3, g1⟩ l1.1 l1.2, tk 226 ⟨g8, g6, g7, g5⟩ l2.1 l2.2⟩, ⟨⟨⟨d1, fun k hk => absurd hk (Nat.not_lt_zero _)⟩, ⟨d2, fun k hk => absurd hk (Nat.not_lt_zero _)⟩, ⟨fun k _ hk => absurd hk (Nat.not_lt_zero _), fun k _ hk => absurd hk (Nat.not_lt_zero _), fun k _ hk => absurd hk (Nat.not_lt_zero _)⟩, ⟨⟨l3.1.1, ?_, l3.1.2⟩, l3.2.1, ?_, l3.2.2⟩, ⟨l4.1, ?_, l4.2⟩, ⟨⟨?_, ?_, l5⟩, ?_, fun _ _ => rfl⟩⟩, ⟨⟨d3, Nat.one_pos, ?_⟩, ⟨l6.1, ?_, l6.2⟩, ?_, fun k k0 k1 => absurd k1 (by show ¬ k < ((0 : Nat) : Int); omega)⟩, ?_⟩, ⟨⟨hN, hd⟩, ?_, ?_, ?_, ?_⟩, ?_, ⟨⟨d5, fun k hk => absurd hk (Nat.not_lt_zero _), ⟨?_, l8⟩, show ((0 : Nat) : Int) ≤ 65536 by omega⟩, ⟨d6, fun k hk => absurd hk (Nat.not_lt_zero _), ⟨?_, show ((0 : Nat) : Int) ≤ 100000 by omega⟩, l9⟩⟩, ⟨hch, hst⟩, ⟨fun i hi => (h5 i hi).1, ⟨?_, ?_⟩, ?_, ?_, ?_⟩, fun _ _ _ => rfl⟩
  · show (0 : Int) ≤ _; omega
  · rw [d7]; omega
  · show (0 : Int) ≤ _; omega
  · rw [d8]; omega
  · rw [d8]; omega
  · intro a a0 a9
    rw [d8] at a9
    omega
  · intro k hk
    have e : k = 0 := by
      have : k < 1 := hk
      omega
    rw [e]
    exact ⟨d9, d12, d11, d10⟩
  · show (1 : Int) ≤ _; omega
  · refine ⟨fun x x0 x1 => ?_, fun s s0 s1 hs => ?_, fun k k0 k1 hs => ?_⟩
    · rw [d13 x x0 (by omega)]
      exact ⟨⟨Int.le_refl _, show (0 : Int) ≤ ((1 : Nat) : Int) by omega⟩, fun z => absurd z (by show ¬ (0 : Int) < 0; omega)⟩
    · have e : s = 0 := by
        have : s < 1 := s1
        omega
      rw [e, d12] at hs
      omega
    · have e : k = 0 := by
        have : k < 1 := k1
        omega
      rw [e, d12] at hs
      omega
  · unfold cPo
    rw [d7, d1, show Z 150 1 = c 1 from c1.1]
    show (0 : Int) + 0 ≤ 4 * c 1
    have : 0 ≤ c 1 := c1.2
    omega
  · rw [a2]; decide
  · rw [a1]; decide
  · omega
  · omega
  · refine ⟨fun _ => [], [], fun _ => -2, ⟨l7.1, ⟨by omega, by omega, by omega, l7.2.2.1⟩, l7.2.2.2.1, by omega, by omega, l7.2.2.2.2⟩, fun s s0 s1 => ?_, ⟨b6, List.nodup_nil, fun x hx => absurd hx List.not_mem_nil⟩, ⟨by omega, by omega, rfl⟩, ?_⟩
    · rw [b4] at s1; omega
    · rw [b5, b4]; rfl
  · show (0 : Int) ≤ _; omega
  · show (0 : Int) ≤ _; omega
  · exact d4.trans (h0 11 (by first | decide | omega)).symm
  · show cPl (pV Z) (c 3) [] Z
    rw [pv]
    refine ⟨⟨by decide, ?_, l10⟩, ?_, l11⟩
    · rw [a1]
      show (133 : Int) ≤ 133 + c 3 + 60 * ((0 : Nat) : Int)
      have : 0 ≤ c 3 := c3.2
      omega
    · rw [a2]
      show (33 : Int) ≤ 133 + ((0 : Nat) : Int)
      omega
  · exact f1.trans (h0 19 (by first | decide | omega)).symm
  · intro i hi
    exact (f3 i (by omega) (by omega)).trans (h0 _ (by omega)).symm
  · intro s s0 s1
    rw [b4] at s1
    omega
/-- what an empty reference holds -/
theorem rRel_0 (hM : w_ML Z) (ha : an_va Z) (hch : rCh HT cs ms os [] [] 0 mo Z) (hst : rStc ms SF Z) (h5 : ∀ i : Nat, i < 5 → Z 237 (62 + (i : Int)) = c (i : Int) ∧ 0 ≤ c (i : Int)) (h0 : ∀ i : Int, 5 ≤ i → c i = 0) : rRel Z Z HT cs ms os [] mo (aZ c SF) Z := by
  obtain ⟨a16, a19, a20, a33, a34, a43, a47, a48, a68, a69, a81, a82, a87, a94, a102, a103, a104, a106, a108, a114, a115, b1, b2, b3, b4, b5, b6, b7⟩ := ha
  have tk : ∀ t : Int, 0 ≤ t → t < 2 → rTk t Z ([], [], [], 0, (0, 0, [])) := fun t t0 t1 => ⟨⟨b7 359 t (by first | decide | omega) (by first | decide | omega) t0 t1, fun i hi => absurd hi (Nat.not_lt_zero _)⟩, ⟨b7 358 t (by first | decide | omega) (by first | decide | omega) t0 t1, fun i hi => absurd hi (Nat.not_lt_zero _)⟩, ⟨b7 360 t (by first | decide | omega) (by first | decide | omega) t0 t1, by decide, fun i hi => absurd hi (Nat.not_lt_zero _)⟩, b7 357 t (by first | decide | omega) (by first | decide | omega) t0 t1, fun z => absurd z (by show ¬ ((0 : Int) = 2 ∨ (0 : Int) = 3); omega)⟩
  have c1 : Z 237 63 = c 1 := (h5 1 (by first | decide | omega)).1
  have c2 : Z 237 64 = c 2 := (h5 2 (by first | decide | omega)).1
  have c3 : Z 237 65 = c 3 := (h5 3 (by first | decide | omega)).1
  have n1 : 0 ≤ c 1 := (h5 1 (by first | decide | omega)).2
  have n2 : 0 ≤ c 2 := (h5 2 (by first | decide | omega)).2
  have n3 : 0 ≤ c 3 := (h5 3 (by first | decide | omega)).2
  refine ⟨hM, ⟨tk 0 (by first | decide | omega) (by first | decide | omega), tk 1 (by first | decide | omega) (by first | decide | omega)⟩, ⟨⟨fun _ => [], ⟨a68, fun k hk => absurd hk (Nat.not_lt_zero _)⟩, ⟨a69, fun k hk => absurd hk (Nat.not_lt_zero _)⟩, fun k q _ hq => absurd hq (Nat.not_lt_zero _), ⟨show ((0 : Nat) : Int) ≤ 8000 by omega, by rw [a94]; decide⟩, fun a x0 x1 => Or.inl ⟨b6 a x0 x1, rfl⟩⟩, a87, fun k hk => ?_⟩, ⟨⟨a16, Nat.zero_le _, fun k hk => absurd hk (Nat.not_lt_zero _)⟩, ⟨a19, by decide, a20, fun k hk => absurd hk (Nat.not_lt_zero _)⟩, ⟨by omega, by omega, fun x hx => ?_⟩, ⟨by omega, ⟨by omega, fun x x0 x1 => ?_⟩, fun x hx => ?_⟩⟩, ⟨by omega, fun s s0 s1 => ?_⟩, ⟨⟨a104, fun k hk => absurd hk (Nat.not_lt_zero _), show ((0 : Nat) : Int) ≤ 65536 by omega⟩, ⟨a106, fun k hk => absurd hk (Nat.not_lt_zero _), show ((0 : Nat) : Int) ≤ 100000 by omega⟩⟩, ⟨hch, hst⟩, ⟨fun i hi => (h5 i hi).1, a81.trans (h0 11 (by first | decide | omega)).symm, a108.trans (h0 19 (by first | decide | omega)).symm, fun i hi => (b5 i (by omega) (by omega)).trans (h0 _ (by omega)).symm, fun s s0 s1 => ?_, by omega⟩, fun j x _ => rBs_s.symm⟩
  · have e : k = 0 := by
      have : k < 1 := hk
      omega
    rw [e]
    exact ⟨b1, b2, b3, b4⟩
  · rw [a19, a102] at hx; omega
  · rw [a102] at x1; omega
  · rw [a19, a102] at hx; omega
  · rw [a47] at s1; omega
  · rw [a47] at s1; omega
end Wnw
