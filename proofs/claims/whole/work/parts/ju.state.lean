/-! PART ju: the whole abstract state, and what each side holds of it. -/
section Wju
variable {Sb : wS} {S0 S Z : wS} {p b w : Nat} {HT : Int → Int} {cs : List hCR} {ms : List hMR} {os : Int → List Int} {X N : List (List Int)} {mo t : Int} {mk : Nat → Int → Prop}
/-- tasks; things, calls, globals, shapes; names, entries; output, trace, static fields; choices and how many were worked out; counters; counters of sites -/
abbrev aA : Type := (Int → aK) × (List aO × List aC × (Int → aV) × List aH) × (List (List Int) × (Int → List aE)) × (List Int × List Int × (Int → aV)) × (List aQ × Int) × (Int → Int) × (Int → Int → Int)
abbrev a_K (A : aA) (t : Int) : aK := A.1 t
abbrev a_T (A : aA) : List aO := A.2.1.1
abbrev a_L (A : aA) : List aC := A.2.1.2.1
abbrev a_G (A : aA) : Int → aV := A.2.1.2.2.1
abbrev a_H (A : aA) : List aH := A.2.1.2.2.2
abbrev a_N (A : aA) : List (List Int) := A.2.2.1.1
abbrev a_E (A : aA) : Int → List aE := A.2.2.1.2
abbrev a_O (A : aA) : List Int := A.2.2.2.1.1
abbrev a_R (A : aA) : List Int := A.2.2.2.1.2.1
abbrev a_S (A : aA) : Int → aV := A.2.2.2.1.2.2
abbrev a_C (A : aA) : List aQ := A.2.2.2.2.1.1
abbrev a_W (A : aA) : Int := A.2.2.2.2.1.2
abbrev a_c (A : aA) : Int → Int := A.2.2.2.2.2.1
abbrev a_k (A : aA) : Int → Int → Int := A.2.2.2.2.2.2
/-- slots of the class that no step changes (p: the host that is told) -/
def cSta (p : Nat) (j : Nat) (x : Int) : Prop := j ≤ 1 ∨ (13 ≤ j ∧ j ≤ 18) ∨ (j = 19 ∧ x ≠ 11 ∧ x ≠ 12) ∨ (20 ≤ j ∧ j ≤ 40) ∨ (58 ≤ j ∧ j ≤ 71) ∨ (j = 72 ∧ x = 1) ∨ (p ≤ j ∧ j ≤ p + 46 ∧ (j ≠ p ∨ (x ≠ 10 ∧ x ≠ 16 ∧ x ≠ 18)) ∧ j ≠ p + 44 ∧ j ≠ p + 45) ∨ (p = 73 ∧ 162 ≤ j ∧ j ≤ 214) ∨ (p = 162 ∧ 73 ≤ j ∧ j ≤ 125) ∨ j = 126 ∨ j = 161 ∨ (j = 150 ∧ x = 5) ∨ ((j = 156 ∨ j = 157 ∨ j = 159 ∨ j = 160) ∧ x = -1) ∨ (237 ≤ j ∧ j < 4000000 ∧ j ≠ wG)
/-- slots of the reference that no turn changes -/
def rSta (j : Nat) (x : Int) : Prop := j < 237 ∨ (239 ≤ j ∧ j ≤ 280) ∨ (286 ≤ j ∧ j ≤ 309) ∨ (j = 237 ∧ (x ≤ 15 ∨ (17 ≤ x ∧ x ≤ 61))) ∨ (j = 238 ∧ x < 5) ∨ 387 ≤ j
/-- slots of the reference are as in S0, all others as in Sb -/
def rBs (S0 Sb : wS) (j : Nat) (x : Int) : Int := if 237 ≤ j ∧ j < 387 ∧ (j ≠ 237 ∨ x ≠ 0) then S0 j x else Sb j x
theorem rBs_i {j : Nat} {x : Int} (h : 237 ≤ j ∧ j < 387 ∧ (j ≠ 237 ∨ x ≠ 0)) : rBs S0 Sb j x = S0 j x := by unfold rBs; rw [if_pos h]
theorem rBs_o {j : Nat} {x : Int} (h : ¬ (237 ≤ j ∧ j < 387 ∧ (j ≠ 237 ∨ x ≠ 0))) : rBs S0 Sb j x = Sb j x := by unfold rBs; rw [if_neg h]
theorem rBs_s {j : Nat} {x : Int} : rBs S S j x = S j x := by unfold rBs; split <;> rfl
/-- the pool and the words are not too long -/
def cPl (v u : Int) (N : List (List Int)) (S : wS) : Prop := (v ≤ 10000 ∧ S 2 1 ≤ v + u + 60 * (N.length : Int) ∧ S 3 (-1) ≤ 1048575) ∧ S 2 7 ≤ v + (N.length : Int) ∧ S 4 (-1) ≤ 32767
/-- the pool and the words that sources have brought -/
def pV (S0 : wS) : Int := max 133 (max (S0 2 1 - S0 150 3 - 60 * S0 2 10) (S0 2 7 - S0 2 10))
theorem pV_ge (S0 : wS) : 133 ≤ pV S0 := by unfold pV; omega
theorem pV_ag (e1 : Z 2 1 = S 2 1) (e3 : Z 150 3 = S 150 3) (e10 : Z 2 10 = S 2 10) (e7 : Z 2 7 = S 2 7) : pV Z = pV S := by unfold pV; rw [e1, e3, e10, e7]
theorem pV_le {v : Int} (h0 : 133 ≤ v) (h1 : Z 2 1 ≤ v + Z 150 3 + 60 * Z 2 10) (h2 : Z 2 7 ≤ v + Z 2 10) : pV Z ≤ v := by unfold pV; omega
/-- counters of the class -/
def cCn (S0 : wS) (A : aA) (S : wS) : Prop := (∀ i : Nat, i < 5 → S 150 (i : Int) = a_c A (i : Int)) ∧ (S 72 11 = a_c A 11 ∧ cPl (pV S0) (a_c A 3) (a_N A) S) ∧ S 158 19 = a_c A 19 ∧ (∀ i : Nat, i < 4 → S 160 (i : Int) = a_c A (20 + (i : Int))) ∧ ∀ s : Int, 0 ≤ s → s < S 19 9 → S 41 s = a_k A s 0 ∧ S 42 s = a_k A s 1 ∧ S 43 s = a_k A s 2 ∧ S 45 s = a_k A s 3
def rCc (A : aA) (S : wS) : Prop := (∀ i : Nat, i < 5 → S 237 (62 + (i : Int)) = a_c A (i : Int)) ∧ S 237 81 = a_c A 11 ∧ S 237 108 = a_c A 19 ∧ (∀ i : Nat, i < 4 → S 344 (i : Int) = a_c A (20 + (i : Int))) ∧ (∀ s : Int, 0 ≤ s → s < S 237 47 → S 310 s = a_k A s 0 ∧ S 311 s = a_k A s 1 ∧ S 312 s = a_k A s 2 ∧ S 313 s = a_k A s 3) ∧ (0 ≤ S 237 82 ∧ 0 ≤ S 237 94 ∧ S 237 82 + S 237 94 ≤ S 237 63)
theorem cPl_s {v u : Int} (h : cPl v u N Z) (hv : 133 ≤ v) (e3 : Z 150 3 = u) (e10 : Z 2 10 = (N.length : Int)) : cPl (pV Z) u N Z ∧ pV Z ≤ v := by
  have a : pV Z ≤ v := by
    unfold cPl at h
    exact pV_le hv (by omega) (by omega)
  refine ⟨?_, a⟩
  unfold cPl at h ⊢
  unfold pV at a ⊢
  omega
theorem cPl_ag {v u u2 : Int} {N2 : List (List Int)} (h : cPl v u N S) (e1 : Z 2 1 = S 2 1) (e2 : Z 3 (-1) = S 3 (-1)) (e3 : Z 2 7 = S 2 7) (e4 : Z 4 (-1) = S 4 (-1)) (hu : u ≤ u2) (hN : N.length ≤ N2.length) : cPl v u2 N2 Z := by
  unfold cPl at h ⊢
  omega
/-- what the class holds of a state -/
def cRel (S0 : wS) (p : Nat) (HT : Int → Int) (cs : List hCR) (ms : List hMR) (os : Int → List Int) (X : List (List Int)) (mo : Int) (A : aA) (S : wS) : Prop := (w_CL S ∧ gI S ∧ rmR S0 S) ∧ (cTk 215 S (a_K A 0) ∧ cTk 226 S (a_K A 1)) ∧ (cWd S (a_T A) (a_L A) (a_G A) ∧ cSw S (a_T A) (a_H A) ∧ cPo S) ∧ cNt (a_N A) X S ∧ (∃ (ix : Int → List Int) (fl : List Int) (ow : Int → Int), cSe S (a_E A) ix fl ow) ∧ (cOu S (a_O A) ∧ cTrc S (a_R A)) ∧ (cCh p (p + 48) (p + 47) (p + 1) HT cs ms os (a_C A) (a_W A) mo S ∧ cStc (p + 24) (p + 44) ms (a_S A) S) ∧ cCn S0 A S ∧ ∀ (j : Nat) (x : Int), cSta p j x → S j x = S0 j x
/-- what the reference holds of a state -/
def rRel (S0 Sb : wS) (HT : Int → Int) (cs : List hCR) (ms : List hMR) (os : Int → List Int) (X : List (List Int)) (mo : Int) (A : aA) (S : wS) : Prop := w_ML S ∧ (rTk 0 S (a_K A 0) ∧ rTk 1 S (a_K A 1)) ∧ ((∃ sl : Nat → List Int, rWd S sl (a_T A) (a_L A) (a_G A)) ∧ rHs S (a_H A)) ∧ (mN (a_N A) S ∧ mX X S ∧ rTt S ∧ rTb S) ∧ rSe S (a_E A) ∧ (rOu S (a_O A) ∧ rTrc S (a_R A)) ∧ (rCh HT cs ms os (a_N A) (a_C A) (a_W A) mo S ∧ rStc ms (a_S A) S) ∧ rCc A S ∧ ∀ (j : Nat) (x : Int), rSta j x → S j x = rBs S0 Sb j x
/-- a task is changed -/
def u_K (A : aA) (t : Int) (K : aK) : aA := (fUp A.1 t K, A.2)
theorem mX_tx (h : mX X S) (e : rTx S Z) (e19 : Z 237 19 = S 237 19) (e20 : Z 237 20 = S 237 20) : mX X Z := by
  obtain ⟨h1, h2, h3, h4⟩ := h
  refine ⟨e19.trans h1, h2, e20.trans h3, fun k hk => ?_⟩
  obtain ⟨a1, a2, a3, a4⟩ := h4 k hk
  obtain ⟨b1, b2, b3⟩ := e.2.2 (k : Int) (Or.inl ⟨by omega, by omega⟩)
  refine ⟨b1.trans a1, b2.trans a2, a3, fun y hy => ?_⟩
  have b4 := b3 (y : Int) (by omega) (by omega)
  rw [a1] at b4
  exact b4.trans (a4 y hy)
end Wju
