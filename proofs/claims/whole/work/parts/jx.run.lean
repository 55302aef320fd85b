/-! PART jx: what holds of every state of a run. -/
section Wjx
variable {Sb : wS} {S0 S : wS} {p w : Nat} {HT : Int → Int} {cs : List hCR} {ms : List hMR} {os : Int → List Int} {X : List (List Int)} {mo t : Int} {A : aA} {K : aK} {fa : Int → Int}
/-- the code that is kept, as both sides have it -/
def stX (S0 : wS) (fa : Int → Int) (X : List (List Int)) : Prop := mK S0 ∧ (∀ g : Int, 0 ≤ g → g < S0 237 34 → mcF fa S0 g ∧ ((fa g = -1 ∧ S0 296 g = 0) ∨ (0 ≤ fa g ∧ fa g < g)) ∧ 0 ≤ S0 296 g ∧ S0 296 g ≤ 60) ∧ (S0 32 (-1) = S0 31 (-1) ∧ S0 33 (-1) = S0 31 (-1) ∧ S0 19 7 ≤ S0 31 (-1) ∧ S0 31 (-1) ≤ 40000) ∧ (∀ x : Int, 0 ≤ x → x < S0 237 43 → (-2147483648 ≤ S0 302 x ∧ S0 302 x ≤ 2147483647) ∧ (-2147483648 ≤ S0 303 x ∧ S0 303 x ≤ 2147483647)) ∧ (∀ k ∈ X, (∀ y ∈ k, 0 ≤ y ∧ y ≤ 255) ∧ k.length ≤ 65536) ∧ (X.length : Int) = S0 237 19 ∧ S0 237 16 ≤ 4000
/-- a task is within its limits, and typed while it runs -/
def wTk (fa : Int → Int) (S0 : wS) (K : aK) : Prop := kLn K ∧ (K.2.2.2.1 = 1 → wKt fa S0 K ∧ 0 < K.2.1.length) ∧ ∀ f ∈ K.2.1, f.2.2.2.2.2.1 ≤ 2000
/-- the instruction that comes next -/
def opI (S0 : wS) (K : aK) : Int := S0 301 (S0 297 (K.2.1.getD (K.2.1.length - 1) (0, 0, 0, (0, 0, []), 0, 0, 0)).1 + (K.2.1.getD (K.2.1.length - 1) (0, 0, 0, (0, 0, []), 0, 0, 0)).2.1)
def opA (S0 : wS) (K : aK) : Int := S0 302 (S0 297 (K.2.1.getD (K.2.1.length - 1) (0, 0, 0, (0, 0, []), 0, 0, 0)).1 + (K.2.1.getD (K.2.1.length - 1) (0, 0, 0, (0, 0, []), 0, 0, 0)).2.1)
def opB (S0 : wS) (K : aK) : Int := S0 303 (S0 297 (K.2.1.getD (K.2.1.length - 1) (0, 0, 0, (0, 0, []), 0, 0, 0)).1 + (K.2.1.getD (K.2.1.length - 1) (0, 0, 0, (0, 0, []), 0, 0, 0)).2.1)
/-- what is known of the top frame of a task that runs -/
theorem topT (hx : stX S0 fa X) (hk : wTk fa S0 K) (hr : K.2.2.2.1 = 1) : (0 ≤ (K.2.1.getD (K.2.1.length - 1) (0, 0, 0, (0, 0, []), 0, 0, 0)).1 ∧ (K.2.1.getD (K.2.1.length - 1) (0, 0, 0, (0, 0, []), 0, 0, 0)).1 < S0 237 34) ∧ ∃ (H D : Nat → Int) (n : Nat), tyC fa S0 (K.2.1.getD (K.2.1.length - 1) (0, 0, 0, (0, 0, []), 0, 0, 0)).1 H D n ∧ (0 ≤ (K.2.1.getD (K.2.1.length - 1) (0, 0, 0, (0, 0, []), 0, 0, 0)).2.1 ∧ (K.2.1.getD (K.2.1.length - 1) (0, 0, 0, (0, 0, []), 0, 0, 0)).2.1 < (n : Int)) ∧ (K.1.length : Int) = ((K.2.1.getD (K.2.1.length - 1) (0, 0, 0, (0, 0, []), 0, 0, 0)).2.2.2.2.2.1 : Int) + H (K.2.1.getD (K.2.1.length - 1) (0, 0, 0, (0, 0, []), 0, 0, 0)).2.1.toNat ∧ mcI fa S0 H D n (K.2.1.getD (K.2.1.length - 1) (0, 0, 0, (0, 0, []), 0, 0, 0)).2.1.toNat (K.2.1.getD (K.2.1.length - 1) (0, 0, 0, (0, 0, []), 0, 0, 0)).1 (opI S0 K) (opA S0 K) (opB S0 K) := by
  obtain ⟨h1, h2⟩ := hk.2.1 hr
  obtain ⟨a1, H, D, n, a2, a3, a4, -⟩ := h1.1 (K.2.1.length - 1) (by omega)
  refine ⟨a1, H, D, n, a2, a3, ?_, ?_⟩
  · rw [← a4]
    unfold hgt
    rw [if_neg (by omega)]
  · have z := a2.2.2.2.2.1 (K.2.1.getD (K.2.1.length - 1) (0, 0, 0, (0, 0, []), 0, 0, 0)).2.1.toNat (by omega)
    rw [show (((K.2.1.getD (K.2.1.length - 1) (0, 0, 0, (0, 0, []), 0, 0, 0)).2.1.toNat : Nat) : Int) = (K.2.1.getD (K.2.1.length - 1) (0, 0, 0, (0, 0, []), 0, 0, 0)).2.1 by omega] at z
    exact z
theorem topC (hx : stX S0 fa X) (hk : wTk fa S0 K) (hr : K.2.2.2.1 = 1) : (0 ≤ (K.2.1.getD (K.2.1.length - 1) (0, 0, 0, (0, 0, []), 0, 0, 0)).1 ∧ (K.2.1.getD (K.2.1.length - 1) (0, 0, 0, (0, 0, []), 0, 0, 0)).1 < 400) ∧ (0 ≤ (K.2.1.getD (K.2.1.length - 1) (0, 0, 0, (0, 0, []), 0, 0, 0)).2.1 ∧ (K.2.1.getD (K.2.1.length - 1) (0, 0, 0, (0, 0, []), 0, 0, 0)).2.1 ≤ 20000) ∧ (0 ≤ S0 297 (K.2.1.getD (K.2.1.length - 1) (0, 0, 0, (0, 0, []), 0, 0, 0)).1 ∧ S0 297 (K.2.1.getD (K.2.1.length - 1) (0, 0, 0, (0, 0, []), 0, 0, 0)).1 + (K.2.1.getD (K.2.1.length - 1) (0, 0, 0, (0, 0, []), 0, 0, 0)).2.1 < S0 237 43) ∧ S0 27 (K.2.1.getD (K.2.1.length - 1) (0, 0, 0, (0, 0, []), 0, 0, 0)).1 = S0 297 (K.2.1.getD (K.2.1.length - 1) (0, 0, 0, (0, 0, []), 0, 0, 0)).1 ∧ (S0 31 (S0 297 (K.2.1.getD (K.2.1.length - 1) (0, 0, 0, (0, 0, []), 0, 0, 0)).1 + (K.2.1.getD (K.2.1.length - 1) (0, 0, 0, (0, 0, []), 0, 0, 0)).2.1) = opI S0 K ∧ S0 32 (S0 297 (K.2.1.getD (K.2.1.length - 1) (0, 0, 0, (0, 0, []), 0, 0, 0)).1 + (K.2.1.getD (K.2.1.length - 1) (0, 0, 0, (0, 0, []), 0, 0, 0)).2.1) = opA S0 K ∧ S0 33 (S0 297 (K.2.1.getD (K.2.1.length - 1) (0, 0, 0, (0, 0, []), 0, 0, 0)).1 + (K.2.1.getD (K.2.1.length - 1) (0, 0, 0, (0, 0, []), 0, 0, 0)).2.1) = opB S0 K) := by
  obtain ⟨a1, H, D, n, a2, a3, -, -⟩ := topT hx hk hr
  obtain ⟨⟨-, m1, m2⟩, -, ⟨m3, m4, m5⟩, -, m6, -, m7, -⟩ := hx.1
  obtain ⟨⟨-, -, -, b4, -⟩, b5, b6, b7⟩ := m6 _ a1.1 a1.2
  have e := a2.1
  refine ⟨⟨a1.1, by omega⟩, ⟨a3.1, by omega⟩, ⟨b5, by omega⟩, b4, ?_⟩
  exact m7 _ (by omega) (by omega)
theorem hab_x (hx : stX S0 fa X) (hk : wTk fa S0 K) (hr : K.2.2.2.1 = 1) : (-2147483648 ≤ opA S0 K ∧ opA S0 K ≤ 2147483647) ∧ (-2147483648 ≤ opB S0 K ∧ opB S0 K ≤ 2147483647) := by
  obtain ⟨c1, c2, c3, c4, c5⟩ := topC hx hk hr
  exact hx.2.2.2.1 _ (by omega) (by omega)
theorem stt_c (hx : stX S0 fa X) (hk : wTk fa S0 (a_K A t)) (hr : (a_K A t).2.2.2.1 = 1) (hw : isWt w t) (h : cRel S0 p HT cs ms os X mo A S) : stC w S (a_K A t) ∧ cIn S (a_K A t) (opI S0 (a_K A t)) (opA S0 (a_K A t)) (opB S0 (a_K A t)) := by
  obtain ⟨c1, c2, c3, c4, c5⟩ := topC hx hk hr
  have f : ∀ (j : Nat) (x : Int), 20 ≤ j → j ≤ 40 → S j x = S0 j x := fun j x j0 j1 => h.2.2.2.2.2.2.2.2 j x (by unfold cSta; omega)
  have hT : cTk w S (a_K A t) := by
    rcases hw with ⟨rfl, rfl⟩ | ⟨rfl, rfl⟩
    · exact h.2.1.1
    · exact h.2.1.2
  obtain ⟨k1, k2⟩ := hk.2.1 hr
  obtain ⟨l1, l2, l3, l4⟩ := hx.2.2.1
  have m3 := hx.1.2.2.1.1
  refine ⟨⟨hT, ⟨h.1.1, h.1.2.1⟩, ⟨k2, hk.1.1, wKt_tr k1⟩, ⟨c1.1, c1.2, c2.1, c2.2⟩, ?_⟩, ?_⟩
  · rw [f 27 _ (by first | decide | omega) (by first | decide | omega), f 31 (-1) (by first | decide | omega) (by first | decide | omega), f 32 (-1) (by first | decide | omega) (by first | decide | omega), f 33 (-1) (by first | decide | omega) (by first | decide | omega), c4]
    exact ⟨c3.1, by omega, l1, l2, l4⟩
  · unfold cIn
    rw [f 27 _ (by first | decide | omega) (by first | decide | omega), c4, f 31 _ (by first | decide | omega) (by first | decide | omega), f 32 _ (by first | decide | omega) (by first | decide | omega), f 33 _ (by first | decide | omega) (by first | decide | omega)]
    exact c5
/-- the reference runs a task -/
def rRun (S0 Sb : wS) (HT : Int → Int) (cs : List hCR) (ms : List hMR) (os : Int → List Int) (X : List (List Int)) (mo t : Int) (A : aA) (S : wS) : Prop := rRel S0 Sb HT cs ms os X mo A S ∧ S 237 151 = t ∧ S 237 152 = 2100 * t ∧ S 237 153 = 200 * t
theorem stt_r (hx : stX S0 fa X) (hk : wTk fa S0 (a_K A t)) (hr : (a_K A t).2.2.2.1 = 1) (ht : t = 0 ∨ t = 1) (h : rRun S0 Sb HT cs ms os X mo t A S) : stR t S (a_K A t) ∧ rIn S (a_K A t) (opI S0 (a_K A t)) (opA S0 (a_K A t)) (opB S0 (a_K A t)) ∧ S 357 t = 1 := by
  obtain ⟨h, hg⟩ := h
  obtain ⟨c1, c2, c3, c4, c5⟩ := topC hx hk hr
  have f : ∀ (j : Nat) (x : Int), 286 ≤ j → j ≤ 309 → S j x = S0 j x := fun j x j0 j1 => (h.2.2.2.2.2.2.2.2 j x (by unfold rSta; omega)).trans (rBs_i (by omega))
  have hT : rTk t S (a_K A t) := by
    rcases ht with rfl | rfl
    · exact h.2.1.1
    · exact h.2.1.2
  obtain ⟨k1, k2⟩ := hk.2.1 hr
  have m5 := hx.1.2.2.1.2.2
  refine ⟨⟨hT, h.1, by omega, hg, ⟨k2, hk.1.2, hk.1.1, wKt_tr k1⟩, ⟨c1.1, c1.2, c2.1, c2.2⟩, ?_⟩, ?_, hT.2.2.2.1.trans hr⟩
  · rw [f 297 _ (by first | decide | omega) (by first | decide | omega)]
    exact ⟨c3.1, by omega⟩
  · unfold rIn
    rw [f 297 _ (by first | decide | omega) (by first | decide | omega), f 301 _ (by first | decide | omega) (by first | decide | omega), f 302 _ (by first | decide | omega) (by first | decide | omega), f 303 _ (by first | decide | omega) (by first | decide | omega)]
    exact ⟨rfl, rfl, rfl⟩
end Wjx
