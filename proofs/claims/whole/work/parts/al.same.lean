/-! PART al: the class's tables of a host and the reference's are the same; so are the answers. -/
section Wal
variable {xs : List (Nat × List Int32)} {M : Nat → Prop} {d c : Nat} {A B C S Z : wS} {Q : wO → wS → Prop} {T : Int → Int} {n : Int}
/-- the host p of the class (rows of types from t0, of members from m0, of bits ob) is the reference's b -/
def KQ (t0 m0 ob p b : Nat) (S : wS) : Prop := (S p 2 = S b 1 ∧ 0 ≤ S b 1 ∧ S b 1 ≤ 60) ∧ (∀ k : Int, 0 ≤ k → k < S b 1 → S t0 k = S (b + 2) k ∧ S (t0 + 1) k = S (b + 3) k ∧ S (t0 + 2) k = S (b + 4) k ∧ S (t0 + 3) k = S (b + 8) k ∧ S (t0 + 4) k = S (b + 7) k ∧ ∀ x : Nat, x < 60 → bb (S ob k) x = bb (S (b + 6) k) x) ∧ (S p 4 = S b 11 ∧ 0 ≤ S b 11 ∧ S b 11 ≤ 400) ∧ ∀ k : Int, 0 ≤ k → k < S b 11 → (S m0 k = S (b + 11) k ∧ S (m0 + 1) k = S (b + 12) k ∧ S (m0 + 2) k = S (b + 13) k ∧ S (m0 + 3) k = S (b + 14) k ∧ S (m0 + 4) k = S (b + 15) k ∧ S (m0 + 5) k = S (b + 16) k) ∧ (0 ≤ S (b + 15) k ∧ S (b + 15) k ≤ 8) ∧ ∀ q : Nat, (q : Int) < S (b + 15) k → S (m0 + 6 + q) k = S (b + 17) (8 * k + (q : Int))
theorem KQ_ty {t0 m0 ob p b : Nat} {k wh : Int} (h : KQ t0 m0 ob p b S) : ty_v t0 p S k wh = ty_r b S k wh := by
  obtain ⟨⟨h1, h2, h3⟩, h4, -⟩ := h
  unfold ty_v ty_r
  rw [h1]
  by_cases hk : 0 ≤ k ∧ k < S b 1
  · obtain ⟨e0, e1, e2, e3, e4, -⟩ := h4 k hk.1 hk.2
    rw [if_pos hk]
    by_cases hw : 0 ≤ wh ∧ wh ≤ 4
    · rw [if_pos ⟨hk.1, hk.2, hw⟩]
      rcases (show wh = 0 ∨ wh = 1 ∨ wh = 2 ∨ wh = 3 ∨ wh = 4 by omega) with e | e | e | e | e
      · subst e; rw [if_pos rfl]; exact e0
      · subst e; rw [if_neg (by decide), if_pos rfl]; exact e1
      · subst e; rw [if_neg (by decide), if_neg (by decide), if_pos rfl]; exact e2
      · subst e; rw [if_neg (by decide), if_neg (by decide), if_neg (by decide), if_pos rfl]; exact e3
      · subst e; rw [if_neg (by decide), if_neg (by decide), if_neg (by decide), if_neg (by decide), if_pos rfl]; exact e4
    · rw [if_neg (by omega), if_neg (by omega), if_neg (by omega), if_neg (by omega), if_neg (by omega), if_neg (by omega)]
  · rw [if_neg (by omega), if_neg hk]
theorem KQ_me {t0 m0 ob p b : Nat} {k wh : Int} (h : KQ t0 m0 ob p b S) : me_v m0 p S k wh = me_r b S k wh := by
  obtain ⟨-, -, ⟨h1, h2, h3⟩, h4⟩ := h
  unfold me_v me_r
  rw [h1]
  by_cases hk : 0 ≤ k ∧ k < S b 11
  · obtain ⟨⟨e0, e1, e2, e3, e4, e5⟩, g1, g2⟩ := h4 k hk.1 hk.2
    rw [if_pos hk, e4]
    by_cases hw : 0 ≤ wh ∧ wh < 6
    · rw [if_pos ⟨hk.1, hk.2, hw.1, Or.inl hw.2⟩]
      rcases (show wh = 0 ∨ wh = 1 ∨ wh = 2 ∨ wh = 3 ∨ wh = 4 ∨ wh = 5 by omega) with e | e | e | e | e | e
      · subst e; rw [if_pos rfl]; exact e0
      · subst e; rw [if_neg (by decide), if_pos rfl]; exact e1
      · subst e; rw [if_neg (by decide), if_neg (by decide), if_pos rfl]; exact e2
      · subst e; rw [if_neg (by decide), if_neg (by decide), if_neg (by decide), if_pos rfl]; exact e3
      · subst e; rw [if_neg (by decide), if_neg (by decide), if_neg (by decide), if_neg (by decide), if_pos rfl]; exact e4
      · subst e; rw [if_neg (by decide), if_neg (by decide), if_neg (by decide), if_neg (by decide), if_neg (by decide), if_pos rfl]; exact e5
    · rw [if_neg (show ¬ wh = 0 by omega), if_neg (show ¬ wh = 1 by omega), if_neg (show ¬ wh = 2 by omega), if_neg (show ¬ wh = 3 by omega), if_neg (show ¬ wh = 4 by omega), if_neg (show ¬ wh = 5 by omega)]
      by_cases hq : 5 < wh ∧ wh - 6 < S (b + 15) k
      · rw [if_pos (by omega), if_pos hq]
        have e6 : m0 + wh.toNat = m0 + 6 + (wh - 6).toNat := by omega
        have e7 : 8 * k + wh - 6 = 8 * k + (((wh - 6).toNat : Nat) : Int) := by omega
        rw [e6, e7]
        exact g2 _ (by omega)
      · rw [if_neg (by omega), if_neg hq]
  · rw [if_neg (by omega), if_neg hk]
theorem KQ_su {t0 m0 ob p b : Nat} {k wh : Int} (h : KQ t0 m0 ob p b S) : su_v (S ob) (S p 2) k wh = su_v (S (b + 6)) (S b 1) k wh := by
  obtain ⟨⟨h1, h2, h3⟩, h4, -⟩ := h
  unfold su_v
  rw [h1]
  refine ite_congr (propext ⟨?_, ?_⟩) (fun _ => rfl) (fun _ => rfl)
  · rintro ⟨g1, g2, q | q | q | ⟨q1, q2, q3, q4⟩⟩
    · exact ⟨g1, g2, Or.inl q⟩
    · exact ⟨g1, g2, Or.inr (Or.inl q)⟩
    · exact ⟨g1, g2, Or.inr (Or.inr (Or.inl q))⟩
    · have := (h4 (k - 9) (by omega) (by omega)).2.2.2.2.2 (wh - 9).toNat (by omega)
      exact ⟨g1, g2, Or.inr (Or.inr (Or.inr ⟨q1, q2, q3, this.symm.trans q4⟩))⟩
  · rintro ⟨g1, g2, q | q | q | ⟨q1, q2, q3, q4⟩⟩
    · exact ⟨g1, g2, Or.inl q⟩
    · exact ⟨g1, g2, Or.inr (Or.inl q)⟩
    · exact ⟨g1, g2, Or.inr (Or.inr (Or.inl q))⟩
    · have := (h4 (k - 9) (by omega) (by omega)).2.2.2.2.2 (wh - 9).toNat (by omega)
      exact ⟨g1, g2, Or.inr (Or.inr (Or.inr ⟨q1, q2, q3, this.trans q4⟩))⟩
/-- the tables that the class has read, as lists -/
def KC (t0 m0 o6 oo ob w p : Nat) (T : Int → Int) (cs : List hCR) (ms : List hMR) (os : Int → List Int) (S : wS) : Prop := S p 2 = (cs.length : Int) ∧ cs.length ≤ 60 ∧ S p 4 = (ms.length : Int) ∧ (∀ (k : Nat) (r : hCR), cs[k]? = some r → tr_at t0 S (k : Int) r) ∧ mr_all m0 w T S ms ∧ (∀ q : Int, 0 ≤ q → q < (cs.length : Int) → od_1 o6 oo ob S q (os q)) ∧ JO cs os
theorem KQ_mk {t0 m0 o6 oo ob w p b : Nat} {cs : List hCR} {ms : List hMR} {os : Int → List Int} (h : KC t0 m0 o6 oo ob w p T cs ms os S) (g1 : hc_all b S cs) (g2 : S b 1 = (cs.length : Int)) (g3 : S b 11 = (ms.length : Int)) (g4 : hr_all b S ms) : KQ t0 m0 ob p b S := by
  obtain ⟨h1, h2, h3, h4, h5, h6, h7⟩ := h
  refine ⟨⟨h1.trans g2.symm, by omega, by omega⟩, fun k k0 k1 => ?_, ⟨h3.trans g3.symm, by omega, by have := h5.1; omega⟩, fun k k0 k1 => ?_⟩
  · have hk : cs[k.toNat]? = some (cs[k.toNat]'(by omega)) := List.getElem?_eq_getElem (by omega)
    have ek : ((k.toNat : Nat) : Int) = k := Int.toNat_of_nonneg k0
    have a := h4 _ _ hk
    have b1 := g1 _ _ hk
    have o := h6 k k0 (by omega)
    have j := (h7 _ _ hk).1
    rw [ek] at a b1 j
    obtain ⟨a1, a2, a3, a4, a5⟩ := a
    obtain ⟨b1, -, -, ⟨b2, b3, b4, -⟩, b5, b6⟩ := b1
    refine ⟨a1.trans b1.symm, a2.trans b3.symm, a3.trans b2.symm, a4.trans b6.symm, a5.trans b5.symm, fun x hx => ?_⟩
    rw [o.2.2.2 x hx, b4, j x hx]
  · have hk : ms[k.toNat]? = some (ms[k.toNat]'(by omega)) := List.getElem?_eq_getElem (by omega)
    have ek : ((k.toNat : Nat) : Int) = k := Int.toNat_of_nonneg k0
    have a := h5.2 _ _ hk
    have b1 := g4 _ _ hk
    rw [ek] at a b1
    obtain ⟨⟨a1, a2, a3, a4⟩, ⟨a5, a6, a7, a8⟩, -⟩ := a
    obtain ⟨⟨b1, b2, b3, b4, -, -⟩, ⟨b5, b6, b7⟩, -⟩ := b1
    refine ⟨⟨a1.trans b1.symm, a2.trans b2.symm, a3.trans b3.symm, a4.trans b4.symm, a5.trans b5.symm, a6.trans b6.symm⟩, ⟨by omega, by omega⟩, fun q hq => ?_⟩
    rw [b5] at hq
    exact (a8 q (by omega)).trans (b7 q (by omega)).symm
end Wal
