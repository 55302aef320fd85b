/-! PART ko: a step of a task, on both sides: built-in functions 0 .. 6. -/
section Wko
variable {xs : List (Nat × List Int32)} {d : Nat} {S0 S Z : wS} {p w m : Nat} {HT : Int → Int} {cs : List hCR} {ms : List hMR} {os : Int → List Int} {X : List (List Int)} {mo t n B B2 oq : Int} {fa : Int → Int} {WE : aA → Prop} {A A2 : aA} {K2 : aK} {ml : List Nat} {T2 : List aO} {L2 : List aC} {G2 : Int → aV} {H2 : List aH} {c2 : Int → Int} {mk rk : Nat → Int → Prop} {k : Int}
/-- built-in functions but those of hosts -/
theorem st_bi (h : hyS S0 p X fa ms n WE B B2 w t A) (hWw : WEw WE) (hWo : WEo WE) (hB1 : B + 1 ≤ B2) (hX : w_X xs) (hx1 : pe_at (pe_GA xs).xs 1 = some (1, tx_1)) (hx55 : pe_at (pe_GA xs).xs 55 = some (1, tx_55)) (h56 : S0 156 (-1) = 65) (h57 : S0 157 (-1) = 64) (ho : opI S0 (a_K A t) = 28) (h7 : (opA S0 (a_K A t)) ≠ 7) (h0 : (opA S0 (a_K A t)) = 0 → ((a_K A t).1.getD ((a_K A t).1.length - 1) (0, 0, [])).1 ≤ 6) : stO xs d S0 p HT cs ms os X mo fa n WE B2 w t A := by
  have hz := (opS h.2.2.1 (wT_of h.2.2.2.1 h.2.1) h.2.2.2.2.2.2).2.2.2.2.2.2.2 ho
  have hu := h.2.2.2.1.2.2.2.2.1
  rcases (show (opA S0 (a_K A t)) = 0 ∨ (opA S0 (a_K A t)) = 1 ∨ (opA S0 (a_K A t)) = 2 ∨ (opA S0 (a_K A t)) = 3 ∨ (opA S0 (a_K A t)) = 4 ∨ (opA S0 (a_K A t)) = 5 ∨ (opA S0 (a_K A t)) = 6 by omega) with ha | ha | ha | ha | ha | ha | ha
  · by_cases e : ((a_O A).length : Int) + ((pL ((a_K A t).1.getD ((a_K A t).1.length - 1) (0, 0, []))).length : Int) + 1 ≤ 65536
    · exact sb_0p h hWo hX h57 ho ha (h0 ha) e
    · exact sb_0m h hX h57 ho ha (h0 ha) (by omega)
  · by_cases e0 : ((a_K A t).1.getD ((a_K A t).1.length - 1) (0, 0, [])).1 = 0
    · by_cases e : a_c A 0 < 8000
      · exact sb_1n h hWw hx1 ho ha e0 e
      · exact sb_1nm h hx1 ho ha e0 (by omega)
    · by_cases e4 : ((a_K A t).1.getD ((a_K A t).1.length - 1) (0, 0, [])).1 = 4 ∨ ((a_K A t).1.getD ((a_K A t).1.length - 1) (0, 0, [])).1 = 5
      · have hr : -1 ≤ (aFs (-1) ((a_K A t).1.getD ((a_K A t).1.length - 1) (0, 0, [])).2.1 (-1) (a_H A) 0) := by
          rcases aFs_r (be := -1) (pr := ((a_K A t).1.getD ((a_K A t).1.length - 1) (0, 0, [])).2.1) (nm := -1) (a_H A) 0 with z | ⟨i, -, -, z⟩
          · rw [z.1]; omega
          · rw [z]; omega
        by_cases e : a_c A 0 < 8000
        · by_cases ef : (aFs (-1) ((a_K A t).1.getD ((a_K A t).1.length - 1) (0, 0, [])).2.1 (-1) (a_H A) 0) = -1
          · by_cases e5 : a_c A 4 < 4000
            · exact sb_1p h hWw hx1 ho ha e4 ⟨e, ef, e5⟩
            · exact sb_1m h hx1 ho ha e4 (Or.inr ⟨ef, by omega⟩)
          · exact sb_1o h hWw hx1 ho ha e4 ⟨e, by omega⟩
        · exact sb_1m h hx1 ho ha e4 (Or.inl (by omega))
      · exact sb_1e h ho ha (by omega)
  · by_cases e4 : ((a_K A t).1.getD ((a_K A t).1.length - 1) (0, 0, [])).1 = 4 ∨ ((a_K A t).1.getD ((a_K A t).1.length - 1) (0, 0, [])).1 = 5
    · exact sb_2 h ho ha e4
    · exact sb_2e h ho ha (by omega)
  · by_cases ex : ((a_K A t).1.getD ((a_K A t).1.length - 2) (0, 0, [])).1 = 4 ∨ ((a_K A t).1.getD ((a_K A t).1.length - 2) (0, 0, [])).1 = 5
    · by_cases e0 : ((a_K A t).1.getD ((a_K A t).1.length - 1) (0, 0, [])).1 = 0
      · by_cases em : hMe (aPr (a_T A) (a_H A)) ((a_K A t).1.getD ((a_K A t).1.length - 2) (0, 0, [])).2.1 ((a_T A).length + 1) (-1) = 0
        · by_cases e : a_c A 4 + (aMb (a_H A) (-1) (fS (-1) (aNs (a_H A) (tO (a_T A) ((a_K A t).1.getD ((a_K A t).1.length - 2) (0, 0, [])).2.1).2.1) 0)) ≤ 4000
          · exact sb_30 h hWw hB1 hx1 h56 ho ha ex e0 em e
          · exact sb_30m h hx1 h56 ho ha ex e0 em (by omega)
        · exact sb_30r h hx1 h56 ho ha ex e0 ((hMe_01 _ _).resolve_left em)
      · by_cases e4 : ((a_K A t).1.getD ((a_K A t).1.length - 1) (0, 0, [])).1 = 4 ∨ ((a_K A t).1.getD ((a_K A t).1.length - 1) (0, 0, [])).1 = 5
        · by_cases em : hMe (aPr (a_T A) (a_H A)) ((a_K A t).1.getD ((a_K A t).1.length - 2) (0, 0, [])).2.1 ((a_T A).length + 1) ((a_K A t).1.getD ((a_K A t).1.length - 1) (0, 0, [])).2.1 = 0
          · by_cases e : a_c A 4 + (aMb (a_H A) ((a_K A t).1.getD ((a_K A t).1.length - 1) (0, 0, [])).2.1 (fS (-1) (aNs (a_H A) (tO (a_T A) ((a_K A t).1.getD ((a_K A t).1.length - 2) (0, 0, [])).2.1).2.1) 0)) ≤ 4000
            · exact sb_31 h hWw hB1 hx1 h56 ho ha ex e4 em e
            · exact sb_31m h hx1 h56 ho ha ex e4 em (by omega)
          · exact sb_31r h hx1 h56 ho ha ex e4 ((hMe_01 _ _).resolve_left em)
        · exact sb_3e h ho ha (by omega)
    · exact sb_3e h ho ha (by omega)
  · by_cases e3 : (((a_K A t).1.getD ((a_K A t).1.length - 2) (0, 0, [])).1 = 4 ∨ ((a_K A t).1.getD ((a_K A t).1.length - 2) (0, 0, [])).1 = 5) ∧ ((a_K A t).1.getD ((a_K A t).1.length - 1) (0, 0, [])).1 = 3
    · by_cases em : (ixL (a_N A) ((a_K A t).1.getD ((a_K A t).1.length - 1) (0, 0, [])).2.2) = -1 ∨ (aIx (a_T A) (ixL (a_N A) ((a_K A t).1.getD ((a_K A t).1.length - 1) (0, 0, [])).2.2) ((a_K A t).1.getD ((a_K A t).1.length - 2) (0, 0, [])).2.1) = -1
      · exact sb_4n h hx1 h56 ho ha e3.1 e3.2 em
      · by_cases e : a_c A 4 + (aMb (a_H A) (aPr (a_T A) (a_H A) ((a_K A t).1.getD ((a_K A t).1.length - 2) (0, 0, [])).2.1) (fS (aIx (a_T A) (ixL (a_N A) ((a_K A t).1.getD ((a_K A t).1.length - 1) (0, 0, [])).2.2) ((a_K A t).1.getD ((a_K A t).1.length - 2) (0, 0, [])).2.1) (aNs (a_H A) (tO (a_T A) ((a_K A t).1.getD ((a_K A t).1.length - 2) (0, 0, [])).2.1).2.1) 0)) ≤ 4000
        · exact sb_4 h hWw hB1 hx1 h56 ho ha e3.1 e3.2 ⟨fun z => em (Or.inl z), fun z => em (Or.inr z)⟩ e
        · exact sb_4m h hx1 h56 ho ha e3.1 e3.2 ⟨fun z => em (Or.inl z), fun z => em (Or.inr z)⟩ (by omega)
    · exact sb_4e h ho ha e3
  · by_cases e3 : (((a_K A t).1.getD ((a_K A t).1.length - 2) (0, 0, [])).1 = 4 ∨ ((a_K A t).1.getD ((a_K A t).1.length - 2) (0, 0, [])).1 = 5) ∧ ((a_K A t).1.getD ((a_K A t).1.length - 1) (0, 0, [])).1 = 3
    · exact sb_5 h ho ha e3.1 e3.2
    · exact sb_5e h ho ha e3
  · by_cases e : a_c A 2 < 12000 ∧ a_c A 3 + ((kdL ((a_K A t).1.getD ((a_K A t).1.length - 1) (0, 0, [])).1 ((a_K A t).1.getD ((a_K A t).1.length - 1) (0, 0, [])).2.1).length : Int) ≤ 200000
    · exact sb_6 h hWw hX hx1 hx55 ho ha e
    · exact sb_6m h hX hx1 hx55 ho ha e
end Wko
