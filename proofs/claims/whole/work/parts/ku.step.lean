/-! PART ku: a step of a task, on both sides: every instruction but SITE. -/
section Wku
variable {xs : List (Nat × List Int32)} {d : Nat} {S0 S Z : wS} {p w m : Nat} {HT : Int → Int} {cs : List hCR} {ms : List hMR} {os : Int → List Int} {X : List (List Int)} {mo t n B B2 oq : Int} {fa : Int → Int} {WE : aA → Prop} {A A2 : aA} {K2 : aK} {ml : List Nat} {T2 : List aO} {L2 : List aC} {G2 : Int → aV} {H2 : List aH} {c2 : Int → Int} {mk rk : Nat → Int → Prop} {k : Int} {b : Nat} {nt : Int}
/-- what the steps are told besides -/
def hyX (xs : List (Nat × List Int32)) (S0 : wS) (p b : Nat) (HT : Int → Int) (nt : Int) (cs : List hCR) (ms : List hMR) (os : Int → List Int) (n : Int) (WE : aA → Prop) : Prop := (WEw WE ∧ WEo WE) ∧ (w_X xs ∧ pe_at (pe_GA xs).xs 1 = some (1, tx_1) ∧ pe_at (pe_GA xs).xs 55 = some (1, tx_55)) ∧ (S0 156 (-1) = 65 ∧ S0 157 (-1) = 64) ∧ stHo S0 p b HT nt cs ms os n
theorem st_7 (h : hyS S0 p X fa ms n WE B B2 w t A) (hX : hyX xs S0 p b HT nt cs ms os n WE) (h21 : ∀ S : wS, cRel S0 p HT cs ms os X mo A S → S 2 1 ≤ 4000000 ∧ S 3 (-1) ≤ 8000000) (ho : opI S0 (a_K A t) = 7) : stO xs d S0 p HT cs ms os X mo fa n WE B2 w t A := by
  by_cases e2 : ((a_K A t).1.getD ((a_K A t).1.length - 2) (0, 0, [])).1 = 2 ∧ ((a_K A t).1.getD ((a_K A t).1.length - 1) (0, 0, [])).1 = 2
  · exact so_7 h ho e2.1 e2.2
  · by_cases e : 3 < ((a_K A t).1.getD ((a_K A t).1.length - 2) (0, 0, [])).1 ∨ 3 < ((a_K A t).1.getD ((a_K A t).1.length - 1) (0, 0, [])).1 ∨ (((a_K A t).1.getD ((a_K A t).1.length - 2) (0, 0, [])).1 ≠ 3 ∧ ((a_K A t).1.getD ((a_K A t).1.length - 1) (0, 0, [])).1 ≠ 3)
    · exact so_7e h ho e2 e
    · by_cases em : a_c A 2 < 12000 ∧ a_c A 3 + (((pL ((a_K A t).1.getD ((a_K A t).1.length - 2) (0, 0, []))).length : Int) + ((pL ((a_K A t).1.getD ((a_K A t).1.length - 1) (0, 0, []))).length : Int)) ≤ 200000
      · exact sj_7 h hX.1.1 hX.2.1.1 hX.2.1.2.1 hX.2.2.1.2 h21 ho (by omega) (by omega) (by omega) em
      · exact sj_7m h hX.2.1.1 hX.2.1.2.1 hX.2.2.1.2 h21 ho (by omega) (by omega) (by omega) em
/-- every instruction but SITE -/
theorem st_ns (h : hyS S0 p X fa ms n WE B B2 w t A) (hX : hyX xs S0 p b HT nt cs ms os n WE) (hB1 : B + 1 ≤ B2) (h21 : ∀ S : wS, cRel S0 p HT cs ms os X mo A S → S 2 1 ≤ 4000000 ∧ S 3 (-1) ≤ 8000000) (ho : opI S0 (a_K A t) ≠ 27) : stO xs d S0 p HT cs ms os X mo fa n WE B2 w t A := by
  by_cases e7 : opI S0 (a_K A t) = 7
  · exact st_7 h hX h21 e7
  · by_cases e8 : opI S0 (a_K A t) = 28
    · exact st_bu h hX.1.1 hX.1.2 hB1 hX.2.1.1 hX.2.1.2.1 hX.2.1.2.2 hX.2.2.1.1 hX.2.2.1.2 hX.2.2.2 e8
    · exact st_pl h hX.1.1 hX.2.1.2.1 ⟨e7, ho, e8⟩
end Wku
