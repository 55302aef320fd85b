/-! PART kn: a step of a task, on both sides: all instructions but 7, 27 and 28. -/
section Wkn
variable {xs : List (Nat × List Int32)} {d : Nat} {S0 S Z : wS} {p w m : Nat} {HT : Int → Int} {cs : List hCR} {ms : List hMR} {os : Int → List Int} {X : List (List Int)} {mo t n B B2 oq : Int} {fa : Int → Int} {WE : aA → Prop} {A A2 : aA} {K2 : aK} {ml : List Nat} {T2 : List aO} {L2 : List aC} {G2 : Int → aV} {H2 : List aH} {c2 : Int → Int} {mk rk : Nat → Int → Prop} {k : Int}
/-- every instruction but joins, sites and built-in functions -/
theorem st_pl (h : hyS S0 p X fa ms n WE B B2 w t A) (hWw : WEw WE) (hx1 : pe_at (pe_GA xs).xs 1 = some (1, tx_1)) (h7 : opI S0 (a_K A t) ≠ 7 ∧ opI S0 (a_K A t) ≠ 27 ∧ opI S0 (a_K A t) ≠ 28) : stO xs d S0 p HT cs ms os X mo fa n WE B2 w t A := by
  have hz := opS h.2.2.1 (wT_of h.2.2.2.1 h.2.1) h.2.2.2.2.2.2
  have hu := h.2.2.2.1.2.2.2.2.1
  have h33 := hz.1
  have h0 := hz.2.1
  by_cases hl : (a_K A t).1.length < 2000

  · rcases (show opI S0 (a_K A t) = 0 ∨ opI S0 (a_K A t) = 1 ∨ opI S0 (a_K A t) = 2 ∨ opI S0 (a_K A t) = 3 ∨ opI S0 (a_K A t) = 4 ∨ opI S0 (a_K A t) = 5 ∨ opI S0 (a_K A t) = 6 ∨ opI S0 (a_K A t) = 8 ∨ opI S0 (a_K A t) = 9 ∨ opI S0 (a_K A t) = 10 ∨ opI S0 (a_K A t) = 11 ∨ opI S0 (a_K A t) = 12 ∨ opI S0 (a_K A t) = 13 ∨ opI S0 (a_K A t) = 14 ∨ opI S0 (a_K A t) = 15 ∨ opI S0 (a_K A t) = 16 ∨ opI S0 (a_K A t) = 17 ∨ opI S0 (a_K A t) = 18 ∨ opI S0 (a_K A t) = 19 ∨ opI S0 (a_K A t) = 20 ∨ opI S0 (a_K A t) = 21 ∨ opI S0 (a_K A t) = 22 ∨ opI S0 (a_K A t) = 23 ∨ opI S0 (a_K A t) = 24 ∨ opI S0 (a_K A t) = 25 ∨ opI S0 (a_K A t) = 26 ∨ opI S0 (a_K A t) = 29 ∨ opI S0 (a_K A t) = 30 ∨ opI S0 (a_K A t) = 31 ∨ opI S0 (a_K A t) = 32 ∨ opI S0 (a_K A t) = 33 by omega) with ho | ho | ho | ho | ho | ho | ho | ho | ho | ho | ho | ho | ho | ho | ho | ho | ho | ho | ho | ho | ho | ho | ho | ho | ho | ho | ho | ho | ho | ho | ho
    · by_cases e : (opA S0 (a_K A t)) = 4
      · exact so_0t h ho e hl
      · exact so_0 h ho (by have := h0 ho; omega) hl
    · exact so_1 h ho hl
    · exact sq_2 h hWw ho
    · by_cases e : (a_G A (opA S0 (a_K A t))).1 = -1
      · exact so_3e h ho e hl
      · exact so_3 h ho e hl
    · exact sq_4 h hWw ho
    · exact so_5 h ho
    · exact so_6 h ho hl
    · by_cases e : ((a_K A t).1.getD ((a_K A t).1.length - 2) (0, 0, [])).1 = 2 ∧ ((a_K A t).1.getD ((a_K A t).1.length - 1) (0, 0, [])).1 = 2
      · exact so_8 h ho e.1 e.2
      · exact so_8e h ho (by omega) e
    · by_cases e : ((a_K A t).1.getD ((a_K A t).1.length - 2) (0, 0, [])).1 = 2 ∧ ((a_K A t).1.getD ((a_K A t).1.length - 1) (0, 0, [])).1 = 2
      · exact so_9 h ho e.1 e.2
      · exact so_8e h ho (by omega) e
    · by_cases e : ((a_K A t).1.getD ((a_K A t).1.length - 2) (0, 0, [])).1 = 2 ∧ ((a_K A t).1.getD ((a_K A t).1.length - 1) (0, 0, [])).1 = 2
      · by_cases e0 : ((a_K A t).1.getD ((a_K A t).1.length - 1) (0, 0, [])).2.1 = 0
        · exact so_10e h ho e.1 e.2 e0
        · exact so_10 h ho e.1 e.2 e0
      · exact so_8e h ho (by omega) e
    · by_cases e : ((a_K A t).1.getD ((a_K A t).1.length - 2) (0, 0, [])).1 = 2 ∧ ((a_K A t).1.getD ((a_K A t).1.length - 1) (0, 0, [])).1 = 2
      · by_cases e0 : ((a_K A t).1.getD ((a_K A t).1.length - 1) (0, 0, [])).2.1 = 0
        · exact so_11e h ho e.1 e.2 e0
        · exact so_11 h ho e.1 e.2 e0
      · exact so_8e h ho (by omega) e
    · by_cases e : ((a_K A t).1.getD ((a_K A t).1.length - 1) (0, 0, [])).1 = 2
      · exact so_12 h ho e
      · exact so_12e h ho e
    · exact so_13 h ho
    · by_cases e : ((a_K A t).1.getD ((a_K A t).1.length - 2) (0, 0, [])).1 = 3 ∧ ((a_K A t).1.getD ((a_K A t).1.length - 1) (0, 0, [])).1 = 3
      · exact so_14t h ho e.1 e.2
      · exact so_14 h ho e
    · by_cases e : ((a_K A t).1.getD ((a_K A t).1.length - 2) (0, 0, [])).1 = 3 ∧ ((a_K A t).1.getD ((a_K A t).1.length - 1) (0, 0, [])).1 = 3
      · exact so_15t h ho e.1 e.2
      · exact so_15 h ho e
    · by_cases e : ((a_K A t).1.getD ((a_K A t).1.length - 2) (0, 0, [])).1 = 2 ∧ ((a_K A t).1.getD ((a_K A t).1.length - 1) (0, 0, [])).1 = 2
      · exact so_16 h ho e.1 e.2
      · by_cases e3 : ((a_K A t).1.getD ((a_K A t).1.length - 2) (0, 0, [])).1 = 3 ∧ ((a_K A t).1.getD ((a_K A t).1.length - 1) (0, 0, [])).1 = 3
        · exact so_16t h ho e3.1 e3.2
        · exact so_16e h ho (by omega) e e3
    · by_cases e : ((a_K A t).1.getD ((a_K A t).1.length - 2) (0, 0, [])).1 = 2 ∧ ((a_K A t).1.getD ((a_K A t).1.length - 1) (0, 0, [])).1 = 2
      · exact so_17 h ho e.1 e.2
      · by_cases e3 : ((a_K A t).1.getD ((a_K A t).1.length - 2) (0, 0, [])).1 = 3 ∧ ((a_K A t).1.getD ((a_K A t).1.length - 1) (0, 0, [])).1 = 3
        · exact so_17t h ho e3.1 e3.2
        · exact so_16e h ho (by omega) e e3
    · by_cases e : ((a_K A t).1.getD ((a_K A t).1.length - 2) (0, 0, [])).1 = 2 ∧ ((a_K A t).1.getD ((a_K A t).1.length - 1) (0, 0, [])).1 = 2
      · exact so_18 h ho e.1 e.2
      · by_cases e3 : ((a_K A t).1.getD ((a_K A t).1.length - 2) (0, 0, [])).1 = 3 ∧ ((a_K A t).1.getD ((a_K A t).1.length - 1) (0, 0, [])).1 = 3
        · exact so_18t h ho e3.1 e3.2
        · exact so_16e h ho (by omega) e e3
    · by_cases e : ((a_K A t).1.getD ((a_K A t).1.length - 2) (0, 0, [])).1 = 2 ∧ ((a_K A t).1.getD ((a_K A t).1.length - 1) (0, 0, [])).1 = 2
      · exact so_19 h ho e.1 e.2
      · by_cases e3 : ((a_K A t).1.getD ((a_K A t).1.length - 2) (0, 0, [])).1 = 3 ∧ ((a_K A t).1.getD ((a_K A t).1.length - 1) (0, 0, [])).1 = 3
        · exact so_19t h ho e3.1 e3.2
        · exact so_16e h ho (by omega) e e3
    · exact so_20 h ho
    · exact so_21 h ho
    · exact so_22 h ho
    · exact so_23 h ho
    · by_cases e : a_c A 0 < 8000
      · exact sq_24 h hWw hx1 ho e hl
      · exact sq_24m h hWw hx1 ho (by have := hu.1.2; omega) hl
    · by_cases e : a_c A 0 < 8000 ∧ a_c A 1 + (opA S0 (a_K A t)) ≤ 60000
      · exact sq_25 h hWw hx1 ho e (fun _ => hl)
      · exact sq_25m h hWw hx1 ho e (fun _ => hl)
    · by_cases e : a_c A 0 < 8000
      · exact sq_26 h hWw hx1 ho e hl
      · exact sq_26m h hWw hx1 ho (by have := hu.1.2; omega) hl
    · exact so_29 h ho
    · exact so_30 h ho
    · exact so_31 h ho
    · exact so_32 h ho
    · exact so_33 h ho hl
  · rcases (show opI S0 (a_K A t) = 0 ∨ opI S0 (a_K A t) = 1 ∨ opI S0 (a_K A t) = 2 ∨ opI S0 (a_K A t) = 3 ∨ opI S0 (a_K A t) = 4 ∨ opI S0 (a_K A t) = 5 ∨ opI S0 (a_K A t) = 6 ∨ opI S0 (a_K A t) = 8 ∨ opI S0 (a_K A t) = 9 ∨ opI S0 (a_K A t) = 10 ∨ opI S0 (a_K A t) = 11 ∨ opI S0 (a_K A t) = 12 ∨ opI S0 (a_K A t) = 13 ∨ opI S0 (a_K A t) = 14 ∨ opI S0 (a_K A t) = 15 ∨ opI S0 (a_K A t) = 16 ∨ opI S0 (a_K A t) = 17 ∨ opI S0 (a_K A t) = 18 ∨ opI S0 (a_K A t) = 19 ∨ opI S0 (a_K A t) = 20 ∨ opI S0 (a_K A t) = 21 ∨ opI S0 (a_K A t) = 22 ∨ opI S0 (a_K A t) = 23 ∨ opI S0 (a_K A t) = 24 ∨ opI S0 (a_K A t) = 25 ∨ opI S0 (a_K A t) = 26 ∨ opI S0 (a_K A t) = 29 ∨ opI S0 (a_K A t) = 30 ∨ opI S0 (a_K A t) = 31 ∨ opI S0 (a_K A t) = 32 ∨ opI S0 (a_K A t) = 33 by omega) with ho | ho | ho | ho | ho | ho | ho | ho | ho | ho | ho | ho | ho | ho | ho | ho | ho | ho | ho | ho | ho | ho | ho | ho | ho | ho | ho | ho | ho | ho | ho
    · exact so_0v h ho (by omega)
    · exact so_1v h ho (by omega)
    · exact sq_2 h hWw ho
    · exact so_3v h ho (by omega)
    · exact sq_4 h hWw ho
    · exact so_5 h ho
    · exact so_6v h ho (by omega)
    · by_cases e : ((a_K A t).1.getD ((a_K A t).1.length - 2) (0, 0, [])).1 = 2 ∧ ((a_K A t).1.getD ((a_K A t).1.length - 1) (0, 0, [])).1 = 2
      · exact so_8 h ho e.1 e.2
      · exact so_8e h ho (by omega) e
    · by_cases e : ((a_K A t).1.getD ((a_K A t).1.length - 2) (0, 0, [])).1 = 2 ∧ ((a_K A t).1.getD ((a_K A t).1.length - 1) (0, 0, [])).1 = 2
      · exact so_9 h ho e.1 e.2
      · exact so_8e h ho (by omega) e
    · by_cases e : ((a_K A t).1.getD ((a_K A t).1.length - 2) (0, 0, [])).1 = 2 ∧ ((a_K A t).1.getD ((a_K A t).1.length - 1) (0, 0, [])).1 = 2
      · by_cases e0 : ((a_K A t).1.getD ((a_K A t).1.length - 1) (0, 0, [])).2.1 = 0
        · exact so_10e h ho e.1 e.2 e0
        · exact so_10 h ho e.1 e.2 e0
      · exact so_8e h ho (by omega) e
    · by_cases e : ((a_K A t).1.getD ((a_K A t).1.length - 2) (0, 0, [])).1 = 2 ∧ ((a_K A t).1.getD ((a_K A t).1.length - 1) (0, 0, [])).1 = 2
      · by_cases e0 : ((a_K A t).1.getD ((a_K A t).1.length - 1) (0, 0, [])).2.1 = 0
        · exact so_11e h ho e.1 e.2 e0
        · exact so_11 h ho e.1 e.2 e0
      · exact so_8e h ho (by omega) e
    · by_cases e : ((a_K A t).1.getD ((a_K A t).1.length - 1) (0, 0, [])).1 = 2
      · exact so_12 h ho e
      · exact so_12e h ho e
    · exact so_13 h ho
    · by_cases e : ((a_K A t).1.getD ((a_K A t).1.length - 2) (0, 0, [])).1 = 3 ∧ ((a_K A t).1.getD ((a_K A t).1.length - 1) (0, 0, [])).1 = 3
      · exact so_14t h ho e.1 e.2
      · exact so_14 h ho e
    · by_cases e : ((a_K A t).1.getD ((a_K A t).1.length - 2) (0, 0, [])).1 = 3 ∧ ((a_K A t).1.getD ((a_K A t).1.length - 1) (0, 0, [])).1 = 3
      · exact so_15t h ho e.1 e.2
      · exact so_15 h ho e
    · by_cases e : ((a_K A t).1.getD ((a_K A t).1.length - 2) (0, 0, [])).1 = 2 ∧ ((a_K A t).1.getD ((a_K A t).1.length - 1) (0, 0, [])).1 = 2
      · exact so_16 h ho e.1 e.2
      · by_cases e3 : ((a_K A t).1.getD ((a_K A t).1.length - 2) (0, 0, [])).1 = 3 ∧ ((a_K A t).1.getD ((a_K A t).1.length - 1) (0, 0, [])).1 = 3
        · exact so_16t h ho e3.1 e3.2
        · exact so_16e h ho (by omega) e e3
    · by_cases e : ((a_K A t).1.getD ((a_K A t).1.length - 2) (0, 0, [])).1 = 2 ∧ ((a_K A t).1.getD ((a_K A t).1.length - 1) (0, 0, [])).1 = 2
      · exact so_17 h ho e.1 e.2
      · by_cases e3 : ((a_K A t).1.getD ((a_K A t).1.length - 2) (0, 0, [])).1 = 3 ∧ ((a_K A t).1.getD ((a_K A t).1.length - 1) (0, 0, [])).1 = 3
        · exact so_17t h ho e3.1 e3.2
        · exact so_16e h ho (by omega) e e3
    · by_cases e : ((a_K A t).1.getD ((a_K A t).1.length - 2) (0, 0, [])).1 = 2 ∧ ((a_K A t).1.getD ((a_K A t).1.length - 1) (0, 0, [])).1 = 2
      · exact so_18 h ho e.1 e.2
      · by_cases e3 : ((a_K A t).1.getD ((a_K A t).1.length - 2) (0, 0, [])).1 = 3 ∧ ((a_K A t).1.getD ((a_K A t).1.length - 1) (0, 0, [])).1 = 3
        · exact so_18t h ho e3.1 e3.2
        · exact so_16e h ho (by omega) e e3
    · by_cases e : ((a_K A t).1.getD ((a_K A t).1.length - 2) (0, 0, [])).1 = 2 ∧ ((a_K A t).1.getD ((a_K A t).1.length - 1) (0, 0, [])).1 = 2
      · exact so_19 h ho e.1 e.2
      · by_cases e3 : ((a_K A t).1.getD ((a_K A t).1.length - 2) (0, 0, [])).1 = 3 ∧ ((a_K A t).1.getD ((a_K A t).1.length - 1) (0, 0, [])).1 = 3
        · exact so_19t h ho e3.1 e3.2
        · exact so_16e h ho (by omega) e e3
    · exact so_20 h ho
    · exact so_21 h ho
    · exact so_22 h ho
    · exact so_23 h ho
    · exact sq_24v h ho (by omega)
    · by_cases e0 : (opA S0 (a_K A t)) = 0
      · exact sq_25v h ho ⟨e0, by omega⟩
      · by_cases e : a_c A 0 < 8000 ∧ a_c A 1 + (opA S0 (a_K A t)) ≤ 60000
        · exact sq_25 h hWw hx1 ho e (fun z => absurd z e0)
        · exact sq_25m h hWw hx1 ho e (fun z => absurd z e0)
    · exact sq_26v h ho (by omega)
    · exact so_29 h ho
    · exact so_30 h ho
    · exact so_31 h ho
    · exact so_32 h ho
    · exact so_33v h ho (by omega)
end Wkn
