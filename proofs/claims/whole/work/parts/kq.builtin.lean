/-! PART kq: a step of a task, on both sides: every built-in function. -/
section Wkq
variable {xs : List (Nat × List Int32)} {d : Nat} {S0 S Z : wS} {p w m : Nat} {HT : Int → Int} {cs : List hCR} {ms : List hMR} {os : Int → List Int} {X : List (List Int)} {mo t n B B2 oq : Int} {fa : Int → Int} {WE : aA → Prop} {A A2 : aA} {K2 : aK} {ml : List Nat} {T2 : List aO} {L2 : List aC} {G2 : Int → aV} {H2 : List aH} {c2 : Int → Int} {mk rk : Nat → Int → Prop} {k : Int} {b : Nat} {nt : Int}
theorem st_bu (h : hyS S0 p X fa ms n WE B B2 w t A) (hWw : WEw WE) (hWo : WEo WE) (hB1 : B + 1 ≤ B2) (hX : w_X xs) (hx1 : pe_at (pe_GA xs).xs 1 = some (1, tx_1)) (hx55 : pe_at (pe_GA xs).xs 55 = some (1, tx_55)) (h56 : S0 156 (-1) = 65) (h57 : S0 157 (-1) = 64) (hH : stHo S0 p b HT nt cs ms os n) (ho : opI S0 (a_K A t) = 28) : stO xs d S0 p HT cs ms os X mo fa n WE B2 w t A := by
  have hk := wT_of h.2.2.2.1 h.2.1
  have hh := tyt_h h.2.2.1 hk h.2.2.2.2.2.2
  by_cases h7 : (opA S0 (a_K A t)) = 7
  · by_cases e3 : ((a_K A t).1.getD ((a_K A t).1.length - 1) (0, 0, [])).1 = 3
    · have z := ctA_rg (m := cs.length) (pr := fun k => decide (cNa HT cs (k : Int) = ((a_K A t).1.getD ((a_K A t).1.length - 1) (0, 0, [])).2.2))
      have z2 : (cIx HT cs ((a_K A t).1.getD ((a_K A t).1.length - 1) (0, 0, [])).2.2) = ctA cs.length (fun k => decide (cNa HT cs (k : Int) = ((a_K A t).1.getD ((a_K A t).1.length - 1) (0, 0, [])).2.2)) := rfl
      by_cases e : (cIx HT cs ((a_K A t).1.getD ((a_K A t).1.length - 1) (0, 0, [])).2.2) = -1
      · exact sb_7m h hH ho h7 e3 e
      · exact sb_7 h hH ho h7 e3 (by omega)
    · exact sb_7e h hH ho h7 e3
  · by_cases h0 : (opA S0 (a_K A t)) = 0 ∧ ¬ ((a_K A t).1.getD ((a_K A t).1.length - 1) (0, 0, [])).1 ≤ 6
    · rw [ho, h0.1] at hh
      replace hh : 1 ≤ (a_K A t).1.length := by have z : (1 : Int) ≤ ((a_K A t).1.length : Int) := hh; omega
      have hk8 := ((wV_of h.2.2.2.1 h.2.1).1 ((a_K A t).1.getD ((a_K A t).1.length - 1) (0, 0, [])) (tp_m (by omega))).1.1
      by_cases e : ((a_O A).length : Int) + ((pH HT cs (a_T A) ((a_K A t).1.getD ((a_K A t).1.length - 1) (0, 0, []))).length : Int) + 1 ≤ 65536
      · exact sb_hp h hWo hH hX h57 ho h0.1 (by omega) e
      · exact sb_hm h hH hX h57 ho h0.1 (by omega) (by omega)
    · exact st_bi h hWw hWo hB1 hX hx1 hx55 h56 h57 ho h7 (fun z => by omega)
end Wkq
