/-! PART nb: a task begins, the class. -/
section Wnb
variable {xs : List (Nat × List Int32)} {d : Nat} {S0 S Z : wS} {p w m : Nat} {HT : Int → Int} {cs : List hCR} {ms : List hMR} {os : Int → List Int} {X : List (List Int)} {mo t n B B2 oq : Int} {fa : Int → Int} {WE : aA → Prop} {A A2 : aA} {K2 : aK} {ml : List Nat} {k c s kd nms ne ec bh nm en : Int} {b ba : Nat} {ar : List aV} {e : aE} {V Z2 Y : wS} {o : wO} {dn : Int} {H2 : List aH} {N2 : List (List Int)} {E2 : Int → List aE} {C2 : List aQ} {W2 : Int} {c2 : Int → Int} {k2 : Int → Int → Int} {mk rk : Nat → Int → Prop} {K : aK} {T : List aO} {H : List aH} {E : Int → List aE} {gk gb es lo hi a : Int} {r : List aE × Int × Option aE} {A1 : aA} {tl cl : List Int} {sl : Nat → List Int} {L : List aC} {G : Int → aV} {u : aV} {x : List Int} {T2 : List aO} {L2 : List aC} {G2 : Int → aV} {H2 : List aH} {c2 : Int → Int} {y : Int} {Q : wO → wS → Prop} {ps : List (Int × aV)} {k hd wh : Int} {f a9 pn fn md : Int} {vn m9 : Nat} {th : aV} {g : Int} {lp : List aV} {l ds fo g : Int} {mk : Nat → Int → Prop} {C2 : List aQ} {W2 : Int} {RZ : wS → Prop} {N3 : Nat} {SB : wS} {r r0 : Int} {sh : Int} {K9 : aK} {nt : Int} {R2 : List Int} {S2 : Int → aV} {wh en9 : Int} {q b2 pm m9 : Nat} {N : List (List Int)}
theorem bg_c {u : Int} (hC : cRel S p HT cs ms os X mo A S) (hw : wfA S fa ms n WE B A) (hp : p = 73 ∨ p = 162) (hx1 : pe_at (pe_GA xs).xs 1 = some (1, tx_1)) (h161 : S 161 (-1) = 2 ∧ S 161 0 = 215 ∧ S 161 1 = 226) (h30 : S 19 3 ≤ 16) (ht : -2147483648 ≤ t ∧ t ≤ 2147483647) (hu : -2147483648 ≤ u ∧ u ≤ 2147483647) : wJ (pe_GA xs) wY0 (mS [138, 139, 141, 142]) (d + 6) t_X_start ((pe_at t_X_start.bl 0).getD (0, [])).2 [(0, (2, 0)), (1, (0, t)), (2, (0, u))] [] S (fun o Z => (¬ ((0 ≤ t ∧ t < 2 ∧ 0 ≤ u ∧ u < S 19 3) ∧ (tkq (a_K A 0) (a_K A 1) t).2.2.2.1 ≠ 1 ∧ S 150 0 + 1 ≤ 8000) ∧ S = Z ∧ o = .inl (some (0, 0))) ∨ (((0 ≤ t ∧ t < 2 ∧ 0 ≤ u ∧ u < S 19 3) ∧ (tkq (a_K A 0) (a_K A 1) t).2.2.2.1 ≠ 1 ∧ S 150 0 + 1 ≤ 8000) ∧ o = .inl (some (0, 1)) ∧ (t = 0 ∨ t = 1) ∧ cRel S p HT cs ms os X mo (u_W A t (kBg (S 30 u) ((a_L A).length : Int) (a_K A t).2.2.2.2) (a_T A) (a_L A ++ [(-1, [])]) (a_G A) (a_H A) (fUp (a_c A) 0 (a_c A 0 + 1))) Z ∧ ∃ w2 : Nat, (w2 = 215 ∨ w2 = 226) ∧ cFm w2 cMc S Z)) := by
  have u9 := cR_u hC
  have hct := hw.2.2.2.2.1
  have c0 := hct.1
  have c1 := hct.2.1
  have z14 := c5_b hC hct.2.1.2.1
  refine wJ_mono (wJ_len (xst (d := d) hx1 hC.1.1 hC.1.2.1 hC.2.2.1.1 ⟨by omega, by omega⟩ ⟨by omega, by omega⟩ (by omega) (by omega) h161 hC.2.1.1 hC.2.1.2 h30 ht hu)) (fun o Z hz => ?_)
  obtain ⟨hz, hl⟩ := hz
  rcases hz with z | ⟨z1, z2, z3, z4, z5, z6, z7⟩
  · exact Or.inl z
  · refine Or.inr ⟨z1, z2, ?_⟩
    have hCL : w_CL Z := CL_len (ml := [138, 139, 141, 142]) hC.1.1 (by first | decide | omega) hl
    have fin : ∀ (w2 : Nat) (t2 : Int), isWt w2 t2 → cTk w2 Z (kBg (S 30 u) ((a_L A).length : Int) (a_K A t2).2.2.2.2) → cFm w2 cMc S Z → cRel S p HT cs ms os X mo (u_W A t2 (kBg (S 30 u) ((a_L A).length : Int) (a_K A t2).2.2.2.2) (a_T A) (a_L A ++ [(-1, [])]) (a_G A) (a_H A) (fUp (a_c A) 0 (a_c A 0 + 1))) Z := fun w2 t2 hw2 hk hf => by
      have g : ∀ (j : Nat) (x : Int), j < 215 → ¬ cMc j x → Z j x = S j x := fun j x j1 j2 => fmG hf hw2 j x j1 j2
      refine cRel_W hC hp hw2 hf (fun j x hm => mw_c hm) hCL hk z4 (cR_Sw (A := A) hC hf hw2 (fun j x hj hm => by unfold shD at hj; unfold cMc at hm; omega)) (cPo_ag hC.2.2.1.2.2 ?_ (fun x => ⟨?_, ?_⟩) z7 z6) (cCw_of ?_ ?_ ?_ ?_ ?_ ?_) (fun i i5 _ => fUp_n (by omega)) (by rw [fUp_n (by first | decide | omega)]; exact Int.le_refl _)
      · exact g 72 3 (by first | decide | omega) (fun hm => by unfold cMc at hm; omega)
      · exact g 134 x (by first | decide | omega) (fun hm => by unfold cMc at hm; omega)
      · exact g 135 x (by first | decide | omega) (fun hm => by unfold cMc at hm; omega)
      · rw [fUp_s, z5, u9.1]
      · rw [fUp_n (by first | decide | omega), z6]; exact u9.2.1
      · rw [fUp_n (by first | decide | omega), g 150 2 (by first | decide | omega) (fun hm => by unfold cMc at hm; omega)]; exact u9.2.2.1
      · rw [fUp_n (by first | decide | omega), g 150 3 (by first | decide | omega) (fun hm => by unfold cMc at hm; omega)]; exact u9.2.2.2.1
      · rw [fUp_n (by first | decide | omega), g 150 4 (by first | decide | omega) (fun hm => by unfold cMc at hm; omega)]; exact u9.2.2.2.2.1
      · rw [fUp_n (by first | decide | omega), g 72 11 (by first | decide | omega) (fun hm => by unfold cMc at hm; omega)]; exact u9.2.2.2.2.2
    rcases z3 with ⟨e, k, f⟩ | ⟨e, k, f⟩
    · rw [e]
      exact ⟨Or.inl rfl, fin 215 0 (Or.inl ⟨rfl, rfl⟩) k f, 215, Or.inl rfl, f⟩
    · rw [e]
      exact ⟨Or.inr rfl, fin 226 1 (Or.inr ⟨rfl, rfl⟩) k f, 226, Or.inr rfl, f⟩
end Wnb
