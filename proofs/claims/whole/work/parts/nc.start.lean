/-! PART nc: a task begins, the reference. -/
section Wnc
variable {Sb : wS} {xs : List (Nat × List Int32)} {d : Nat} {S0 S Z : wS} {p w m : Nat} {HT : Int → Int} {cs : List hCR} {ms : List hMR} {os : Int → List Int} {X : List (List Int)} {mo t n B B2 oq : Int} {fa : Int → Int} {WE : aA → Prop} {A A2 : aA} {K2 : aK} {ml : List Nat} {k c s kd nms ne ec bh nm en : Int} {b ba : Nat} {ar : List aV} {e : aE} {V Z2 Y : wS} {o : wO} {dn : Int} {H2 : List aH} {N2 : List (List Int)} {E2 : Int → List aE} {C2 : List aQ} {W2 : Int} {c2 : Int → Int} {k2 : Int → Int → Int} {mk rk : Nat → Int → Prop} {K : aK} {T : List aO} {H : List aH} {E : Int → List aE} {gk gb es lo hi a : Int} {r : List aE × Int × Option aE} {A1 : aA} {tl cl : List Int} {sl : Nat → List Int} {L : List aC} {G : Int → aV} {u : aV} {x : List Int} {T2 : List aO} {L2 : List aC} {G2 : Int → aV} {H2 : List aH} {c2 : Int → Int} {y : Int} {Q : wO → wS → Prop} {ps : List (Int × aV)} {k hd wh : Int} {f a9 pn fn md : Int} {vn m9 : Nat} {th : aV} {g : Int} {lp : List aV} {l ds fo g : Int} {mk : Nat → Int → Prop} {C2 : List aQ} {W2 : Int} {RZ : wS → Prop} {N3 : Nat} {SB : wS} {r r0 : Int} {sh : Int} {K9 : aK} {nt : Int} {R2 : List Int} {S2 : Int → aV} {wh en9 : Int} {q b2 pm m9 : Nat} {N : List (List Int)}
theorem bg_k {u : Int} {V : wS} (hr : rRel S0 Sb HT cs ms os X mo A S) (hl : kLn (a_K A 0) ∧ kLn (a_K A 1)) (ht : t = 0 ∨ t = 1) (hL : ((a_L A).length : Int) < 8000) (h94 : 0 ≤ S 237 94 ∧ S 237 94 ≤ 60000) (hV : mv_ag (S 237 94) (S 237 63) 0 (S 295 (S 294 u)) 0 0 (w_up (w_up (w_up (w_up (w_up (w_up (w_up (w_up (w_up (w_up (w_up (w_up S 237 0 0) 358 t 0) 359 t 0) 360 t 0) 237 151 t) 237 152 (2100 * t)) 237 153 (200 * t)) 237 154 (((200 * t) + 0) - 1)) 237 69 (((a_L A).length : Int) + 1)) 237 62 (S 237 62 + 1)) 333 ((a_L A).length : Int) (-1)) 334 ((a_L A).length : Int) (S 237 94)) V) (hM : w_ML (w_up (w_up (w_up (w_up (w_up (w_up (w_up (w_up (w_up (w_up (w_up V 237 154 ((200 * t) + 0)) 358 t (0 + 1)) 365 ((200 * t) + 0) (S 294 u)) 366 ((200 * t) + 0) 0) 367 ((200 * t) + 0) ((a_L A).length : Int)) 368 ((200 * t) + 0) 0) 369 ((200 * t) + 0) 0) 370 ((200 * t) + 0) (-1)) 371 ((200 * t) + 0) 0) 372 ((200 * t) + 0) 0) 357 t 1)) : rRun S0 (tkZ t S) HT cs ms os X mo t (u_W A t (kBg (S 294 u) ((a_L A).length : Int) (a_K A t).2.2.2.2) (a_T A) (a_L A ++ [(-1, [])]) (a_G A) (a_H A) (fUp (a_c A) 0 (a_c A 0 + 1))) (w_up (w_up (w_up (w_up (w_up (w_up (w_up (w_up (w_up (w_up (w_up V 237 154 ((200 * t) + 0)) 358 t (0 + 1)) 365 ((200 * t) + 0) (S 294 u)) 366 ((200 * t) + 0) 0) 367 ((200 * t) + 0) ((a_L A).length : Int)) 368 ((200 * t) + 0) 0) 369 ((200 * t) + 0) 0) 370 ((200 * t) + 0) (-1)) 371 ((200 * t) + 0) 0) 372 ((200 * t) + 0) 0) 357 t 1) ∧ (∀ (j : Nat) (x : Int), rOut t j x → ¬ rMc j x → (j ≠ 237 ∨ (x ≠ 0 ∧ x ≠ 151 ∧ x ≠ 152 ∧ x ≠ 153)) → (w_up (w_up (w_up (w_up (w_up (w_up (w_up (w_up (w_up (w_up (w_up V 237 154 ((200 * t) + 0)) 358 t (0 + 1)) 365 ((200 * t) + 0) (S 294 u)) 366 ((200 * t) + 0) 0) 367 ((200 * t) + 0) ((a_L A).length : Int)) 368 ((200 * t) + 0) 0) 369 ((200 * t) + 0) 0) 370 ((200 * t) + 0) (-1)) 371 ((200 * t) + 0) 0) 372 ((200 * t) + 0) 0) 357 t 1) j x = S j x) := by
  obtain ⟨⟨sl, hW⟩, hH⟩ := hr.2.2.1
  obtain ⟨u5, u81, -, -, -, u8⟩ := hr.2.2.2.2.2.2.2.1
  have c1 : S 237 63 = a_c A 1 := u5 1 (by first | decide | omega)
  have c2 : S 237 64 = a_c A 2 := u5 2 (by first | decide | omega)
  have c3 : S 237 65 = a_c A 3 := u5 3 (by first | decide | omega)
  have c4 : S 237 66 = a_c A 4 := u5 4 (by first | decide | omega)
  have c0 : S 237 62 = a_c A 0 := u5 0 (by first | decide | omega)
  obtain ⟨m1, m2, m3, ⟨m4, m5, m6⟩, m7⟩ := mbk (u := u) (rT_of hr ht) hW (by omega) hL h94 hV
  have q : ∀ x : Int, x ≠ 154 → (w_up (w_up (w_up (w_up (w_up (w_up (w_up (w_up (w_up (w_up (w_up V 237 154 ((200 * t) + 0)) 358 t (0 + 1)) 365 ((200 * t) + 0) (S 294 u)) 366 ((200 * t) + 0) 0) 367 ((200 * t) + 0) ((a_L A).length : Int)) 368 ((200 * t) + 0) 0) 369 ((200 * t) + 0) 0) 370 ((200 * t) + 0) (-1)) 371 ((200 * t) + 0) 0) 372 ((200 * t) + 0) 0) 357 t 1) 237 x = V 237 x := fun x hx => by
    rw [w_up_slot (by first | decide | omega), w_up_slot (by first | decide | omega), w_up_slot (by first | decide | omega), w_up_slot (by first | decide | omega), w_up_slot (by first | decide | omega), w_up_slot (by first | decide | omega), w_up_slot (by first | decide | omega), w_up_slot (by first | decide | omega), w_up_slot (by first | decide | omega), w_up_slot (by first | decide | omega), w_up_at hx]
  have e151 : (w_up (w_up (w_up (w_up (w_up (w_up (w_up (w_up (w_up (w_up (w_up V 237 154 ((200 * t) + 0)) 358 t (0 + 1)) 365 ((200 * t) + 0) (S 294 u)) 366 ((200 * t) + 0) 0) 367 ((200 * t) + 0) ((a_L A).length : Int)) 368 ((200 * t) + 0) 0) 369 ((200 * t) + 0) 0) 370 ((200 * t) + 0) (-1)) 371 ((200 * t) + 0) 0) 372 ((200 * t) + 0) 0) 357 t 1) 237 151 = tkZ t S 237 151 := by
    rw [q 151 (by first | decide | omega), hV.2.2 237 151 (Or.inl ⟨by decide, by decide⟩) (Or.inr ⟨by decide, by decide⟩), w_up_slot (by first | decide | omega), w_up_slot (by first | decide | omega), w_up_at (by first | decide | omega), w_up_at (by first | decide | omega), w_up_at (by first | decide | omega), w_up_at (by first | decide | omega), w_up_at (by first | decide | omega), w_up_same]
    unfold tkZ
    rw [w_up_at (by first | decide | omega), w_up_at (by first | decide | omega), w_up_at (by first | decide | omega), w_up_same]
  have e152 : (w_up (w_up (w_up (w_up (w_up (w_up (w_up (w_up (w_up (w_up (w_up V 237 154 ((200 * t) + 0)) 358 t (0 + 1)) 365 ((200 * t) + 0) (S 294 u)) 366 ((200 * t) + 0) 0) 367 ((200 * t) + 0) ((a_L A).length : Int)) 368 ((200 * t) + 0) 0) 369 ((200 * t) + 0) 0) 370 ((200 * t) + 0) (-1)) 371 ((200 * t) + 0) 0) 372 ((200 * t) + 0) 0) 357 t 1) 237 152 = tkZ t S 237 152 := by
    rw [q 152 (by first | decide | omega), hV.2.2 237 152 (Or.inl ⟨by decide, by decide⟩) (Or.inr ⟨by decide, by decide⟩), w_up_slot (by first | decide | omega), w_up_slot (by first | decide | omega), w_up_at (by first | decide | omega), w_up_at (by first | decide | omega), w_up_at (by first | decide | omega), w_up_at (by first | decide | omega), w_up_same]
    unfold tkZ
    rw [w_up_at (by first | decide | omega), w_up_at (by first | decide | omega), w_up_same]
  have e153 : (w_up (w_up (w_up (w_up (w_up (w_up (w_up (w_up (w_up (w_up (w_up V 237 154 ((200 * t) + 0)) 358 t (0 + 1)) 365 ((200 * t) + 0) (S 294 u)) 366 ((200 * t) + 0) 0) 367 ((200 * t) + 0) ((a_L A).length : Int)) 368 ((200 * t) + 0) 0) 369 ((200 * t) + 0) 0) 370 ((200 * t) + 0) (-1)) 371 ((200 * t) + 0) 0) 372 ((200 * t) + 0) 0) 357 t 1) 237 153 = tkZ t S 237 153 := by
    rw [q 153 (by first | decide | omega), hV.2.2 237 153 (Or.inl ⟨by decide, by decide⟩) (Or.inr ⟨by decide, by decide⟩), w_up_slot (by first | decide | omega), w_up_slot (by first | decide | omega), w_up_at (by first | decide | omega), w_up_at (by first | decide | omega), w_up_at (by first | decide | omega), w_up_same]
    unfold tkZ
    rw [w_up_at (by first | decide | omega), w_up_same]
  have e0 : (w_up (w_up (w_up (w_up (w_up (w_up (w_up (w_up (w_up (w_up (w_up V 237 154 ((200 * t) + 0)) 358 t (0 + 1)) 365 ((200 * t) + 0) (S 294 u)) 366 ((200 * t) + 0) 0) 367 ((200 * t) + 0) ((a_L A).length : Int)) 368 ((200 * t) + 0) 0) 369 ((200 * t) + 0) 0) 370 ((200 * t) + 0) (-1)) 371 ((200 * t) + 0) 0) 372 ((200 * t) + 0) 0) 357 t 1) 237 0 = tkZ t S 237 0 := by
    rw [m7]
    unfold tkZ
    rw [w_up_at (by first | decide | omega), w_up_at (by first | decide | omega), w_up_at (by first | decide | omega), w_up_at (by first | decide | omega), w_up_same]
  have ek : ∀ (j : Nat) (x : Int), ¬ (j = 237 ∧ (x = 0 ∨ x = 151 ∨ x = 152 ∨ x = 153 ∨ x = 154)) → tkZ t S j x = S j x := fun j x hj => by
    unfold tkZ
    rw [w_up_no (by omega), w_up_no (by omega), w_up_no (by omega), w_up_no (by omega), w_up_no (by omega)]
  have ro : ∀ x : Int, 50 ≤ x → x ≤ 90 → rOut t 237 x := fun x x0 x1 => by unfold rOut; omega
  have ro3 : ∀ (j : Nat) (x : Int), 329 ≤ j → j ≤ 332 → rOut t j x := fun j x x0 x1 => by unfold rOut; omega
  generalize (w_up (w_up (w_up (w_up (w_up (w_up (w_up (w_up (w_up (w_up (w_up V 237 154 ((200 * t) + 0)) 358 t (0 + 1)) 365 ((200 * t) + 0) (S 294 u)) 366 ((200 * t) + 0) 0) 367 ((200 * t) + 0) ((a_L A).length : Int)) 368 ((200 * t) + 0) 0) 369 ((200 * t) + 0) 0) 370 ((200 * t) + 0) (-1)) 371 ((200 * t) + 0) 0) 372 ((200 * t) + 0) 0) 357 t 1) = Z at *
  refine ⟨rRel_W (rk := rMc) (tkZ_r hr hl) ht hl (fun j x o9 hm => ?_) (fun j x h => by unfold rMc at h; unfold rWd9; omega) hM m1 ⟨sl, m2⟩ (rHs_ag hH ?_ (fun j x j0 j1 => ?_)) (rCw_of ?_ ?_ ?_ ?_ ?_ ?_ ?_) (fun i i5 _ => fUp_n (by omega)), m3⟩
  · by_cases c : j = 237 ∧ (x = 0 ∨ x = 151 ∨ x = 152 ∨ x = 153)
    · obtain ⟨rfl, rfl | rfl | rfl | rfl⟩ := c
      · exact e0
      · exact e151
      · exact e152
      · exact e153
    · rw [ek j x (fun z => by have := o9.1 z.1; omega)]
      exact m3 j x o9 hm (by omega)
  · exact m3 237 87 (ro 87 (by first | decide | omega) (by first | decide | omega)) (fun z => by unfold rMc at z; omega) (by omega)
  · exact m3 j x (ro3 j x j0 j1) (fun z => by unfold rMc at z; omega) (by omega)
  · rw [fUp_s, m4, c0]
  · rw [fUp_n (by first | decide | omega), m5, c1]
  · rw [fUp_n (by first | decide | omega), m3 237 64 (ro 64 (by first | decide | omega) (by first | decide | omega)) (fun z => by unfold rMc at z; omega) (by omega), c2]
  · rw [fUp_n (by first | decide | omega), m3 237 65 (ro 65 (by first | decide | omega) (by first | decide | omega)) (fun z => by unfold rMc at z; omega) (by omega), c3]
  · rw [fUp_n (by first | decide | omega), m3 237 66 (ro 66 (by first | decide | omega) (by first | decide | omega)) (fun z => by unfold rMc at z; omega) (by omega), c4]
  · rw [fUp_n (by first | decide | omega), m3 237 81 (ro 81 (by first | decide | omega) (by first | decide | omega)) (fun z => by unfold rMc at z; omega) (by omega), u81]
  · rw [m5, m6, m3 237 82 (ro 82 (by first | decide | omega) (by first | decide | omega)) (fun z => by unfold rMc at z; omega) (by omega)]
    exact u8
theorem bg_rr {u : Int} {S1 : wS} (hr : rRel S0 Sb HT cs ms os X mo A S) (hw : wfA S1 fa ms n WE B A) (h33 : 0 ≤ S 237 33 ∧ S 237 33 ≤ 16) (hfu : ∀ u : Int, 0 ≤ u → u < S 237 33 → (0 ≤ S 294 u ∧ S 294 u < 400) ∧ S 296 (S 294 u) = 0) (ht : -2147483648 ≤ t ∧ t ≤ 2147483647) (hu : -2147483648 ≤ u ∧ u ≤ 2147483647) : wJ (pe_GA xs) wY0 (fun _ => False) (d + 3) t_M_start ((pe_at t_M_start.bl 0).getD (0, [])).2 [(0, (2, 237)), (1, (0, t)), (2, (0, u))] [] S (fun o Z => (¬ ((0 ≤ t ∧ t < 2 ∧ 0 ≤ u ∧ u < S 237 33) ∧ S 357 t ≠ 1 ∧ S 237 62 + 1 ≤ 8000) ∧ o = .inl (some (0, 0)) ∧ w_up S 237 0 0 = Z) ∨ (((0 ≤ t ∧ t < 2 ∧ 0 ≤ u ∧ u < S 237 33) ∧ S 357 t ≠ 1 ∧ S 237 62 + 1 ≤ 8000) ∧ o = .inl (some (0, 1)) ∧ rRun S0 (tkZ t S) HT cs ms os X mo t (u_W A t (kBg (S 294 u) ((a_L A).length : Int) (a_K A t).2.2.2.2) (a_T A) (a_L A ++ [(-1, [])]) (a_G A) (a_H A) (fUp (a_c A) 0 (a_c A 0 + 1))) Z ∧ (∀ (j : Nat) (x : Int), rOut t j x → ¬ rMc j x → (j ≠ 237 ∨ (x ≠ 0 ∧ x ≠ 151 ∧ x ≠ 152 ∧ x ≠ 153)) → Z j x = S j x))) := by
  have hct := hw.2.2.2.2.1
  have b0 := hct.1
  have b1 := hct.2.1
  obtain ⟨⟨sl, hW⟩, hH⟩ := hr.2.2.1
  obtain ⟨u5, u81, -, -, -, u8⟩ := hr.2.2.2.2.2.2.2.1
  have c1 : S 237 63 = a_c A 1 := u5 1 (by first | decide | omega)
  have c0 : S 237 62 = a_c A 0 := u5 0 (by first | decide | omega)
  have h94 : 0 ≤ S 237 94 ∧ S 237 94 ≤ 60000 := ⟨u8.2.1, hW.2.2.2.1.2⟩
  have hl : kLn (a_K A 0) ∧ kLn (a_K A 1) := ⟨hw.1.1.1, hw.1.2.1⟩
  refine wJ_mono (wJ_ml hr.1 (mbg (L := a_L A) (Q := fun o Z => (¬ ((0 ≤ t ∧ t < 2 ∧ 0 ≤ u ∧ u < S 237 33) ∧ S 357 t ≠ 1 ∧ S 237 62 + 1 ≤ 8000) ∧ o = .inl (some (0, 0)) ∧ w_up S 237 0 0 = Z) ∨ (((0 ≤ t ∧ t < 2 ∧ 0 ≤ u ∧ u < S 237 33) ∧ S 357 t ≠ 1 ∧ S 237 62 + 1 ≤ 8000) ∧ o = .inl (some (0, 1)) ∧ (w_ML Z → rRun S0 (tkZ t S) HT cs ms os X mo t (u_W A t (kBg (S 294 u) ((a_L A).length : Int) (a_K A t).2.2.2.2) (a_T A) (a_L A ++ [(-1, [])]) (a_G A) (a_H A) (fUp (a_c A) 0 (a_c A 0 + 1))) Z ∧ (∀ (j : Nat) (x : Int), rOut t j x → ¬ rMc j x → (j ≠ 237 ∨ (x ≠ 0 ∧ x ≠ 151 ∧ x ≠ 152 ∧ x ≠ 153)) → Z j x = S j x)))) hr.1 h33 hW.2.1.1 (by omega) (by omega) (by omega) h94 hfu ht hu (fun c => Or.inl ⟨c, rfl, rfl⟩) (fun c V hV => Or.inr ⟨c, rfl, fun hM => bg_k hr hl (by omega) (by omega) h94 hV hM⟩))) (fun o Z hz => hz.1.imp id (fun z => ⟨z.1, z.2.1, z.2.2 hz.2⟩))
end Wnc
