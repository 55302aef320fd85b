/-! PART eo: FUN and OBJECT, by tasks and worlds. -/
section Weo
variable {xs : List (Nat × List Int32)} {d : Nat} {S Z A B : wS} {K Kr : aK} {k v q t a b : Int} {u : aV} {w m : Nat} {L : List aC} {T : List aO} {G : Int → aV} {sl : Nat → List Int} {mk : Nat → Int → Prop} {ml : List Nat} {kd sh fo rm ar n u0 : Int}
theorem gO_l {l : List aO} {x : aO} {i : Nat} (hi : i < l.length) : (l ++ [x]).getD i (0, 0, 0, 0, 0, 0, []) = l.getD i (0, 0, 0, 0, 0, 0, []) := by
  rw [List.getD_eq_getElem?_getD, List.getElem?_append_left hi, ← List.getD_eq_getElem?_getD]
theorem gO_r {l : List aO} {x : aO} : (l ++ [x]).getD l.length (0, 0, 0, 0, 0, 0, []) = x := by
  rw [List.getD_eq_getElem?_getD, List.getElem?_append_right (Nat.le_refl _), Nat.sub_self]; rfl
theorem cWd_fr (hw : w = 215 ∨ w = 226) (h : cWd S T L G) (f : cFr w S Z) : cWd Z T L G := by
  have hg : wG = 1000000 := rfl
  have e : ∀ (j : Nat) (x : Int), j < 215 → Z j x = S j x := fun j x j0 => f.1 j x (by omega) (by omega) (by omega)
  exact cWd_ag h (cTx_of (e 2 1 (by decide)) (fun x => e 3 x (by decide))) (fun j x hj => e j x (by unfold cWo at hj; omega))
/-- a thing comes, of the class -/
theorem cWd_at (h : cWd S T L G) (r : at_ag kd sh fo rm S A) (hr : 0 ≤ rm ∧ S 140 2 + rm ≤ 240200) (ht : (T.length : Int) ≤ 8000) : cWd (w_up A 136 (S 72 3) ar) (T ++ [(kd, sh, fo, ar, -1, 0, [])]) L G := by
  have hg : wG = 1000000 := rfl
  obtain ⟨h1, h2, ⟨p1, p2, p3⟩, ⟨⟨n1, n2, n3, n4⟩, n5, ⟨n6, n7⟩, n8, n9⟩, ⟨t1, t2, t3, t4⟩, h5⟩ := h
  obtain ⟨⟨a1, a2⟩, ⟨⟨b1, b2, b3⟩, ⟨b4, b5, b6⟩, b7, b8, b9, b10⟩, c, d1, e1, ⟨f1, f2, f3, f4⟩, ⟨g1, g2, g3, g4⟩, fr, -, -⟩ := r
  have hn : S 72 3 = (T.length : Int) := h1.1
  have z1 : ∀ (j : Nat) (x : Int), j ≠ 136 → (w_up A 136 (S 72 3) ar) j x = A j x := fun j x hj => w_up_slot hj
  have e2 : ∀ (j : Nat) (x : Int), 127 ≤ j → j ≤ 136 → 0 ≤ x → x < (T.length : Int) → (w_up A 136 (S 72 3) ar) j x = S j x := fun j x j0 j1 x0 x1 => by
    have q := c (j - 127) (by omega) x x0 (by omega)
    rw [show 127 + (j - 127) = j by omega] at q
    exact (w_up_at (by omega)).trans q
  have e3 : ∀ (j : Nat) (x : Int), j < 4000000 → j ≠ wG → (j < 127 ∨ 136 < j) → j ≠ 141 → j ≠ 142 → (j ≠ 72 ∨ x ≠ 3) → (j ≠ 140 ∨ x ≠ 2) → (j ≠ 150 ∨ x ≠ 0) → (w_up A 136 (S 72 3) ar) j x = S j x := fun j x j0 j1 j2 j3 j4 j5 j6 j7 => (z1 j x (by omega)).trans (fr j x j0 j1 j2 j3 j4 j5 j6 j7)
  have ec : ∀ x : Int, 0 ≤ x → x < S 140 2 → (w_up A 136 (S 72 3) ar) 141 x = S 141 x ∧ (w_up A 136 (S 72 3) ar) 142 x = S 142 x := fun x x0 x1 => ⟨(z1 141 x (by decide)).trans (e1 x x0 (by omega)).1, (z1 142 x (by decide)).trans (e1 x x0 (by omega)).2⟩
  have e : cTx S (w_up A 136 (S 72 3) ar) := cTx_of (e3 2 1 (by decide) (by decide) (by decide) (by decide) (by decide) (by decide) (by decide) (by decide)) (fun x => e3 3 x (by decide) (by decide) (by decide) (by decide) (by decide) (Or.inl (by decide)) (Or.inl (by decide)) (Or.inl (by decide)))
  have e8 : ∀ x : Int, (w_up A 136 (S 72 3) ar) 138 x = S 138 x ∧ (w_up A 136 (S 72 3) ar) 139 x = S 139 x := fun x => ⟨e3 138 x (by decide) (by decide) (by decide) (by decide) (by decide) (Or.inl (by decide)) (Or.inl (by decide)) (Or.inl (by decide)), e3 139 x (by decide) (by decide) (by decide) (by decide) (by decide) (Or.inl (by decide)) (Or.inl (by decide)) (Or.inl (by decide))⟩
  have e0 : (w_up A 136 (S 72 3) ar) 140 2 = S 140 2 + rm := (z1 140 2 (by decide)).trans d1
  have lt : (T ++ [(kd, sh, fo, ar, -1, 0, [])]).length = T.length + 1 := by rw [List.length_append]; rfl
  have y3 : (w_up A 136 (S 72 3) ar) 133 (S 72 3) = S 140 2 := (z1 133 _ (by decide)).trans b7
  have y5 : (w_up A 136 (S 72 3) ar) 135 (S 72 3) = rm := (z1 135 _ (by decide)).trans b9
  have hb := h1.2
  have hcb := h2.2
  refine ⟨⟨?_, fun k hk => ?_⟩, cCa_mo h2 e (e3 72 5 (by decide) (by decide) (by decide) (by decide) (by decide) (by decide) (by decide) (by decide)) (fun x _ _ => e8 x) (by omega) (fun k i hk i0 i1 => ?_), ⟨fun k q hk hq ne => ?_, fun k q hk hq => ?_, fun k q hk hq ne => ?_⟩, ?_, ?_, cGl_mo h5 e (fun j x hj => e3 j x (by omega) (by omega) (by omega) (by omega) (by omega) (by omega) (by omega) (by omega))⟩
  · rw [z1 72 3 (by decide), a1, lt]; omega
  · rw [lt] at hk
    by_cases ck : k < T.length
    · rw [gO_l ck]
      obtain ⟨⟨x1, x2, x3, x4, x5, x6⟩, ⟨y1, y2, y3, y4⟩, cc⟩ := hb k ck
      have e4 : ∀ j : Nat, 127 ≤ j → j ≤ 136 → (w_up A 136 (S 72 3) ar) j (k : Int) = S j (k : Int) := fun j j0 j1 => e2 j k j0 j1 (by omega) (by omega)
      rw [e4 127 (by decide) (by decide), e4 128 (by decide) (by decide), e4 129 (by decide) (by decide), e4 130 (by decide) (by decide), e4 131 (by decide) (by decide), e4 133 (by decide) (by decide), e4 134 (by decide) (by decide), e4 135 (by decide) (by decide), e4 136 (by decide) (by decide)]
      refine ⟨⟨x1, x2, x3, x4, x5, x6⟩, ⟨y1, y2, y3, by omega⟩, cR1_mo cc e (fun i i0 i1 => ec i (by omega) ?_)⟩
      rw [List.length_map] at i1
      omega
    · have ek : k = T.length := by omega
      rw [ek, gO_r, ← hn]
      refine ⟨⟨(z1 127 _ (by decide)).trans b1, (z1 128 _ (by decide)).trans b2, (z1 129 _ (by decide)).trans b3, w_up_same _ _ _ _, (z1 130 _ (by decide)).trans b4, (z1 131 _ (by decide)).trans b5⟩, ⟨(z1 134 _ (by decide)).trans b8, ?_, ?_, ?_⟩, fun i hi => absurd hi (Nat.not_lt_zero _)⟩
      · rw [z1 134 _ (by decide), b8, y5]; exact hr.1
      · rw [y3]; exact n6
      · rw [y3, y5, e0]; exact Int.le_refl _
  · have := hcb k hk
    exact ec i (by omega) (by omega)
  · rw [lt] at hk hq
    by_cases ck : k < T.length
    · by_cases cq : q < T.length
      · rw [e2 133 k (by decide) (by decide) (by omega) (by omega), e2 135 k (by decide) (by decide) (by omega) (by omega), e2 133 q (by decide) (by decide) (by omega) (by omega), e2 135 q (by decide) (by decide) (by omega) (by omega)]
        exact p1 k q ck cq ne
      · have eq : (q : Int) = S 72 3 := by omega
        have := (hb k ck).2.1
        rw [eq, y3, e2 133 k (by decide) (by decide) (by omega) (by omega), e2 135 k (by decide) (by decide) (by omega) (by omega)]
        omega
    · have eq : (k : Int) = S 72 3 := by omega
      have cq : q < T.length := by omega
      have := (hb q cq).2.1
      rw [eq, y3, e2 133 q (by decide) (by decide) (by omega) (by omega), e2 135 q (by decide) (by decide) (by omega) (by omega)]
      omega
  · rw [lt] at hk
    by_cases ck : k < T.length
    · rw [e2 133 k (by decide) (by decide) (by omega) (by omega), e2 135 k (by decide) (by decide) (by omega) (by omega), (e8 q).1]
      exact p2 k q ck hq
    · have eq : (k : Int) = S 72 3 := by omega
      have := (hcb q hq).2.1
      rw [eq, y3, (e8 q).1]
      omega
  · rw [(e8 k).1, (e8 q).1]; exact p3 k q hk hq ne
  · unfold cLc
    rw [(e8 (-1)).1, (e8 (-1)).2, e0, z1 141 _ (by decide), z1 142 _ (by decide)]
    exact ⟨⟨n1, n2, n3, n4⟩, f1, ⟨by omega, by omega⟩, by omega, by omega⟩
  · refine ⟨fun x hx => ?_, ?_⟩
    · rw [show (w_up A 136 (S 72 3) ar) (127 + x) (-1) = A (127 + x) (-1) from w_up_at (by omega), show (w_up A 136 (S 72 3) ar) 127 (-1) = A 127 (-1) from w_up_at (by omega)]; exact g1 x hx
    · rw [z1 127 _ (by decide), lt]
      exact ⟨by omega, by omega, by omega⟩
/-- a thing comes, of the reference -/
def fnZ (kd fo ar n u0 : Int) (S : wS) : wS := w_up (w_up (w_up (ntZ kd n u0 S) 315 n 0) 319 n fo) 320 n ar
theorem fnZ_e (j : Nat) (x : Int) (h1 : j ≠ 237 ∨ (x ≠ 68 ∧ x ≠ 62)) (h2 : (j < 314 ∨ 324 < j ∨ j = 318) ∨ x ≠ n) : fnZ kd fo ar n u0 S j x = S j x := (w_up_no (by omega)).trans ((w_up_no (by omega)).trans ((w_up_no (by omega)).trans ((w_up_no (by omega)).trans ((w_up_no (by omega)).trans ((w_up_no (by omega)).trans ((w_up_no (by omega)).trans ((w_up_no (by omega)).trans ((w_up_no (by omega)).trans ((w_up_no (by omega)).trans ((w_up_no (by omega)).trans ((w_up_no (by omega)).trans ((w_up_no (by omega)).trans ((w_up_no (by omega)).trans ((w_up_no (by omega))))))))))))))))
theorem fnZ_f : w_up (w_up (w_up (ntZ kd n u0 S) 315 n 0) 319 n fo) 320 n ar = fnZ kd fo ar n u0 S := rfl
theorem fnZ_o : w_up (ntZ kd n u0 S) 315 n 0 = fnZ kd (-1) (-1) n u0 S := by
  have h9 : (w_up (ntZ kd n u0 S) 315 n 0) 319 n = -1 := (w_up_slot (by decide)).trans ((w_up_slot (by decide)).trans ((w_up_slot (by decide)).trans ((w_up_slot (by decide)).trans ((w_up_slot (by decide)).trans ((w_up_slot (by decide)).trans ((w_up_slot (by decide)).trans ((w_up_slot (by decide)).trans (w_up_same _ _ _ _))))))))
  have h0 : (w_up (w_up (ntZ kd n u0 S) 315 n 0) 319 n (-1)) 320 n = -1 := (w_up_slot (by decide)).trans ((w_up_slot (by decide)).trans ((w_up_slot (by decide)).trans ((w_up_slot (by decide)).trans ((w_up_slot (by decide)).trans ((w_up_slot (by decide)).trans ((w_up_slot (by decide)).trans ((w_up_slot (by decide)).trans (w_up_same _ _ _ _))))))))
  exact (w_up_eta h9).trans (w_up_eta h0)
def aSl (sl : Nat → List Int) (n k : Nat) : List Int := if k = n then [] else sl k
theorem aSl_n {k n : Nat} (h : k ≠ n) : aSl sl n k = sl k := if_neg h
theorem aSl_e {n : Nat} : aSl sl n n = [] := if_pos rfl
theorem rWd_nt (h : rWd S sl T L G) (hn : n = (T.length : Int)) (hf : kd = 5 ∨ (kd = 4 ∧ fo = -1)) : rWd (fnZ kd fo ar n u0 S) (aSl sl T.length) (T ++ [(kd, 0, fo, ar, -1, 0, [])]) L G := by
  obtain ⟨h1, h2, h3, h4, h5⟩ := h
  have e : rTx S (fnZ kd fo ar n u0 S) := rTx_of (fnZ_e 237 19 (by decide) (Or.inl (by decide))) (fnZ_e 237 102 (by decide) (Or.inl (by decide))) (fun j x j0 j1 => fnZ_e j x (by omega) (by omega))
  have lt : (T ++ [((kd, 0, fo, ar, -1, 0, []) : aO)]).length = T.length + 1 := by rw [List.length_append]; rfl
  have v4 : fnZ kd fo ar n u0 S 314 n = kd := (w_up_slot (by decide)).trans ((w_up_slot (by decide)).trans ((w_up_slot (by decide)).trans ((w_up_slot (by decide)).trans ((w_up_slot (by decide)).trans ((w_up_slot (by decide)).trans ((w_up_slot (by decide)).trans ((w_up_slot (by decide)).trans ((w_up_slot (by decide)).trans ((w_up_slot (by decide)).trans ((w_up_slot (by decide)).trans ((w_up_slot (by decide)).trans ((w_up_slot (by decide)).trans ((w_up_slot (by decide)).trans (w_up_same _ _ _ _))))))))))))))
  have v5 : fnZ kd fo ar n u0 S 315 n = 0 := (w_up_slot (by decide)).trans ((w_up_slot (by decide)).trans (w_up_same _ _ _ _))
  have v7 : fnZ kd fo ar n u0 S 317 n = 0 := (w_up_slot (by decide)).trans ((w_up_slot (by decide)).trans ((w_up_slot (by decide)).trans ((w_up_slot (by decide)).trans ((w_up_slot (by decide)).trans ((w_up_slot (by decide)).trans ((w_up_slot (by decide)).trans ((w_up_slot (by decide)).trans ((w_up_slot (by decide)).trans ((w_up_slot (by decide)).trans ((w_up_slot (by decide)).trans (w_up_same _ _ _ _)))))))))))
  have v9 : fnZ kd fo ar n u0 S 319 n = fo := (w_up_slot (by decide)).trans (w_up_same _ _ _ _)
  have v0 : fnZ kd fo ar n u0 S 320 n = ar := w_up_same _ _ _ _
  have v1 : fnZ kd fo ar n u0 S 321 n = -1 := (w_up_slot (by decide)).trans ((w_up_slot (by decide)).trans ((w_up_slot (by decide)).trans ((w_up_slot (by decide)).trans ((w_up_slot (by decide)).trans ((w_up_slot (by decide)).trans ((w_up_slot (by decide)).trans ((w_up_slot (by decide)).trans (w_up_same _ _ _ _))))))))
  have v2 : fnZ kd fo ar n u0 S 322 n = 0 := (w_up_slot (by decide)).trans ((w_up_slot (by decide)).trans ((w_up_slot (by decide)).trans ((w_up_slot (by decide)).trans ((w_up_slot (by decide)).trans ((w_up_slot (by decide)).trans ((w_up_slot (by decide)).trans (w_up_same _ _ _ _)))))))
  have v24 : fnZ kd fo ar n u0 S 324 n = 0 := (w_up_slot (by decide)).trans ((w_up_slot (by decide)).trans ((w_up_slot (by decide)).trans ((w_up_slot (by decide)).trans ((w_up_slot (by decide)).trans (w_up_same _ _ _ _)))))
  have c8 : fnZ kd fo ar n u0 S 237 68 = n + 1 := (w_up_slot (by decide)).trans ((w_up_slot (by decide)).trans ((w_up_slot (by decide)).trans ((w_up_at (by decide)).trans (w_up_same _ _ _ _))))
  refine ⟨⟨?_, fun k hk => ?_⟩, rCa_mo h2 e (fnZ_e 237 69 (by decide) (Or.inl (by decide))) (fnZ_e 237 94 (by decide) (Or.inl (by decide))) (fun j x j0 j1 => fnZ_e j x (by omega) (by omega)), fun k q hk hq => ?_, ?_, rGl_mo h5 e (fun j x j0 j1 => fnZ_e j x (by omega) (by omega))⟩
  · rw [c8, lt]; omega
  · rw [lt] at hk
    by_cases ck : k < T.length
    · rw [gO_l ck, aSl_n (by omega)]
      have e4 : ∀ j : Nat, 314 ≤ j → j ≤ 324 → fnZ kd fo ar n u0 S j (k : Int) = S j (k : Int) := fun j j0 j1 => fnZ_e j k (by omega) (by omega)
      obtain ⟨a1, b, c, d, g⟩ := h1.2 k ck
      rw [e4 314 (by decide) (by decide), e4 315 (by decide) (by decide), e4 316 (by decide) (by decide), e4 317 (by decide) (by decide), e4 318 (by decide) (by decide), e4 319 (by decide) (by decide), e4 320 (by decide) (by decide), e4 321 (by decide) (by decide), e4 322 (by decide) (by decide), e4 323 (by decide) (by decide), e4 324 (by decide) (by decide), fnZ_e 237 82 (by decide) (Or.inl (by decide))]
      refine ⟨a1, b, c, fun i hi => ?_, fun q i j hq hi hj ee => ?_⟩
      · obtain ⟨d1, d2, d3, d4⟩ := d i hi
        rw [fnZ_e 325 _ (Or.inl (by decide)) (Or.inl (by decide)), fnZ_e 326 _ (Or.inl (by decide)) (Or.inl (by decide)), fnZ_e 327 _ (Or.inl (by decide)) (Or.inl (by decide)), fnZ_e 328 _ (Or.inl (by decide)) (Or.inl (by decide))]
        exact ⟨d1, d2, rVl_mo d3 e, d4⟩
      · rw [lt] at hq
        by_cases cq : q < T.length
        · rw [aSl_n (by omega)] at hj ee
          exact g q i j cq hi hj ee
        · rw [show q = T.length by omega, aSl_e] at hj
          exact absurd hj (Nat.not_lt_zero _)
    · have ek : k = T.length := by omega
      rw [ek, gO_r, aSl_e, ← hn]
      refine ⟨⟨v4, v5, ?_, ?_, v0, ?_, fun z => absurd rfl z, v24⟩, ⟨v7, rfl⟩, fun z => absurd z (Nat.not_lt_zero _), fun i hi => absurd hi (Nat.not_lt_zero _), fun q i j _ hi => absurd hi (Nat.not_lt_zero _)⟩
      · rw [v9]
        rcases hf with z | z
        · exact (if_pos z).symm
        · rw [z.1, z.2]; rfl
      · rw [v1]
        exact (if_neg (show ¬ kd = 7 by omega)).symm
      · rw [v2]; rfl
  · rw [fnZ_e 334 _ (Or.inl (by decide)) (Or.inl (by decide)), fnZ_e 334 _ (Or.inl (by decide)) (Or.inl (by decide))]; exact h3 k q hk hq
  · rw [fnZ_e 237 94 (by decide) (Or.inl (by decide))]; exact h4
/-- no memory -/
def cSn (xs : List (Nat × List Int32)) (d w : Nat) (ml : List Nat) (S : wS) (K : aK) : Prop := wJ (pe_GA xs) wY0 (mS ml) (d + 12) t_XK_step ((pe_at t_XK_step.bl 0).getD (0, [])).2 [(0, (2, w))] [] S (fun o Z => o = .inl (some (0, 0)) ∧ cTk w Z (kSt K) ∧ cFr w S Z)
def rSn (xs : List (Nat × List Int32)) (d : Nat) (t : Int) (S : wS) (K : aK) : Prop := rTurn xs d t S (fun Z dn => dn = 0 ∧ rTk t Z (kSt K) ∧ rTf t S Z)
/-- what a thing made changes -/
def cMk (j : Nat) (x : Int) : Prop := (127 ≤ j ∧ j ≤ 136) ∨ j = 141 ∨ j = 142 ∨ (j = 72 ∧ x = 3) ∨ (j = 140 ∧ x = 2) ∨ (j = 150 ∧ x = 0)
def rMk (j : Nat) (x : Int) : Prop := (314 ≤ j ∧ j ≤ 324) ∨ (j = 237 ∧ (x = 62 ∨ x = 68))
theorem rTm_fn (h : rTm t rMk S Z) : rTm t rMk S (fnZ kd fo ar n u0 Z) := fun j x o nn => by
  by_cases c : j = 237 ∧ (x = 68 ∨ x = 62)
  · exact absurd (show rMk j x by unfold rMk; omega) nn
  · by_cases c2 : 314 ≤ j ∧ j ≤ 324
    · exact absurd (show rMk j x by unfold rMk; omega) nn
    · exact (fnZ_e j x (by omega) (by omega)).trans (h j x o nn)
theorem rTm_pU {n : Int} (h : rTm t mk S Z) (hn : 0 ≤ n ∧ n < 2100) : rTm t mk S (pUZ t n k v Z) := rTm_up (rTm_up (rTm_up h (Or.inl (no_p (Or.inl rfl) (by omega)))) (Or.inl (no_p (Or.inr rfl) (by omega)))) (Or.inl (no_t (by decide)))
theorem z24_215 (h : stC 215 S K) (hi : cIn S K 24 a b) (hab : (-2147483648 ≤ a ∧ a ≤ 2147483647) ∧ (-2147483648 ≤ b ∧ b ≤ 2147483647)) (hx1 : pe_at (pe_GA xs).xs 1 = some (1, tx_1)) (hW : cWd S T L G) (hu : 0 ≤ S 150 0 ∧ S 150 0 ≤ 8000) (hm : S 150 0 < 8000) (hT : (T.length : Int) ≤ 8000) (hc5 : S 140 2 ≤ 240200) (hh : K.1.length < 2000) : cSm xs d 215 [217, 218, 127, 128, 129, 130, 131, 132, 133, 134, 135, 136, 141, 142] cMk S (kP K 0 (5, (T.length : Int), [])) (fun Z => cWd Z (T ++ [(5, 0, a, (K.2.1.getD (K.2.1.length - 1) (0, 0, 0, (0, 0, []), 0, 0, 0)).2.2.1, -1, 0, [])]) L G ∧ Z 150 0 = S 150 0 + 1 ∧ (cPo S → cPo Z) ∧ ((∀ x : Int, 0 ≤ x → x < (T.length : Int) → Z 132 x = S 132 x) ∧ Z 132 (T.length : Int) = -1)) := by
  have hg : wG = 1000000 := rfl
  obtain ⟨h1, ⟨h2, h2b⟩, ⟨h3, h4, h5⟩, -⟩ := id h
  obtain ⟨-, -, r3⟩ := st_row h1 h3
  have hW2 : cWd (w_up S 215 16 0) T L G := cWd_up hW (by decide)
  have hk : cTk 215 (w_up S 215 16 0) K := cTk_16 h1 (Or.inl rfl)
  have hf : cFr 215 S (w_up S 215 16 0) := cFr_up (Or.inl rfl) (cFr_rfl h2b) (by decide) (by omega)
  have eu : (w_up S 215 16 0) 150 0 = S 150 0 := w_up_slot (by decide)
  rw [← eu] at hu hm
  obtain ⟨w1, -, -, ⟨-, n5, ⟨n6, n7⟩, n8, n9⟩, ⟨t1, t2, t3, t4⟩, -⟩ := id hW2
  refine cg_p_215 h hi.1 hi.2.1 hi.2.2 (by decide) (fun q => by omega) (by decide) (by unfold mS; decide) (x24_215 (n := (T.length : Int)) (xP_of (Or.inl rfl) h) hab hx1 rfl ⟨n6, n7⟩ n5 ⟨n8, n9⟩ t1 w1.1 ⟨by omega, t2⟩ ⟨t3, t4⟩ rfl ⟨hu.1, hu.2⟩ ((w_up_slot (by decide)).trans r3)) (fun Z hz => ?_)
  rcases hz with ⟨q, -⟩ | ⟨-, A, hA, hs⟩
  · exact absurd q (by omega)
  have hn : (w_up S 215 16 0) 72 3 = (T.length : Int) := w1.1
  have hWA := cWd_at (ar := (K.2.1.getD (K.2.1.length - 1) (0, 0, 0, (0, 0, []), 0, 0, 0)).2.2.1) hW2 hA ⟨by decide, by rw [w_up_slot (by decide)]; omega⟩ hT
  rw [hn] at hWA
  obtain ⟨⟨a1, a2⟩, -, -, -, -, -, -, fr, gA, rA⟩ := id hA
  have es : ∀ (j : Nat) (x : Int), j < 4000000 → j ≠ wG → ¬ cMk j x → (w_up A 136 (T.length : Int) (K.2.1.getD (K.2.1.length - 1) (0, 0, 0, (0, 0, []), 0, 0, 0)).2.2.1) j x = (w_up S 215 16 0) j x := fun j x j0 j1 j2 => by
    unfold cMk at j2
    exact (w_up_no (by omega)).trans (fr j x j0 j1 (by omega) (by omega) (by omega) (by omega) (by omega) (by omega))
  have es2 : ∀ (j : Nat) (x : Int), (160 < j ∨ j < 72) → j < 237 → (w_up A 136 (T.length : Int) (K.2.1.getD (K.2.1.length - 1) (0, 0, 0, (0, 0, []), 0, 0, 0)).2.2.1) j x = (w_up S 215 16 0) j x := fun j x j0 j1 => es j x (by omega) (by omega) (by unfold cMk; omega)
  have hkA : cTk 215 (w_up A 136 (T.length : Int) (K.2.1.getD (K.2.1.length - 1) (0, 0, 0, (0, 0, []), 0, 0, 0)).2.2.1) K := cTk_ag hk (cTx_of (es2 2 1 (by decide) (by decide)) (fun x => es2 3 x (by decide) (by decide))) (fun j y hj => es2 j y (by omega) (by omega))
  have gB : gI (w_up A 136 (T.length : Int) (K.2.1.getD (K.2.1.length - 1) (0, 0, 0, (0, 0, []), 0, 0, 0)).2.2.1) := gI_up gA (by omega) (Or.inl (by decide)) (Or.inl (Or.inl (by decide)))
  have fB : cFm 215 cMk S (w_up A 136 (T.length : Int) (K.2.1.getD (K.2.1.length - 1) (0, 0, 0, (0, 0, []), 0, 0, 0)).2.2.1) := cFm_tr (cFm_r hf) ⟨fun j x j0 j1 _ j3 => es j x j0 j1 j3, fun j j0 j1 => es2 j (-1) (by omega) (by omega), gB, rmR_up rA (by omega) (by decide)⟩
  have fZ := cFr_sO (Or.inl rfl) (cFr_rfl gB) (by omega) hs
  have zf : ∀ (j : Nat) (x : Int), j ≠ 136 → j < 215 → Z j x = A j x := fun j x j0 j1 => (fZ.1 j x (by omega) (by omega) (by omega)).trans (w_up_slot j0)
  have tf : ∀ (j : Nat) (x : Int), j < 215 → (w_up S 215 16 0) j x = S j x := fun j x j0 => w_up_slot (by omega)
  refine ⟨?_, ?_, cFm_tr fB (cFm_r fZ), cWd_fr (Or.inl rfl) hWA fZ, ?_, fun po => ?_, fun x x0 x1 => ?_, ?_⟩
  · rw [sO_16 (Or.inl rfl) hs, es2 215 16 (by decide) (by decide), w_up_same]
  · exact cTk_sO hkA (Or.inl rfl) hs rfl rfl h3 rfl (by omega) (by omega) (cV_e (by decide) rfl)
  · rw [fZ.1 150 0 (by decide) (by decide) (by decide), w_up_slot (by decide), a2, eu]
  · have po1 : cPo (w_up S 215 16 0) := cPo_ag po (tf 72 3 (by decide)) (fun x => ⟨tf 134 x (by decide), tf 135 x (by decide)⟩) (tf 140 2 (by decide)) (tf 150 1 (by decide))
    exact cPo_ag (cPo_at po1 (by omega) hA) (zf 72 3 (by decide) (by decide)) (fun x => ⟨zf 134 x (by decide) (by decide), zf 135 x (by decide) (by decide)⟩) (zf 140 2 (by decide) (by decide)) (zf 150 1 (by decide) (by decide))
  · rw [zf 132 x (by decide) (by decide), hA.2.2.1 5 (by decide) x x0 (by omega), tf 132 x (by decide)]
  · rw [zf 132 _ (by decide) (by decide), ← hn]
    exact hA.2.1.2.1.2.2
theorem z24m_215 (h : stC 215 S K) (hi : cIn S K 24 a b) (hab : (-2147483648 ≤ a ∧ a ≤ 2147483647) ∧ (-2147483648 ≤ b ∧ b ≤ 2147483647)) (hx1 : pe_at (pe_GA xs).xs 1 = some (1, tx_1)) (hW : cWd S T L G) (hu : 0 ≤ S 150 0 ∧ S 150 0 ≤ 8000) (hm : S 150 0 = 8000) (hT : (T.length : Int) ≤ 8000) (hh : K.1.length < 2000) : cSn xs d 215 [217, 218, 127, 128, 129, 130, 131, 132, 133, 134, 135, 136, 141, 142] S K := by
  obtain ⟨h1, ⟨h2, h2b⟩, ⟨h3, h4, h5⟩, -⟩ := id h
  obtain ⟨-, -, r3⟩ := st_row h1 h3
  have hW2 : cWd (w_up S 215 16 0) T L G := cWd_up hW (by decide)
  have hk : cTk 215 (w_up S 215 16 0) K := cTk_16 h1 (Or.inl rfl)
  have hf : cFr 215 S (w_up S 215 16 0) := cFr_up (Or.inl rfl) (cFr_rfl h2b) (by decide) (by omega)
  have eu : (w_up S 215 16 0) 150 0 = S 150 0 := w_up_slot (by decide)
  rw [← eu] at hu hm
  obtain ⟨w1, -, -, ⟨-, n5, ⟨n6, n7⟩, n8, n9⟩, ⟨t1, t2, t3, t4⟩, -⟩ := id hW2
  refine wJ_mono (cm_p_215 h hi.1 hi.2.1 hi.2.2 (by decide) (fun q => by omega) (by decide) (by unfold mS; decide) (wJ_mono (x24_215 (n := (T.length : Int)) (xP_of (Or.inl rfl) h) hab hx1 rfl ⟨n6, n7⟩ n5 ⟨n8, n9⟩ t1 w1.1 ⟨by omega, t2⟩ ⟨t3, t4⟩ rfl ⟨hu.1, hu.2⟩ ((w_up_slot (by decide)).trans r3)) (fun o Z hz => (⟨hz.1, hz.2.elim (fun z => z.2) (fun z => absurd z.1 (by omega))⟩ : o = .inl none ∧ w_up (w_up S 215 16 0) 215 16 99 = Z))) (fun Z hz => by subst hz; exact w_up_same _ _ _ _)) (fun o Z2 hz => ?_)
  obtain ⟨hz0, Z, rfl, rfl⟩ := hz
  exact ⟨hz0, cTk_st (cTk_16 hk (Or.inl rfl)) (Or.inl rfl), cFr_up (Or.inl rfl) (cFr_up (Or.inl rfl) hf (by decide) (by omega)) (by decide) (by omega)⟩
theorem z26_215 (h : stC 215 S K) (hi : cIn S K 26 a b) (hab : (-2147483648 ≤ a ∧ a ≤ 2147483647) ∧ (-2147483648 ≤ b ∧ b ≤ 2147483647)) (hx1 : pe_at (pe_GA xs).xs 1 = some (1, tx_1)) (hW : cWd S T L G) (hu : 0 ≤ S 150 0 ∧ S 150 0 ≤ 8000) (hm : S 150 0 < 8000) (hT : (T.length : Int) ≤ 8000) (hc5 : S 140 2 ≤ 240200) (hh : K.1.length < 2000) : cSm xs d 215 [217, 218, 127, 128, 129, 130, 131, 132, 133, 134, 135, 136, 141, 142] cMk S (kP K 0 (4, (T.length : Int), [])) (fun Z => cWd Z (T ++ [(4, 0, (-1), (-1), -1, 0, [])]) L G ∧ Z 150 0 = S 150 0 + 1 ∧ (cPo S → cPo Z) ∧ ((∀ x : Int, 0 ≤ x → x < (T.length : Int) → Z 132 x = S 132 x) ∧ Z 132 (T.length : Int) = -1)) := by
  have hg : wG = 1000000 := rfl
  obtain ⟨h1, ⟨h2, h2b⟩, ⟨h3, h4, h5⟩, -⟩ := id h
  obtain ⟨-, -, r3⟩ := st_row h1 h3
  have hW2 : cWd (w_up S 215 16 0) T L G := cWd_up hW (by decide)
  have hk : cTk 215 (w_up S 215 16 0) K := cTk_16 h1 (Or.inl rfl)
  have hf : cFr 215 S (w_up S 215 16 0) := cFr_up (Or.inl rfl) (cFr_rfl h2b) (by decide) (by omega)
  have eu : (w_up S 215 16 0) 150 0 = S 150 0 := w_up_slot (by decide)
  rw [← eu] at hu hm
  obtain ⟨w1, -, -, ⟨-, n5, ⟨n6, n7⟩, n8, n9⟩, ⟨t1, t2, t3, t4⟩, -⟩ := id hW2
  refine cg_p_215 h hi.1 hi.2.1 hi.2.2 (by decide) (fun q => by omega) (by decide) (by unfold mS; decide) (x26_215 (n := (T.length : Int)) (xP_of (Or.inl rfl) h) hab hx1 rfl ⟨n6, n7⟩ n5 ⟨n8, n9⟩ t1 w1.1 ⟨by omega, t2⟩ ⟨t3, t4⟩ rfl ⟨hu.1, hu.2⟩) (fun Z hz => ?_)
  rcases hz with ⟨q, -⟩ | ⟨-, A, hA, hs⟩
  · exact absurd q (by omega)
  have hn : (w_up S 215 16 0) 72 3 = (T.length : Int) := w1.1
  have hWA := cWd_at (ar := (-1)) hW2 hA ⟨by decide, by rw [w_up_slot (by decide)]; omega⟩ hT
  rw [hn] at hWA
  have e6 : A 136 (T.length : Int) = -1 := by rw [← hn]; exact hA.2.1.2.2.2.2.2
  rw [← w_up_eta e6] at hWA
  obtain ⟨⟨a1, a2⟩, -, -, -, -, -, -, fr, gA, rA⟩ := id hA
  have es : ∀ (j : Nat) (x : Int), j < 4000000 → j ≠ wG → ¬ cMk j x → (A) j x = (w_up S 215 16 0) j x := fun j x j0 j1 j2 => by
    unfold cMk at j2
    exact (fr j x j0 j1 (by omega) (by omega) (by omega) (by omega) (by omega) (by omega))
  have es2 : ∀ (j : Nat) (x : Int), (160 < j ∨ j < 72) → j < 237 → (A) j x = (w_up S 215 16 0) j x := fun j x j0 j1 => es j x (by omega) (by omega) (by unfold cMk; omega)
  have hkA : cTk 215 (A) K := cTk_ag hk (cTx_of (es2 2 1 (by decide) (by decide)) (fun x => es2 3 x (by decide) (by decide))) (fun j y hj => es2 j y (by omega) (by omega))
  have gB : gI (A) := gA
  have fB : cFm 215 cMk S (A) := cFm_tr (cFm_r hf) ⟨fun j x j0 j1 _ j3 => es j x j0 j1 j3, fun j j0 j1 => es2 j (-1) (by omega) (by omega), gB, rA⟩
  have fZ := cFr_sO (Or.inl rfl) (cFr_rfl gB) (by omega) hs
  have zf : ∀ (j : Nat) (x : Int), j ≠ 136 → j < 215 → Z j x = A j x := fun j x j0 j1 => (fZ.1 j x (by omega) (by omega) (by omega)).trans rfl
  have tf : ∀ (j : Nat) (x : Int), j < 215 → (w_up S 215 16 0) j x = S j x := fun j x j0 => w_up_slot (by omega)
  refine ⟨?_, ?_, cFm_tr fB (cFm_r fZ), cWd_fr (Or.inl rfl) hWA fZ, ?_, fun po => ?_, fun x x0 x1 => ?_, ?_⟩
  · rw [sO_16 (Or.inl rfl) hs, es2 215 16 (by decide) (by decide), w_up_same]
  · exact cTk_sO hkA (Or.inl rfl) hs rfl rfl h3 rfl (by omega) (by omega) (cV_e (by decide) rfl)
  · rw [fZ.1 150 0 (by decide) (by decide) (by decide), a2, eu]
  · have po1 : cPo (w_up S 215 16 0) := cPo_ag po (tf 72 3 (by decide)) (fun x => ⟨tf 134 x (by decide), tf 135 x (by decide)⟩) (tf 140 2 (by decide)) (tf 150 1 (by decide))
    exact cPo_ag (cPo_at po1 (by omega) hA) (zf 72 3 (by decide) (by decide)) (fun x => ⟨zf 134 x (by decide) (by decide), zf 135 x (by decide) (by decide)⟩) (zf 140 2 (by decide) (by decide)) (zf 150 1 (by decide) (by decide))
  · rw [zf 132 x (by decide) (by decide), hA.2.2.1 5 (by decide) x x0 (by omega), tf 132 x (by decide)]
  · rw [zf 132 _ (by decide) (by decide), ← hn]
    exact hA.2.1.2.1.2.2
theorem z26m_215 (h : stC 215 S K) (hi : cIn S K 26 a b) (hab : (-2147483648 ≤ a ∧ a ≤ 2147483647) ∧ (-2147483648 ≤ b ∧ b ≤ 2147483647)) (hx1 : pe_at (pe_GA xs).xs 1 = some (1, tx_1)) (hW : cWd S T L G) (hu : 0 ≤ S 150 0 ∧ S 150 0 ≤ 8000) (hm : S 150 0 = 8000) (hT : (T.length : Int) ≤ 8000) (hh : K.1.length < 2000) : cSn xs d 215 [217, 218, 127, 128, 129, 130, 131, 132, 133, 134, 135, 136, 141, 142] S K := by
  obtain ⟨h1, ⟨h2, h2b⟩, ⟨h3, h4, h5⟩, -⟩ := id h
  obtain ⟨-, -, r3⟩ := st_row h1 h3
  have hW2 : cWd (w_up S 215 16 0) T L G := cWd_up hW (by decide)
  have hk : cTk 215 (w_up S 215 16 0) K := cTk_16 h1 (Or.inl rfl)
  have hf : cFr 215 S (w_up S 215 16 0) := cFr_up (Or.inl rfl) (cFr_rfl h2b) (by decide) (by omega)
  have eu : (w_up S 215 16 0) 150 0 = S 150 0 := w_up_slot (by decide)
  rw [← eu] at hu hm
  obtain ⟨w1, -, -, ⟨-, n5, ⟨n6, n7⟩, n8, n9⟩, ⟨t1, t2, t3, t4⟩, -⟩ := id hW2
  refine wJ_mono (cm_p_215 h hi.1 hi.2.1 hi.2.2 (by decide) (fun q => by omega) (by decide) (by unfold mS; decide) (wJ_mono (x26_215 (n := (T.length : Int)) (xP_of (Or.inl rfl) h) hab hx1 rfl ⟨n6, n7⟩ n5 ⟨n8, n9⟩ t1 w1.1 ⟨by omega, t2⟩ ⟨t3, t4⟩ rfl ⟨hu.1, hu.2⟩) (fun o Z hz => (⟨hz.1, hz.2.elim (fun z => z.2) (fun z => absurd z.1 (by omega))⟩ : o = .inl none ∧ w_up (w_up S 215 16 0) 215 16 99 = Z))) (fun Z hz => by subst hz; exact w_up_same _ _ _ _)) (fun o Z2 hz => ?_)
  obtain ⟨hz0, Z, rfl, rfl⟩ := hz
  exact ⟨hz0, cTk_st (cTk_16 hk (Or.inl rfl)) (Or.inl rfl), cFr_up (Or.inl rfl) (cFr_up (Or.inl rfl) hf (by decide) (by omega)) (by decide) (by omega)⟩
theorem z24_226 (h : stC 226 S K) (hi : cIn S K 24 a b) (hab : (-2147483648 ≤ a ∧ a ≤ 2147483647) ∧ (-2147483648 ≤ b ∧ b ≤ 2147483647)) (hx1 : pe_at (pe_GA xs).xs 1 = some (1, tx_1)) (hW : cWd S T L G) (hu : 0 ≤ S 150 0 ∧ S 150 0 ≤ 8000) (hm : S 150 0 < 8000) (hT : (T.length : Int) ≤ 8000) (hc5 : S 140 2 ≤ 240200) (hh : K.1.length < 2000) : cSm xs d 226 [228, 229, 127, 128, 129, 130, 131, 132, 133, 134, 135, 136, 141, 142] cMk S (kP K 0 (5, (T.length : Int), [])) (fun Z => cWd Z (T ++ [(5, 0, a, (K.2.1.getD (K.2.1.length - 1) (0, 0, 0, (0, 0, []), 0, 0, 0)).2.2.1, -1, 0, [])]) L G ∧ Z 150 0 = S 150 0 + 1 ∧ (cPo S → cPo Z) ∧ ((∀ x : Int, 0 ≤ x → x < (T.length : Int) → Z 132 x = S 132 x) ∧ Z 132 (T.length : Int) = -1)) := by
  have hg : wG = 1000000 := rfl
  obtain ⟨h1, ⟨h2, h2b⟩, ⟨h3, h4, h5⟩, -⟩ := id h
  obtain ⟨-, -, r3⟩ := st_row h1 h3
  have hW2 : cWd (w_up S 226 16 0) T L G := cWd_up hW (by decide)
  have hk : cTk 226 (w_up S 226 16 0) K := cTk_16 h1 (Or.inr rfl)
  have hf : cFr 226 S (w_up S 226 16 0) := cFr_up (Or.inr rfl) (cFr_rfl h2b) (by decide) (by omega)
  have eu : (w_up S 226 16 0) 150 0 = S 150 0 := w_up_slot (by decide)
  rw [← eu] at hu hm
  obtain ⟨w1, -, -, ⟨-, n5, ⟨n6, n7⟩, n8, n9⟩, ⟨t1, t2, t3, t4⟩, -⟩ := id hW2
  refine cg_p_226 h hi.1 hi.2.1 hi.2.2 (by decide) (fun q => by omega) (by decide) (by unfold mS; decide) (x24_226 (n := (T.length : Int)) (xP_of (Or.inr rfl) h) hab hx1 rfl ⟨n6, n7⟩ n5 ⟨n8, n9⟩ t1 w1.1 ⟨by omega, t2⟩ ⟨t3, t4⟩ rfl ⟨hu.1, hu.2⟩ ((w_up_slot (by decide)).trans r3)) (fun Z hz => ?_)
  rcases hz with ⟨q, -⟩ | ⟨-, A, hA, hs⟩
  · exact absurd q (by omega)
  have hn : (w_up S 226 16 0) 72 3 = (T.length : Int) := w1.1
  have hWA := cWd_at (ar := (K.2.1.getD (K.2.1.length - 1) (0, 0, 0, (0, 0, []), 0, 0, 0)).2.2.1) hW2 hA ⟨by decide, by rw [w_up_slot (by decide)]; omega⟩ hT
  rw [hn] at hWA
  obtain ⟨⟨a1, a2⟩, -, -, -, -, -, -, fr, gA, rA⟩ := id hA
  have es : ∀ (j : Nat) (x : Int), j < 4000000 → j ≠ wG → ¬ cMk j x → (w_up A 136 (T.length : Int) (K.2.1.getD (K.2.1.length - 1) (0, 0, 0, (0, 0, []), 0, 0, 0)).2.2.1) j x = (w_up S 226 16 0) j x := fun j x j0 j1 j2 => by
    unfold cMk at j2
    exact (w_up_no (by omega)).trans (fr j x j0 j1 (by omega) (by omega) (by omega) (by omega) (by omega) (by omega))
  have es2 : ∀ (j : Nat) (x : Int), (160 < j ∨ j < 72) → j < 237 → (w_up A 136 (T.length : Int) (K.2.1.getD (K.2.1.length - 1) (0, 0, 0, (0, 0, []), 0, 0, 0)).2.2.1) j x = (w_up S 226 16 0) j x := fun j x j0 j1 => es j x (by omega) (by omega) (by unfold cMk; omega)
  have hkA : cTk 226 (w_up A 136 (T.length : Int) (K.2.1.getD (K.2.1.length - 1) (0, 0, 0, (0, 0, []), 0, 0, 0)).2.2.1) K := cTk_ag hk (cTx_of (es2 2 1 (by decide) (by decide)) (fun x => es2 3 x (by decide) (by decide))) (fun j y hj => es2 j y (by omega) (by omega))
  have gB : gI (w_up A 136 (T.length : Int) (K.2.1.getD (K.2.1.length - 1) (0, 0, 0, (0, 0, []), 0, 0, 0)).2.2.1) := gI_up gA (by omega) (Or.inl (by decide)) (Or.inl (Or.inl (by decide)))
  have fB : cFm 226 cMk S (w_up A 136 (T.length : Int) (K.2.1.getD (K.2.1.length - 1) (0, 0, 0, (0, 0, []), 0, 0, 0)).2.2.1) := cFm_tr (cFm_r hf) ⟨fun j x j0 j1 _ j3 => es j x j0 j1 j3, fun j j0 j1 => es2 j (-1) (by omega) (by omega), gB, rmR_up rA (by omega) (by decide)⟩
  have fZ := cFr_sO (Or.inr rfl) (cFr_rfl gB) (by omega) hs
  have zf : ∀ (j : Nat) (x : Int), j ≠ 136 → j < 215 → Z j x = A j x := fun j x j0 j1 => (fZ.1 j x (by omega) (by omega) (by omega)).trans (w_up_slot j0)
  have tf : ∀ (j : Nat) (x : Int), j < 215 → (w_up S 226 16 0) j x = S j x := fun j x j0 => w_up_slot (by omega)
  refine ⟨?_, ?_, cFm_tr fB (cFm_r fZ), cWd_fr (Or.inr rfl) hWA fZ, ?_, fun po => ?_, fun x x0 x1 => ?_, ?_⟩
  · rw [sO_16 (Or.inr rfl) hs, es2 226 16 (by decide) (by decide), w_up_same]
  · exact cTk_sO hkA (Or.inr rfl) hs rfl rfl h3 rfl (by omega) (by omega) (cV_e (by decide) rfl)
  · rw [fZ.1 150 0 (by decide) (by decide) (by decide), w_up_slot (by decide), a2, eu]
  · have po1 : cPo (w_up S 226 16 0) := cPo_ag po (tf 72 3 (by decide)) (fun x => ⟨tf 134 x (by decide), tf 135 x (by decide)⟩) (tf 140 2 (by decide)) (tf 150 1 (by decide))
    exact cPo_ag (cPo_at po1 (by omega) hA) (zf 72 3 (by decide) (by decide)) (fun x => ⟨zf 134 x (by decide) (by decide), zf 135 x (by decide) (by decide)⟩) (zf 140 2 (by decide) (by decide)) (zf 150 1 (by decide) (by decide))
  · rw [zf 132 x (by decide) (by decide), hA.2.2.1 5 (by decide) x x0 (by omega), tf 132 x (by decide)]
  · rw [zf 132 _ (by decide) (by decide), ← hn]
    exact hA.2.1.2.1.2.2
theorem z24m_226 (h : stC 226 S K) (hi : cIn S K 24 a b) (hab : (-2147483648 ≤ a ∧ a ≤ 2147483647) ∧ (-2147483648 ≤ b ∧ b ≤ 2147483647)) (hx1 : pe_at (pe_GA xs).xs 1 = some (1, tx_1)) (hW : cWd S T L G) (hu : 0 ≤ S 150 0 ∧ S 150 0 ≤ 8000) (hm : S 150 0 = 8000) (hT : (T.length : Int) ≤ 8000) (hh : K.1.length < 2000) : cSn xs d 226 [228, 229, 127, 128, 129, 130, 131, 132, 133, 134, 135, 136, 141, 142] S K := by
  obtain ⟨h1, ⟨h2, h2b⟩, ⟨h3, h4, h5⟩, -⟩ := id h
  obtain ⟨-, -, r3⟩ := st_row h1 h3
  have hW2 : cWd (w_up S 226 16 0) T L G := cWd_up hW (by decide)
  have hk : cTk 226 (w_up S 226 16 0) K := cTk_16 h1 (Or.inr rfl)
  have hf : cFr 226 S (w_up S 226 16 0) := cFr_up (Or.inr rfl) (cFr_rfl h2b) (by decide) (by omega)
  have eu : (w_up S 226 16 0) 150 0 = S 150 0 := w_up_slot (by decide)
  rw [← eu] at hu hm
  obtain ⟨w1, -, -, ⟨-, n5, ⟨n6, n7⟩, n8, n9⟩, ⟨t1, t2, t3, t4⟩, -⟩ := id hW2
  refine wJ_mono (cm_p_226 h hi.1 hi.2.1 hi.2.2 (by decide) (fun q => by omega) (by decide) (by unfold mS; decide) (wJ_mono (x24_226 (n := (T.length : Int)) (xP_of (Or.inr rfl) h) hab hx1 rfl ⟨n6, n7⟩ n5 ⟨n8, n9⟩ t1 w1.1 ⟨by omega, t2⟩ ⟨t3, t4⟩ rfl ⟨hu.1, hu.2⟩ ((w_up_slot (by decide)).trans r3)) (fun o Z hz => (⟨hz.1, hz.2.elim (fun z => z.2) (fun z => absurd z.1 (by omega))⟩ : o = .inl none ∧ w_up (w_up S 226 16 0) 226 16 99 = Z))) (fun Z hz => by subst hz; exact w_up_same _ _ _ _)) (fun o Z2 hz => ?_)
  obtain ⟨hz0, Z, rfl, rfl⟩ := hz
  exact ⟨hz0, cTk_st (cTk_16 hk (Or.inr rfl)) (Or.inr rfl), cFr_up (Or.inr rfl) (cFr_up (Or.inr rfl) hf (by decide) (by omega)) (by decide) (by omega)⟩
theorem z26_226 (h : stC 226 S K) (hi : cIn S K 26 a b) (hab : (-2147483648 ≤ a ∧ a ≤ 2147483647) ∧ (-2147483648 ≤ b ∧ b ≤ 2147483647)) (hx1 : pe_at (pe_GA xs).xs 1 = some (1, tx_1)) (hW : cWd S T L G) (hu : 0 ≤ S 150 0 ∧ S 150 0 ≤ 8000) (hm : S 150 0 < 8000) (hT : (T.length : Int) ≤ 8000) (hc5 : S 140 2 ≤ 240200) (hh : K.1.length < 2000) : cSm xs d 226 [228, 229, 127, 128, 129, 130, 131, 132, 133, 134, 135, 136, 141, 142] cMk S (kP K 0 (4, (T.length : Int), [])) (fun Z => cWd Z (T ++ [(4, 0, (-1), (-1), -1, 0, [])]) L G ∧ Z 150 0 = S 150 0 + 1 ∧ (cPo S → cPo Z) ∧ ((∀ x : Int, 0 ≤ x → x < (T.length : Int) → Z 132 x = S 132 x) ∧ Z 132 (T.length : Int) = -1)) := by
  have hg : wG = 1000000 := rfl
  obtain ⟨h1, ⟨h2, h2b⟩, ⟨h3, h4, h5⟩, -⟩ := id h
  obtain ⟨-, -, r3⟩ := st_row h1 h3
  have hW2 : cWd (w_up S 226 16 0) T L G := cWd_up hW (by decide)
  have hk : cTk 226 (w_up S 226 16 0) K := cTk_16 h1 (Or.inr rfl)
  have hf : cFr 226 S (w_up S 226 16 0) := cFr_up (Or.inr rfl) (cFr_rfl h2b) (by decide) (by omega)
  have eu : (w_up S 226 16 0) 150 0 = S 150 0 := w_up_slot (by decide)
  rw [← eu] at hu hm
  obtain ⟨w1, -, -, ⟨-, n5, ⟨n6, n7⟩, n8, n9⟩, ⟨t1, t2, t3, t4⟩, -⟩ := id hW2
  refine cg_p_226 h hi.1 hi.2.1 hi.2.2 (by decide) (fun q => by omega) (by decide) (by unfold mS; decide) (x26_226 (n := (T.length : Int)) (xP_of (Or.inr rfl) h) hab hx1 rfl ⟨n6, n7⟩ n5 ⟨n8, n9⟩ t1 w1.1 ⟨by omega, t2⟩ ⟨t3, t4⟩ rfl ⟨hu.1, hu.2⟩) (fun Z hz => ?_)
  rcases hz with ⟨q, -⟩ | ⟨-, A, hA, hs⟩
  · exact absurd q (by omega)
  have hn : (w_up S 226 16 0) 72 3 = (T.length : Int) := w1.1
  have hWA := cWd_at (ar := (-1)) hW2 hA ⟨by decide, by rw [w_up_slot (by decide)]; omega⟩ hT
  rw [hn] at hWA
  have e6 : A 136 (T.length : Int) = -1 := by rw [← hn]; exact hA.2.1.2.2.2.2.2
  rw [← w_up_eta e6] at hWA
  obtain ⟨⟨a1, a2⟩, -, -, -, -, -, -, fr, gA, rA⟩ := id hA
  have es : ∀ (j : Nat) (x : Int), j < 4000000 → j ≠ wG → ¬ cMk j x → (A) j x = (w_up S 226 16 0) j x := fun j x j0 j1 j2 => by
    unfold cMk at j2
    exact (fr j x j0 j1 (by omega) (by omega) (by omega) (by omega) (by omega) (by omega))
  have es2 : ∀ (j : Nat) (x : Int), (160 < j ∨ j < 72) → j < 237 → (A) j x = (w_up S 226 16 0) j x := fun j x j0 j1 => es j x (by omega) (by omega) (by unfold cMk; omega)
  have hkA : cTk 226 (A) K := cTk_ag hk (cTx_of (es2 2 1 (by decide) (by decide)) (fun x => es2 3 x (by decide) (by decide))) (fun j y hj => es2 j y (by omega) (by omega))
  have gB : gI (A) := gA
  have fB : cFm 226 cMk S (A) := cFm_tr (cFm_r hf) ⟨fun j x j0 j1 _ j3 => es j x j0 j1 j3, fun j j0 j1 => es2 j (-1) (by omega) (by omega), gB, rA⟩
  have fZ := cFr_sO (Or.inr rfl) (cFr_rfl gB) (by omega) hs
  have zf : ∀ (j : Nat) (x : Int), j ≠ 136 → j < 215 → Z j x = A j x := fun j x j0 j1 => (fZ.1 j x (by omega) (by omega) (by omega)).trans rfl
  have tf : ∀ (j : Nat) (x : Int), j < 215 → (w_up S 226 16 0) j x = S j x := fun j x j0 => w_up_slot (by omega)
  refine ⟨?_, ?_, cFm_tr fB (cFm_r fZ), cWd_fr (Or.inr rfl) hWA fZ, ?_, fun po => ?_, fun x x0 x1 => ?_, ?_⟩
  · rw [sO_16 (Or.inr rfl) hs, es2 226 16 (by decide) (by decide), w_up_same]
  · exact cTk_sO hkA (Or.inr rfl) hs rfl rfl h3 rfl (by omega) (by omega) (cV_e (by decide) rfl)
  · rw [fZ.1 150 0 (by decide) (by decide) (by decide), a2, eu]
  · have po1 : cPo (w_up S 226 16 0) := cPo_ag po (tf 72 3 (by decide)) (fun x => ⟨tf 134 x (by decide), tf 135 x (by decide)⟩) (tf 140 2 (by decide)) (tf 150 1 (by decide))
    exact cPo_ag (cPo_at po1 (by omega) hA) (zf 72 3 (by decide) (by decide)) (fun x => ⟨zf 134 x (by decide) (by decide), zf 135 x (by decide) (by decide)⟩) (zf 140 2 (by decide) (by decide)) (zf 150 1 (by decide) (by decide))
  · rw [zf 132 x (by decide) (by decide), hA.2.2.1 5 (by decide) x x0 (by omega), tf 132 x (by decide)]
  · rw [zf 132 _ (by decide) (by decide), ← hn]
    exact hA.2.1.2.1.2.2
theorem z26m_226 (h : stC 226 S K) (hi : cIn S K 26 a b) (hab : (-2147483648 ≤ a ∧ a ≤ 2147483647) ∧ (-2147483648 ≤ b ∧ b ≤ 2147483647)) (hx1 : pe_at (pe_GA xs).xs 1 = some (1, tx_1)) (hW : cWd S T L G) (hu : 0 ≤ S 150 0 ∧ S 150 0 ≤ 8000) (hm : S 150 0 = 8000) (hT : (T.length : Int) ≤ 8000) (hh : K.1.length < 2000) : cSn xs d 226 [228, 229, 127, 128, 129, 130, 131, 132, 133, 134, 135, 136, 141, 142] S K := by
  obtain ⟨h1, ⟨h2, h2b⟩, ⟨h3, h4, h5⟩, -⟩ := id h
  obtain ⟨-, -, r3⟩ := st_row h1 h3
  have hW2 : cWd (w_up S 226 16 0) T L G := cWd_up hW (by decide)
  have hk : cTk 226 (w_up S 226 16 0) K := cTk_16 h1 (Or.inr rfl)
  have hf : cFr 226 S (w_up S 226 16 0) := cFr_up (Or.inr rfl) (cFr_rfl h2b) (by decide) (by omega)
  have eu : (w_up S 226 16 0) 150 0 = S 150 0 := w_up_slot (by decide)
  rw [← eu] at hu hm
  obtain ⟨w1, -, -, ⟨-, n5, ⟨n6, n7⟩, n8, n9⟩, ⟨t1, t2, t3, t4⟩, -⟩ := id hW2
  refine wJ_mono (cm_p_226 h hi.1 hi.2.1 hi.2.2 (by decide) (fun q => by omega) (by decide) (by unfold mS; decide) (wJ_mono (x26_226 (n := (T.length : Int)) (xP_of (Or.inr rfl) h) hab hx1 rfl ⟨n6, n7⟩ n5 ⟨n8, n9⟩ t1 w1.1 ⟨by omega, t2⟩ ⟨t3, t4⟩ rfl ⟨hu.1, hu.2⟩) (fun o Z hz => (⟨hz.1, hz.2.elim (fun z => z.2) (fun z => absurd z.1 (by omega))⟩ : o = .inl none ∧ w_up (w_up S 226 16 0) 226 16 99 = Z))) (fun Z hz => by subst hz; exact w_up_same _ _ _ _)) (fun o Z2 hz => ?_)
  obtain ⟨hz0, Z, rfl, rfl⟩ := hz
  exact ⟨hz0, cTk_st (cTk_16 hk (Or.inr rfl)) (Or.inr rfl), cFr_up (Or.inr rfl) (cFr_up (Or.inr rfl) hf (by decide) (by omega)) (by decide) (by omega)⟩
theorem rn24 (h : stR t S K) (hs : S 357 t = 1) (hi : rIn S K 24 a b) (hab : (-2147483648 ≤ a ∧ a ≤ 2147483647) ∧ (-2147483648 ≤ b ∧ b ≤ 2147483647)) (hW : rWd S sl T L G) (hu : (T.length : Int) ≤ S 237 62 ∧ S 237 62 < 8000) (hh : K.1.length < 2000) : rSm xs d t rMk S (kP K 0 (5, (T.length : Int), [])) (fun Z => rWd Z (aSl sl T.length) (T ++ [(5, 0, a, (K.2.1.getD (K.2.1.length - 1) (0, 0, 0, (0, 0, []), 0, 0, 0)).2.2.1, -1, 0, [])]) L G ∧ Z 237 62 = S 237 62 + 1) := by
  obtain ⟨h1, h2, h3, h4b, ⟨h7, h8, h9, h9b⟩, -⟩ := id h
  obtain ⟨-, -, r3⟩ := sr_row h1 h7
  have hW2 : rWd (w_up (w_up S 237 154 (200 * t + (K.2.1.length : Int) - 1)) 237 155 ((K.2.1.getD (K.2.1.length - 1) (0, 0, 0, (0, 0, []), 0, 0, 0)).2.1 + 1)) sl T L G := rWd_T0 hW
  have eu : (w_up (w_up S 237 154 (200 * t + (K.2.1.length : Int) - 1)) 237 155 ((K.2.1.getD (K.2.1.length - 1) (0, 0, 0, (0, 0, []), 0, 0, 0)).2.1 + 1)) 237 62 = S 237 62 := (w_up_at (by decide)).trans (w_up_at (by decide))
  rw [← eu] at hu
  refine rg_t h hs hi.1 hi.2.1 hi.2.2 (by decide) (wJ_mono (y24 (n := (T.length : Int)) (mP_of h) hab.1 hW2.1.1 ⟨by omega, by omega⟩ rfl ⟨by omega, by omega⟩ (r_16 r3 (by decide))) (fun _ _ => ite_pp (by omega) (by omega))) (fun Z hz => ?_)
  subst hz
  rw [fnZ_f]
  have hk : rTk t (fnZ 5 a (K.2.1.getD (K.2.1.length - 1) (0, 0, 0, (0, 0, []), 0, 0, 0)).2.2.1 (T.length : Int) ((w_up (w_up S 237 154 (200 * t + (K.2.1.length : Int) - 1)) 237 155 ((K.2.1.getD (K.2.1.length - 1) (0, 0, 0, (0, 0, []), 0, 0, 0)).2.1 + 1)) 237 62) (w_up (w_up S 237 154 (200 * t + (K.2.1.length : Int) - 1)) 237 155 ((K.2.1.getD (K.2.1.length - 1) (0, 0, 0, (0, 0, []), 0, 0, 0)).2.1 + 1))) K := rTk_ag (T0_k (x := (200 * t + (K.2.1.length : Int) - 1)) (y := (K.2.1.getD (K.2.1.length - 1) (0, 0, 0, (0, 0, []), 0, 0, 0)).2.1 + 1) h1) (rTx_of (fnZ_e 237 19 (by decide) (Or.inl (by decide))) (fnZ_e 237 102 (by decide) (Or.inl (by decide))) (fun j x j0 j1 => fnZ_e j x (by omega) (by omega))) ⟨fun j hj => fnZ_e j t (by omega) (by omega), fun j i j0 j1 _ _ => fnZ_e j i (by omega) (by omega), fun j i j0 j1 _ _ => fnZ_e j i (by omega) (by omega)⟩ (fnZ_e 359 t (by omega) (by omega)) (fun i _ _ => ⟨fnZ_e 363 i (by omega) (by omega), fnZ_e 364 i (by omega) (by omega)⟩)
  have hp := rTk_pU (k := 5) (v := (T.length : Int)) (a := (5, (T.length : Int), [])) hk h3 rfl (rV_e (by decide) rfl)
  have es : ∀ (x : Int), (pUZ t (K.1.length : Int) 5 (T.length : Int) (fnZ 5 a (K.2.1.getD (K.2.1.length - 1) (0, 0, 0, (0, 0, []), 0, 0, 0)).2.2.1 (T.length : Int) ((w_up (w_up S 237 154 (200 * t + (K.2.1.length : Int) - 1)) 237 155 ((K.2.1.getD (K.2.1.length - 1) (0, 0, 0, (0, 0, []), 0, 0, 0)).2.1 + 1)) 237 62) (w_up (w_up S 237 154 (200 * t + (K.2.1.length : Int) - 1)) 237 155 ((K.2.1.getD (K.2.1.length - 1) (0, 0, 0, (0, 0, []), 0, 0, 0)).2.1 + 1)))) 237 x = (fnZ 5 a (K.2.1.getD (K.2.1.length - 1) (0, 0, 0, (0, 0, []), 0, 0, 0)).2.2.1 (T.length : Int) ((w_up (w_up S 237 154 (200 * t + (K.2.1.length : Int) - 1)) 237 155 ((K.2.1.getD (K.2.1.length - 1) (0, 0, 0, (0, 0, []), 0, 0, 0)).2.1 + 1)) 237 62) (w_up (w_up S 237 154 (200 * t + (K.2.1.length : Int) - 1)) 237 155 ((K.2.1.getD (K.2.1.length - 1) (0, 0, 0, (0, 0, []), 0, 0, 0)).2.1 + 1))) 237 x := fun x => (w_up_slot (by decide)).trans ((w_up_slot (by decide)).trans (w_up_slot (by decide)))
  have hWn : rWd (fnZ 5 a (K.2.1.getD (K.2.1.length - 1) (0, 0, 0, (0, 0, []), 0, 0, 0)).2.2.1 (T.length : Int) ((w_up (w_up S 237 154 (200 * t + (K.2.1.length : Int) - 1)) 237 155 ((K.2.1.getD (K.2.1.length - 1) (0, 0, 0, (0, 0, []), 0, 0, 0)).2.1 + 1)) 237 62) (w_up (w_up S 237 154 (200 * t + (K.2.1.length : Int) - 1)) 237 155 ((K.2.1.getD (K.2.1.length - 1) (0, 0, 0, (0, 0, []), 0, 0, 0)).2.1 + 1))) (aSl sl T.length) (T ++ [(5, 0, a, (K.2.1.getD (K.2.1.length - 1) (0, 0, 0, (0, 0, []), 0, 0, 0)).2.2.1, -1, 0, [])]) L G := rWd_nt hW2 rfl (by exact Or.inl rfl)
  have hM : w_ML (pUZ t (K.1.length : Int) 5 (T.length : Int) (fnZ 5 a (K.2.1.getD (K.2.1.length - 1) (0, 0, 0, (0, 0, []), 0, 0, 0)).2.2.1 (T.length : Int) ((w_up (w_up S 237 154 (200 * t + (K.2.1.length : Int) - 1)) 237 155 ((K.2.1.getD (K.2.1.length - 1) (0, 0, 0, (0, 0, []), 0, 0, 0)).2.1 + 1)) 237 62) (w_up (w_up S 237 154 (200 * t + (K.2.1.length : Int) - 1)) 237 155 ((K.2.1.getD (K.2.1.length - 1) (0, 0, 0, (0, 0, []), 0, 0, 0)).2.1 + 1)))) := by
    unfold pUZ fnZ ntZ
    exact w_ML_up (w_ML_up (w_ML_up (w_ML_up (w_ML_up (w_ML_up (w_ML_up (w_ML_up (w_ML_up (w_ML_up (w_ML_up (w_ML_up (w_ML_up (w_ML_up (w_ML_up (w_ML_up (w_ML_up (w_ML_up (T0_ml h2) (by omega)) (by omega)) (by omega)) (by omega)) (by omega)) (by omega)) (by omega)) (by omega)) (by omega)) (by omega)) (by omega)) (by omega)) (by omega)) (by omega)) (by omega)) (by omega)) (by omega)) (by omega)
  unfold kP
  rw [show K.1.take (K.1.length - 0) = K.1 from List.take_length]
  refine rp_m (P := fun Z => rWd Z (aSl sl T.length) (T ++ [(5, 0, a, (K.2.1.getD (K.2.1.length - 1) (0, 0, 0, (0, 0, []), 0, 0, 0)).2.2.1, -1, 0, [])]) L G ∧ Z 237 62 = S 237 62 + 1) h hM ((es 154).trans ((fnZ_e 237 154 (by decide) (Or.inl (by decide))).trans T0_4)) ((es 155).trans ((fnZ_e 237 155 (by decide) (Or.inl (by decide))).trans T0_5)) hp rfl (rTm_pU (rTm_fn (rTm_r T0_f)) (by omega)) ⟨rWd_366 (rWd_up (rWd_up (rWd_up hWn (Or.inl (by decide))) (Or.inl (by decide))) (Or.inl (by decide))), ?_⟩
  rw [w_up_slot (by decide), es 62, ← eu]
  exact (w_up_slot (by decide)).trans ((w_up_slot (by decide)).trans ((w_up_slot (by decide)).trans (w_up_same _ _ _ _)))
theorem rn24m (h : stR t S K) (hs : S 357 t = 1) (hi : rIn S K 24 a b) (hab : (-2147483648 ≤ a ∧ a ≤ 2147483647) ∧ (-2147483648 ≤ b ∧ b ≤ 2147483647)) (hW : rWd S sl T L G) (hu : (T.length : Int) ≤ S 237 62 ∧ S 237 62 = 8000) (hh : K.1.length < 2000) : rSn xs d t S K := by
  obtain ⟨h1, h2, h3, h4b, ⟨h7, h8, h9, h9b⟩, -⟩ := id h
  obtain ⟨-, -, r3⟩ := sr_row h1 h7
  have hW2 : rWd (w_up (w_up S 237 154 (200 * t + (K.2.1.length : Int) - 1)) 237 155 ((K.2.1.getD (K.2.1.length - 1) (0, 0, 0, (0, 0, []), 0, 0, 0)).2.1 + 1)) sl T L G := rWd_T0 hW
  have eu : (w_up (w_up S 237 154 (200 * t + (K.2.1.length : Int) - 1)) 237 155 ((K.2.1.getD (K.2.1.length - 1) (0, 0, 0, (0, 0, []), 0, 0, 0)).2.1 + 1)) 237 62 = S 237 62 := (w_up_at (by decide)).trans (w_up_at (by decide))
  rw [← eu] at hu
  exact rm_t h hs hi.1 hi.2.1 hi.2.2 (by decide) (wJ_mono (y24 (n := (T.length : Int)) (mP_of h) hab.1 hW2.1.1 ⟨by omega, by omega⟩ rfl ⟨by omega, by omega⟩ (r_16 r3 (by decide))) (fun _ _ => ite_pn (by omega) (by omega)))
theorem rn24v (h : stR t S K) (hs : S 357 t = 1) (hi : rIn S K 24 a b) (hab : (-2147483648 ≤ a ∧ a ≤ 2147483647) ∧ (-2147483648 ≤ b ∧ b ≤ 2147483647)) (hW : rWd S sl T L G) (hu : (T.length : Int) ≤ S 237 62 ∧ S 237 62 ≤ 8000) (hh : 2000 ≤ K.1.length) : rSt xs d t S (kTh K (2, 11, [])) := by
  obtain ⟨h1, h2, h3, h4b, ⟨h7, h8, h9, h9b⟩, -⟩ := id h
  obtain ⟨-, -, r3⟩ := sr_row h1 h7
  have hW2 : rWd (w_up (w_up S 237 154 (200 * t + (K.2.1.length : Int) - 1)) 237 155 ((K.2.1.getD (K.2.1.length - 1) (0, 0, 0, (0, 0, []), 0, 0, 0)).2.1 + 1)) sl T L G := rWd_T0 hW
  have eu : (w_up (w_up S 237 154 (200 * t + (K.2.1.length : Int) - 1)) 237 155 ((K.2.1.getD (K.2.1.length - 1) (0, 0, 0, (0, 0, []), 0, 0, 0)).2.1 + 1)) 237 62 = S 237 62 := (w_up_at (by decide)).trans (w_up_at (by decide))
  rw [← eu] at hu
  exact rx_t h hs hi.1 hi.2.1 hi.2.2 (by decide) (by decide) (wJ_mono (y24 (n := (T.length : Int)) (mP_of h) hab.1 hW2.1.1 ⟨by omega, by omega⟩ rfl ⟨by omega, by omega⟩ (r_16 r3 (by decide))) (fun _ _ => ite_n (by omega)))
theorem rn26 (h : stR t S K) (hs : S 357 t = 1) (hi : rIn S K 26 a b) (hab : (-2147483648 ≤ a ∧ a ≤ 2147483647) ∧ (-2147483648 ≤ b ∧ b ≤ 2147483647)) (hW : rWd S sl T L G) (hu : (T.length : Int) ≤ S 237 62 ∧ S 237 62 < 8000) (hh : K.1.length < 2000) : rSm xs d t rMk S (kP K 0 (4, (T.length : Int), [])) (fun Z => rWd Z (aSl sl T.length) (T ++ [(4, 0, (-1), (-1), -1, 0, [])]) L G ∧ Z 237 62 = S 237 62 + 1) := by
  obtain ⟨h1, h2, h3, h4b, ⟨h7, h8, h9, h9b⟩, -⟩ := id h
  obtain ⟨-, -, r3⟩ := sr_row h1 h7
  have hW2 : rWd (w_up (w_up S 237 154 (200 * t + (K.2.1.length : Int) - 1)) 237 155 ((K.2.1.getD (K.2.1.length - 1) (0, 0, 0, (0, 0, []), 0, 0, 0)).2.1 + 1)) sl T L G := rWd_T0 hW
  have eu : (w_up (w_up S 237 154 (200 * t + (K.2.1.length : Int) - 1)) 237 155 ((K.2.1.getD (K.2.1.length - 1) (0, 0, 0, (0, 0, []), 0, 0, 0)).2.1 + 1)) 237 62 = S 237 62 := (w_up_at (by decide)).trans (w_up_at (by decide))
  rw [← eu] at hu
  refine rg_t h hs hi.1 hi.2.1 hi.2.2 (by decide) (wJ_mono (y26 (n := (T.length : Int)) (mP_of h) hab.1 hW2.1.1 ⟨by omega, by omega⟩ rfl ⟨by omega, by omega⟩) (fun _ _ => ite_pp (by omega) (by omega))) (fun Z hz => ?_)
  subst hz
  rw [fnZ_o]
  have hk : rTk t (fnZ 4 (-1) (-1) (T.length : Int) ((w_up (w_up S 237 154 (200 * t + (K.2.1.length : Int) - 1)) 237 155 ((K.2.1.getD (K.2.1.length - 1) (0, 0, 0, (0, 0, []), 0, 0, 0)).2.1 + 1)) 237 62) (w_up (w_up S 237 154 (200 * t + (K.2.1.length : Int) - 1)) 237 155 ((K.2.1.getD (K.2.1.length - 1) (0, 0, 0, (0, 0, []), 0, 0, 0)).2.1 + 1))) K := rTk_ag (T0_k (x := (200 * t + (K.2.1.length : Int) - 1)) (y := (K.2.1.getD (K.2.1.length - 1) (0, 0, 0, (0, 0, []), 0, 0, 0)).2.1 + 1) h1) (rTx_of (fnZ_e 237 19 (by decide) (Or.inl (by decide))) (fnZ_e 237 102 (by decide) (Or.inl (by decide))) (fun j x j0 j1 => fnZ_e j x (by omega) (by omega))) ⟨fun j hj => fnZ_e j t (by omega) (by omega), fun j i j0 j1 _ _ => fnZ_e j i (by omega) (by omega), fun j i j0 j1 _ _ => fnZ_e j i (by omega) (by omega)⟩ (fnZ_e 359 t (by omega) (by omega)) (fun i _ _ => ⟨fnZ_e 363 i (by omega) (by omega), fnZ_e 364 i (by omega) (by omega)⟩)
  have hp := rTk_pU (k := 4) (v := (T.length : Int)) (a := (4, (T.length : Int), [])) hk h3 rfl (rV_e (by decide) rfl)
  have es : ∀ (x : Int), (pUZ t (K.1.length : Int) 4 (T.length : Int) (fnZ 4 (-1) (-1) (T.length : Int) ((w_up (w_up S 237 154 (200 * t + (K.2.1.length : Int) - 1)) 237 155 ((K.2.1.getD (K.2.1.length - 1) (0, 0, 0, (0, 0, []), 0, 0, 0)).2.1 + 1)) 237 62) (w_up (w_up S 237 154 (200 * t + (K.2.1.length : Int) - 1)) 237 155 ((K.2.1.getD (K.2.1.length - 1) (0, 0, 0, (0, 0, []), 0, 0, 0)).2.1 + 1)))) 237 x = (fnZ 4 (-1) (-1) (T.length : Int) ((w_up (w_up S 237 154 (200 * t + (K.2.1.length : Int) - 1)) 237 155 ((K.2.1.getD (K.2.1.length - 1) (0, 0, 0, (0, 0, []), 0, 0, 0)).2.1 + 1)) 237 62) (w_up (w_up S 237 154 (200 * t + (K.2.1.length : Int) - 1)) 237 155 ((K.2.1.getD (K.2.1.length - 1) (0, 0, 0, (0, 0, []), 0, 0, 0)).2.1 + 1))) 237 x := fun x => (w_up_slot (by decide)).trans ((w_up_slot (by decide)).trans (w_up_slot (by decide)))
  have hWn : rWd (fnZ 4 (-1) (-1) (T.length : Int) ((w_up (w_up S 237 154 (200 * t + (K.2.1.length : Int) - 1)) 237 155 ((K.2.1.getD (K.2.1.length - 1) (0, 0, 0, (0, 0, []), 0, 0, 0)).2.1 + 1)) 237 62) (w_up (w_up S 237 154 (200 * t + (K.2.1.length : Int) - 1)) 237 155 ((K.2.1.getD (K.2.1.length - 1) (0, 0, 0, (0, 0, []), 0, 0, 0)).2.1 + 1))) (aSl sl T.length) (T ++ [(4, 0, (-1), (-1), -1, 0, [])]) L G := rWd_nt hW2 rfl (by exact Or.inr ⟨rfl, rfl⟩)
  have hM : w_ML (pUZ t (K.1.length : Int) 4 (T.length : Int) (fnZ 4 (-1) (-1) (T.length : Int) ((w_up (w_up S 237 154 (200 * t + (K.2.1.length : Int) - 1)) 237 155 ((K.2.1.getD (K.2.1.length - 1) (0, 0, 0, (0, 0, []), 0, 0, 0)).2.1 + 1)) 237 62) (w_up (w_up S 237 154 (200 * t + (K.2.1.length : Int) - 1)) 237 155 ((K.2.1.getD (K.2.1.length - 1) (0, 0, 0, (0, 0, []), 0, 0, 0)).2.1 + 1)))) := by
    unfold pUZ fnZ ntZ
    exact w_ML_up (w_ML_up (w_ML_up (w_ML_up (w_ML_up (w_ML_up (w_ML_up (w_ML_up (w_ML_up (w_ML_up (w_ML_up (w_ML_up (w_ML_up (w_ML_up (w_ML_up (w_ML_up (w_ML_up (w_ML_up (T0_ml h2) (by omega)) (by omega)) (by omega)) (by omega)) (by omega)) (by omega)) (by omega)) (by omega)) (by omega)) (by omega)) (by omega)) (by omega)) (by omega)) (by omega)) (by omega)) (by omega)) (by omega)) (by omega)
  unfold kP
  rw [show K.1.take (K.1.length - 0) = K.1 from List.take_length]
  refine rp_m (P := fun Z => rWd Z (aSl sl T.length) (T ++ [(4, 0, (-1), (-1), -1, 0, [])]) L G ∧ Z 237 62 = S 237 62 + 1) h hM ((es 154).trans ((fnZ_e 237 154 (by decide) (Or.inl (by decide))).trans T0_4)) ((es 155).trans ((fnZ_e 237 155 (by decide) (Or.inl (by decide))).trans T0_5)) hp rfl (rTm_pU (rTm_fn (rTm_r T0_f)) (by omega)) ⟨rWd_366 (rWd_up (rWd_up (rWd_up hWn (Or.inl (by decide))) (Or.inl (by decide))) (Or.inl (by decide))), ?_⟩
  rw [w_up_slot (by decide), es 62, ← eu]
  exact (w_up_slot (by decide)).trans ((w_up_slot (by decide)).trans ((w_up_slot (by decide)).trans (w_up_same _ _ _ _)))
theorem rn26m (h : stR t S K) (hs : S 357 t = 1) (hi : rIn S K 26 a b) (hab : (-2147483648 ≤ a ∧ a ≤ 2147483647) ∧ (-2147483648 ≤ b ∧ b ≤ 2147483647)) (hW : rWd S sl T L G) (hu : (T.length : Int) ≤ S 237 62 ∧ S 237 62 = 8000) (hh : K.1.length < 2000) : rSn xs d t S K := by
  obtain ⟨h1, h2, h3, h4b, ⟨h7, h8, h9, h9b⟩, -⟩ := id h
  obtain ⟨-, -, r3⟩ := sr_row h1 h7
  have hW2 : rWd (w_up (w_up S 237 154 (200 * t + (K.2.1.length : Int) - 1)) 237 155 ((K.2.1.getD (K.2.1.length - 1) (0, 0, 0, (0, 0, []), 0, 0, 0)).2.1 + 1)) sl T L G := rWd_T0 hW
  have eu : (w_up (w_up S 237 154 (200 * t + (K.2.1.length : Int) - 1)) 237 155 ((K.2.1.getD (K.2.1.length - 1) (0, 0, 0, (0, 0, []), 0, 0, 0)).2.1 + 1)) 237 62 = S 237 62 := (w_up_at (by decide)).trans (w_up_at (by decide))
  rw [← eu] at hu
  exact rm_t h hs hi.1 hi.2.1 hi.2.2 (by decide) (wJ_mono (y26 (n := (T.length : Int)) (mP_of h) hab.1 hW2.1.1 ⟨by omega, by omega⟩ rfl ⟨by omega, by omega⟩) (fun _ _ => ite_pn (by omega) (by omega)))
theorem rn26v (h : stR t S K) (hs : S 357 t = 1) (hi : rIn S K 26 a b) (hab : (-2147483648 ≤ a ∧ a ≤ 2147483647) ∧ (-2147483648 ≤ b ∧ b ≤ 2147483647)) (hW : rWd S sl T L G) (hu : (T.length : Int) ≤ S 237 62 ∧ S 237 62 ≤ 8000) (hh : 2000 ≤ K.1.length) : rSt xs d t S (kTh K (2, 11, [])) := by
  obtain ⟨h1, h2, h3, h4b, ⟨h7, h8, h9, h9b⟩, -⟩ := id h
  obtain ⟨-, -, r3⟩ := sr_row h1 h7
  have hW2 : rWd (w_up (w_up S 237 154 (200 * t + (K.2.1.length : Int) - 1)) 237 155 ((K.2.1.getD (K.2.1.length - 1) (0, 0, 0, (0, 0, []), 0, 0, 0)).2.1 + 1)) sl T L G := rWd_T0 hW
  have eu : (w_up (w_up S 237 154 (200 * t + (K.2.1.length : Int) - 1)) 237 155 ((K.2.1.getD (K.2.1.length - 1) (0, 0, 0, (0, 0, []), 0, 0, 0)).2.1 + 1)) 237 62 = S 237 62 := (w_up_at (by decide)).trans (w_up_at (by decide))
  rw [← eu] at hu
  exact rx_t h hs hi.1 hi.2.1 hi.2.2 (by decide) (by decide) (wJ_mono (y26 (n := (T.length : Int)) (mP_of h) hab.1 hW2.1.1 ⟨by omega, by omega⟩ rfl ⟨by omega, by omega⟩) (fun _ _ => ite_n (by omega)))
end Weo
