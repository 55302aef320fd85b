/-! PART f3: LIST, by tasks and worlds. -/
section Wf3
variable {xs : List (Nat × List Int32)} {d : Nat} {S Z A B X : wS} {K Kr : aK} {k v q t a b : Int} {u : aV} {w m : Nat} {L : List aC} {T : List aO} {G : Int → aV} {sl : Nat → List Int} {mk : Nat → Int → Prop} {ml : List Nat} {kd sh fo rm ar n u0 : Int}
theorem set_r : ∀ (T : List aO) (o x : aO), (T ++ [o]).set T.length x = T ++ [x]
  | [], _, _ => rfl
  | a :: T, o, x => by
    show a :: (T ++ [o]).set T.length x = a :: (T ++ [x])
    rw [set_r T o x]
theorem aAd_e {c1 c2 c3 c4 c5 c6 : Int} {ps : List (Int × aV)} : aAd (T ++ [(c1, c2, c3, c4, c5, c6, ps)]) T.length u = T ++ [(c1, c2, c3, c4, c5, c6, ps ++ [(-1, u)])] := by
  unfold aAd
  rw [gO_r, set_r]
theorem aAL_e {c1 c2 c3 c4 c5 c6 : Int} : ∀ (us : List aV) (ps : List (Int × aV)), aAL T.length us (T ++ [(c1, c2, c3, c4, c5, c6, ps)]) = T ++ [(c1, c2, c3, c4, c5, c6, ps ++ us.map (fun u => ((-1 : Int), u)))]
  | [], ps => by
    show T ++ [(c1, c2, c3, c4, c5, c6, ps)] = T ++ [(c1, c2, c3, c4, c5, c6, ps ++ [])]
    rw [List.append_nil]
  | u :: us, ps => by
    show aAL T.length us (aAd (T ++ [(c1, c2, c3, c4, c5, c6, ps)]) T.length u) = _
    rw [aAd_e, aAL_e us (ps ++ [(-1, u)]), List.append_assoc]
    rfl
theorem gV_d {l : List aV} {m i : Nat} : (l.drop m).getD i (0, 0, []) = l.getD (m + i) (0, 0, []) := by
  rw [List.getD_eq_getElem?_getD, List.getElem?_drop, ← List.getD_eq_getElem?_getD]
/-- what a list made changes -/
def cMl (j : Nat) (x : Int) : Prop := cMk j x ∨ (j = 150 ∧ x = 1)
def rMl (j : Nat) (x : Int) : Prop := (314 ≤ j ∧ j ≤ 328) ∨ (j = 237 ∧ (x = 62 ∨ x = 63 ∨ x = 68 ∨ x = 82))
/-- a thing of the reference has come -/
def nt_f (kd sh fo ar n : Int) (S X : wS) : Prop := (X 237 68 = n + 1 ∧ X 237 62 = S 237 62 + 1) ∧ (X 314 n = kd ∧ X 315 n = sh ∧ X 319 n = (if kd = 5 then fo else -1) ∧ X 321 n = (if kd = 7 then fo else -1) ∧ X 320 n = ar) ∧ (X 317 n = 0 ∧ X 322 n = 0 ∧ X 324 n = 0) ∧ ∀ (j : Nat) (x : Int), (j ≠ 237 ∨ (x ≠ 68 ∧ x ≠ 62)) → ((j < 314 ∨ 324 < j ∨ j = 318) ∨ x ≠ n) → X j x = S j x
theorem nt_g (hu : S 237 62 = u0) (h5 : kd ≠ 5) (h7 : kd ≠ 7) : nt_f kd (-1) (-1) (-1) n S (ntZ kd n u0 S) := by
  refine ⟨⟨(w_up_at (by decide)).trans (w_up_same _ _ _ _), by rw [hu]; exact w_up_same _ _ _ _⟩, ⟨(w_up_slot (by decide)).trans ((w_up_slot (by decide)).trans ((w_up_slot (by decide)).trans ((w_up_slot (by decide)).trans ((w_up_slot (by decide)).trans ((w_up_slot (by decide)).trans ((w_up_slot (by decide)).trans ((w_up_slot (by decide)).trans ((w_up_slot (by decide)).trans ((w_up_slot (by decide)).trans ((w_up_slot (by decide)).trans (w_up_same _ _ _ _))))))))))), (w_up_slot (by decide)).trans ((w_up_slot (by decide)).trans ((w_up_slot (by decide)).trans ((w_up_slot (by decide)).trans ((w_up_slot (by decide)).trans ((w_up_slot (by decide)).trans ((w_up_slot (by decide)).trans ((w_up_slot (by decide)).trans ((w_up_slot (by decide)).trans ((w_up_slot (by decide)).trans (w_up_same _ _ _ _)))))))))), ?_, ?_, (w_up_slot (by decide)).trans ((w_up_slot (by decide)).trans ((w_up_slot (by decide)).trans ((w_up_slot (by decide)).trans ((w_up_slot (by decide)).trans ((w_up_slot (by decide)).trans (w_up_same _ _ _ _))))))⟩, ⟨(w_up_slot (by decide)).trans ((w_up_slot (by decide)).trans ((w_up_slot (by decide)).trans ((w_up_slot (by decide)).trans ((w_up_slot (by decide)).trans ((w_up_slot (by decide)).trans ((w_up_slot (by decide)).trans ((w_up_slot (by decide)).trans (w_up_same _ _ _ _)))))))), (w_up_slot (by decide)).trans ((w_up_slot (by decide)).trans ((w_up_slot (by decide)).trans ((w_up_slot (by decide)).trans (w_up_same _ _ _ _)))), (w_up_slot (by decide)).trans ((w_up_slot (by decide)).trans (w_up_same _ _ _ _))⟩, fun j x j0 j1 => (w_up_no (by omega)).trans ((w_up_no (by omega)).trans ((w_up_no (by omega)).trans ((w_up_no (by omega)).trans ((w_up_no (by omega)).trans ((w_up_no (by omega)).trans ((w_up_no (by omega)).trans ((w_up_no (by omega)).trans ((w_up_no (by omega)).trans ((w_up_no (by omega)).trans ((w_up_no (by omega)).trans ((w_up_no (by omega)))))))))))))⟩
  · rw [if_neg h5]; exact (w_up_slot (by decide)).trans ((w_up_slot (by decide)).trans ((w_up_slot (by decide)).trans ((w_up_slot (by decide)).trans ((w_up_slot (by decide)).trans ((w_up_slot (by decide)).trans ((w_up_slot (by decide)).trans (w_up_same _ _ _ _)))))))
  · rw [if_neg h7]; exact (w_up_slot (by decide)).trans ((w_up_slot (by decide)).trans ((w_up_slot (by decide)).trans ((w_up_slot (by decide)).trans ((w_up_slot (by decide)).trans (w_up_same _ _ _ _)))))
theorem nt_sh (h : nt_f kd (-1) fo ar n S X) : nt_f kd sh fo ar n S (w_up X 315 n sh) := by
  obtain ⟨⟨a1, a2⟩, ⟨b1, b2, b3, b4, b5⟩, ⟨c1, c2, c3⟩, f⟩ := h
  exact ⟨⟨(w_up_slot (by decide)).trans a1, (w_up_slot (by decide)).trans a2⟩, ⟨(w_up_slot (by decide)).trans b1, w_up_same _ _ _ _, (w_up_slot (by decide)).trans b3, (w_up_slot (by decide)).trans b4, (w_up_slot (by decide)).trans b5⟩, ⟨(w_up_slot (by decide)).trans c1, (w_up_slot (by decide)).trans c2, (w_up_slot (by decide)).trans c3⟩, fun j x j0 j1 => (w_up_no (by omega)).trans (f j x j0 j1)⟩
theorem nt_7 (hu : S 237 62 = u0) : nt_f 7 (-1) fo (-1) n S (w_up (ntZ 7 n u0 S) 321 n fo) := by
  refine ⟨⟨(w_up_slot (by decide)).trans ((w_up_at (by decide)).trans (w_up_same _ _ _ _)), by rw [hu]; exact (w_up_slot (by decide)).trans (w_up_same _ _ _ _)⟩, ⟨(w_up_slot (by decide)).trans ((w_up_slot (by decide)).trans ((w_up_slot (by decide)).trans ((w_up_slot (by decide)).trans ((w_up_slot (by decide)).trans ((w_up_slot (by decide)).trans ((w_up_slot (by decide)).trans ((w_up_slot (by decide)).trans ((w_up_slot (by decide)).trans ((w_up_slot (by decide)).trans ((w_up_slot (by decide)).trans ((w_up_slot (by decide)).trans (w_up_same _ _ _ _)))))))))))), (w_up_slot (by decide)).trans ((w_up_slot (by decide)).trans ((w_up_slot (by decide)).trans ((w_up_slot (by decide)).trans ((w_up_slot (by decide)).trans ((w_up_slot (by decide)).trans ((w_up_slot (by decide)).trans ((w_up_slot (by decide)).trans ((w_up_slot (by decide)).trans ((w_up_slot (by decide)).trans ((w_up_slot (by decide)).trans (w_up_same _ _ _ _))))))))))), ?_, ?_, (w_up_slot (by decide)).trans ((w_up_slot (by decide)).trans ((w_up_slot (by decide)).trans ((w_up_slot (by decide)).trans ((w_up_slot (by decide)).trans ((w_up_slot (by decide)).trans ((w_up_slot (by decide)).trans (w_up_same _ _ _ _)))))))⟩, ⟨(w_up_slot (by decide)).trans ((w_up_slot (by decide)).trans ((w_up_slot (by decide)).trans ((w_up_slot (by decide)).trans ((w_up_slot (by decide)).trans ((w_up_slot (by decide)).trans ((w_up_slot (by decide)).trans ((w_up_slot (by decide)).trans ((w_up_slot (by decide)).trans (w_up_same _ _ _ _))))))))), (w_up_slot (by decide)).trans ((w_up_slot (by decide)).trans ((w_up_slot (by decide)).trans ((w_up_slot (by decide)).trans ((w_up_slot (by decide)).trans (w_up_same _ _ _ _))))), (w_up_slot (by decide)).trans ((w_up_slot (by decide)).trans ((w_up_slot (by decide)).trans (w_up_same _ _ _ _)))⟩, fun j x j0 j1 => (w_up_no (by omega)).trans ((w_up_no (by omega)).trans ((w_up_no (by omega)).trans ((w_up_no (by omega)).trans ((w_up_no (by omega)).trans ((w_up_no (by omega)).trans ((w_up_no (by omega)).trans ((w_up_no (by omega)).trans ((w_up_no (by omega)).trans ((w_up_no (by omega)).trans ((w_up_no (by omega)).trans ((w_up_no (by omega)).trans ((w_up_no (by omega))))))))))))))⟩
  · rw [if_neg (by decide)]; exact (w_up_slot (by decide)).trans ((w_up_slot (by decide)).trans ((w_up_slot (by decide)).trans ((w_up_slot (by decide)).trans ((w_up_slot (by decide)).trans ((w_up_slot (by decide)).trans ((w_up_slot (by decide)).trans ((w_up_slot (by decide)).trans (w_up_same _ _ _ _))))))))
  · rw [if_pos rfl]; exact w_up_same _ _ _ _
theorem rWd_nx (h : rWd S sl T L G) (hn : n = (T.length : Int)) (r : nt_f kd sh fo ar n S X) : rWd X (aSl sl T.length) (T ++ [(kd, sh, fo, ar, -1, 0, [])]) L G := by
  obtain ⟨h1, h2, h3, h4, h5⟩ := h
  obtain ⟨⟨c8, -⟩, ⟨v4, v5, v9, v1, v0⟩, ⟨v7, v2, v24⟩, fr⟩ := r
  have e : rTx S X := rTx_of (fr 237 19 (by decide) (Or.inl (by decide))) (fr 237 102 (by decide) (Or.inl (by decide))) (fun j x j0 j1 => fr j x (by omega) (by omega))
  have lt : (T ++ [((kd, sh, fo, ar, -1, 0, []) : aO)]).length = T.length + 1 := by rw [List.length_append]; rfl
  refine ⟨⟨?_, fun k hk => ?_⟩, rCa_mo h2 e (fr 237 69 (by decide) (Or.inl (by decide))) (fr 237 94 (by decide) (Or.inl (by decide))) (fun j x j0 j1 => fr j x (by omega) (by omega)), fun k q hk hq => ?_, ?_, rGl_mo h5 e (fun j x j0 j1 => fr j x (by omega) (by omega))⟩
  · rw [c8, lt]; omega
  · rw [lt] at hk
    by_cases ck : k < T.length
    · rw [gO_l ck, aSl_n (by omega)]
      have e4 : ∀ j : Nat, 314 ≤ j → j ≤ 324 → X j (k : Int) = S j (k : Int) := fun j j0 j1 => fr j k (by omega) (by omega)
      obtain ⟨a1, b, c, d, g⟩ := h1.2 k ck
      rw [e4 314 (by decide) (by decide), e4 315 (by decide) (by decide), e4 316 (by decide) (by decide), e4 317 (by decide) (by decide), e4 318 (by decide) (by decide), e4 319 (by decide) (by decide), e4 320 (by decide) (by decide), e4 321 (by decide) (by decide), e4 322 (by decide) (by decide), e4 323 (by decide) (by decide), e4 324 (by decide) (by decide), fr 237 82 (by decide) (Or.inl (by decide))]
      refine ⟨a1, b, c, fun i hi => ?_, fun q i j hq hi hj ee => ?_⟩
      · obtain ⟨d1, d2, d3, d4⟩ := d i hi
        rw [fr 325 _ (Or.inl (by decide)) (Or.inl (by decide)), fr 326 _ (Or.inl (by decide)) (Or.inl (by decide)), fr 327 _ (Or.inl (by decide)) (Or.inl (by decide)), fr 328 _ (Or.inl (by decide)) (Or.inl (by decide))]
        exact ⟨d1, d2, rVl_mo d3 e, d4⟩
      · rw [lt] at hq
        by_cases cq : q < T.length
        · rw [aSl_n (by omega)] at hj ee
          exact g q i j cq hi hj ee
        · rw [show q = T.length by omega, aSl_e] at hj
          exact absurd hj (Nat.not_lt_zero _)
    · have ek : k = T.length := by omega
      rw [ek, gO_r, aSl_e, ← hn]
      refine ⟨⟨v4, v5, v9, v1, v0, ?_, fun z => absurd rfl z, v24⟩, ⟨v7, rfl⟩, fun z => absurd z (Nat.not_lt_zero _), fun i hi => absurd hi (Nat.not_lt_zero _), fun q i j _ hi => absurd hi (Nat.not_lt_zero _)⟩
      rw [v2]; rfl
  · rw [fr 334 _ (Or.inl (by decide)) (Or.inl (by decide)), fr 334 _ (Or.inl (by decide)) (Or.inl (by decide))]; exact h3 k q hk hq
  · rw [fr 237 94 (by decide) (Or.inl (by decide))]; exact h4
theorem asL_fr {fr : Int} : ∀ (r : Nat) (i : Int) (S : wS), asL n fr r i S Z → ∀ (j : Nat) (x : Int), (j ≠ 237 ∨ (x ≠ 82 ∧ x ≠ 63)) → (j < 314 ∨ 328 < j) → Z j x = S j x
  | 0, _, S, h, j, x, _, _ => by rw [show S = Z from h]
  | r + 1, i, S, h, j, x, j0, j1 => by
    obtain ⟨A, h1, h2⟩ := h
    exact (asL_fr r (i + 1) A h2 j x j0 j1).trans (h1.2.2.2 j x j0 (by omega) (by omega) (by omega))
theorem z25_215 (h : stC 215 S K) (hi : cIn S K 25 a b) (hab : (-2147483648 ≤ a ∧ a ≤ 2147483647) ∧ (-2147483648 ≤ b ∧ b ≤ 2147483647)) (hx1 : pe_at (pe_GA xs).xs 1 = some (1, tx_1)) (hW : cWd S T L G) (hu : 0 ≤ S 150 0 ∧ S 150 0 ≤ 8000) (hv : 0 ≤ S 150 1 ∧ S 150 1 ≤ 60000) (hT : (T.length : Int) ≤ 8000) (hc5 : S 140 2 ≤ 4 * S 150 1) (ha : 0 ≤ a ∧ a ≤ (K.1.length : Int)) (hh : a = 0 → K.1.length < 2000) (hm : S 150 0 < 8000 ∧ S 150 1 + a ≤ 60000) : cSm xs d 215 [217, 218, 127, 128, 129, 130, 131, 132, 133, 134, 135, 136, 141, 142] cMl S (kP K a.toNat (6, (T.length : Int), [])) (fun Z => cWd Z (T ++ [((6, -1, -1, -1, -1, 0, (K.1.drop (K.1.length - a.toNat)).map (fun u => ((-1 : Int), u))) : aO)]) L G ∧ (Z 150 0 = S 150 0 + 1 ∧ Z 150 1 = S 150 1 + a) ∧ (cPo S → cPo Z) ∧ ((∀ x : Int, 0 ≤ x → x < (T.length : Int) → Z 132 x = S 132 x) ∧ Z 132 (T.length : Int) = -1)) := by
  have hg : wG = 1000000 := rfl
  obtain ⟨h1, ⟨h2, h2b⟩, ⟨h3, h4, h5⟩, -⟩ := id h
  have hW2 : cWd (w_up S 215 16 0) T L G := cWd_up hW (by decide)
  have hk : cTk 215 (w_up S 215 16 0) K := cTk_16 h1 (Or.inl rfl)
  have hf : cFr 215 S (w_up S 215 16 0) := cFr_up (Or.inl rfl) (cFr_rfl h2b) (by decide) (by omega)
  have eu : (w_up S 215 16 0) 150 0 = S 150 0 := w_up_slot (by decide)
  have ev : (w_up S 215 16 0) 150 1 = S 150 1 := w_up_slot (by decide)
  have ec : (w_up S 215 16 0) 140 2 = S 140 2 := w_up_slot (by decide)
  rw [← eu] at hu hm
  rw [← ev] at hv hm
  rw [← ec] at hc5
  obtain ⟨w1, -, -, ⟨-, n5, ⟨n6, n7⟩, n8, n9⟩, ⟨t1, t2, t3, t4⟩, -⟩ := id hW2
  refine cg_p_215 h hi.1 hi.2.1 hi.2.2 (by decide) (fun q => by omega) (by decide) (by unfold mS; decide) (x25_215 (n := (T.length : Int)) (xP_of (Or.inl rfl) h) hab hx1 rfl ⟨n6, n7⟩ n5 ⟨n8, n9⟩ t1 w1.1 ⟨by omega, t2⟩ ⟨t3, t4⟩ rfl ⟨hu.1, hu.2⟩ rfl ⟨hv.1, hv.2⟩ ha hc5 (by omega)) (fun Z hz => ?_)
  rcases hz with ⟨q, -⟩ | ⟨-, -, A, B, hA, hav, hLI, hs⟩
  · exact absurd q (by omega)
  have hn : (w_up S 215 16 0) 72 3 = (T.length : Int) := w1.1
  have hWA := cWd_at (ar := -1) hW2 hA ⟨ha.1, by omega⟩ hT
  rw [hn] at hWA
  have e6 : A 136 (T.length : Int) = -1 := by rw [← hn]; exact hA.2.1.2.2.2.2.2
  rw [← w_up_eta e6] at hWA
  obtain ⟨⟨a1, a2⟩, ⟨-, ⟨-, -, b6⟩, -, -, -, -⟩, ar, -, -, -, -, fr, gA, rA⟩ := id hA
  obtain ⟨-, ⟨i1, -, -, -⟩, -, -, -, ⟨-, i4, i5, -, -⟩, ⟨i6, -, -⟩, -, -⟩ := id hLI
  have afr := avL_fr (by omega) _ _ _ hav
  have agi := avL_gi _ _ _ hav gA
  have esA : ∀ (j : Nat) (x : Int), (160 < j ∨ j < 72) → j < 237 → A j x = (w_up S 215 16 0) j x := fun j x j0 j1 => fr j x (by omega) (by omega) (by omega) (by omega) (by omega) (by omega) (by omega) (by omega)
  have es : ∀ (j : Nat) (x : Int), j < 4000000 → j ≠ wG → ¬ cMl j x → B j x = (w_up S 215 16 0) j x := fun j x j0 j1 j2 => by
    unfold cMl cMk at j2
    exact (afr j x j0 j1 (by omega) (by omega) (by omega) (by omega) (by omega)).trans (fr j x j0 j1 (by omega) (by omega) (by omega) (by omega) (by omega) (by omega))
  have es2 : ∀ (j : Nat) (x : Int), (160 < j ∨ j < 72) → j < 237 → B j x = (w_up S 215 16 0) j x := fun j x j0 j1 => es j x (by omega) (by omega) (by unfold cMl cMk; omega)
  have hkA : cTk 215 A K := cTk_ag hk (cTx_of (esA 2 1 (by decide) (by decide)) (fun x => esA 3 x (by decide) (by decide))) (fun j y hj => esA j y (by omega) (by omega))
  have hkB : cTk 215 B K := cTk_ag hk (cTx_of (es2 2 1 (by decide) (by decide)) (fun x => es2 3 x (by decide) (by decide))) (fun j y hj => es2 j y (by omega) (by omega))
  have ul : (K.1.drop (K.1.length - a.toNat)).length = a.toNat := by rw [List.length_drop]; omega
  have hWB := cWd_aL (n := T.length) (Or.inl rfl) (K.1.drop (K.1.length - a.toNat)) 0 A (T ++ [((6, -1, -1, -1, -1, 0, []) : aO)]) hWA (by rw [List.length_append]; exact Nat.lt_succ_self _) (by rw [ul]; exact hav) (fun k hk2 => by
    rw [ul] at hk2
    rw [gV_d]
    exact c_at hkA (i := K.1.length - a.toNat + k) (by omega) (by omega)) (by omega)
  rw [aAL_e, List.nil_append] at hWB
  have fB : cFm 215 cMl S B := cFm_tr (cFm_r hf) ⟨fun j x j0 j1 _ j3 => es j x j0 j1 j3, fun j j0 j1 => es2 j (-1) (by omega) (by omega), agi.1, rmR_tr rA agi.2⟩
  have fZ := cFr_sO (Or.inl rfl) (cFr_rfl agi.1) (by omega) hs
  have zf : ∀ (j : Nat) (x : Int), j < 215 → Z j x = B j x := fun j x j0 => fZ.1 j x (by omega) (by omega) (by omega)
  have tf : ∀ (j : Nat) (x : Int), j < 215 → (w_up S 215 16 0) j x = S j x := fun j x j0 => w_up_slot (by omega)
  have hn2 : S 72 3 = (T.length : Int) := hW.1.1
  have rw_ : ∀ (j : Nat) (x : Int), 127 ≤ j → j ≤ 136 → 0 ≤ x → x < (T.length : Int) → Z j x = S j x := fun j x j0 j1 x0 x1 => by
    have q := ar (j - 127) (by omega) x x0 (by omega)
    rw [show 127 + (j - 127) = j by omega] at q
    exact (zf j x (by omega)).trans ((afr j x (by omega) (by omega) (by omega) (by omega) (by omega) (by omega) (by omega)).trans (q.trans (tf j x (by omega))))
  refine ⟨?_, ?_, cFm_tr fB (cFm_r fZ), cWd_fr (Or.inl rfl) hWB fZ, ⟨?_, ?_⟩, fun po => ?_, fun x x0 x1 => rw_ 132 x (by decide) (by decide) x0 x1, ?_⟩
  · rw [sO_16 (Or.inl rfl) hs, es2 215 16 (by decide) (by decide), w_up_same]
  · exact cTk_sO hkB (Or.inl rfl) hs rfl rfl h3 (by omega) (by omega) (by omega) (cV_e (by decide) rfl)
  · rw [zf 150 0 (by decide), afr 150 0 (by decide) (by decide) (by decide) (by decide) (by omega) (by decide) (by decide), a2, eu]
  · rw [zf 150 1 (by decide), i6, ev]
  · refine cPo_n po (by omega) ?_ (fun x x0 x1 => ⟨rw_ 134 x (by decide) (by decide) x0 (by omega), rw_ 135 x (by decide) (by decide) x0 (by omega)⟩) ?_
    · rw [zf 72 3 (by decide), afr 72 3 (by decide) (by decide) (by decide) (by decide) (by omega) (by decide) (by decide), a1, tf 72 3 (by decide)]
    · rw [zf 140 2 (by decide), i1, ec, hn2, zf 134 _ (by decide), zf 135 _ (by decide), i4, i5, zf 150 1 (by decide), i6, ev]
      unfold mx0
      split <;> omega
  · rw [zf 132 _ (by decide), afr 132 _ (by decide) (by decide) (by decide) (by decide) (Or.inl (by decide)) (Or.inl (by decide)) (Or.inl (by decide)), ← hn]
    exact b6
theorem z25m_215 (h : stC 215 S K) (hi : cIn S K 25 a b) (hab : (-2147483648 ≤ a ∧ a ≤ 2147483647) ∧ (-2147483648 ≤ b ∧ b ≤ 2147483647)) (hx1 : pe_at (pe_GA xs).xs 1 = some (1, tx_1)) (hW : cWd S T L G) (hu : 0 ≤ S 150 0 ∧ S 150 0 ≤ 8000) (hv : 0 ≤ S 150 1 ∧ S 150 1 ≤ 60000) (hT : (T.length : Int) ≤ 8000) (hc5 : S 140 2 ≤ 4 * S 150 1) (ha : 0 ≤ a ∧ a ≤ (K.1.length : Int)) (hh : a = 0 → K.1.length < 2000) (hm : 8000 ≤ S 150 0 ∨ 60000 < S 150 1 + a) : cSn xs d 215 [217, 218, 127, 128, 129, 130, 131, 132, 133, 134, 135, 136, 141, 142] S K := by
  obtain ⟨h1, ⟨h2, h2b⟩, ⟨h3, h4, h5⟩, -⟩ := id h
  have hW2 : cWd (w_up S 215 16 0) T L G := cWd_up hW (by decide)
  have hk : cTk 215 (w_up S 215 16 0) K := cTk_16 h1 (Or.inl rfl)
  have hf : cFr 215 S (w_up S 215 16 0) := cFr_up (Or.inl rfl) (cFr_rfl h2b) (by decide) (by omega)
  have eu : (w_up S 215 16 0) 150 0 = S 150 0 := w_up_slot (by decide)
  have ev : (w_up S 215 16 0) 150 1 = S 150 1 := w_up_slot (by decide)
  have ec : (w_up S 215 16 0) 140 2 = S 140 2 := w_up_slot (by decide)
  rw [← eu] at hu hm
  rw [← ev] at hv hm
  rw [← ec] at hc5
  obtain ⟨w1, -, -, ⟨-, n5, ⟨n6, n7⟩, n8, n9⟩, ⟨t1, t2, t3, t4⟩, -⟩ := id hW2
  refine wJ_mono (cm_p_215 h hi.1 hi.2.1 hi.2.2 (by decide) (fun q => by omega) (by decide) (by unfold mS; decide) (wJ_mono (x25_215 (n := (T.length : Int)) (xP_of (Or.inl rfl) h) hab hx1 rfl ⟨n6, n7⟩ n5 ⟨n8, n9⟩ t1 w1.1 ⟨by omega, t2⟩ ⟨t3, t4⟩ rfl ⟨hu.1, hu.2⟩ rfl ⟨hv.1, hv.2⟩ ha hc5 (by omega)) (fun o Z hz => (⟨hz.1, hz.2.elim (fun z => z.2) (fun z => absurd z.1 (by have := z.2.1; omega))⟩ : o = .inl none ∧ w_up (w_up S 215 16 0) 215 16 99 = Z))) (fun Z hz => by subst hz; exact w_up_same _ _ _ _)) (fun o Z2 hz => ?_)
  obtain ⟨hz0, Z, rfl, rfl⟩ := hz
  exact ⟨hz0, cTk_st (cTk_16 hk (Or.inl rfl)) (Or.inl rfl), cFr_up (Or.inl rfl) (cFr_up (Or.inl rfl) hf (by decide) (by omega)) (by decide) (by omega)⟩
theorem z25_226 (h : stC 226 S K) (hi : cIn S K 25 a b) (hab : (-2147483648 ≤ a ∧ a ≤ 2147483647) ∧ (-2147483648 ≤ b ∧ b ≤ 2147483647)) (hx1 : pe_at (pe_GA xs).xs 1 = some (1, tx_1)) (hW : cWd S T L G) (hu : 0 ≤ S 150 0 ∧ S 150 0 ≤ 8000) (hv : 0 ≤ S 150 1 ∧ S 150 1 ≤ 60000) (hT : (T.length : Int) ≤ 8000) (hc5 : S 140 2 ≤ 4 * S 150 1) (ha : 0 ≤ a ∧ a ≤ (K.1.length : Int)) (hh : a = 0 → K.1.length < 2000) (hm : S 150 0 < 8000 ∧ S 150 1 + a ≤ 60000) : cSm xs d 226 [228, 229, 127, 128, 129, 130, 131, 132, 133, 134, 135, 136, 141, 142] cMl S (kP K a.toNat (6, (T.length : Int), [])) (fun Z => cWd Z (T ++ [((6, -1, -1, -1, -1, 0, (K.1.drop (K.1.length - a.toNat)).map (fun u => ((-1 : Int), u))) : aO)]) L G ∧ (Z 150 0 = S 150 0 + 1 ∧ Z 150 1 = S 150 1 + a) ∧ (cPo S → cPo Z) ∧ ((∀ x : Int, 0 ≤ x → x < (T.length : Int) → Z 132 x = S 132 x) ∧ Z 132 (T.length : Int) = -1)) := by
  have hg : wG = 1000000 := rfl
  obtain ⟨h1, ⟨h2, h2b⟩, ⟨h3, h4, h5⟩, -⟩ := id h
  have hW2 : cWd (w_up S 226 16 0) T L G := cWd_up hW (by decide)
  have hk : cTk 226 (w_up S 226 16 0) K := cTk_16 h1 (Or.inr rfl)
  have hf : cFr 226 S (w_up S 226 16 0) := cFr_up (Or.inr rfl) (cFr_rfl h2b) (by decide) (by omega)
  have eu : (w_up S 226 16 0) 150 0 = S 150 0 := w_up_slot (by decide)
  have ev : (w_up S 226 16 0) 150 1 = S 150 1 := w_up_slot (by decide)
  have ec : (w_up S 226 16 0) 140 2 = S 140 2 := w_up_slot (by decide)
  rw [← eu] at hu hm
  rw [← ev] at hv hm
  rw [← ec] at hc5
  obtain ⟨w1, -, -, ⟨-, n5, ⟨n6, n7⟩, n8, n9⟩, ⟨t1, t2, t3, t4⟩, -⟩ := id hW2
  refine cg_p_226 h hi.1 hi.2.1 hi.2.2 (by decide) (fun q => by omega) (by decide) (by unfold mS; decide) (x25_226 (n := (T.length : Int)) (xP_of (Or.inr rfl) h) hab hx1 rfl ⟨n6, n7⟩ n5 ⟨n8, n9⟩ t1 w1.1 ⟨by omega, t2⟩ ⟨t3, t4⟩ rfl ⟨hu.1, hu.2⟩ rfl ⟨hv.1, hv.2⟩ ha hc5 (by omega)) (fun Z hz => ?_)
  rcases hz with ⟨q, -⟩ | ⟨-, -, A, B, hA, hav, hLI, hs⟩
  · exact absurd q (by omega)
  have hn : (w_up S 226 16 0) 72 3 = (T.length : Int) := w1.1
  have hWA := cWd_at (ar := -1) hW2 hA ⟨ha.1, by omega⟩ hT
  rw [hn] at hWA
  have e6 : A 136 (T.length : Int) = -1 := by rw [← hn]; exact hA.2.1.2.2.2.2.2
  rw [← w_up_eta e6] at hWA
  obtain ⟨⟨a1, a2⟩, ⟨-, ⟨-, -, b6⟩, -, -, -, -⟩, ar, -, -, -, -, fr, gA, rA⟩ := id hA
  obtain ⟨-, ⟨i1, -, -, -⟩, -, -, -, ⟨-, i4, i5, -, -⟩, ⟨i6, -, -⟩, -, -⟩ := id hLI
  have afr := avL_fr (by omega) _ _ _ hav
  have agi := avL_gi _ _ _ hav gA
  have esA : ∀ (j : Nat) (x : Int), (160 < j ∨ j < 72) → j < 237 → A j x = (w_up S 226 16 0) j x := fun j x j0 j1 => fr j x (by omega) (by omega) (by omega) (by omega) (by omega) (by omega) (by omega) (by omega)
  have es : ∀ (j : Nat) (x : Int), j < 4000000 → j ≠ wG → ¬ cMl j x → B j x = (w_up S 226 16 0) j x := fun j x j0 j1 j2 => by
    unfold cMl cMk at j2
    exact (afr j x j0 j1 (by omega) (by omega) (by omega) (by omega) (by omega)).trans (fr j x j0 j1 (by omega) (by omega) (by omega) (by omega) (by omega) (by omega))
  have es2 : ∀ (j : Nat) (x : Int), (160 < j ∨ j < 72) → j < 237 → B j x = (w_up S 226 16 0) j x := fun j x j0 j1 => es j x (by omega) (by omega) (by unfold cMl cMk; omega)
  have hkA : cTk 226 A K := cTk_ag hk (cTx_of (esA 2 1 (by decide) (by decide)) (fun x => esA 3 x (by decide) (by decide))) (fun j y hj => esA j y (by omega) (by omega))
  have hkB : cTk 226 B K := cTk_ag hk (cTx_of (es2 2 1 (by decide) (by decide)) (fun x => es2 3 x (by decide) (by decide))) (fun j y hj => es2 j y (by omega) (by omega))
  have ul : (K.1.drop (K.1.length - a.toNat)).length = a.toNat := by rw [List.length_drop]; omega
  have hWB := cWd_aL (n := T.length) (Or.inr rfl) (K.1.drop (K.1.length - a.toNat)) 0 A (T ++ [((6, -1, -1, -1, -1, 0, []) : aO)]) hWA (by rw [List.length_append]; exact Nat.lt_succ_self _) (by rw [ul]; exact hav) (fun k hk2 => by
    rw [ul] at hk2
    rw [gV_d]
    exact c_at hkA (i := K.1.length - a.toNat + k) (by omega) (by omega)) (by omega)
  rw [aAL_e, List.nil_append] at hWB
  have fB : cFm 226 cMl S B := cFm_tr (cFm_r hf) ⟨fun j x j0 j1 _ j3 => es j x j0 j1 j3, fun j j0 j1 => es2 j (-1) (by omega) (by omega), agi.1, rmR_tr rA agi.2⟩
  have fZ := cFr_sO (Or.inr rfl) (cFr_rfl agi.1) (by omega) hs
  have zf : ∀ (j : Nat) (x : Int), j < 215 → Z j x = B j x := fun j x j0 => fZ.1 j x (by omega) (by omega) (by omega)
  have tf : ∀ (j : Nat) (x : Int), j < 215 → (w_up S 226 16 0) j x = S j x := fun j x j0 => w_up_slot (by omega)
  have hn2 : S 72 3 = (T.length : Int) := hW.1.1
  have rw_ : ∀ (j : Nat) (x : Int), 127 ≤ j → j ≤ 136 → 0 ≤ x → x < (T.length : Int) → Z j x = S j x := fun j x j0 j1 x0 x1 => by
    have q := ar (j - 127) (by omega) x x0 (by omega)
    rw [show 127 + (j - 127) = j by omega] at q
    exact (zf j x (by omega)).trans ((afr j x (by omega) (by omega) (by omega) (by omega) (by omega) (by omega) (by omega)).trans (q.trans (tf j x (by omega))))
  refine ⟨?_, ?_, cFm_tr fB (cFm_r fZ), cWd_fr (Or.inr rfl) hWB fZ, ⟨?_, ?_⟩, fun po => ?_, fun x x0 x1 => rw_ 132 x (by decide) (by decide) x0 x1, ?_⟩
  · rw [sO_16 (Or.inr rfl) hs, es2 226 16 (by decide) (by decide), w_up_same]
  · exact cTk_sO hkB (Or.inr rfl) hs rfl rfl h3 (by omega) (by omega) (by omega) (cV_e (by decide) rfl)
  · rw [zf 150 0 (by decide), afr 150 0 (by decide) (by decide) (by decide) (by decide) (by omega) (by decide) (by decide), a2, eu]
  · rw [zf 150 1 (by decide), i6, ev]
  · refine cPo_n po (by omega) ?_ (fun x x0 x1 => ⟨rw_ 134 x (by decide) (by decide) x0 (by omega), rw_ 135 x (by decide) (by decide) x0 (by omega)⟩) ?_
    · rw [zf 72 3 (by decide), afr 72 3 (by decide) (by decide) (by decide) (by decide) (by omega) (by decide) (by decide), a1, tf 72 3 (by decide)]
    · rw [zf 140 2 (by decide), i1, ec, hn2, zf 134 _ (by decide), zf 135 _ (by decide), i4, i5, zf 150 1 (by decide), i6, ev]
      unfold mx0
      split <;> omega
  · rw [zf 132 _ (by decide), afr 132 _ (by decide) (by decide) (by decide) (by decide) (Or.inl (by decide)) (Or.inl (by decide)) (Or.inl (by decide)), ← hn]
    exact b6
theorem z25m_226 (h : stC 226 S K) (hi : cIn S K 25 a b) (hab : (-2147483648 ≤ a ∧ a ≤ 2147483647) ∧ (-2147483648 ≤ b ∧ b ≤ 2147483647)) (hx1 : pe_at (pe_GA xs).xs 1 = some (1, tx_1)) (hW : cWd S T L G) (hu : 0 ≤ S 150 0 ∧ S 150 0 ≤ 8000) (hv : 0 ≤ S 150 1 ∧ S 150 1 ≤ 60000) (hT : (T.length : Int) ≤ 8000) (hc5 : S 140 2 ≤ 4 * S 150 1) (ha : 0 ≤ a ∧ a ≤ (K.1.length : Int)) (hh : a = 0 → K.1.length < 2000) (hm : 8000 ≤ S 150 0 ∨ 60000 < S 150 1 + a) : cSn xs d 226 [228, 229, 127, 128, 129, 130, 131, 132, 133, 134, 135, 136, 141, 142] S K := by
  obtain ⟨h1, ⟨h2, h2b⟩, ⟨h3, h4, h5⟩, -⟩ := id h
  have hW2 : cWd (w_up S 226 16 0) T L G := cWd_up hW (by decide)
  have hk : cTk 226 (w_up S 226 16 0) K := cTk_16 h1 (Or.inr rfl)
  have hf : cFr 226 S (w_up S 226 16 0) := cFr_up (Or.inr rfl) (cFr_rfl h2b) (by decide) (by omega)
  have eu : (w_up S 226 16 0) 150 0 = S 150 0 := w_up_slot (by decide)
  have ev : (w_up S 226 16 0) 150 1 = S 150 1 := w_up_slot (by decide)
  have ec : (w_up S 226 16 0) 140 2 = S 140 2 := w_up_slot (by decide)
  rw [← eu] at hu hm
  rw [← ev] at hv hm
  rw [← ec] at hc5
  obtain ⟨w1, -, -, ⟨-, n5, ⟨n6, n7⟩, n8, n9⟩, ⟨t1, t2, t3, t4⟩, -⟩ := id hW2
  refine wJ_mono (cm_p_226 h hi.1 hi.2.1 hi.2.2 (by decide) (fun q => by omega) (by decide) (by unfold mS; decide) (wJ_mono (x25_226 (n := (T.length : Int)) (xP_of (Or.inr rfl) h) hab hx1 rfl ⟨n6, n7⟩ n5 ⟨n8, n9⟩ t1 w1.1 ⟨by omega, t2⟩ ⟨t3, t4⟩ rfl ⟨hu.1, hu.2⟩ rfl ⟨hv.1, hv.2⟩ ha hc5 (by omega)) (fun o Z hz => (⟨hz.1, hz.2.elim (fun z => z.2) (fun z => absurd z.1 (by have := z.2.1; omega))⟩ : o = .inl none ∧ w_up (w_up S 226 16 0) 226 16 99 = Z))) (fun Z hz => by subst hz; exact w_up_same _ _ _ _)) (fun o Z2 hz => ?_)
  obtain ⟨hz0, Z, rfl, rfl⟩ := hz
  exact ⟨hz0, cTk_st (cTk_16 hk (Or.inr rfl)) (Or.inr rfl), cFr_up (Or.inr rfl) (cFr_up (Or.inr rfl) hf (by decide) (by omega)) (by decide) (by omega)⟩
theorem rn25 (h : stR t S K) (hs : S 357 t = 1) (hi : rIn S K 25 a b) (hab : (-2147483648 ≤ a ∧ a ≤ 2147483647) ∧ (-2147483648 ≤ b ∧ b ≤ 2147483647)) (hW : rWd S sl T L G) (hu : (T.length : Int) ≤ S 237 62 ∧ S 237 62 ≤ 8000) (hv : 0 ≤ S 237 82 ∧ S 237 82 ≤ S 237 63 ∧ S 237 63 ≤ 60000) (ha : 0 ≤ a ∧ a ≤ (K.1.length : Int)) (hh : ¬ (a = 0 ∧ 2000 ≤ K.1.length)) (hm : S 237 62 < 8000 ∧ S 237 63 + a ≤ 60000) : rSm xs d t rMl S (kP K a.toNat (6, (T.length : Int), [])) (fun Z => (∃ sl2 : Nat → List Int, rWd Z sl2 (T ++ [((6, -1, -1, -1, -1, 0, (K.1.drop (K.1.length - a.toNat)).map (fun u => ((-1 : Int), u))) : aO)]) L G) ∧ Z 237 62 = S 237 62 + 1 ∧ Z 237 63 = S 237 63 + a ∧ Z 237 82 = S 237 82 + a) := by
  obtain ⟨h1, h2, h3, h4b, ⟨h7, h8, h9, h9b⟩, -⟩ := id h
  have hW2 : rWd (w_up (w_up S 237 154 (200 * t + (K.2.1.length : Int) - 1)) 237 155 ((K.2.1.getD (K.2.1.length - 1) (0, 0, 0, (0, 0, []), 0, 0, 0)).2.1 + 1)) sl T L G := rWd_T0 hW
  have et : ∀ x : Int, x ≠ 154 → x ≠ 155 → (w_up (w_up S 237 154 (200 * t + (K.2.1.length : Int) - 1)) 237 155 ((K.2.1.getD (K.2.1.length - 1) (0, 0, 0, (0, 0, []), 0, 0, 0)).2.1 + 1)) 237 x = S 237 x := fun x x0 x1 => (w_up_at x1).trans (w_up_at x0)
  have eu := et 62 (by decide) (by decide)
  have ev := et 63 (by decide) (by decide)
  have ew := et 82 (by decide) (by decide)
  refine rg_t (R := fun Z => ∃ B : wS, asL (T.length : Int) (2100 * t + ((K.1.length : Int) - a)) a.toNat 0 (w_up (ntZ 6 (T.length : Int) ((w_up (w_up S 237 154 (200 * t + (K.2.1.length : Int) - 1)) 237 155 ((K.2.1.getD (K.2.1.length - 1) (0, 0, 0, (0, 0, []), 0, 0, 0)).2.1 + 1)) 237 62) (w_up (w_up S 237 154 (200 * t + (K.2.1.length : Int) - 1)) 237 155 ((K.2.1.getD (K.2.1.length - 1) (0, 0, 0, (0, 0, []), 0, 0, 0)).2.1 + 1))) 359 t ((K.1.length : Int) - a)) B ∧ rvI t (T.length : Int) a ((w_up (w_up S 237 154 (200 * t + (K.2.1.length : Int) - 1)) 237 155 ((K.2.1.getD (K.2.1.length - 1) (0, 0, 0, (0, 0, []), 0, 0, 0)).2.1 + 1)) 237 82) ((w_up (w_up S 237 154 (200 * t + (K.2.1.length : Int) - 1)) 237 155 ((K.2.1.getD (K.2.1.length - 1) (0, 0, 0, (0, 0, []), 0, 0, 0)).2.1 + 1)) 237 63) ((K.1.length : Int) - a) a B ∧ pUZ t ((K.1.length : Int) - a) 6 (T.length : Int) B = Z) h hs hi.1 hi.2.1 hi.2.2 (by decide) (wJ_mono (y25 (n := (T.length : Int)) (mP_of h) hab.1 hW2.1.1 ⟨by omega, by omega⟩ rfl ⟨by omega, by omega⟩ rfl rfl ⟨by omega, by omega, by omega⟩ ha) (fun o Z hz => ?_)) (fun Z hz => ?_)
  · rcases hz with ⟨z1, z2, -⟩ | ⟨-, z2, -⟩ | ⟨-, -, z3, z4⟩
    · exact absurd ⟨z1, by omega⟩ hh
    · exact absurd z2 (by rw [eu, ev]; omega)
    · exact ⟨z3, z4⟩
  obtain ⟨B, hav, hRI, rfl⟩ := hz
  obtain ⟨zM, -, -, -, ⟨i1, -, -⟩, ⟨i2, -, -⟩, -⟩ := id hRI
  have afr := asL_fr _ _ _ hav
  have hk0 : rTk t (w_up (w_up S 237 154 (200 * t + (K.2.1.length : Int) - 1)) 237 155 ((K.2.1.getD (K.2.1.length - 1) (0, 0, 0, (0, 0, []), 0, 0, 0)).2.1 + 1)) K := T0_k h1
  obtain ⟨-, -, -, nf⟩ := nt_g (kd := 6) (n := (T.length : Int)) (S := (w_up (w_up S 237 154 (200 * t + (K.2.1.length : Int) - 1)) 237 155 ((K.2.1.getD (K.2.1.length - 1) (0, 0, 0, (0, 0, []), 0, 0, 0)).2.1 + 1))) rfl (by decide) (by decide)
  have hkN : rTk t (ntZ 6 (T.length : Int) ((w_up (w_up S 237 154 (200 * t + (K.2.1.length : Int) - 1)) 237 155 ((K.2.1.getD (K.2.1.length - 1) (0, 0, 0, (0, 0, []), 0, 0, 0)).2.1 + 1)) 237 62) (w_up (w_up S 237 154 (200 * t + (K.2.1.length : Int) - 1)) 237 155 ((K.2.1.getD (K.2.1.length - 1) (0, 0, 0, (0, 0, []), 0, 0, 0)).2.1 + 1))) K := rTk_ag hk0 (rTx_of (nf 237 19 (by decide) (Or.inl (by decide))) (nf 237 102 (by decide) (Or.inl (by decide))) (fun j x j0 j1 => nf j x (by omega) (by omega))) ⟨fun j hj => nf j t (by omega) (by omega), fun j i j0 j1 _ _ => nf j i (by omega) (by omega), fun j i j0 j1 _ _ => nf j i (by omega) (by omega)⟩ (nf 359 t (by omega) (by omega)) (fun i _ _ => ⟨nf 363 i (by omega) (by omega), nf 364 i (by omega) (by omega)⟩)
  have hkT := rTk_tk (m := K.1.length - a.toNat) hkN (by omega)
  rw [show ((K.1.length - a.toNat : Nat) : Int) = ((K.1.length : Int) - a) by omega] at hkT
  have lk : (K.1.take (K.1.length - a.toNat)).length = K.1.length - a.toNat := by rw [List.length_take]; omega
  have hkB : rTk t B (K.1.take (K.1.length - a.toNat), K.2) := rTk_ag hkT (rTx_of (afr 237 19 (by decide) (by decide)) (afr 237 102 (by decide) (by decide)) (fun j x j0 j1 => afr j x (by omega) (by omega))) ⟨fun j hj => afr j t (by omega) (by omega), fun j i j0 j1 _ _ => afr j i (by omega) (by omega), fun j i j0 j1 _ _ => afr j i (by omega) (by omega)⟩ (afr 359 t (by omega) (by omega)) (fun i _ _ => ⟨afr 363 i (by omega) (by omega), afr 364 i (by omega) (by omega)⟩)
  have hp := rTk_pU (k := 6) (v := (T.length : Int)) (n := ((K.1.length : Int) - a)) (a := (6, (T.length : Int), [])) hkB h3 (by show ((K.1.length : Int) - a) = ((K.1.take (K.1.length - a.toNat)).length : Int); rw [lk]; omega) (rV_e (by decide) rfl)
  have hWN : rWd (w_up (ntZ 6 (T.length : Int) ((w_up (w_up S 237 154 (200 * t + (K.2.1.length : Int) - 1)) 237 155 ((K.2.1.getD (K.2.1.length - 1) (0, 0, 0, (0, 0, []), 0, 0, 0)).2.1 + 1)) 237 62) (w_up (w_up S 237 154 (200 * t + (K.2.1.length : Int) - 1)) 237 155 ((K.2.1.getD (K.2.1.length - 1) (0, 0, 0, (0, 0, []), 0, 0, 0)).2.1 + 1))) 359 t ((K.1.length : Int) - a)) (aSl sl T.length) (T ++ [((6, -1, -1, -1, -1, 0, []) : aO)]) L G := rWd_up (rWd_nx hW2 rfl (nt_g (kd := 6) (n := (T.length : Int)) (S := (w_up (w_up S 237 154 (200 * t + (K.2.1.length : Int) - 1)) 237 155 ((K.2.1.getD (K.2.1.length - 1) (0, 0, 0, (0, 0, []), 0, 0, 0)).2.1 + 1))) rfl (by decide) (by decide))) (Or.inl (by decide))
  have ul : (K.1.drop (K.1.length - a.toNat)).length = a.toNat := by rw [List.length_drop]; omega
  have en : ∀ (j : Nat) (x : Int), (j ≠ 237 ∨ (x ≠ 68 ∧ x ≠ 62)) → (j < 314 ∨ 324 < j) → j ≠ 359 → (w_up (ntZ 6 (T.length : Int) ((w_up (w_up S 237 154 (200 * t + (K.2.1.length : Int) - 1)) 237 155 ((K.2.1.getD (K.2.1.length - 1) (0, 0, 0, (0, 0, []), 0, 0, 0)).2.1 + 1)) 237 62) (w_up (w_up S 237 154 (200 * t + (K.2.1.length : Int) - 1)) 237 155 ((K.2.1.getD (K.2.1.length - 1) (0, 0, 0, (0, 0, []), 0, 0, 0)).2.1 + 1))) 359 t ((K.1.length : Int) - a)) j x = (w_up (w_up S 237 154 (200 * t + (K.2.1.length : Int) - 1)) 237 155 ((K.2.1.getD (K.2.1.length - 1) (0, 0, 0, (0, 0, []), 0, 0, 0)).2.1 + 1)) j x := fun j x j0 j1 j2 => (w_up_slot j2).trans (nf j x j0 (by omega))
  obtain ⟨sl2, hWB⟩ := rWd_aL (n := T.length) (fr := 2100 * t + ((K.1.length : Int) - a)) (K.1.drop (K.1.length - a.toNat)) 0 (w_up (ntZ 6 (T.length : Int) ((w_up (w_up S 237 154 (200 * t + (K.2.1.length : Int) - 1)) 237 155 ((K.2.1.getD (K.2.1.length - 1) (0, 0, 0, (0, 0, []), 0, 0, 0)).2.1 + 1)) 237 62) (w_up (w_up S 237 154 (200 * t + (K.2.1.length : Int) - 1)) 237 155 ((K.2.1.getD (K.2.1.length - 1) (0, 0, 0, (0, 0, []), 0, 0, 0)).2.1 + 1))) 359 t ((K.1.length : Int) - a)) (T ++ [((6, -1, -1, -1, -1, 0, []) : aO)]) (aSl sl T.length) hWN (by rw [List.length_append]; exact Nat.lt_succ_self _) (by rw [en 237 82 (by decide) (by decide) (by decide)]; omega) (by rw [ul]; exact hav) (fun k hk2 => by
    rw [ul] at hk2
    rw [gV_d, en 363 _ (by omega) (by decide) (by decide), en 364 _ (by omega) (by decide) (by decide)]
    exact rVl_mo (r_at hk0 (i := K.1.length - a.toNat + k) (by omega) (by omega)) (rTx_of (en 237 19 (by decide) (by decide) (by decide)) (en 237 102 (by decide) (by decide) (by decide)) (fun j x j0 j1 => en j x (by omega) (by omega) (by omega))))
  rw [aAL_e, List.nil_append] at hWB
  have es : ∀ (x : Int), (pUZ t ((K.1.length : Int) - a) 6 (T.length : Int) B) 237 x = B 237 x := fun x => (w_up_slot (by decide)).trans ((w_up_slot (by decide)).trans (w_up_slot (by decide)))
  have e4 : ∀ x : Int, x ≠ 82 → x ≠ 63 → x ≠ 68 → x ≠ 62 → B 237 x = (w_up (w_up S 237 154 (200 * t + (K.2.1.length : Int) - 1)) 237 155 ((K.2.1.getD (K.2.1.length - 1) (0, 0, 0, (0, 0, []), 0, 0, 0)).2.1 + 1)) 237 x := fun x x0 x1 x2 x3 => (afr 237 x (Or.inr ⟨x0, x1⟩) (by decide)).trans (en 237 x (Or.inr ⟨x2, x3⟩) (by decide) (by decide))
  have e62 : B 237 62 = (w_up (w_up S 237 154 (200 * t + (K.2.1.length : Int) - 1)) 237 155 ((K.2.1.getD (K.2.1.length - 1) (0, 0, 0, (0, 0, []), 0, 0, 0)).2.1 + 1)) 237 62 + 1 := (afr 237 62 (by decide) (by decide)).trans ((w_up_slot (by decide)).trans (w_up_same _ _ _ _))
  have hM : w_ML (pUZ t ((K.1.length : Int) - a) 6 (T.length : Int) B) := w_ML_up (w_ML_up (w_ML_up zM (by omega)) (by omega)) (by omega)
  have fB : rTm t rMl S B := fun j x o nn => by
    unfold rMl at nn
    by_cases c9 : j = 359
    · rw [c9] at o ⊢
      have xt : x ≠ t := o.2.2.2.2.2.1 (by decide) (by decide)
      exact (afr 359 x (by omega) (by omega)).trans ((w_up_at xt).trans ((nf 359 x (by omega) (by omega)).trans (T0_f 359 x o)))
    · exact (afr j x (by omega) (by omega)).trans ((en j x (by omega) (by omega) c9).trans (T0_f j x o))
  unfold kP
  refine rp_m (P := fun Z => (∃ sl2 : Nat → List Int, rWd Z sl2 (T ++ [((6, -1, -1, -1, -1, 0, (K.1.drop (K.1.length - a.toNat)).map (fun u => ((-1 : Int), u))) : aO)]) L G) ∧ Z 237 62 = S 237 62 + 1 ∧ Z 237 63 = S 237 63 + a ∧ Z 237 82 = S 237 82 + a) h hM ((es 154).trans ((e4 154 (by decide) (by decide) (by decide) (by decide)).trans T0_4)) ((es 155).trans ((e4 155 (by decide) (by decide) (by decide) (by decide)).trans T0_5)) hp rfl (rTm_pU fB (by omega)) ⟨⟨sl2, rWd_366 (rWd_up (rWd_up (rWd_up hWB (Or.inl (by decide))) (Or.inl (by decide))) (Or.inl (by decide)))⟩, ?_, ?_, ?_⟩
  · rw [w_up_slot (by decide), es 62, e62, eu]
  · rw [w_up_slot (by decide), es 63, i2, ev]
  · rw [w_up_slot (by decide), es 82, i1, ew]
theorem rn25m (h : stR t S K) (hs : S 357 t = 1) (hi : rIn S K 25 a b) (hab : (-2147483648 ≤ a ∧ a ≤ 2147483647) ∧ (-2147483648 ≤ b ∧ b ≤ 2147483647)) (hW : rWd S sl T L G) (hu : (T.length : Int) ≤ S 237 62 ∧ S 237 62 ≤ 8000) (hv : 0 ≤ S 237 82 ∧ S 237 82 ≤ S 237 63 ∧ S 237 63 ≤ 60000) (ha : 0 ≤ a ∧ a ≤ (K.1.length : Int)) (hh : ¬ (a = 0 ∧ 2000 ≤ K.1.length)) (hm : ¬ (S 237 62 < 8000 ∧ S 237 63 + a ≤ 60000)) : rSn xs d t S K := by
  obtain ⟨h1, h2, h3, h4b, ⟨h7, h8, h9, h9b⟩, -⟩ := id h
  have hW2 : rWd (w_up (w_up S 237 154 (200 * t + (K.2.1.length : Int) - 1)) 237 155 ((K.2.1.getD (K.2.1.length - 1) (0, 0, 0, (0, 0, []), 0, 0, 0)).2.1 + 1)) sl T L G := rWd_T0 hW
  have et : ∀ x : Int, x ≠ 154 → x ≠ 155 → (w_up (w_up S 237 154 (200 * t + (K.2.1.length : Int) - 1)) 237 155 ((K.2.1.getD (K.2.1.length - 1) (0, 0, 0, (0, 0, []), 0, 0, 0)).2.1 + 1)) 237 x = S 237 x := fun x x0 x1 => (w_up_at x1).trans (w_up_at x0)
  have eu := et 62 (by decide) (by decide)
  have ev := et 63 (by decide) (by decide)
  have ew := et 82 (by decide) (by decide)
  refine rm_t h hs hi.1 hi.2.1 hi.2.2 (by decide) (wJ_mono (y25 (n := (T.length : Int)) (mP_of h) hab.1 hW2.1.1 ⟨by omega, by omega⟩ rfl ⟨by omega, by omega⟩ rfl rfl ⟨by omega, by omega, by omega⟩ ha) (fun o Z hz => ?_))
  rcases hz with ⟨z1, z2, -⟩ | ⟨-, -, z3, z4⟩ | ⟨-, z2, -, -⟩
  · exact absurd ⟨z1, by omega⟩ hh
  · exact ⟨z3, z4⟩
  · exact absurd (by rw [eu, ev] at z2; exact z2) hm
theorem rn25v (h : stR t S K) (hs : S 357 t = 1) (hi : rIn S K 25 a b) (hab : (-2147483648 ≤ a ∧ a ≤ 2147483647) ∧ (-2147483648 ≤ b ∧ b ≤ 2147483647)) (hW : rWd S sl T L G) (hu : (T.length : Int) ≤ S 237 62 ∧ S 237 62 ≤ 8000) (hv : 0 ≤ S 237 82 ∧ S 237 82 ≤ S 237 63 ∧ S 237 63 ≤ 60000) (ha : 0 ≤ a ∧ a ≤ (K.1.length : Int)) (hh : a = 0 ∧ 2000 ≤ K.1.length) : rSt xs d t S (kTh K (2, 11, [])) := by
  obtain ⟨h1, h2, h3, h4b, ⟨h7, h8, h9, h9b⟩, -⟩ := id h
  have hW2 : rWd (w_up (w_up S 237 154 (200 * t + (K.2.1.length : Int) - 1)) 237 155 ((K.2.1.getD (K.2.1.length - 1) (0, 0, 0, (0, 0, []), 0, 0, 0)).2.1 + 1)) sl T L G := rWd_T0 hW
  have et : ∀ x : Int, x ≠ 154 → x ≠ 155 → (w_up (w_up S 237 154 (200 * t + (K.2.1.length : Int) - 1)) 237 155 ((K.2.1.getD (K.2.1.length - 1) (0, 0, 0, (0, 0, []), 0, 0, 0)).2.1 + 1)) 237 x = S 237 x := fun x x0 x1 => (w_up_at x1).trans (w_up_at x0)
  have eu := et 62 (by decide) (by decide)
  have ev := et 63 (by decide) (by decide)
  have ew := et 82 (by decide) (by decide)
  refine rx_t h hs hi.1 hi.2.1 hi.2.2 (by decide) (by decide) (wJ_mono (y25 (n := (T.length : Int)) (mP_of h) hab.1 hW2.1.1 ⟨by omega, by omega⟩ rfl ⟨by omega, by omega⟩ rfl rfl ⟨by omega, by omega, by omega⟩ ha) (fun o Z hz => ?_))
  rcases hz with ⟨-, -, z3, z4⟩ | ⟨z1, -, -⟩ | ⟨z1, -, -, -⟩
  · exact ⟨z3, z4⟩
  · exact absurd ⟨hh.1, by omega⟩ z1
  · exact absurd ⟨hh.1, by omega⟩ z1
end Wf3
