/-! PART f8: the worlds of both where shapes come and columns of a thing change. -/
section Wf8
variable {S Z : wS} {H : List aH} {T T2 : List aO} {L : List aC} {G : Int → aV} {sl : Nat → List Int} {k n nm be pr x a m sh p e ep cg q u4 : Int}
/-- shape, epoch and latest change of a thing -/
def tCo (T : List aO) (k sh ep cg : Int) : List aO := T.set k.toNat ((tO T k).1, sh, (tO T k).2.2.1, (tO T k).2.2.2.1, ep, cg, (tO T k).2.2.2.2.2.2)
theorem tEp_c : tEp T p e = tCo T p (tO T p).2.1 e (tO T p).2.2.2.2.2.1 := rfl
theorem tCo_l : (tCo T k sh ep cg).length = T.length := List.length_set
theorem tCo_o (p0 : 0 ≤ k) (p1 : k < (T.length : Int)) (k0 : 0 ≤ q) : tO (tCo T k sh ep cg) q = if q = k then ((tO T k).1, sh, (tO T k).2.2.1, (tO T k).2.2.2.1, ep, cg, (tO T k).2.2.2.2.2.2) else tO T q := by
  unfold tCo
  show (T.set k.toNat _).getD q.toNat (0, 0, 0, 0, 0, 0, []) = _
  rw [gO_set (by omega)]
  by_cases c : q = k
  · rw [if_pos (by omega), if_pos c]
  · rw [if_neg (by omega), if_neg c]
theorem tCo_e (p0 : 0 ≤ k) (p1 : k < (T.length : Int)) : tO (tCo T k sh ep cg) k = ((tO T k).1, sh, (tO T k).2.2.1, (tO T k).2.2.2.1, ep, cg, (tO T k).2.2.2.2.2.2) := (tCo_o p0 p1 p0).trans (if_pos rfl)
theorem tCo_n (p0 : 0 ≤ k) (p1 : k < (T.length : Int)) (k0 : 0 ≤ q) (c : q ≠ k) : tO (tCo T k sh ep cg) q = tO T q := (tCo_o p0 p1 k0).trans (if_neg c)
theorem tO_N {i : Nat} : tO T (i : Int) = T.getD i (0, 0, 0, 0, 0, 0, []) := by
  unfold tO
  rw [show ((i : Int)).toNat = i by omega]
theorem cTh_co (h : cTh S T) (k0 : 0 ≤ k) (k1 : k < (T.length : Int)) (e : cTx S Z) (f3 : Z 72 3 = S 72 3) (f : ∀ (j : Nat) (x : Int), 127 ≤ j → j ≤ 136 → ((j ≠ 128 ∧ j ≠ 130 ∧ j ≠ 131) ∨ x ≠ k) → j ≠ 132 → Z j x = S j x) (f4 : Z 140 2 = S 140 2) (g : ∀ x : Int, Z 141 x = S 141 x ∧ Z 142 x = S 142 x) (h8 : Z 128 k = sh) (h0 : Z 130 k = ep) (h1 : Z 131 k = cg) : cTh Z (tCo T k sh ep cg) := by
  refine ⟨by rw [tCo_l, f3]; exact h.1, fun i hi => ?_⟩
  rw [tCo_l] at hi
  obtain ⟨⟨a1, a2, a3, a4, a5, a6⟩, ⟨b1, b2, b3, b4⟩, c⟩ := h.2 i hi
  rw [← tO_N, tCo_o k0 k1 (by omega)]
  by_cases ck : (i : Int) = k
  · rw [if_pos ck]
    have ei : T.getD i (0, 0, 0, 0, 0, 0, []) = tO T k := by rw [← ck, tO_N]
    rw [ei] at a1 a3 a4 b1 c
    rw [f4, f 127 _ (by decide) (by decide) (Or.inl (by decide)) (by decide), f 129 _ (by decide) (by decide) (Or.inl (by decide)) (by decide), f 133 _ (by decide) (by decide) (Or.inl (by decide)) (by decide), f 134 _ (by decide) (by decide) (Or.inl (by decide)) (by decide), f 135 _ (by decide) (by decide) (Or.inl (by decide)) (by decide), f 136 _ (by decide) (by decide) (Or.inl (by decide)) (by decide), ck, h8, h0, h1]
    rw [ck] at a1 a3 a4 b1 b2 b3 b4 c
    exact ⟨⟨a1, rfl, a3, a4, rfl, rfl⟩, ⟨b1, b2, b3, b4⟩, cR1_mo c e (fun x _ _ => g x)⟩
  · rw [if_neg ck, tO_N, f4, f 127 _ (by decide) (by decide) (Or.inr ck) (by decide), f 128 _ (by decide) (by decide) (Or.inr ck) (by decide), f 129 _ (by decide) (by decide) (Or.inr ck) (by decide), f 130 _ (by decide) (by decide) (Or.inr ck) (by decide), f 131 _ (by decide) (by decide) (Or.inr ck) (by decide), f 133 _ (by decide) (by decide) (Or.inr ck) (by decide), f 134 _ (by decide) (by decide) (Or.inr ck) (by decide), f 135 _ (by decide) (by decide) (Or.inr ck) (by decide), f 136 _ (by decide) (by decide) (Or.inr ck) (by decide)]
    exact ⟨⟨a1, a2, a3, a4, a5, a6⟩, ⟨b1, b2, b3, b4⟩, cR1_mo c e (fun x _ _ => g x)⟩
theorem cWd_co (h : cWd S T L G) (k0 : 0 ≤ k) (k1 : k < (T.length : Int)) (e : cTx S Z) (f : ∀ (j : Nat) (x : Int), cWo j x → ((j ≠ 128 ∧ j ≠ 130 ∧ j ≠ 131) ∨ x ≠ k) → (j ≠ 132 ∨ x < 0) → Z j x = S j x) (h8 : Z 128 k = sh) (h0 : Z 130 k = ep) (h1 : Z 131 k = cg) : cWd Z (tCo T k sh ep cg) L G := by
  obtain ⟨g1, g2, g3, ⟨⟨n1, n2, n3, n4⟩, n5, ⟨n6, n7⟩, n8, n9⟩, ⟨t1, t2, t3, t4⟩, g5⟩ := h
  have w8 : ∀ x : Int, Z 138 x = S 138 x := fun x => f 138 x (by unfold cWo; omega) (Or.inl (by decide)) (Or.inl (by decide))
  have w9 : ∀ x : Int, Z 139 x = S 139 x := fun x => f 139 x (by unfold cWo; omega) (Or.inl (by decide)) (Or.inl (by decide))
  have w1 : ∀ x : Int, Z 141 x = S 141 x := fun x => f 141 x (by unfold cWo; omega) (Or.inl (by decide)) (Or.inl (by decide))
  have w2 : ∀ x : Int, Z 142 x = S 142 x := fun x => f 142 x (by unfold cWo; omega) (Or.inl (by decide)) (Or.inl (by decide))
  have w0 : Z 140 2 = S 140 2 := f 140 2 (by unfold cWo; omega) (Or.inl (by decide)) (Or.inl (by decide))
  have f2 : ∀ (j : Nat) (x : Int), 127 ≤ j → j ≤ 136 → ((j ≠ 128 ∧ j ≠ 130 ∧ j ≠ 131) ∨ x ≠ k) → (j ≠ 132 ∨ x < 0) → Z j x = S j x := fun j x j0 j1 j2 j3 => f j x (Or.inl ⟨j0, j1⟩) j2 j3
  refine ⟨cTh_co g1 k0 k1 e (f 72 3 (by unfold cWo; omega) (Or.inl (by decide)) (Or.inl (by decide))) (fun j x j0 j1 j2 j3 => f2 j x j0 j1 j2 (Or.inl j3)) w0 (fun x => ⟨w1 x, w2 x⟩) h8 h0 h1, cCa_mo g2 e (f 72 5 (by unfold cWo; omega) (Or.inl (by decide)) (Or.inl (by decide))) (fun x _ _ => ⟨w8 x, w9 x⟩) (Int.le_of_eq w0.symm) (fun k i _ _ _ => ⟨w1 i, w2 i⟩), ?_, ?_, ?_, cGl_mo g5 e (fun j x hj => f j x (by unfold cWo; omega) (by omega) (by omega))⟩
  · rw [tCo_l]
    exact cAp_mo g3 (fun x _ _ => ⟨f2 133 x (by decide) (by decide) (Or.inl (by decide)) (Or.inl (by decide)), f2 135 x (by decide) (by decide) (Or.inl (by decide)) (Or.inl (by decide))⟩) (fun x _ _ => w8 x)
  · unfold cLc
    rw [w8, w9, w0, w1, w2]
    exact ⟨⟨n1, n2, n3, n4⟩, n5, ⟨n6, n7⟩, n8, n9⟩
  · refine ⟨fun x hx => ?_, ?_⟩
    · rw [f2 (127 + x) _ (by omega) (by omega) (Or.inr (by omega)) (Or.inr (by omega)), f2 127 _ (by decide) (by decide) (Or.inr (by omega)) (Or.inl (by decide))]; exact t1 x hx
    · rw [f2 127 _ (by decide) (by decide) (Or.inr (by omega)) (Or.inl (by decide)), tCo_l]; exact ⟨t2, t3, t4⟩
theorem rWd_co (h : rWd S sl T L G) (k0 : 0 ≤ k) (k1 : k < (T.length : Int)) (e : rTx S Z) (f : ∀ (j : Nat) (x : Int), rWo j x → ((j ≠ 315 ∧ j ≠ 322 ∧ j ≠ 323 ∧ j ≠ 324) ∨ x ≠ k) → Z j x = S j x) (h5 : Z 315 k = sh) (h2 : Z 322 k = (if ep = -1 then 0 else 1)) (h3 : ep ≠ -1 → Z 323 k = ep) (h4 : Z 324 k = cg) : rWd Z sl (tCo T k sh ep cg) L G := by
  obtain ⟨g1, g2, g3, g4, g5⟩ := h
  have f2 : ∀ (j : Nat) (x : Int), 314 ≤ j → j ≤ 328 → ((j ≠ 315 ∧ j ≠ 322 ∧ j ≠ 323 ∧ j ≠ 324) ∨ x ≠ k) → Z j x = S j x := fun j x j0 j1 j2 => f j x (Or.inl ⟨j0, j1⟩) j2
  have f3 : ∀ (j : Nat) (x : Int), 333 ≤ j → j ≤ 339 → Z j x = S j x := fun j x j0 j1 => f j x (Or.inr (Or.inl ⟨j0, j1⟩)) (Or.inl (by omega))
  have w82 : Z 237 82 = S 237 82 := f 237 82 (by unfold rWo; omega) (Or.inl (by decide))
  refine ⟨⟨by rw [tCo_l, f 237 68 (by unfold rWo; omega) (Or.inl (by decide))]; exact g1.1, fun i hi => ?_⟩, rCa_mo g2 e (f 237 69 (by unfold rWo; omega) (Or.inl (by decide))) (f 237 94 (by unfold rWo; omega) (Or.inl (by decide))) (fun j x j0 j1 => f3 j x j0 (by omega)), fun i q hi hq => ?_, ?_, rGl_mo g5 e (fun j x j0 j1 => f3 j x (by omega) (by omega))⟩
  · rw [tCo_l] at hi
    obtain ⟨⟨a1, a2, a3, a4, a5, a6, a7, a8⟩, ⟨b1, b2⟩, c, dd, g⟩ := g1.2 i hi
    have gq : ∀ q i j : Nat, q < (tCo T k sh ep cg).length → i < (sl q).length → True := fun _ _ _ _ _ => trivial
    have cells : ∀ j : Nat, j < (sl i).length → (0 ≤ (sl i).getD j 0 ∧ (sl i).getD j 0 < Z 237 82) ∧ Z 327 ((sl i).getD j 0) = ((T.getD i (0, 0, 0, 0, 0, 0, [])).2.2.2.2.2.2.getD j (0, (0, 0, []))).1 ∧ rVl Z (Z 325 ((sl i).getD j 0)) (Z 326 ((sl i).getD j 0)) ((T.getD i (0, 0, 0, 0, 0, 0, [])).2.2.2.2.2.2.getD j (0, (0, 0, []))).2 ∧ (j + 1 < (sl i).length → Z 328 ((sl i).getD j 0) = (sl i).getD (j + 1) 0) := fun j hj => by
      obtain ⟨d1, d2, d3, d4⟩ := dd j hj
      rw [w82, f2 325 _ (by decide) (by decide) (Or.inl (by decide)), f2 326 _ (by decide) (by decide) (Or.inl (by decide)), f2 327 _ (by decide) (by decide) (Or.inl (by decide)), f2 328 _ (by decide) (by decide) (Or.inl (by decide))]
      exact ⟨d1, d2, rVl_mo d3 e, d4⟩
    rw [← tO_N, tCo_o k0 k1 (by omega)]
    by_cases ck : (i : Int) = k
    · rw [if_pos ck]
      have ei : T.getD i (0, 0, 0, 0, 0, 0, []) = tO T k := by rw [← ck, tO_N]
      rw [ei] at a1 a3 a4 a5 b1 b2 cells
      rw [f2 314 _ (by decide) (by decide) (Or.inl (by decide)), f2 316 _ (by decide) (by decide) (Or.inl (by decide)), f2 317 _ (by decide) (by decide) (Or.inl (by decide)), f2 318 _ (by decide) (by decide) (Or.inl (by decide)), f2 319 _ (by decide) (by decide) (Or.inl (by decide)), f2 320 _ (by decide) (by decide) (Or.inl (by decide)), f2 321 _ (by decide) (by decide) (Or.inl (by decide)), ck, h5, h2, h4]
      rw [ck] at a1 a3 a4 a5 b1 c
      refine ⟨⟨a1, rfl, a3, a4, a5, rfl, h3, rfl⟩, ⟨b1, b2⟩, c, cells, fun q x y hq hx hy ee => ?_⟩
      rw [tCo_l] at hq
      exact g q x y hq hx hy ee
    · rw [if_neg ck, tO_N, f2 314 _ (by decide) (by decide) (Or.inr ck), f2 315 _ (by decide) (by decide) (Or.inr ck), f2 316 _ (by decide) (by decide) (Or.inr ck), f2 317 _ (by decide) (by decide) (Or.inr ck), f2 318 _ (by decide) (by decide) (Or.inr ck), f2 319 _ (by decide) (by decide) (Or.inr ck), f2 320 _ (by decide) (by decide) (Or.inr ck), f2 321 _ (by decide) (by decide) (Or.inr ck), f2 322 _ (by decide) (by decide) (Or.inr ck), f2 323 _ (by decide) (by decide) (Or.inr ck), f2 324 _ (by decide) (by decide) (Or.inr ck)]
      refine ⟨⟨a1, a2, a3, a4, a5, a6, a7, a8⟩, ⟨b1, b2⟩, c, cells, fun q x y hq hx hy ee => ?_⟩
      rw [tCo_l] at hq
      exact g q x y hq hx hy ee
  · rw [f3 334 _ (by decide) (by decide), f3 334 _ (by decide) (by decide)]; exact g3 i q hi hq
  · rw [f 237 94 (by unfold rWo; omega) (Or.inl (by decide))]; exact g4
/-- of the class: a shape with a name more has come -/
theorem cHs_ns {h : aH} (h1 : cHs S H) (h8 : Z 72 8 = (H.length : Int) + 1) (hr : ∀ x : Nat, x < 5 → ∀ i : Int, 0 ≤ i → i < (H.length : Int) → Z (144 + x) i = S (144 + x) i) (hm : Z 144 (H.length : Int) = h.1 ∧ Z 147 (H.length : Int) = h.2.1 ∧ Z 146 (H.length : Int) = h.2.2.1 ∧ Z 145 (H.length : Int) = h.2.2.2) : cHs Z (H ++ [h]) := by
  have lt : (H ++ [h]).length = H.length + 1 := by rw [List.length_append]; rfl
  refine ⟨by rw [h8, lt]; omega, by rw [lt]; omega, fun k hk => ?_⟩
  rw [lt] at hk
  by_cases c : k < H.length
  · rw [gH_l c, show Z 144 (k : Int) = S 144 (k : Int) from hr 0 (by decide) k (by omega) (by omega), show Z 147 (k : Int) = S 147 (k : Int) from hr 3 (by decide) k (by omega) (by omega), show Z 146 (k : Int) = S 146 (k : Int) from hr 2 (by decide) k (by omega) (by omega), show Z 145 (k : Int) = S 145 (k : Int) from hr 1 (by decide) k (by omega) (by omega)]
    exact h1.2.2 k c
  · have ek : k = H.length := by omega
    subst ek
    rw [gH_r]
    exact hm
theorem cSw_ns (h : cSw S T H) (hw : wSh T H) (hs : 0 ≤ sh ∧ sh < (H.length : Int)) (hf : aFs sh (qPr H sh) nm H 0 = -1) (hl : (H.length : Int) ≤ 4000) (r : ns_ag (H.length : Int) (qPr H sh) sh nm S Z) : cSw Z T (H ++ [(qPr H sh, sh, nm, qSz H sh + 1)]) := by
  have hg : wG = 1000000 := rfl
  obtain ⟨h1, ⟨l1, l2, l3, l4⟩, ⟨a1, a2, a3⟩, hb⟩ := h
  obtain ⟨⟨r8, -⟩, ⟨⟨m1, m2, m3⟩, m4, m5, m6⟩, rr, ⟨y1, y2, y3, y4⟩, fr, -, -⟩ := r
  have lt : (H ++ [((qPr H sh, sh, nm, qSz H sh + 1) : aH)]).length = H.length + 1 := by rw [List.length_append]; rfl
  have es := (cHs_e h1 hs.1 hs.2).2.2.2
  have e7 : ∀ i : Int, 0 ≤ i → i < (H.length : Int) → Z 147 i = S 147 i := fun i i0 i1 => rr 3 (by decide) i i0 i1
  have e6 : ∀ i : Int, 0 ≤ i → i < (H.length : Int) → Z 146 i = S 146 i := fun i i0 i1 => rr 2 (by decide) i i0 i1
  have e8 : ∀ i : Int, 0 ≤ i → i < (H.length : Int) → Z 148 i = S 148 i := fun i i0 i1 => rr 4 (by decide) i i0 i1
  have e9 : ∀ i : Int, i ≠ hsH sh nm → Z 149 i = S 149 i := fun i hi => fr 149 i (by decide) (by decide) (by decide) (Or.inr hi) (Or.inl (by decide)) (Or.inl (by decide))
  have hsr := hsH_rg sh nm
  have hsx := a1 (hsH sh nm) hsr.1 hsr.2
  refine ⟨cHs_ns h1 r8 rr ⟨m1, m3, m2, by rw [m4, es]⟩, ⟨y1, by rw [lt]; omega, by omega, by omega⟩, ?_, fun k k0 k1 => ?_⟩
  · rw [lt, show ((H.length + 1 : Nat) : Int) = (H.length : Int) + 1 by omega]
    refine ⟨fun x x0 x1 => ?_, fun s s0 s1 hb2 => ?_, fun k k0 k1 hk => ?_⟩
    · by_cases c : x = hsH sh nm
      · rw [c, m6]
        refine ⟨⟨by omega, by omega⟩, fun _ => ?_⟩
        rw [show (H.length : Int) + 1 - 1 = (H.length : Int) by omega, m3]; exact hs.1
      · obtain ⟨⟨q1, q2⟩, q3⟩ := a1 x x0 x1
        rw [e9 x c]
        refine ⟨⟨q1, by omega⟩, fun q => ?_⟩
        rw [e7 _ (by omega) (by omega)]; exact q3 q
    · by_cases c : s < (H.length : Int)
      · rw [e7 s s0 c] at hb2
        obtain ⟨⟨q1, q2⟩, q3⟩ := a2 s s0 c hb2
        rw [e8 s s0 c]
        refine ⟨⟨q1, q2⟩, fun q => ?_⟩
        rw [e7 _ (by omega) (by omega)]; exact q3 q
      · rw [show s = (H.length : Int) by omega, m5]
        refine ⟨⟨hsx.1.1, hsx.1.2⟩, fun q => ?_⟩
        rw [e7 _ (by omega) (by omega)]; exact hsx.2 q
    · rw [show ((H.length : Int) + 1).toNat = (H.length : Int).toNat + 1 by omega]
      by_cases c : k < (H.length : Int)
      · rw [e7 k k0 c] at hk
        have g := a3 k k0 c hk
        rw [e7 k k0 c, e6 k k0 c]
        have hkr := hsH_rg (S 147 k) (S 146 k)
        have cg : ∀ (f : Nat) (s : Int), (-1 ≤ s ∧ s < (H.length : Int)) → (0 ≤ s → 0 ≤ S 147 s) → hBe (Z 147) (Z 146) (Z 148) (S 147 k) (S 146 k) f s = hBe (S 147) (S 146) (S 148) (S 147 k) (S 146 k) f s := hBe_cg a2 (fun s s0 s1 => ⟨e7 s s0 s1, e6 s s0 s1, e8 s s0 s1⟩)
        have hkx := a1 _ hkr.1 hkr.2
        by_cases c2 : hsH (S 147 k) (S 146 k) = hsH sh nm
        · rw [c2, m6, show (H.length : Int) + 1 - 1 = (H.length : Int) by omega]
          have ne : ¬ (Z 147 (H.length : Int) = S 147 k ∧ Z 146 (H.length : Int) = S 146 k) := fun z => by
            rw [m3, m2] at z
            have ek := cHs_e h1 k0 c
            have eb : qBe H k = sh := ek.2.1.symm.trans z.1.symm
            have gs := aNs_s hw.1 k0 c (by rw [eb]; exact hs.1)
            exact absurd ⟨by rw [gs.2.2.1, eb], eb, ek.2.2.1.symm.trans z.2.symm⟩ (aFs_no hf k0 c)
          have e : hBe (Z 147) (Z 146) (Z 148) (S 147 k) (S 146 k) ((H.length : Int).toNat + 1) (H.length : Int) = hBe (Z 147) (Z 146) (Z 148) (S 147 k) (S 146 k) (H.length : Int).toNat (Z 148 (H.length : Int) - 1) := (if_neg (by omega)).trans (if_neg ne)
          rw [e, m5, ← c2, cg _ _ ⟨by omega, by omega⟩ (fun q => hkx.2 (by omega))]
          exact g
        · rw [e9 _ c2, cg _ _ ⟨by omega, by omega⟩ (fun q => hkx.2 (by omega)), hBe_mo _ _ (by rw [g]; exact k0)]
          exact g
      · have ek : k = (H.length : Int) := by omega
        subst ek
        rw [m3, m2, m6, show (H.length : Int) + 1 - 1 = (H.length : Int) by omega]
        exact (if_neg (by omega)).trans (if_pos ⟨m3, m2⟩)
  · rw [fr 132 k (by decide) (by decide) (by decide) (Or.inl (by decide)) (Or.inl (by decide)) (Or.inl (by decide)), hb k k0 k1, aFs_ap H 0 (Int.le_refl _)]
    by_cases c : aFs (-1) k (-1) H 0 = -1
    · rw [if_pos c, if_neg (fun z => by have : sh = -1 := z.2.1; omega), c]
    · rw [if_neg c]
theorem cSw_bs (h : cSw S T H) (hp : isO T p) (hf : aFs (-1) p (-1) H 0 = -1) (hl : (H.length : Int) ≤ 4000) (r : bs_ag (H.length : Int) p S Z) : cSw Z (tEp T p 0) (H ++ [(p, -1, -1, 0)]) := by
  have hg : wG = 1000000 := rfl
  obtain ⟨h1, ⟨l1, l2, l3, l4⟩, ⟨a1, a2, a3⟩, hb⟩ := h
  obtain ⟨⟨r8, -⟩, ⟨⟨m1, m2, m3⟩, m4, m5, m6⟩, rr, ⟨y1, y2, y3, y4⟩, fr, -, -⟩ := r
  have lt : (H ++ [((p, -1, -1, 0) : aH)]).length = H.length + 1 := by rw [List.length_append]; rfl
  have e7 : ∀ i : Int, 0 ≤ i → i < (H.length : Int) → Z 147 i = S 147 i := fun i i0 i1 => rr 3 (by decide) i i0 i1
  have e6 : ∀ i : Int, 0 ≤ i → i < (H.length : Int) → Z 146 i = S 146 i := fun i i0 i1 => rr 2 (by decide) i i0 i1
  have e8 : ∀ i : Int, 0 ≤ i → i < (H.length : Int) → Z 148 i = S 148 i := fun i i0 i1 => rr 4 (by decide) i i0 i1
  have e9 : ∀ i : Int, Z 149 i = S 149 i := fun i => fr 149 i (by decide) (by decide) (by decide) (Or.inl (by decide)) (Or.inl (by decide)) (Or.inl (by decide))
  refine ⟨cHs_ns h1 r8 rr ⟨m1, m3, m2, m4⟩, ⟨y1, by rw [lt]; omega, by omega, by omega⟩, ?_, fun k k0 k1 => ?_⟩
  · rw [lt, show ((H.length + 1 : Nat) : Int) = (H.length : Int) + 1 by omega]
    refine ⟨fun x x0 x1 => ?_, fun s s0 s1 hb2 => ?_, fun k k0 k1 hk => ?_⟩
    · obtain ⟨⟨q1, q2⟩, q3⟩ := a1 x x0 x1
      rw [e9 x]
      refine ⟨⟨q1, by omega⟩, fun q => ?_⟩
      rw [e7 _ (by omega) (by omega)]; exact q3 q
    · by_cases c : s < (H.length : Int)
      · rw [e7 s s0 c] at hb2
        obtain ⟨⟨q1, q2⟩, q3⟩ := a2 s s0 c hb2
        rw [e8 s s0 c]
        refine ⟨⟨q1, q2⟩, fun q => ?_⟩
        rw [e7 _ (by omega) (by omega)]; exact q3 q
      · rw [show s = (H.length : Int) by omega, m3] at hb2
        exact absurd hb2 (by decide)
    · rw [show ((H.length : Int) + 1).toNat = (H.length : Int).toNat + 1 by omega]
      by_cases c : k < (H.length : Int)
      · rw [e7 k k0 c] at hk
        have g := a3 k k0 c hk
        rw [e7 k k0 c, e6 k k0 c, e9]
        have hkr := hsH_rg (S 147 k) (S 146 k)
        have hkx := a1 _ hkr.1 hkr.2
        rw [hBe_cg a2 (fun s s0 s1 => ⟨e7 s s0 s1, e6 s s0 s1, e8 s s0 s1⟩) _ _ ⟨by omega, by omega⟩ (fun q => hkx.2 (by omega)), hBe_mo _ _ (by rw [g]; exact k0)]
        exact g
      · rw [show k = (H.length : Int) by omega, m3] at hk
        exact absurd hk (by decide)
  · rw [tEp_l] at k1
    rw [aFs_ap H 0 (Int.le_refl _)]
    by_cases c : k = p
    · rw [c, m5, if_pos hf, if_pos ⟨rfl, rfl, rfl⟩]; omega
    · rw [fr 132 k (by decide) (by decide) (by decide) (Or.inr c) (Or.inl (by decide)) (Or.inl (by decide)), hb k k0 k1]
      by_cases c2 : aFs (-1) k (-1) H 0 = -1
      · rw [if_pos c2, if_neg (fun z => c z.1.symm), c2]
      · rw [if_neg c2]
theorem cWd_ns (h : cWd S T L G) (r : ns_ag m pr be nm S Z) : cWd Z T L G := by
  have hg : wG = 1000000 := rfl
  obtain ⟨-, -, -, -, fr, -, -⟩ := r
  have es : ∀ (j : Nat) (x : Int), j < 237 → (j < 144 ∨ 150 < j) → (j ≠ 72 ∨ x ≠ 8) → Z j x = S j x := fun j x j0 j1 j2 => fr j x (by omega) (by omega) (by omega) (by omega) j2 (by omega)
  exact cWd_ag h (cTx_of (es 2 1 (by decide) (by decide) (by decide)) (fun x => es 3 x (by decide) (by decide) (Or.inl (by decide)))) (fun j x hj => es j x (by unfold cWo at hj; omega) (by unfold cWo at hj; omega) (by unfold cWo at hj; omega))
theorem cWd_bs (h : cWd S T L G) (p0 : 0 ≤ p) (p1 : p < (T.length : Int)) (r : bs_ag m p S Z) : cWd Z (tEp T p 0) L G := by
  have hg : wG = 1000000 := rfl
  obtain ⟨-, ⟨-, -, -, m6⟩, -, -, fr, -, -⟩ := r
  have es : ∀ (j : Nat) (x : Int), j < 237 → (j < 144 ∨ 150 < j) → (j ≠ 72 ∨ x ≠ 8) → ((j ≠ 132 ∧ j ≠ 130) ∨ x ≠ p) → Z j x = S j x := fun j x j0 j1 j2 j3 => fr j x (by omega) (by omega) (by omega) j3 j2 (by omega)
  obtain ⟨⟨-, c8, -, -, -, c1⟩, -, -⟩ := c_th h.1 p0 p1
  rw [tEp_c]
  refine cWd_co h p0 p1 (cTx_of (es 2 1 (by decide) (by decide) (by decide) (Or.inl (by decide))) (fun x => es 3 x (by decide) (by decide) (Or.inl (by decide)) (Or.inl (by decide)))) (fun j x hj hx hy => es j x (by unfold cWo at hj; omega) (by unfold cWo at hj; omega) (by unfold cWo at hj; omega) (by omega)) ((es 128 p (by decide) (by decide) (Or.inl (by decide)) (Or.inl (by decide))).trans c8) m6 ((es 131 p (by decide) (by decide) (Or.inl (by decide)) (Or.inl (by decide))).trans c1)
/-- of the reference: shapes come -/
theorem rHs_ms {h : aH} (h1 : rHs S H) (h87 : Z 237 87 = (H.length : Int) + 1) (f : ∀ (j : Nat) (x : Int), 329 ≤ j → j ≤ 332 → x ≠ (H.length : Int) → Z j x = S j x) (hm : Z 329 (H.length : Int) = h.1 ∧ Z 330 (H.length : Int) = h.2.1 ∧ Z 331 (H.length : Int) = h.2.2.1 ∧ Z 332 (H.length : Int) = h.2.2.2) : rHs Z (H ++ [h]) := by
  have lt : (H ++ [h]).length = H.length + 1 := by rw [List.length_append]; rfl
  refine ⟨by rw [h87, lt]; omega, fun k hk => ?_⟩
  rw [lt] at hk
  by_cases c : k < H.length
  · rw [gH_l c, f 329 _ (by decide) (by decide) (by omega), f 330 _ (by decide) (by decide) (by omega), f 331 _ (by decide) (by decide) (by omega), f 332 _ (by decide) (by decide) (by omega)]
    exact h1.2 k c
  · have ek : k = H.length := by omega
    subst ek
    rw [gH_r]
    exact hm
/-- what madeShape of the reference leaves where it makes one -/
theorem msZ_n (hn : ¬ (0 ≤ pr ∧ S 322 pr = 0)) : msZ be pr nm m u4 S = (w_up (w_up (w_up (w_up (w_up (w_up S 237 87 (m + 1)) 237 66 (u4 + 1)) 330 m be) 329 m pr) 331 m nm) 332 m (if be < 0 then 0 else S 332 be + 1)) := by unfold msZ; exact if_neg hn
theorem msZ_b (hn : 0 ≤ pr ∧ S 322 pr = 0) : msZ be pr nm m u4 S = w_up (w_up (w_up (w_up (w_up (w_up (w_up (w_up S 237 87 (m + 1)) 237 66 (u4 + 1)) 330 m be) 329 m pr) 331 m nm) 332 m (if be < 0 then 0 else S 332 be + 1)) 322 pr 1) 323 pr 0 := by unfold msZ; exact if_pos hn
theorem mz_e (j : Nat) (x : Int) (h1 : j ≠ 237 ∨ (x ≠ 87 ∧ x ≠ 66)) (h2 : (j < 329 ∨ 332 < j) ∨ x ≠ m) : (w_up (w_up (w_up (w_up (w_up (w_up S 237 87 (m + 1)) 237 66 (u4 + 1)) 330 m be) 329 m pr) 331 m nm) 332 m (if be < 0 then 0 else S 332 be + 1)) j x = S j x := (w_up_no (by omega)).trans ((w_up_no (by omega)).trans ((w_up_no (by omega)).trans ((w_up_no (by omega)).trans ((w_up_no (by omega)).trans (w_up_no (by omega))))))
theorem mz_v : (w_up (w_up (w_up (w_up (w_up (w_up S 237 87 (m + 1)) 237 66 (u4 + 1)) 330 m be) 329 m pr) 331 m nm) 332 m (if be < 0 then 0 else S 332 be + 1)) 237 87 = m + 1 ∧ (w_up (w_up (w_up (w_up (w_up (w_up S 237 87 (m + 1)) 237 66 (u4 + 1)) 330 m be) 329 m pr) 331 m nm) 332 m (if be < 0 then 0 else S 332 be + 1)) 237 66 = u4 + 1 ∧ (w_up (w_up (w_up (w_up (w_up (w_up S 237 87 (m + 1)) 237 66 (u4 + 1)) 330 m be) 329 m pr) 331 m nm) 332 m (if be < 0 then 0 else S 332 be + 1)) 329 m = pr ∧ (w_up (w_up (w_up (w_up (w_up (w_up S 237 87 (m + 1)) 237 66 (u4 + 1)) 330 m be) 329 m pr) 331 m nm) 332 m (if be < 0 then 0 else S 332 be + 1)) 330 m = be ∧ (w_up (w_up (w_up (w_up (w_up (w_up S 237 87 (m + 1)) 237 66 (u4 + 1)) 330 m be) 329 m pr) 331 m nm) 332 m (if be < 0 then 0 else S 332 be + 1)) 331 m = nm ∧ (w_up (w_up (w_up (w_up (w_up (w_up S 237 87 (m + 1)) 237 66 (u4 + 1)) 330 m be) 329 m pr) 331 m nm) 332 m (if be < 0 then 0 else S 332 be + 1)) 332 m = (if be < 0 then 0 else S 332 be + 1) := by
  refine ⟨?_, ?_, ?_, ?_, ?_, w_up_same _ _ _ _⟩
  · exact (w_up_slot (by decide)).trans ((w_up_slot (by decide)).trans ((w_up_slot (by decide)).trans ((w_up_slot (by decide)).trans ((w_up_at (by decide)).trans (w_up_same _ _ _ _)))))
  · exact (w_up_slot (by decide)).trans ((w_up_slot (by decide)).trans ((w_up_slot (by decide)).trans ((w_up_slot (by decide)).trans (w_up_same _ _ _ _))))
  · exact (w_up_slot (by decide)).trans ((w_up_slot (by decide)).trans (w_up_same _ _ _ _))
  · exact (w_up_slot (by decide)).trans ((w_up_slot (by decide)).trans ((w_up_slot (by decide)).trans (w_up_same _ _ _ _)))
  · exact (w_up_slot (by decide)).trans (w_up_same _ _ _ _)
theorem r_msn (h1 : rHs S H) (hW : rWd S sl T L G) (hs : 0 ≤ sh ∧ sh < (H.length : Int)) (hw : wSh T H) : rHs (msZ sh (qPr H sh) nm (H.length : Int) u4 S) (H ++ [(qPr H sh, sh, nm, qSz H sh + 1)]) ∧ rWd (msZ sh (qPr H sh) nm (H.length : Int) u4 S) sl T L G ∧ msZ sh (qPr H sh) nm (H.length : Int) u4 S 237 66 = u4 + 1 ∧ ∀ (j : Nat) (x : Int), (j ≠ 237 ∨ (x ≠ 87 ∧ x ≠ 66)) → (j < 329 ∨ 332 < j) → msZ sh (qPr H sh) nm (H.length : Int) u4 S j x = S j x := by
  have hn : ¬ (0 ≤ qPr H sh ∧ S 322 (qPr H sh) = 0) := fun z => by
    obtain ⟨-, -, -, -, -, h6, h7, -⟩ := hw
    have g := (h6 sh hs.1 hs.2).elim (fun q => by omega) id
    have e := (r_th hW.1 g.1.1 g.1.2).2.2.2.2.2.1
    have ne : ¬ ((tO T (qPr H sh)).2.2.2.2.1 = -1) := fun q => ((h7 _ g.1.1 g.1.2).mp q) sh hs.1 hs.2 rfl
    rw [if_neg ne, z.2] at e
    exact absurd e (by decide)
  rw [msZ_n hn]
  obtain ⟨v1, v2, v3, v4, v5, v6⟩ := mz_v (S := S) (be := sh) (pr := qPr H sh) (nm := nm) (m := (H.length : Int)) (u4 := u4)
  have fr := mz_e (S := S) (be := sh) (pr := qPr H sh) (nm := nm) (m := (H.length : Int)) (u4 := u4)
  refine ⟨rHs_ms h1 v1 (fun j x j0 j1 j2 => fr j x (by omega) (by omega)) ⟨v3, v4, v5, ?_⟩, rWd_ag hW (rTx_of (fr 237 19 (by decide) (by omega)) (fr 237 102 (by decide) (by omega)) (fun j x j0 j1 => fr j x (by omega) (by omega))) (fun j x hj => fr j x (by unfold rWo at hj; omega) (by unfold rWo at hj; omega)), v2, fun j x j0 j1 => fr j x j0 (by omega)⟩
  rw [v6, if_neg (by omega), (rHs_e h1 hs.1 hs.2).2.2.2]
theorem r_msb (h1 : rHs S H) (hW : rWd S sl T L G) (hp : isO T p) (hw : wSh T H) (hf : aFs (-1) p (-1) H 0 = -1) : rHs (msZ (-1) p (-1) (H.length : Int) u4 S) (H ++ [(p, -1, -1, 0)]) ∧ rWd (msZ (-1) p (-1) (H.length : Int) u4 S) sl (tEp T p 0) L G ∧ msZ (-1) p (-1) (H.length : Int) u4 S 237 66 = u4 + 1 ∧ ∀ (j : Nat) (x : Int), (j ≠ 237 ∨ (x ≠ 87 ∧ x ≠ 66)) → (j < 329 ∨ 332 < j) → ((j ≠ 322 ∧ j ≠ 323) ∨ x ≠ p) → msZ (-1) p (-1) (H.length : Int) u4 S j x = S j x := by
  obtain ⟨⟨p0, p1⟩, p2⟩ := hp
  have np := noP hw.1 p0 hf
  have e1 : (tO T p).2.2.2.2.1 = -1 := (hw.2.2.2.2.2.2.1 p p0 p1).mpr (fun s s0 s1 => np s.toNat (by omega))
  have ht := r_th hW.1 p0 p1
  have hn : 0 ≤ p ∧ S 322 p = 0 := ⟨p0, by rw [ht.2.2.2.2.2.1, if_pos e1]⟩
  rw [msZ_b hn]
  obtain ⟨v1, v2, v3, v4, v5, v6⟩ := mz_v (S := S) (be := -1) (pr := p) (nm := -1) (m := (H.length : Int)) (u4 := u4)
  have fr0 := mz_e (S := S) (be := -1) (pr := p) (nm := -1) (m := (H.length : Int)) (u4 := u4)
  have fr : ∀ (j : Nat) (x : Int), (j ≠ 237 ∨ (x ≠ 87 ∧ x ≠ 66)) → ((j < 329 ∨ 332 < j) ∨ x ≠ (H.length : Int)) → ((j ≠ 322 ∧ j ≠ 323) ∨ x ≠ p) → (w_up (w_up (w_up (w_up (w_up (w_up (w_up (w_up S 237 87 ((H.length : Int) + 1)) 237 66 (u4 + 1)) 330 (H.length : Int) (-1)) 329 (H.length : Int) p) 331 (H.length : Int) (-1)) 332 (H.length : Int) (if (-1 : Int) < 0 then 0 else S 332 (-1) + 1)) 322 p 1) 323 p 0) j x = S j x := fun j x j0 j1 j2 => (w_up_no (by omega)).trans ((w_up_no (by omega)).trans (fr0 j x j0 j1))
  refine ⟨rHs_ms h1 ((w_up_slot (by decide)).trans ((w_up_slot (by decide)).trans v1)) (fun j x j0 j1 j2 => fr j x (by omega) (by omega) (by omega)) ⟨(w_up_slot (by decide)).trans ((w_up_slot (by decide)).trans v3), (w_up_slot (by decide)).trans ((w_up_slot (by decide)).trans v4), (w_up_slot (by decide)).trans ((w_up_slot (by decide)).trans v5), (w_up_slot (by decide)).trans ((w_up_slot (by decide)).trans (v6.trans (if_pos (by decide))))⟩, ?_, (w_up_slot (by decide)).trans ((w_up_slot (by decide)).trans v2), fun j x j0 j1 j2 => fr j x j0 (by omega) j2⟩
  rw [tEp_c]
  exact rWd_co hW p0 p1 (rTx_of (fr 237 19 (by decide) (by omega) (Or.inl (by decide))) (fr 237 102 (by decide) (by omega) (Or.inl (by decide))) (fun j x j0 j1 => fr j x (by omega) (by omega) (by omega))) (fun j x hj hx => fr j x (by unfold rWo at hj; omega) (by unfold rWo at hj; omega) (by omega)) ((fr 315 p (by omega) (by omega) (Or.inl (by decide))).trans ht.2.1) ((w_up_slot (by decide)).trans ((w_up_same _ _ _ _).trans (if_neg (by decide)).symm)) (fun _ => w_up_same _ _ _ _) ((fr 324 p (by omega) (by omega) (Or.inl (by decide))).trans ht.2.2.2.2.2.2.2)
end Wf8
