/-! PART fr: a property goes: dropValue of the class; its world. -/
section Wfr
variable {xs : List (Nat × List Int32)} {M : Nat → Prop} {d : Nat} {S Z A B : wS} {H : List aH} {T T2 : List aO} {L : List aC} {G : Int → aV} {k n nm x a m sh p e ch q r ix : Int}
/-- a list without the n-th -/
def lDr {α : Type} : Nat → List α → List α
  | _, [] => []
  | 0, _ :: l => l
  | n + 1, a :: l => a :: lDr n l
theorem lDr_n {α : Type} : ∀ n : Nat, lDr n ([] : List α) = []
  | 0 => rfl
  | _ + 1 => rfl
theorem lDr_len {α : Type} : ∀ (n : Nat) (l : List α), n < l.length → (lDr n l).length + 1 = l.length
  | _, [], h => absurd h (Nat.not_lt_zero _)
  | 0, _ :: _, _ => rfl
  | n + 1, a :: l, h => by
    show (lDr n l).length + 1 + 1 = l.length + 1
    rw [lDr_len n l (Nat.lt_of_succ_lt_succ h)]
theorem lDr_le {α : Type} : ∀ (n : Nat) (l : List α), (lDr n l).length ≤ l.length
  | n, [] => by rw [lDr_n]; exact Nat.le_refl _
  | 0, _ :: l => Nat.le_succ _
  | n + 1, a :: l => Nat.succ_le_succ (lDr_le n l)
theorem lDr_lo {α : Type} {b : α} : ∀ (n : Nat) (l : List α) (i : Nat), i < n → (lDr n l).getD i b = l.getD i b
  | n, [], i, _ => by rw [lDr_n]
  | 0, _ :: _, _, h => absurd h (Nat.not_lt_zero _)
  | _ + 1, _ :: _, 0, _ => rfl
  | n + 1, a :: l, i + 1, h => lDr_lo n l i (Nat.lt_of_succ_lt_succ h)
theorem lDr_hi {α : Type} {b : α} : ∀ (n : Nat) (l : List α) (i : Nat), n ≤ i → (lDr n l).getD i b = l.getD (i + 1) b
  | n, [], i, _ => by rw [lDr_n]; rfl
  | 0, _ :: _, _, _ => rfl
  | n + 1, _ :: _, 0, h => absurd h (Nat.not_succ_le_zero _)
  | n + 1, a :: l, i + 1, h => lDr_hi n l i (Nat.le_of_succ_le_succ h)
theorem lDr_map {α β : Type} (f : α → β) : ∀ (n : Nat) (l : List α), (lDr n l).map f = lDr n (l.map f)
  | n, [] => by rw [lDr_n]; exact (lDr_n n).symm
  | 0, _ :: _ => rfl
  | n + 1, a :: l => by
    show f a :: (lDr n l).map f = f a :: lDr n (l.map f)
    rw [lDr_map f n l]
theorem fS_lDr : ∀ (l : List Int) (n : Nat) (i : Int), fS (i + (n : Int)) l i = lDr n l
  | [], n, _ => (lDr_n n).symm
  | a :: l, 0, i => by
    rw [fS_e a l (by omega), fS_id l (i + 1) (by omega)]
    rfl
  | a :: l, n + 1, i => by
    rw [fS_n a l (by omega), show i + ((n + 1 : Nat) : Int) = i + 1 + (n : Int) by omega, fS_lDr l n (i + 1)]
    rfl
/-- a thing without its n-th property -/
def tDp (T : List aO) (k ix : Int) : List aO := T.set k.toNat ((tO T k).1, (tO T k).2.1, (tO T k).2.2.1, (tO T k).2.2.2.1, (tO T k).2.2.2.2.1, (tO T k).2.2.2.2.2.1, lDr ix.toNat (tO T k).2.2.2.2.2.2)
theorem tDp_l : (tDp T k ix).length = T.length := List.length_set
theorem tDp_o (p0 : 0 ≤ k) (p1 : k < (T.length : Int)) (k0 : 0 ≤ x) : tO (tDp T k ix) x = if x = k then ((tO T k).1, (tO T k).2.1, (tO T k).2.2.1, (tO T k).2.2.2.1, (tO T k).2.2.2.2.1, (tO T k).2.2.2.2.2.1, lDr ix.toNat (tO T k).2.2.2.2.2.2) else tO T x := by
  unfold tDp
  show (T.set k.toNat _).getD x.toNat (0, 0, 0, 0, 0, 0, []) = _
  rw [gO_set (by omega)]
  by_cases c : x = k
  · rw [if_pos (by omega), if_pos c]
  · rw [if_neg (by omega), if_neg c]
theorem tDp_f (p0 : 0 ≤ k) (p1 : k < (T.length : Int)) (k0 : 0 ≤ x) : (tO (tDp T k ix) x).1 = (tO T x).1 ∧ (tO (tDp T k ix) x).2.1 = (tO T x).2.1 ∧ (tO (tDp T k ix) x).2.2.1 = (tO T x).2.2.1 ∧ (tO (tDp T k ix) x).2.2.2.1 = (tO T x).2.2.2.1 ∧ (tO (tDp T k ix) x).2.2.2.2.1 = (tO T x).2.2.2.2.1 ∧ (tO (tDp T k ix) x).2.2.2.2.2.1 = (tO T x).2.2.2.2.2.1 ∧ (tO (tDp T k ix) x).2.2.2.2.2.2 = (if x = k then lDr ix.toNat (tO T k).2.2.2.2.2.2 else (tO T x).2.2.2.2.2.2) := by
  rw [tDp_o p0 p1 k0]
  by_cases c : x = k
  · rw [if_pos c, if_pos c, c]; exact ⟨rfl, rfl, rfl, rfl, rfl, rfl, rfl⟩
  · rw [if_neg c, if_neg c]; exact ⟨rfl, rfl, rfl, rfl, rfl, rfl, rfl⟩
/-- what dropValue leaves -/
def dv_ag (k ix : Int) (S Z : wS) : Prop := Z 134 k = S 134 k - 1 ∧ (∀ i : Int, ix ≤ i → i + 1 < S 134 k → Z 141 (S 133 k + i) = S 141 (S 133 k + i + 1) ∧ Z 142 (S 133 k + i) = S 142 (S 133 k + i + 1)) ∧ (∀ i : Int, (i < S 133 k + ix ∨ S 133 k + S 134 k ≤ i + 1) → Z 141 i = S 141 i ∧ Z 142 i = S 142 i) ∧ (∀ (j : Nat) (i : Int), j ≠ 141 → j ≠ 142 → (j ≠ 134 ∨ i ≠ k) → Z j i = S j i) ∧ gI Z ∧ rmR S Z
theorem dv_cl (hC : w_CL S) (hk : 0 ≤ k) (h : dv_ag k ix S Z) : w_CL Z := fun q hq => by
  have h1 : ∀ q ∈ wz_n, q.1 ≠ 141 ∧ q.1 ≠ 142 := by decide
  exact (h.2.2.2.1 q.1 (-1) (h1 q hq).1 (h1 q hq).2 (Or.inr (by omega))).trans (hC q hq)
/-- the shape is set ahead of it, or behind it -/
theorem dv_sh (hk : 0 ≤ k) (h : dv_ag k ix (w_up A 128 k sh) Z) : ∃ B : wS, dv_ag k ix A B ∧ w_up B 128 k sh = Z := by
  obtain ⟨h1, h2, h3, h4, h5, h6⟩ := h
  have es : ∀ (j : Nat) (x : Int), j ≠ 128 → (w_up A 128 k sh) j x = A j x := fun j x j0 => w_up_slot j0
  rw [es 134 k (by first | decide | omega)] at h1
  rw [es 134 k (by first | decide | omega), es 133 k (by first | decide | omega)] at h2 h3
  have eZ : ∀ (j : Nat) (x : Int), j ≠ 128 → (w_up Z 128 k (A 128 k)) j x = Z j x := fun j x j0 => w_up_slot j0
  refine ⟨w_up Z 128 k (A 128 k), ⟨(eZ 134 k (by first | decide | omega)).trans h1, fun i i0 i1 => ?_, fun i i0 => ?_, fun j i j0 j1 j2 => ?_, gI_up h5 hk (by omega) (by omega), rmR_up (rmR_tr (rmR_up (rmR_rfl A) hk (by first | decide | omega)) h6) hk (by first | decide | omega)⟩, ?_⟩
  · obtain ⟨a1, a2⟩ := h2 i i0 i1
    rw [es 141 _ (by first | decide | omega)] at a1
    rw [es 142 _ (by first | decide | omega)] at a2
    exact ⟨(eZ 141 _ (by first | decide | omega)).trans a1, (eZ 142 _ (by first | decide | omega)).trans a2⟩
  · obtain ⟨a1, a2⟩ := h3 i i0
    rw [es 141 _ (by first | decide | omega)] at a1
    rw [es 142 _ (by first | decide | omega)] at a2
    exact ⟨(eZ 141 _ (by first | decide | omega)).trans a1, (eZ 142 _ (by first | decide | omega)).trans a2⟩
  · by_cases c : j = 128 ∧ i = k
    · rw [c.1, c.2]; exact w_up_same _ _ _ _
    · exact (w_up_no (by omega)).trans ((h4 j i j0 j1 j2).trans (w_up_no (by omega)))
  · funext j i
    by_cases c : j = 128 ∧ i = k
    · rw [c.1, c.2, w_up_same, h4 128 k (by first | decide | omega) (by first | decide | omega) (Or.inl (by first | decide | omega)), w_up_same]
    · exact (w_up_no (by omega)).trans (w_up_no (by omega))
theorem cPo_dv (h : cPo S) (hk : 0 ≤ k ∧ k < S 72 3) (r : dv_ag k ix S Z) : cPo Z := by
  obtain ⟨h1, -, -, h4, -, -⟩ := r
  have ek : ((k.toNat : Nat) : Int) = k := by omega
  have e5 : Z 135 k = S 135 k := h4 135 k (by first | decide | omega) (by first | decide | omega) (Or.inl (by first | decide | omega))
  refine cPo_1 (i := k.toNat) h (by omega) (h4 72 3 (by first | decide | omega) (by first | decide | omega) (Or.inl (by first | decide | omega))) (fun x x0 x1 x2 => ⟨h4 134 x (by first | decide | omega) (by first | decide | omega) (by omega), h4 135 x (by first | decide | omega) (by first | decide | omega) (Or.inl (by first | decide | omega))⟩) ?_
  rw [ek, h4 140 2 (by first | decide | omega) (by first | decide | omega) (Or.inl (by first | decide | omega)), h4 150 1 (by first | decide | omega) (by first | decide | omega) (Or.inl (by first | decide | omega)), h1, e5]
  unfold mx0
  split <;> split <;> omega
theorem cWd_dv (h : cWd S T L G) (k0 : 0 ≤ k) (k1 : k < (T.length : Int)) (hix : 0 ≤ ix ∧ ix < ((tO T k).2.2.2.2.2.2.length : Int)) (r : dv_ag k ix S Z) : cWd Z (tDp T k ix) L G := by
  obtain ⟨g1, g2, ⟨p1, p2, p3⟩, ⟨⟨n1, n2, n3, n4⟩, n5, ⟨n6, n7⟩, n8, n9⟩, ⟨t1, t2, t3, t4⟩, g5⟩ := h
  obtain ⟨r1, r2, r3, r4, r5, r6⟩ := r
  obtain ⟨⟨c1, c2, c3, c4, c5, c6⟩, ⟨b1, b2, b3, b4⟩, cr⟩ := c_th g1 k0 k1
  have ek : ((k.toNat : Nat) : Int) = k := by omega
  have e : cTx S Z := cTx_of (r4 2 1 (by first | decide | omega) (by first | decide | omega) (Or.inl (by first | decide | omega))) (fun x => r4 3 x (by first | decide | omega) (by first | decide | omega) (Or.inl (by first | decide | omega)))
  have es : ∀ (j : Nat) (x : Int), j ≠ 141 → j ≠ 142 → j ≠ 134 → Z j x = S j x := fun j x j0 j1 j2 => r4 j x j0 j1 (Or.inl j2)
  have l1 := r3 (-1) (Or.inl (by omega))
  have hlen := lDr_len ix.toNat (tO T k).2.2.2.2.2.2 (by omega)
  refine ⟨⟨by rw [tDp_l, es 72 3 (by first | decide | omega) (by first | decide | omega) (by first | decide | omega)]; exact g1.1, fun i hi => ?_⟩, cCa_mo g2 e (es 72 5 (by first | decide | omega) (by first | decide | omega) (by first | decide | omega)) (fun x _ _ => ⟨es 138 x (by first | decide | omega) (by first | decide | omega) (by first | decide | omega), es 139 x (by first | decide | omega) (by first | decide | omega) (by first | decide | omega)⟩) (Int.le_of_eq (es 140 2 (by first | decide | omega) (by first | decide | omega) (by first | decide | omega)).symm) (fun q i hq i0 i1 => r3 i ?_), ?_, ?_, ?_, cGl_mo g5 e (fun j x hj => es j x (by omega) (by omega) (by omega))⟩
  · rw [tDp_l] at hi
    obtain ⟨⟨a1, a2, a3, a4, a5, a6⟩, ⟨d1, d2, d3, d4⟩, dc⟩ := g1.2 i hi
    have f := tDp_f (ix := ix) k0 k1 (x := (i : Int)) (by omega)
    rw [tO_N, tO_N] at f
    obtain ⟨f1, f2, f3, f4, f5, f6, f7⟩ := f
    rw [f1, f2, f3, f4, f5, f6, f7, es 127 _ (by first | decide | omega) (by first | decide | omega) (by first | decide | omega), es 128 _ (by first | decide | omega) (by first | decide | omega) (by first | decide | omega), es 129 _ (by first | decide | omega) (by first | decide | omega) (by first | decide | omega), es 130 _ (by first | decide | omega) (by first | decide | omega) (by first | decide | omega), es 131 _ (by first | decide | omega) (by first | decide | omega) (by first | decide | omega), es 133 _ (by first | decide | omega) (by first | decide | omega) (by first | decide | omega), es 135 _ (by first | decide | omega) (by first | decide | omega) (by first | decide | omega), es 136 _ (by first | decide | omega) (by first | decide | omega) (by first | decide | omega), es 140 _ (by first | decide | omega) (by first | decide | omega) (by first | decide | omega)]
    refine ⟨⟨a1, a2, a3, a4, a5, a6⟩, ?_⟩
    by_cases c : (i : Int) = k
    · rw [if_pos c, c, r1]
      refine ⟨⟨by omega, by omega, b3, b4⟩, fun j hj => ?_⟩
      rw [lDr_map] at hj ⊢
      rw [← lDr_map, List.length_map] at hj
      by_cases cj : j < ix.toNat
      · rw [lDr_lo _ _ _ cj]
        obtain ⟨y1, y2⟩ := r3 (S 133 k + (j : Int)) (Or.inl (by omega))
        rw [y1, y2]
        exact cVl_mo (cr j (by rw [List.length_map]; omega)) e
      · rw [lDr_hi _ _ _ (by omega)]
        obtain ⟨y1, y2⟩ := r2 (j : Int) (by omega) (by omega)
        rw [y1, y2, show S 133 k + (j : Int) + 1 = S 133 k + ((j + 1 : Nat) : Int) by omega]
        exact cVl_mo (cr (j + 1) (by rw [List.length_map]; omega)) e
    · rw [if_neg c, r4 134 _ (by first | decide | omega) (by first | decide | omega) (Or.inr c)]
      refine ⟨⟨d1, d2, d3, d4⟩, cR1_mo dc e (fun y y0 y1 => r3 y ?_)⟩
      rw [List.length_map] at y1
      rcases p1 k.toNat i (by omega) hi (by omega) with z | z | z | z
      · rw [ek] at z; omega
      · omega
      · rw [ek] at z; omega
      · rw [ek] at z; omega
  · rcases p2 k.toNat q (by omega) hq with z | z | z | z
    · rw [ek] at z; omega
    · rw [z] at i1
      have : (([] : List aV).length : Int) = 0 := rfl
      omega
    · rw [ek] at z; omega
    · rw [ek] at z; omega
  · rw [tDp_l]
    exact cAp_mo ⟨p1, p2, p3⟩ (fun x _ _ => ⟨es 133 x (by first | decide | omega) (by first | decide | omega) (by first | decide | omega), es 135 x (by first | decide | omega) (by first | decide | omega) (by first | decide | omega)⟩) (fun x _ _ => es 138 x (by first | decide | omega) (by first | decide | omega) (by first | decide | omega))
  · unfold cLc
    rw [es 138 _ (by first | decide | omega) (by first | decide | omega) (by first | decide | omega), es 139 _ (by first | decide | omega) (by first | decide | omega) (by first | decide | omega), es 140 _ (by first | decide | omega) (by first | decide | omega) (by first | decide | omega), l1.1, l1.2]
    exact ⟨⟨n1, n2, n3, n4⟩, n5, ⟨n6, n7⟩, n8, n9⟩
  · refine ⟨fun x hx => ?_, ?_⟩
    · rw [r4 (127 + x) (-1) (by omega) (by omega) (Or.inr (by omega)), r4 127 (-1) (by first | decide | omega) (by first | decide | omega) (Or.inr (by omega))]; exact t1 x hx
    · rw [r4 127 (-1) (by first | decide | omega) (by first | decide | omega) (Or.inr (by omega)), tDp_l]; exact ⟨t2, t3, t4⟩
/-- the world of shapes where a property goes -/
theorem wSh_dn (h : wSh T H) (hk : isO T k) (hs : 0 ≤ sh ∧ sh < (H.length : Int)) (hn : lDr ix.toNat (pNs (tO T k)) = aNs H sh) (hr : qPr H sh = aPr T H k) : wSh (tNc (tDp T k ix) k sh ch) H := by
  obtain ⟨h1, h2, h3, h4, h5, h6, h7, rk, hrk⟩ := id h
  obtain ⟨⟨k0, k1⟩, k2⟩ := id hk
  have f := fun (x : Int) (x0 : 0 ≤ x) => tNc_f (T := tDp T k ix) (sh := sh) (ch := ch) k0 (by rw [tDp_l]; exact k1) x0
  have g := fun (x : Int) (x0 : 0 ≤ x) => tDp_f (T := T) (ix := ix) k0 k1 x0
  have w4 : ∀ x : Int, 0 ≤ x → x < (T.length : Int) → (tO T x).2.2.2.2.1 = -1 ∨ 0 ≤ (tO T x).2.2.2.2.1 := fun x x0 x1 => (h3 x.toNat (by omega)).2.2.2
  have ep : ∀ x : Int, 0 ≤ x → aPr (tNc (tDp T k ix) k sh ch) H x = aPr T H x := fun x x0 => by
    unfold aPr
    rw [(f x x0).2.1, (g x x0).2.1]
    by_cases c : x = k
    · rw [if_pos c, c]; exact hr
    · rw [if_neg c]
  refine wSh_g h (tNc_l.trans tDp_l) (fun x x0 x1 => ?_) (fun x hx => ?_) (fun x x0 x1 hx => ?_) ⟨rk, fun x hx hq => ?_⟩
  · obtain ⟨f1, -, -, -, -, f6⟩ := f x x0
    rw [f1, f6, (g x x0).1, (g x x0).2.2.2.2.1, (g k k0).2.2.2.2.1]
    refine ⟨rfl, ?_⟩
    have y := w4 x x0 x1
    by_cases c : x = k
    · rw [if_pos c, ← c]
      split <;> omega
    · rw [if_neg c]
      exact ⟨Iff.rfl, y⟩
  · obtain ⟨f1, f2, -, -, f5, -⟩ := f x hx.1.1
    have y := h4 x hx
    have y2 := wSh_sh h hx
    unfold pNs
    rw [f2, f5, (g x hx.1.1).2.1, (g x hx.1.1).2.2.2.2.2.2]
    by_cases c : x = k
    · rw [if_pos c, if_pos c]
      rw [c] at y
      refine ⟨hs, by rw [lDr_map]; exact hn, ?_⟩
      have := lDr_le ix.toNat (tO T k).2.2.2.2.2.2
      omega
    · rw [if_neg c, if_neg c]
      exact ⟨y2, y⟩
  · obtain ⟨f1, f2, -, -, f5, -⟩ := f x x0
    have c : x ≠ k := fun z => by rw [z] at hx; omega
    rw [f2, if_neg c, f5, (g x x0).2.1, (g x x0).2.2.2.2.2.2, if_neg c]
    refine ⟨?_, h5 x x0 x1 hx⟩
    have := (h3 x.toNat (by omega)).2.2.1
    exact this hx
  · rw [ep x hx.1.1] at hq ⊢
    exact hrk x hx hq
set_option maxHeartbeats 4000000 in
theorem dv_ok {st sz : Int} (hC : w_CL S) (hI : gI S) (hl : S 142 (-1) = S 141 (-1)) (hz1 : S 141 (-1) ≤ 480400) (hth : ∀ x : Nat, x < 10 → S (127 + x) (-1) = S 127 (-1)) (hk : 0 ≤ k ∧ k < S 127 (-1)) (hk2 : S 127 (-1) ≤ 16383) (hst : S 133 k = st) (hsz : S 134 k = sz) (hs1 : 0 ≤ st ∧ st + sz ≤ S 141 (-1)) (hix : 0 ≤ ix ∧ ix < sz) : wJ (pe_GA xs) wY0 M (d + 1) t_XH_dropValue ((pe_at t_XH_dropValue.bl 0).getD (0, [])).2 [(0, (2, 72)), (1, (0, k)), (2, (0, ix))] [] S (fun o Z => o = .inl none ∧ dv_ag k ix S Z) := by
  have hRm := rmR_rfl S
  refine wa_aload_n (n := 0) rfl ?_
  refine wb_gf4 72 rfl (wy_pr rfl) wt_72 wf_2_2 (v := 126) wl_72_2 ?_
  refine wa_bipush (w_rg2 (by omega) (by omega)) ?_
  refine wb_aald5 126 6 rfl rfl (wy_pr rfl) wt_126 (by rw [show _ = _ from ((cl_126 hC))]; omega) wl_126_6 ?_
  refine wa_iload_n (n := 1) rfl ?_
  refine wb_iald 133 rfl (wy_pr rfl) wt_133 (n := (S 127 (-1))) ((hth 6 (by decide))) (by omega) (by omega) (v := st) (hst) (fun r1 => ?_)
  refine wa_iload_n (n := 2) rfl ?_
  refine wa_iadd ?_
  refine wa_istore_n (n := 3) rfl ?_
  refine wa_aload_n (n := 0) rfl ?_
  refine wb_gf4 72 rfl (wy_pr rfl) wt_72 wf_2_2 (v := 126) wl_72_2 ?_
  refine wa_bipush (w_rg2 (by omega) (by omega)) ?_
  refine wb_aald5 126 7 rfl rfl (wy_pr rfl) wt_126 (by rw [show _ = _ from ((cl_126 hC))]; omega) wl_126_7 ?_
  refine wa_iload_n (n := 1) rfl ?_
  refine wb_iald 134 rfl (wy_pr rfl) wt_134 (n := (S 127 (-1))) ((hth 7 (by decide))) (by omega) (by omega) (v := sz) (hsz) (fun r2 => ?_)
  refine wa_iload_n (n := 2) rfl ?_
  refine wa_isub ?_
  refine wa_iconst ?_
  refine wa_isub ?_
  refine wa_istore (n := 4) rfl ?_
  refine wa_aload_n (n := 0) rfl ?_
  refine wb_gf4 72 rfl (wy_pr rfl) wt_72 wf_2_6 (v := 140) wl_72_6 ?_
  refine wb_gf4 140 rfl (wy_pr rfl) wt_140 wf_7_0 (v := 141) wl_140_0 ?_
  refine wa_iload_n (n := 3) rfl ?_
  refine wa_iconst ?_
  refine wa_iadd ?_
  refine wa_aload_n (n := 0) rfl ?_
  refine wb_gf4 72 rfl (wy_pr rfl) wt_72 wf_2_6 (v := 140) wl_72_6 ?_
  refine wb_gf4 140 rfl (wy_pr rfl) wt_140 wf_7_0 (v := 141) wl_140_0 ?_
  refine wa_iload_n (n := 3) rfl ?_
  refine wa_iload (n := 4) rfl ?_
  refine wb_acB (S := S) 141 141 rfl rfl (wy_pr rfl) (wy_pr rfl) wt_141 wt_141 hI hRm (by decide) (by omega) (by omega) (by omega) (by have e : S 141 (-1) = (S 141 (-1)) := (rfl); omega) (by have e : S 141 (-1) = (S 141 (-1)) := (rfl); omega) (by omega) rfl (fun Z3 g4 gi5 rm6 => ?_)
  refine wa_aload_n (n := 0) rfl ?_
  refine wb_gf4 72 rfl (wy_pr rfl) wt_72 wf_2_6 (v := 140) wl_72_6 ?_
  refine wb_gf4 140 rfl (wy_pr rfl) wt_140 wf_7_1 (v := 142) wl_140_1 ?_
  refine wa_iload_n (n := 3) rfl ?_
  refine wa_iconst ?_
  refine wa_iadd ?_
  refine wa_aload_n (n := 0) rfl ?_
  refine wb_gf4 72 rfl (wy_pr rfl) wt_72 wf_2_6 (v := 140) wl_72_6 ?_
  refine wb_gf4 140 rfl (wy_pr rfl) wt_140 wf_7_1 (v := 142) wl_140_1 ?_
  refine wa_iload_n (n := 3) rfl ?_
  refine wa_iload (n := 4) rfl ?_
  refine wb_acL (S := Z3) 142 142 rfl rfl (wy_pr rfl) (wy_pr rfl) wt_142 wt_142 gi5 rm6 (by decide) (by omega) (by omega) (by omega) (by have e : Z3 142 (-1) = (S 141 (-1)) := (((g4.1 142 (-1) (Or.inl (by decide))).trans (hl))); omega) (by have e : Z3 142 (-1) = (S 141 (-1)) := (((g4.1 142 (-1) (Or.inl (by decide))).trans (hl))); omega) (by omega) rfl (fun Z7 g8 gi9 rm10 => ?_)
  refine wa_aload_n (n := 0) rfl ?_
  refine wb_gf4 72 rfl (wy_pr rfl) wt_72 wf_2_2 (v := 126) wl_72_2 ?_
  refine wa_bipush (w_rg2 (by omega) (by omega)) ?_
  refine wb_aald5 126 7 rfl rfl (wy_pr rfl) wt_126 (by rw [show _ = _ from (((g8.1 126 (-1) (Or.inl (by decide))).trans (((g4.1 126 (-1) (Or.inl (by decide))).trans ((cl_126 hC))))))]; omega) wl_126_7 ?_
  refine wa_iload_n (n := 1) rfl ?_
  refine wa_dup2 (by decide) (by decide) ?_
  refine wb_iald 134 rfl (wy_pr rfl) wt_134 (n := (S 127 (-1))) (((g8.1 134 (-1) (Or.inl (by decide))).trans (((g4.1 134 (-1) (Or.inl (by decide))).trans ((hth 7 (by decide))))))) (by omega) (by omega) (v := sz) (((g8.1 134 k (Or.inl (by decide))).trans (((g4.1 134 k (Or.inl (by decide))).trans (hsz))))) (fun r11 => ?_)
  refine wa_iconst ?_
  refine wa_isub ?_
  refine wb_iast 134 rfl (wy_pr rfl) wt_134 (n := (S 127 (-1))) (((g8.1 134 (-1) (Or.inl (by decide))).trans (((g4.1 134 (-1) (Or.inl (by decide))).trans ((hth 7 (by decide))))))) (by omega) (by omega) ⟨(by omega), (by omega)⟩ ?_
  refine wa_return rfl ?_
  refine ⟨rfl, ?_⟩
  unfold dv_ag
  rw [hst, hsz]
  refine ⟨w_up_same _ _ _ _, fun i i0 i1 => ⟨?_, ?_⟩, fun i i0 => ⟨(w_up_slot (by first | decide | omega)).trans ((g8.1 141 i (Or.inl (by first | decide | omega))).trans (g4.1 141 i (Or.inr (by omega)))), (w_up_slot (by first | decide | omega)).trans ((g8.1 142 i (Or.inr (by omega))).trans (g4.1 142 i (Or.inl (by first | decide | omega))))⟩, fun j i j0 j1 j2 => (w_up_no (by omega)).trans ((g8.1 j i (Or.inl j1)).trans (g4.1 j i (Or.inl j0))), (gI_up gi9 (by omega) (by omega) (by omega)), (rmR_up rm10 (by omega) (by first | decide | omega))⟩
  · have y := g4.2 (i - ix) (by omega) (by omega)
    rw [show st + ix + (i - ix) = st + i by omega, show st + ix + 1 + (i - ix) = st + i + 1 by omega] at y
    exact (w_up_slot (by first | decide | omega)).trans ((g8.1 141 _ (Or.inl (by first | decide | omega))).trans y)
  · have y := g8.2 (i - ix) (by omega) (by omega)
    rw [show st + ix + (i - ix) = st + i by omega, show st + ix + 1 + (i - ix) = st + i + 1 by omega] at y
    exact (w_up_slot (by first | decide | omega)).trans (y.trans (g4.1 142 _ (Or.inl (by first | decide | omega))))
end Wfr
