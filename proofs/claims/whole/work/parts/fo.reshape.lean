/-! PART fo: a thing has another shape, and its change is noted: the worlds of both. -/
section Wfo
variable {S Z A : wS} {H : List aH} {T T2 : List aO} {L : List aC} {G : Int → aV} {sl : Nat → List Int} {k n nm x a m sh p e ch q r : Int}
/-- a thing with another shape, its change noted if it is a prototype -/
def tNc (T : List aO) (k sh ch : Int) : List aO := tCo T k sh (if (tO T k).2.2.2.2.1 = -1 then -1 else (tO T k).2.2.2.2.1 + 1) (if (tO T k).2.2.2.2.1 = -1 then (tO T k).2.2.2.2.2.1 else ch + 1)
theorem tNc_l : (tNc T k sh ch).length = T.length := tCo_l
theorem tNc_f (k0 : 0 ≤ k) (k1 : k < (T.length : Int)) (x0 : 0 ≤ x) : (tO (tNc T k sh ch) x).1 = (tO T x).1 ∧ (tO (tNc T k sh ch) x).2.1 = (if x = k then sh else (tO T x).2.1) ∧ (tO (tNc T k sh ch) x).2.2.1 = (tO T x).2.2.1 ∧ (tO (tNc T k sh ch) x).2.2.2.1 = (tO T x).2.2.2.1 ∧ (tO (tNc T k sh ch) x).2.2.2.2.2.2 = (tO T x).2.2.2.2.2.2 ∧ (tO (tNc T k sh ch) x).2.2.2.2.1 = (if x = k then (if (tO T k).2.2.2.2.1 = -1 then -1 else (tO T k).2.2.2.2.1 + 1) else (tO T x).2.2.2.2.1) := by
  unfold tNc
  rw [tCo_o k0 k1 x0]
  by_cases c : x = k
  · rw [if_pos c, if_pos c, if_pos c, c]; exact ⟨rfl, rfl, rfl, rfl, rfl, rfl⟩
  · rw [if_neg c, if_neg c, if_neg c]; exact ⟨rfl, rfl, rfl, rfl, rfl, rfl⟩
theorem cSw_T (h : cSw S T H) (hl : T2.length = T.length) : cSw S T2 H := ⟨h.1, h.2.1, h.2.2.1, by rw [hl]; exact h.2.2.2⟩
theorem cWd_nc (h : cWd A T L G) (k0 : 0 ≤ k) (k1 : k < (T.length : Int)) : cWd (ncZ k sh (A 130 k) (A 72 11) A) (tNc T k sh (A 72 11)) L G := by
  obtain ⟨⟨-, -, -, -, c0, c1⟩, -, -⟩ := c_th h.1 k0 k1
  unfold tNc
  rw [← c0, ← c1]
  unfold ncZ
  by_cases c : A 130 k = -1
  · rw [if_pos c, if_pos c, if_pos c]
    exact cWd_co h k0 k1 (cTx_of (w_up_slot (by first | decide | omega)) (fun _ => w_up_slot (by first | decide | omega))) (fun j x _ hx _ => w_up_no (by omega)) (w_up_same _ _ _ _) ((w_up_slot (by first | decide | omega)).trans c) (w_up_slot (by first | decide | omega))
  · rw [if_neg c, if_neg c, if_neg c]
    have es : ∀ (j : Nat) (x : Int), ((j ≠ 128 ∧ j ≠ 130 ∧ j ≠ 131) ∨ x ≠ k) → (j ≠ 72 ∨ x ≠ 11) → (w_up (w_up (w_up (w_up A 128 k sh) 130 k (A 130 k + 1)) 72 11 (A 72 11 + 1)) 131 k (A 72 11 + 1)) j x = A j x := fun j x j0 j1 => (w_up_no (by omega)).trans ((w_up_no (by omega)).trans ((w_up_no (by omega)).trans (w_up_no (by omega))))
    exact cWd_co h k0 k1 (cTx_of (es 2 1 (Or.inl (by first | decide | omega)) (by first | decide | omega)) (fun x => es 3 x (Or.inl (by first | decide | omega)) (Or.inl (by first | decide | omega)))) (fun j x hj hx _ => es j x hx (by unfold cWo at hj; omega)) ((w_up_slot (by first | decide | omega)).trans ((w_up_slot (by first | decide | omega)).trans ((w_up_slot (by first | decide | omega)).trans (w_up_same _ _ _ _)))) ((w_up_slot (by first | decide | omega)).trans ((w_up_slot (by first | decide | omega)).trans (w_up_same _ _ _ _))) (w_up_same _ _ _ _)
theorem cSw_nc (h : cSw A T H) : cSw (ncZ k sh e ch A) (tNc T k sh n) H := cSw_T (cSw_ag h (fun j x hj => ncZ_e j x (by omega) (by omega))) tNc_l
theorem rWd_nCh (h : rWd A sl T L G) (k0 : 0 ≤ k) (k1 : k < (T.length : Int)) (he : e = (tO T k).2.2.2.2.1) (he0 : -1 ≤ e) : rWd (chZ k e ch (w_up A 315 k sh)) sl (tNc T k sh ch) L G := by
  obtain ⟨-, -, -, -, -, c2, c3, c4⟩ := r_th h.1 k0 k1
  unfold tNc chZ
  rw [← he] at c2 c3 ⊢
  by_cases c : e = -1
  · rw [if_pos c, if_pos c, if_pos c]
    rw [if_pos c] at c2
    exact rWd_co h k0 k1 (rTx_of (w_up_slot (by first | decide | omega)) (w_up_slot (by first | decide | omega)) (fun j x j0 j1 => w_up_no (by omega))) (fun j x _ hx => w_up_no (by omega)) (w_up_same _ _ _ _) ((w_up_slot (by first | decide | omega)).trans (c2.trans (if_pos rfl).symm)) (fun z => absurd rfl z) ((w_up_slot (by first | decide | omega)).trans c4)
  · rw [if_neg c, if_neg c, if_neg c]
    rw [if_neg c] at c2
    have es : ∀ (j : Nat) (x : Int), ((j ≠ 315 ∧ j ≠ 323 ∧ j ≠ 324) ∨ x ≠ k) → (j ≠ 237 ∨ x ≠ 81) → (w_up (w_up (w_up (w_up A 315 k sh) 323 k (e + 1)) 237 81 (ch + 1)) 324 k (ch + 1)) j x = A j x := fun j x j0 j1 => (w_up_no (by omega)).trans ((w_up_no (by omega)).trans ((w_up_no (by omega)).trans (w_up_no (by omega))))
    refine rWd_co h k0 k1 (rTx_of (es 237 19 (Or.inl (by first | decide | omega)) (by first | decide | omega)) (es 237 102 (Or.inl (by first | decide | omega)) (by first | decide | omega)) (fun j x j0 j1 => es j x (by omega) (by omega))) (fun j x hj hx => es j x (by omega) (by unfold rWo at hj; omega)) ((w_up_slot (by first | decide | omega)).trans ((w_up_slot (by first | decide | omega)).trans ((w_up_slot (by first | decide | omega)).trans (w_up_same _ _ _ _)))) ?_ (fun _ => (w_up_slot (by first | decide | omega)).trans ((w_up_slot (by first | decide | omega)).trans (w_up_same _ _ _ _))) (w_up_same _ _ _ _)
    rw [es 322 k (Or.inl (by first | decide | omega)) (Or.inl (by first | decide | omega)), c2]
    rw [if_neg (by omega)]
/-- the world of shapes where a thing has another shape with the same names -/
theorem wSh_nc (h : wSh T H) (hk : isO T k) (hs : 0 ≤ sh ∧ sh < (H.length : Int)) (hn : pNs (tO T k) = aNs H sh) (hr : qPr H sh = aPr T H k ∨ hMe (aPr T H) k (T.length + 1) (qPr H sh) ≠ 1) : wSh (tNc T k sh ch) H := by
  obtain ⟨h1, h2, h3, h4, h5, h6, h7, rk, hrk⟩ := id h
  obtain ⟨⟨k0, k1⟩, k2⟩ := id hk
  have f := fun (x : Int) (x0 : 0 ≤ x) => tNc_f (sh := sh) (ch := ch) k0 k1 x0
  have w4 : ∀ x : Int, 0 ≤ x → x < (T.length : Int) → (tO T x).2.2.2.2.1 = -1 ∨ 0 ≤ (tO T x).2.2.2.2.1 := fun x x0 x1 => (h3 x.toNat (by omega)).2.2.2
  have ep : ∀ x : Int, x ≠ k → aPr (tNc T k sh ch) H x = aPr T H x ∨ x < 0 := fun x hx => by
    by_cases x0 : 0 ≤ x
    · refine Or.inl ?_
      unfold aPr
      rw [(f x x0).2.1, if_neg hx]
    · exact Or.inr (by omega)
  have ek : aPr (tNc T k sh ch) H k = qPr H sh := by
    unfold aPr
    rw [(f k k0).2.1, if_pos rfl]
  refine wSh_g h tNc_l (fun x x0 x1 => ?_) (fun x hx => ?_) (fun x x0 x1 hx => ?_) ?_
  · obtain ⟨f1, -, -, -, -, f6⟩ := f x x0
    rw [f1, f6]
    refine ⟨rfl, ?_⟩
    have g := w4 x x0 x1
    by_cases c : x = k
    · rw [if_pos c, ← c]
      split <;> omega
    · rw [if_neg c]
      exact ⟨Iff.rfl, g⟩
  · obtain ⟨f1, f2, -, -, f5, -⟩ := f x hx.1.1
    have g := h4 x hx
    have g2 := wSh_sh h hx
    unfold pNs
    rw [f2, f5]
    by_cases c : x = k
    · rw [if_pos c, c]
      rw [c] at g
      exact ⟨hs, hn, g.2⟩
    · rw [if_neg c]
      exact ⟨g2, g⟩
  · obtain ⟨f1, f2, -, -, f5, -⟩ := f x x0
    have c : x ≠ k := fun z => by rw [z] at hx; omega
    rw [f2, if_neg c, f5]
    refine ⟨?_, h5 x x0 x1 hx⟩
    have := (h3 x.toNat (by omega)).2.2.1
    exact this hx
  · rcases hr with z | z
    · refine ⟨rk, fun x hx hq => ?_⟩
      have e : aPr (tNc T k sh ch) H x = aPr T H x := by
        by_cases c : x = k
        · rw [c, ek, z]
        · exact (ep x c).elim id (fun y => absurd hx.1.1 (by omega))
      rw [e] at hq ⊢
      exact hrk x hx hq
    · have hu := h6 sh hs.1 hs.2
      have hc := cEn_m T.length (T.length + 1) _ (Nat.le_succ _) (wSh_en h hu)
      obtain ⟨rk2, hr2⟩ := rk_tu (Pr := aPr T H) (Pr2 := fun x => if x = k then qPr H sh else aPr T H x) (pq := isO T) (o := k) hrk (fun x hx => if_neg hx) (if_pos rfl) hc z
      refine ⟨rk2, fun x hx hq => ?_⟩
      have e : aPr (tNc T k sh ch) H x = (if x = k then qPr H sh else aPr T H x) := by
        by_cases c : x = k
        · rw [if_pos c, c, ek]
        · rw [if_neg c]; exact (ep x c).elim id (fun y => absurd hx.1.1 (by omega))
      rw [e] at hq ⊢
      exact hr2 x hx hq
/-- what bareShape changes of the things -/
theorem aBr_t (hq : q = -1 ∨ isO T q) (x0 : 0 ≤ x) : (tO (aBr T H q).1 x).1 = (tO T x).1 ∧ (tO (aBr T H q).1 x).2.1 = (tO T x).2.1 ∧ (tO (aBr T H q).1 x).2.2.2.2.2 = (tO T x).2.2.2.2.2 := by
  unfold aBr
  split
  · exact ⟨rfl, rfl, rfl⟩
  · rename_i c
    have hq1 := hq.elim (fun z => absurd z c) id
    split
    · have f := tEp_f (e := 0) hq1.1.1 hq1.1.2 x0
      exact ⟨f.1, f.2.1, f.2.2.2.2.1⟩
    · exact ⟨rfl, rfl, rfl⟩
/-- the shapes and things behind reshaped: T and H of it, and its shape -/
abbrev rsT (T : List aO) (H : List aH) (q : Int) : List aO := (aBr T H q).1
abbrev rsH (T : List aO) (H : List aH) (q : Int) (l : List Int) : List aH := (aRb q l (aBr T H q).2.1 (aBr T H q).2.2).1
abbrev rsS (T : List aO) (H : List aH) (q : Int) (l : List Int) : Int := (aRb q l (aBr T H q).2.1 (aBr T H q).2.2).2
theorem rsh_ok {l : List Int} (hw : wSh T H) (hq : q = -1 ∨ isO T q) (hd : nDs l) (hl : ∀ y ∈ l, 0 ≤ y) (hm : (H.length : Int) + aMb H q l ≤ 4001) : wSh (rsT T H q) (rsH T H q l) ∧ (0 ≤ rsS T H q l ∧ rsS T H q l < ((rsH T H q l).length : Int)) ∧ aNs (rsH T H q l) (rsS T H q l) = l ∧ qPr (rsH T H q l) (rsS T H q l) = q ∧ ((rsH T H q l).length : Int) = (H.length : Int) + aMb H q l ∧ (∀ j : Nat, j < H.length → (rsH T H q l).getD j (0, 0, 0, 0) = H.getD j (0, 0, 0, 0)) ∧ (∀ x : Int, isO T x → aPr (rsT T H q) (rsH T H q l) x = aPr T H x) ∧ ∀ x : Int, isO (rsT T H q) x ↔ isO T x := by
  obtain ⟨b1, ⟨b2, b3⟩, b4, b5, b6, b7, b8, b9⟩ := aBr_ok hw hq (l := l) hm
  obtain ⟨i1, i2, i3, i4, i5, i6⟩ := aRb_ok l _ _ b1 b2 b3 b4 hd (fun y hy => ⟨hl y hy, fun z => by rw [b5] at z; exact absurd z List.not_mem_nil⟩) (by omega)
  have g : ∀ j : Nat, j < H.length → (rsH T H q l).getD j (0, 0, 0, 0) = H.getD j (0, 0, 0, 0) := fun j hj => (i6 j (by omega)).trans (b8 j hj)
  refine ⟨i1, i2, by rw [i3, b5]; rfl, i4, by rw [i5]; exact b6, g, fun x hx => ?_, fun x => isO_ag b9 (fun x x0 _ => (aBr_t hq x0).1)⟩
  have hs := wSh_sh hw hx
  unfold aPr
  rw [(aBr_t hq hx.1.1).2.1]
  show ((rsH T H q l).getD (tO T x).2.1.toNat (0, 0, 0, 0)).1 = (H.getD (tO T x).2.1.toNat (0, 0, 0, 0)).1
  rw [g _ (by omega)]
/-- turn keeps what must hold -/
theorem wSh_tu (hw : wSh T H) (hk : isO T k) (hq : q = -1 ∨ isO T q) (hm : (H.length : Int) + aMb H q (fS (-1) (aNs H (tO T k).2.1) 0) ≤ 4001) (hn : hMe (aPr T H) k (T.length + 1) q ≠ 1) : wSh (tNc (rsT T H q) k (rsS T H q (fS (-1) (aNs H (tO T k).2.1) 0)) ch) (rsH T H q (fS (-1) (aNs H (tO T k).2.1) 0)) := by
  have hsh := wSh_sh hw hk
  have hds := nDs_H hw.1 hw.2.1 _ _ hsh.1 hsh.2 rfl
  have e0 : fS (-1) (aNs H (tO T k).2.1) 0 = aNs H (tO T k).2.1 := fS_id _ 0 (by first | decide | omega)
  obtain ⟨r1, r2, r3, r4, r5, r6, r7, r8⟩ := rsh_ok hw hq (nDs_f _ _ hds.1) (fun y hy => hds.2 y (fS_m _ _ y hy)) hm
  have hl : (rsT T H q).length = T.length := (aBr_ok (l := fS (-1) (aNs H (tO T k).2.1) 0) hw hq hm).2.2.2.2.2.2.2
  refine wSh_nc r1 ((r8 k).mpr hk) r2 ?_ (Or.inr ?_)
  · rw [r3, e0, ← (hw.2.2.2.1 k hk).1]
    unfold pNs
    rw [(aBr_t hq hk.1.1).2.2]
  · rw [r4, hl, hMe_cg (pq := isO T) (fun x hx => wSh_pr hw hx) r7 (T.length + 1) q hq]
    exact hn
end Wfo
