/-! PART en: variables and globals are written, by tasks and worlds. -/
section Wen
variable {xs : List (Nat × List Int32)} {d : Nat} {S Z A B : wS} {K Kr : aK} {k v q t a b : Int} {u : aV} {w m : Nat} {L : List aC} {T : List aO} {G : Int → aV} {sl : Nat → List Int} {mk : Nat → Int → Prop} {ml : List Nat}
/-- a step of the class has changed its task, and what mk says -/
def cFm (w : Nat) (mk : Nat → Int → Prop) (S Z : wS) : Prop := (∀ (j : Nat) (x : Int), j < 4000000 → j ≠ wG → (j < w ∨ w + 10 < j) → ¬ mk j x → Z j x = S j x) ∧ (∀ j : Nat, w + 4 ≤ j → j ≤ w + 9 → Z j (-1) = S j (-1)) ∧ gI Z ∧ rmR S Z
theorem cFm_r (h : cFr w S Z) : cFm w mk S Z := ⟨fun j x j0 j1 j2 _ => h.1 j x j0 j1 j2, h.2⟩
theorem cFm_tr (h : cFm w mk S A) (g : cFm w mk A Z) : cFm w mk S Z := ⟨fun j x j0 j1 j2 j3 => (g.1 j x j0 j1 j2 j3).trans (h.1 j x j0 j1 j2 j3), fun j j0 j1 => (g.2.1 j j0 j1).trans (h.2.1 j j0 j1), g.2.2.1, rmR_tr h.2.2.2 g.2.2.2⟩
theorem cFm_up {j : Nat} {i x : Int} (hw : w = 215 ∨ w = 226) (h : cFm w mk S Z) (hi : 0 ≤ i) (hj : (w ≤ j ∧ j ≤ w + 10) ∨ mk j i) (hj2 : j < 237 ∧ j ≠ 14) : cFm w mk S (w_up Z j i x) := by
  have hg : wG = 1000000 := rfl
  refine ⟨fun y z y0 y1 y2 y3 => (w_up_no (fun e => ?_)).trans (h.1 y z y0 y1 y2 y3), fun y y0 y1 => (w_up_at (by omega)).trans (h.2.1 y y0 y1), gI_up h.2.2.1 hi (by omega) (by omega), rmR_up h.2.2.2 hi (by omega)⟩
  rcases hj with q | q
  · omega
  · rw [e.1, e.2] at y3; exact y3 q
/-- a turn of the reference has changed its task, and what mk says -/
def rTm (t : Int) (mk : Nat → Int → Prop) (S Z : wS) : Prop := ∀ (j : Nat) (x : Int), rOut t j x → ¬ mk j x → Z j x = S j x
theorem rTm_r (h : rTf t S Z) : rTm t mk S Z := fun j x o _ => h j x o
theorem rTm_up {j : Nat} {i x : Int} (h : rTm t mk S Z) (hn : ¬ rOut t j i ∨ mk j i) : rTm t mk S (w_up Z j i x) := fun y z o n => (w_up_no (fun q => hn.elim (fun c => c (by rw [← q.1, ← q.2]; exact o)) (fun c => n (by rw [q.1, q.2]; exact c)))).trans (h y z o n)
def cSm (xs : List (Nat × List Int32)) (d w : Nat) (ml : List Nat) (mk : Nat → Int → Prop) (S : wS) (K2 : aK) (P : wS → Prop) : Prop := wJ (pe_GA xs) wY0 (mS ml) (d + 12) t_XK_step ((pe_at t_XK_step.bl 0).getD (0, [])).2 [(0, (2, w))] [] S (fun o Z => o = .inl (some (0, 1)) ∧ cTk w Z K2 ∧ cFm w mk S Z ∧ P Z)
def rSm (xs : List (Nat × List Int32)) (d : Nat) (t : Int) (mk : Nat → Int → Prop) (S : wS) (K2 : aK) (P : wS → Prop) : Prop := rTurn xs d t S (fun Z dn => dn = 1 ∧ rTk t Z K2 ∧ rTm t mk S Z ∧ P Z)
theorem rp_m {P : wS → Prop} (h : stR t S K) (hM : w_ML Z) (h4 : Z 237 154 = (200 * t + (K.2.1.length : Int) - 1)) (h5 : Z 237 155 = q) (hk : rTk t Z Kr) (hK : Kr.2.1.length = K.2.1.length) (hf : rTm t mk S Z) (hP : P (w_up Z 366 (200 * t + (K.2.1.length : Int) - 1) (Z 237 155))) : (w_ML Z ∧ Z 237 154 = (200 * t + (K.2.1.length : Int) - 1)) ∧ rTk t (w_up Z 366 (200 * t + (K.2.1.length : Int) - 1) (Z 237 155)) (kNx Kr q) ∧ rTm t mk S (w_up Z 366 (200 * t + (K.2.1.length : Int) - 1) (Z 237 155)) ∧ P (w_up Z 366 (200 * t + (K.2.1.length : Int) - 1) (Z 237 155)) := by
  obtain ⟨h1, h2, h3, h4b, ⟨h7, h8, h9, h9b⟩, -⟩ := h
  refine ⟨⟨hM, h4⟩, ?_, rTm_up hf (Or.inl (no_f (by decide) (by omega))), hP⟩
  rw [h5, ← hK]
  exact rTk_nx hk (by omega)
/-- the world where the task alone changes -/
theorem cWd_up {j : Nat} {i x : Int} (h : cWd S T L G) (hj : 160 < j) : cWd (w_up S j i x) T L G := cWd_ag h (cTx_of (w_up_slot (by omega)) (fun _ => w_up_slot (by omega))) (fun y z hy => w_up_slot (fun c => by rw [c] at hy; unfold cWo at hy; omega))
theorem rWd_up {j : Nat} {i x : Int} (h : rWd S sl T L G) (hj : 345 ≤ j ∨ (j = 237 ∧ 110 ≤ i)) : rWd (w_up S j i x) sl T L G := by
  have es : ∀ (y : Nat) (z : Int), y < 345 → (y ≠ 237 ∨ z < 110) → (w_up S j i x) y z = S y z := fun y z y0 y1 => w_up_no (by omega)
  exact rWd_ag h (rTx_of (es 237 19 (by decide) (by decide)) (es 237 102 (by decide) (by decide)) (fun y z y0 y1 => es y z (by omega) (by omega))) (fun y z hy => es y z (by unfold rWo at hy; omega) (by unfold rWo at hy; omega))
theorem rWd_366 {i x : Int} (h : rWd S sl T L G) : rWd (w_up S 366 i x) sl T L G := rWd_up h (Or.inl (by decide))
theorem rWd_T0 {x y : Int} (h : rWd S sl T L G) : rWd (w_up (w_up S 237 154 x) 237 155 y) sl T L G := rWd_up (rWd_up h (by decide)) (by decide)
theorem z2_215 (h : stC 215 S K) (hi : cIn S K 2 a b) (hab : (-2147483648 ≤ a ∧ a ≤ 2147483647) ∧ (-2147483648 ≤ b ∧ b ≤ 2147483647)) (hW : cWd S T L G) (ha : 0 ≤ a ∧ a ≤ 100000) (hb : 0 ≤ b ∧ b ≤ 100000) (hj : ∀ j : Nat, j ≤ a.toNat → 0 ≤ cO (aAr L) j (K.2.1.getD (K.2.1.length - 1) (0, 0, 0, (0, 0, []), 0, 0, 0)).2.2.1 ∧ cO (aAr L) j (K.2.1.getD (K.2.1.length - 1) (0, 0, 0, (0, 0, []), 0, 0, 0)).2.2.1 < (L.length : Int)) (hv : b.toNat < (L.getD (cO (aAr L) a.toNat (K.2.1.getD (K.2.1.length - 1) (0, 0, 0, (0, 0, []), 0, 0, 0)).2.2.1).toNat (0, [])).2.length) (hh1 : 1 ≤ K.1.length) : cSm xs d 215 [217, 218] (fun j _ => j = 141 ∨ j = 142) S (kNx K ((K.2.1.getD (K.2.1.length - 1) (0, 0, 0, (0, 0, []), 0, 0, 0)).2.1 + 1)) (fun Z => cWd Z T (L.set (cO (aAr L) a.toNat (K.2.1.getD (K.2.1.length - 1) (0, 0, 0, (0, 0, []), 0, 0, 0)).2.2.1).toNat ((L.getD (cO (aAr L) a.toNat (K.2.1.getD (K.2.1.length - 1) (0, 0, 0, (0, 0, []), 0, 0, 0)).2.2.1).toNat (0, [])).1, (L.getD (cO (aAr L) a.toNat (K.2.1.getD (K.2.1.length - 1) (0, 0, 0, (0, 0, []), 0, 0, 0)).2.2.1).toNat (0, [])).2.set b.toNat (K.1.getD (K.1.length - 1) (0, 0, [])))) G) := by
  obtain ⟨-, hC, -, ⟨⟨n1, n2, n3, n4⟩, n5, ⟨n6, n7⟩, n8, n9⟩, -, -⟩ := id hW
  obtain ⟨h1, ⟨h2, h2b⟩, ⟨h3, h4, h5⟩, -⟩ := id h
  obtain ⟨-, -, r3⟩ := st_row h1 h3
  have e : ∀ n : Nat, n ≤ a.toNat → cO ((w_up S 215 16 0) 139) n (K.2.1.getD (K.2.1.length - 1) (0, 0, 0, (0, 0, []), 0, 0, 0)).2.2.1 = cO (aAr L) n (K.2.1.getD (K.2.1.length - 1) (0, 0, 0, (0, 0, []), 0, 0, 0)).2.2.1 := fun n hq => cO_cg (fun k k0 k1 => (w_up_slot (by decide)).trans (c_ca hC k0 k1).1) n _ (fun j q => hj j (by omega))
  have hy := hj a.toNat (Nat.le_refl _)
  obtain ⟨-, ⟨u1, u2⟩, u3⟩ := c_ca hC hy.1 hy.2
  have eb : ((b.toNat : Nat) : Int) = b := by omega
  have hW2 : cWd (w_up S 215 16 0) T L G := cWd_up hW (by decide)
  have hk : cTk 215 (w_up S 215 16 0) K := cTk_16 h1 (Or.inl rfl)
  have hc := c_at hk (i := K.1.length - 1) (by omega) (j := (K.1.length : Int) - 1) (by omega)
  have hW3 := cWd_sv (i := b.toNat) hW2 hy.1 hy.2 hv hc
  rw [eb, show (w_up S 215 16 0) 138 (cO (aAr L) a.toNat (K.2.1.getD (K.2.1.length - 1) (0, 0, 0, (0, 0, []), 0, 0, 0)).2.2.1) = S 138 (cO (aAr L) a.toNat (K.2.1.getD (K.2.1.length - 1) (0, 0, 0, (0, 0, []), 0, 0, 0)).2.2.1) from w_up_slot (by decide)] at hW3
  have hk2 : ∀ k v : Int, cTk 215 (w_up (w_up (w_up S 215 16 0) 141 (S 138 (cO (aAr L) a.toNat (K.2.1.getD (K.2.1.length - 1) (0, 0, 0, (0, 0, []), 0, 0, 0)).2.2.1) + b) k) 142 (S 138 (cO (aAr L) a.toNat (K.2.1.getD (K.2.1.length - 1) (0, 0, 0, (0, 0, []), 0, 0, 0)).2.2.1) + b) v) K := fun k v => cTk_ag hk (cTx_of ((w_up_slot (by decide)).trans (w_up_slot (by decide))) (fun x => (w_up_slot (by decide)).trans (w_up_slot (by decide)))) (fun j y hj => (w_up_no (by omega)).trans (w_up_no (by omega)))
  refine cg_p_215 h hi.1 hi.2.1 hi.2.2 (by decide) (fun q => by omega) (fun x hx => hx) (by unfold mS; decide) (x2_215 (u := S 138 (cO (aAr L) a.toNat (K.2.1.getD (K.2.1.length - 1) (0, 0, 0, (0, 0, []), 0, 0, 0)).2.2.1)) (m := (L.length : Int)) (xP_of (Or.inl rfl) h) hab ((w_up_slot (by decide)).trans r3) ⟨by omega, by rw [w_up_slot (by decide)]; omega⟩ (by rw [w_up_slot (by decide), w_up_slot (by decide)]; exact n1) ha hb (fun j q => by rw [e j q]; exact hj j q) (by rw [e a.toNat (Nat.le_refl _)]; exact w_up_slot (by decide)) ⟨u1, by rw [w_up_slot (by decide)]; omega⟩ (by rw [w_up_slot (by decide), w_up_slot (by decide)]; exact n5) (by rw [w_up_slot (by decide)]; omega) rfl rfl (by omega)) (fun Z hz => ?_)
  subst hz
  refine ⟨by rw [w_up_slot (by decide), w_up_slot (by decide), w_up_slot (by decide), w_up_same], cTk_nx (hk2 _ _) (Or.inl rfl) h3, ?_, cWd_up hW3 (by decide)⟩
  exact cFm_up (Or.inl rfl) (cFm_up (Or.inl rfl) (cFm_up (Or.inl rfl) (cFm_r (cFr_up (Or.inl rfl) (cFr_rfl h2b) (by decide) (by omega))) (by omega) (Or.inr (Or.inl rfl)) (by decide)) (by omega) (Or.inr (Or.inr rfl)) (by decide)) (by omega) (Or.inl (by decide)) (by decide)
theorem z4_215 (h : stC 215 S K) (hi : cIn S K 4 a b) (hab : (-2147483648 ≤ a ∧ a ≤ 2147483647) ∧ (-2147483648 ≤ b ∧ b ≤ 2147483647)) (hW : cWd S T L G) (ha : 0 ≤ a ∧ a < 4000) (hh1 : 1 ≤ K.1.length) : cSm xs d 215 [217, 218, 154, 155] (fun j x => (j = 153 ∧ x = 2) ∨ j = 154 ∨ j = 155) S (kNx K ((K.2.1.getD (K.2.1.length - 1) (0, 0, 0, (0, 0, []), 0, 0, 0)).2.1 + 1)) (fun Z => cWd Z T L (aGs G a (K.1.getD (K.1.length - 1) (0, 0, [])))) := by
  have hg : wG = 1000000 := rfl
  obtain ⟨w1, w2, w3, w4, w5, w6⟩ := id hW
  obtain ⟨⟨g1, g2, g3, g4, g5⟩, -, -⟩ := id w6
  obtain ⟨h1, ⟨h2, h2b⟩, ⟨h3, h4, h5⟩, -⟩ := id h
  have hk : cTk 215 (w_up S 215 16 0) K := cTk_16 h1 (Or.inl rfl)
  have hc := c_at hk (i := K.1.length - 1) (by omega) (j := (K.1.length : Int) - 1) (by omega)
  have hW2 : cWd (w_up S 215 16 0) T L G := cWd_up hW (by decide)
  refine cg_p_215 (R := fun Z => ∃ B : wS, gs_ag a (w_up S 215 16 0) B ∧ w_up (w_up (w_up B 154 a ((w_up S 215 16 0) 217 ((K.1.length : Int) - 1))) 155 a ((w_up S 215 16 0) 218 ((K.1.length : Int) - 1))) 220 ((K.2.1.length : Int) - 1) ((K.2.1.getD (K.2.1.length - 1) (0, 0, 0, (0, 0, []), 0, 0, 0)).2.1 + 1) = Z) h hi.1 hi.2.1 hi.2.2 (by decide) (fun q => by omega) (by decide) (by unfold mS; decide) (wJ_M (x4_215 (xP_of (Or.inl rfl) h) hab (w_up_slot (by decide)) ⟨g1, by rw [w_up_slot (by decide)]; omega⟩ (by rw [w_up_slot (by decide), w_up_slot (by decide)]; exact g5) ha.1 ⟨by omega, by rw [w_up_slot (by decide)]; omega⟩ rfl rfl (by omega)) (mS_s (by decide))) (fun Z hz => ?_)
  obtain ⟨B, hB, rfl⟩ := hz
  obtain ⟨q1, q2, q3, q4, q5, q6, q7⟩ := id hB
  have eB : ∀ (k v : Int) (j : Nat) (x : Int), j < 4000000 → j ≠ wG → j ≠ 154 → j ≠ 155 → (j ≠ 153 ∨ x ≠ 2) → (w_up (w_up B 154 a k) 155 a v) j x = (w_up S 215 16 0) j x := fun k v j x j0 j1 j2 j3 j4 => (w_up_slot j3).trans ((w_up_slot j2).trans (q4 j x j0 j1 j2 j3 j4))
  have eT : ∀ k v : Int, cTx (w_up S 215 16 0) (w_up (w_up B 154 a k) 155 a v) := fun k v => cTx_of (eB k v 2 1 (by decide) (by decide) (by decide) (by decide) (by decide)) (fun x => eB k v 3 x (by decide) (by decide) (by decide) (by decide) (Or.inl (by decide)))
  have hk2 : ∀ k v : Int, cTk 215 (w_up (w_up B 154 a k) 155 a v) K := fun k v => cTk_ag hk (eT k v) (fun j y hj => eB k v j y (by omega) (by omega) (by omega) (by omega) (by omega))
  refine ⟨?_, cTk_nx (hk2 _ _) (Or.inl rfl) h3, ?_, cWd_up ?_ (by decide)⟩
  · rw [w_up_slot (by decide), eB _ _ 215 16 (by decide) (by decide) (by decide) (by decide) (by decide), w_up_same]
  · have f0 : cFm 215 (fun j x => (j = 153 ∧ x = 2) ∨ j = 154 ∨ j = 155) S (w_up S 215 16 0) := cFm_r (cFr_up (Or.inl rfl) (cFr_rfl h2b) (by decide) (by omega))
    have f1 : cFm 215 (fun j x => (j = 153 ∧ x = 2) ∨ j = 154 ∨ j = 155) S B := cFm_tr f0 ⟨fun j x j0 j1 j2 j3 => q4 j x j0 j1 (by omega) (by omega) (by omega), fun j j0 j1 => q4 j (-1) (by omega) (by omega) (by omega) (by omega) (by omega), q6, q7⟩
    exact cFm_up (Or.inl rfl) (cFm_up (Or.inl rfl) (cFm_up (Or.inl rfl) f1 (by omega) (Or.inr (Or.inr (Or.inl rfl))) (by decide)) (by omega) (Or.inr (Or.inr (Or.inr rfl))) (by decide)) (by omega) (Or.inl (by decide)) (by decide)
  · obtain ⟨v1, v2, v3, ⟨⟨n1, n2, n3, n4⟩, n5, ⟨n6, n7⟩, n8, n9⟩, ⟨t1, t2⟩, v6⟩ := hW2
    have ez : ∀ (j : Nat) (x : Int), j < 153 → (w_up (w_up B 154 a ((w_up S 215 16 0) 217 ((K.1.length : Int) - 1))) 155 a ((w_up S 215 16 0) 218 ((K.1.length : Int) - 1))) j x = (w_up S 215 16 0) j x := fun j x j0 => eB _ _ j x (by omega) (by omega) (by omega) (by omega) (by omega)
    refine ⟨cTh_mo v1 (eT _ _) (ez 72 3 (by decide)) (fun j x j0 j1 _ _ => ez j x (by omega)) (Int.le_of_eq (ez 140 2 (by decide)).symm) (fun k i _ _ _ => ⟨ez 141 i (by decide), ez 142 i (by decide)⟩), cCa_mo v2 (eT _ _) (ez 72 5 (by decide)) (fun x _ _ => ⟨ez 138 x (by decide), ez 139 x (by decide)⟩) (Int.le_of_eq (ez 140 2 (by decide)).symm) (fun k i _ _ _ => ⟨ez 141 i (by decide), ez 142 i (by decide)⟩), cAp_mo v3 (fun x _ _ => ⟨ez 133 x (by decide), ez 135 x (by decide)⟩) (fun x _ _ => ez 138 x (by decide)), ?_, ?_, cGl_st v6 hB (by omega) hc⟩
    · unfold cLc
      rw [ez 138 _ (by decide), ez 139 _ (by decide), ez 140 _ (by decide), ez 141 _ (by decide), ez 142 _ (by decide)]
      exact ⟨⟨n1, n2, n3, n4⟩, n5, ⟨n6, n7⟩, n8, n9⟩
    · refine ⟨fun x hx => ?_, ?_⟩
      · rw [ez (127 + x) _ (by omega), ez 127 _ (by decide)]; exact t1 x hx
      · rw [ez 127 _ (by decide)]; exact t2
theorem z2_226 (h : stC 226 S K) (hi : cIn S K 2 a b) (hab : (-2147483648 ≤ a ∧ a ≤ 2147483647) ∧ (-2147483648 ≤ b ∧ b ≤ 2147483647)) (hW : cWd S T L G) (ha : 0 ≤ a ∧ a ≤ 100000) (hb : 0 ≤ b ∧ b ≤ 100000) (hj : ∀ j : Nat, j ≤ a.toNat → 0 ≤ cO (aAr L) j (K.2.1.getD (K.2.1.length - 1) (0, 0, 0, (0, 0, []), 0, 0, 0)).2.2.1 ∧ cO (aAr L) j (K.2.1.getD (K.2.1.length - 1) (0, 0, 0, (0, 0, []), 0, 0, 0)).2.2.1 < (L.length : Int)) (hv : b.toNat < (L.getD (cO (aAr L) a.toNat (K.2.1.getD (K.2.1.length - 1) (0, 0, 0, (0, 0, []), 0, 0, 0)).2.2.1).toNat (0, [])).2.length) (hh1 : 1 ≤ K.1.length) : cSm xs d 226 [228, 229] (fun j _ => j = 141 ∨ j = 142) S (kNx K ((K.2.1.getD (K.2.1.length - 1) (0, 0, 0, (0, 0, []), 0, 0, 0)).2.1 + 1)) (fun Z => cWd Z T (L.set (cO (aAr L) a.toNat (K.2.1.getD (K.2.1.length - 1) (0, 0, 0, (0, 0, []), 0, 0, 0)).2.2.1).toNat ((L.getD (cO (aAr L) a.toNat (K.2.1.getD (K.2.1.length - 1) (0, 0, 0, (0, 0, []), 0, 0, 0)).2.2.1).toNat (0, [])).1, (L.getD (cO (aAr L) a.toNat (K.2.1.getD (K.2.1.length - 1) (0, 0, 0, (0, 0, []), 0, 0, 0)).2.2.1).toNat (0, [])).2.set b.toNat (K.1.getD (K.1.length - 1) (0, 0, [])))) G) := by
  obtain ⟨-, hC, -, ⟨⟨n1, n2, n3, n4⟩, n5, ⟨n6, n7⟩, n8, n9⟩, -, -⟩ := id hW
  obtain ⟨h1, ⟨h2, h2b⟩, ⟨h3, h4, h5⟩, -⟩ := id h
  obtain ⟨-, -, r3⟩ := st_row h1 h3
  have e : ∀ n : Nat, n ≤ a.toNat → cO ((w_up S 226 16 0) 139) n (K.2.1.getD (K.2.1.length - 1) (0, 0, 0, (0, 0, []), 0, 0, 0)).2.2.1 = cO (aAr L) n (K.2.1.getD (K.2.1.length - 1) (0, 0, 0, (0, 0, []), 0, 0, 0)).2.2.1 := fun n hq => cO_cg (fun k k0 k1 => (w_up_slot (by decide)).trans (c_ca hC k0 k1).1) n _ (fun j q => hj j (by omega))
  have hy := hj a.toNat (Nat.le_refl _)
  obtain ⟨-, ⟨u1, u2⟩, u3⟩ := c_ca hC hy.1 hy.2
  have eb : ((b.toNat : Nat) : Int) = b := by omega
  have hW2 : cWd (w_up S 226 16 0) T L G := cWd_up hW (by decide)
  have hk : cTk 226 (w_up S 226 16 0) K := cTk_16 h1 (Or.inr rfl)
  have hc := c_at hk (i := K.1.length - 1) (by omega) (j := (K.1.length : Int) - 1) (by omega)
  have hW3 := cWd_sv (i := b.toNat) hW2 hy.1 hy.2 hv hc
  rw [eb, show (w_up S 226 16 0) 138 (cO (aAr L) a.toNat (K.2.1.getD (K.2.1.length - 1) (0, 0, 0, (0, 0, []), 0, 0, 0)).2.2.1) = S 138 (cO (aAr L) a.toNat (K.2.1.getD (K.2.1.length - 1) (0, 0, 0, (0, 0, []), 0, 0, 0)).2.2.1) from w_up_slot (by decide)] at hW3
  have hk2 : ∀ k v : Int, cTk 226 (w_up (w_up (w_up S 226 16 0) 141 (S 138 (cO (aAr L) a.toNat (K.2.1.getD (K.2.1.length - 1) (0, 0, 0, (0, 0, []), 0, 0, 0)).2.2.1) + b) k) 142 (S 138 (cO (aAr L) a.toNat (K.2.1.getD (K.2.1.length - 1) (0, 0, 0, (0, 0, []), 0, 0, 0)).2.2.1) + b) v) K := fun k v => cTk_ag hk (cTx_of ((w_up_slot (by decide)).trans (w_up_slot (by decide))) (fun x => (w_up_slot (by decide)).trans (w_up_slot (by decide)))) (fun j y hj => (w_up_no (by omega)).trans (w_up_no (by omega)))
  refine cg_p_226 h hi.1 hi.2.1 hi.2.2 (by decide) (fun q => by omega) (fun x hx => hx) (by unfold mS; decide) (x2_226 (u := S 138 (cO (aAr L) a.toNat (K.2.1.getD (K.2.1.length - 1) (0, 0, 0, (0, 0, []), 0, 0, 0)).2.2.1)) (m := (L.length : Int)) (xP_of (Or.inr rfl) h) hab ((w_up_slot (by decide)).trans r3) ⟨by omega, by rw [w_up_slot (by decide)]; omega⟩ (by rw [w_up_slot (by decide), w_up_slot (by decide)]; exact n1) ha hb (fun j q => by rw [e j q]; exact hj j q) (by rw [e a.toNat (Nat.le_refl _)]; exact w_up_slot (by decide)) ⟨u1, by rw [w_up_slot (by decide)]; omega⟩ (by rw [w_up_slot (by decide), w_up_slot (by decide)]; exact n5) (by rw [w_up_slot (by decide)]; omega) rfl rfl (by omega)) (fun Z hz => ?_)
  subst hz
  refine ⟨by rw [w_up_slot (by decide), w_up_slot (by decide), w_up_slot (by decide), w_up_same], cTk_nx (hk2 _ _) (Or.inr rfl) h3, ?_, cWd_up hW3 (by decide)⟩
  exact cFm_up (Or.inr rfl) (cFm_up (Or.inr rfl) (cFm_up (Or.inr rfl) (cFm_r (cFr_up (Or.inr rfl) (cFr_rfl h2b) (by decide) (by omega))) (by omega) (Or.inr (Or.inl rfl)) (by decide)) (by omega) (Or.inr (Or.inr rfl)) (by decide)) (by omega) (Or.inl (by decide)) (by decide)
theorem z4_226 (h : stC 226 S K) (hi : cIn S K 4 a b) (hab : (-2147483648 ≤ a ∧ a ≤ 2147483647) ∧ (-2147483648 ≤ b ∧ b ≤ 2147483647)) (hW : cWd S T L G) (ha : 0 ≤ a ∧ a < 4000) (hh1 : 1 ≤ K.1.length) : cSm xs d 226 [228, 229, 154, 155] (fun j x => (j = 153 ∧ x = 2) ∨ j = 154 ∨ j = 155) S (kNx K ((K.2.1.getD (K.2.1.length - 1) (0, 0, 0, (0, 0, []), 0, 0, 0)).2.1 + 1)) (fun Z => cWd Z T L (aGs G a (K.1.getD (K.1.length - 1) (0, 0, [])))) := by
  have hg : wG = 1000000 := rfl
  obtain ⟨w1, w2, w3, w4, w5, w6⟩ := id hW
  obtain ⟨⟨g1, g2, g3, g4, g5⟩, -, -⟩ := id w6
  obtain ⟨h1, ⟨h2, h2b⟩, ⟨h3, h4, h5⟩, -⟩ := id h
  have hk : cTk 226 (w_up S 226 16 0) K := cTk_16 h1 (Or.inr rfl)
  have hc := c_at hk (i := K.1.length - 1) (by omega) (j := (K.1.length : Int) - 1) (by omega)
  have hW2 : cWd (w_up S 226 16 0) T L G := cWd_up hW (by decide)
  refine cg_p_226 (R := fun Z => ∃ B : wS, gs_ag a (w_up S 226 16 0) B ∧ w_up (w_up (w_up B 154 a ((w_up S 226 16 0) 228 ((K.1.length : Int) - 1))) 155 a ((w_up S 226 16 0) 229 ((K.1.length : Int) - 1))) 231 ((K.2.1.length : Int) - 1) ((K.2.1.getD (K.2.1.length - 1) (0, 0, 0, (0, 0, []), 0, 0, 0)).2.1 + 1) = Z) h hi.1 hi.2.1 hi.2.2 (by decide) (fun q => by omega) (by decide) (by unfold mS; decide) (wJ_M (x4_226 (xP_of (Or.inr rfl) h) hab (w_up_slot (by decide)) ⟨g1, by rw [w_up_slot (by decide)]; omega⟩ (by rw [w_up_slot (by decide), w_up_slot (by decide)]; exact g5) ha.1 ⟨by omega, by rw [w_up_slot (by decide)]; omega⟩ rfl rfl (by omega)) (mS_s (by decide))) (fun Z hz => ?_)
  obtain ⟨B, hB, rfl⟩ := hz
  obtain ⟨q1, q2, q3, q4, q5, q6, q7⟩ := id hB
  have eB : ∀ (k v : Int) (j : Nat) (x : Int), j < 4000000 → j ≠ wG → j ≠ 154 → j ≠ 155 → (j ≠ 153 ∨ x ≠ 2) → (w_up (w_up B 154 a k) 155 a v) j x = (w_up S 226 16 0) j x := fun k v j x j0 j1 j2 j3 j4 => (w_up_slot j3).trans ((w_up_slot j2).trans (q4 j x j0 j1 j2 j3 j4))
  have eT : ∀ k v : Int, cTx (w_up S 226 16 0) (w_up (w_up B 154 a k) 155 a v) := fun k v => cTx_of (eB k v 2 1 (by decide) (by decide) (by decide) (by decide) (by decide)) (fun x => eB k v 3 x (by decide) (by decide) (by decide) (by decide) (Or.inl (by decide)))
  have hk2 : ∀ k v : Int, cTk 226 (w_up (w_up B 154 a k) 155 a v) K := fun k v => cTk_ag hk (eT k v) (fun j y hj => eB k v j y (by omega) (by omega) (by omega) (by omega) (by omega))
  refine ⟨?_, cTk_nx (hk2 _ _) (Or.inr rfl) h3, ?_, cWd_up ?_ (by decide)⟩
  · rw [w_up_slot (by decide), eB _ _ 226 16 (by decide) (by decide) (by decide) (by decide) (by decide), w_up_same]
  · have f0 : cFm 226 (fun j x => (j = 153 ∧ x = 2) ∨ j = 154 ∨ j = 155) S (w_up S 226 16 0) := cFm_r (cFr_up (Or.inr rfl) (cFr_rfl h2b) (by decide) (by omega))
    have f1 : cFm 226 (fun j x => (j = 153 ∧ x = 2) ∨ j = 154 ∨ j = 155) S B := cFm_tr f0 ⟨fun j x j0 j1 j2 j3 => q4 j x j0 j1 (by omega) (by omega) (by omega), fun j j0 j1 => q4 j (-1) (by omega) (by omega) (by omega) (by omega) (by omega), q6, q7⟩
    exact cFm_up (Or.inr rfl) (cFm_up (Or.inr rfl) (cFm_up (Or.inr rfl) f1 (by omega) (Or.inr (Or.inr (Or.inl rfl))) (by decide)) (by omega) (Or.inr (Or.inr (Or.inr rfl))) (by decide)) (by omega) (Or.inl (by decide)) (by decide)
  · obtain ⟨v1, v2, v3, ⟨⟨n1, n2, n3, n4⟩, n5, ⟨n6, n7⟩, n8, n9⟩, ⟨t1, t2⟩, v6⟩ := hW2
    have ez : ∀ (j : Nat) (x : Int), j < 153 → (w_up (w_up B 154 a ((w_up S 226 16 0) 228 ((K.1.length : Int) - 1))) 155 a ((w_up S 226 16 0) 229 ((K.1.length : Int) - 1))) j x = (w_up S 226 16 0) j x := fun j x j0 => eB _ _ j x (by omega) (by omega) (by omega) (by omega) (by omega)
    refine ⟨cTh_mo v1 (eT _ _) (ez 72 3 (by decide)) (fun j x j0 j1 _ _ => ez j x (by omega)) (Int.le_of_eq (ez 140 2 (by decide)).symm) (fun k i _ _ _ => ⟨ez 141 i (by decide), ez 142 i (by decide)⟩), cCa_mo v2 (eT _ _) (ez 72 5 (by decide)) (fun x _ _ => ⟨ez 138 x (by decide), ez 139 x (by decide)⟩) (Int.le_of_eq (ez 140 2 (by decide)).symm) (fun k i _ _ _ => ⟨ez 141 i (by decide), ez 142 i (by decide)⟩), cAp_mo v3 (fun x _ _ => ⟨ez 133 x (by decide), ez 135 x (by decide)⟩) (fun x _ _ => ez 138 x (by decide)), ?_, ?_, cGl_st v6 hB (by omega) hc⟩
    · unfold cLc
      rw [ez 138 _ (by decide), ez 139 _ (by decide), ez 140 _ (by decide), ez 141 _ (by decide), ez 142 _ (by decide)]
      exact ⟨⟨n1, n2, n3, n4⟩, n5, ⟨n6, n7⟩, n8, n9⟩
    · refine ⟨fun x hx => ?_, ?_⟩
      · rw [ez (127 + x) _ (by omega), ez 127 _ (by decide)]; exact t1 x hx
      · rw [ez 127 _ (by decide)]; exact t2
theorem rn2 (h : stR t S K) (hs : S 357 t = 1) (hi : rIn S K 2 a b) (hab : (-2147483648 ≤ a ∧ a ≤ 2147483647) ∧ (-2147483648 ≤ b ∧ b ≤ 2147483647)) (hW : rWd S sl T L G) (ha : 0 ≤ a ∧ a ≤ 100000) (hb : 0 ≤ b ∧ b ≤ 100000) (hj : ∀ j : Nat, j ≤ a.toNat → 0 ≤ cO (aAr L) j (K.2.1.getD (K.2.1.length - 1) (0, 0, 0, (0, 0, []), 0, 0, 0)).2.2.1 ∧ cO (aAr L) j (K.2.1.getD (K.2.1.length - 1) (0, 0, 0, (0, 0, []), 0, 0, 0)).2.2.1 < (L.length : Int)) (hv : b.toNat < (L.getD (cO (aAr L) a.toNat (K.2.1.getD (K.2.1.length - 1) (0, 0, 0, (0, 0, []), 0, 0, 0)).2.2.1).toNat (0, [])).2.length) (hh1 : 1 ≤ K.1.length) : rSm xs d t (fun j _ => j = 335 ∨ j = 336) S (kNx K ((K.2.1.getD (K.2.1.length - 1) (0, 0, 0, (0, 0, []), 0, 0, 0)).2.1 + 1)) (fun Z => rWd Z sl T (L.set (cO (aAr L) a.toNat (K.2.1.getD (K.2.1.length - 1) (0, 0, 0, (0, 0, []), 0, 0, 0)).2.2.1).toNat ((L.getD (cO (aAr L) a.toNat (K.2.1.getD (K.2.1.length - 1) (0, 0, 0, (0, 0, []), 0, 0, 0)).2.2.1).toNat (0, [])).1, (L.getD (cO (aAr L) a.toNat (K.2.1.getD (K.2.1.length - 1) (0, 0, 0, (0, 0, []), 0, 0, 0)).2.2.1).toNat (0, [])).2.set b.toNat (K.1.getD (K.1.length - 1) (0, 0, [])))) G) := by
  obtain ⟨-, hC, -, hn, -⟩ := id hW
  obtain ⟨h1, h2, h3, h4b, ⟨h7, h8, h9, h9b⟩, -⟩ := id h
  obtain ⟨-, -, r3⟩ := sr_row h1 h7
  have e : ∀ n : Nat, n ≤ a.toNat → cO ((w_up (w_up S 237 154 (200 * t + (K.2.1.length : Int) - 1)) 237 155 ((K.2.1.getD (K.2.1.length - 1) (0, 0, 0, (0, 0, []), 0, 0, 0)).2.1 + 1)) 333) n (K.2.1.getD (K.2.1.length - 1) (0, 0, 0, (0, 0, []), 0, 0, 0)).2.2.1 = cO (aAr L) n (K.2.1.getD (K.2.1.length - 1) (0, 0, 0, (0, 0, []), 0, 0, 0)).2.2.1 := fun n hq => cO_cg (fun k k0 k1 => r_16 (r_ca hC k0 k1).1 (by decide)) n _ (fun j q => hj j (by omega))
  have hy := hj a.toNat (Nat.le_refl _)
  obtain ⟨-, ⟨u1, u2⟩, u3⟩ := r_ca hC hy.1 hy.2
  have eb : ((b.toNat : Nat) : Int) = b := by omega
  have hW2 : rWd (w_up (w_up S 237 154 (200 * t + (K.2.1.length : Int) - 1)) 237 155 ((K.2.1.getD (K.2.1.length - 1) (0, 0, 0, (0, 0, []), 0, 0, 0)).2.1 + 1)) sl T L G := rWd_T0 hW
  have hk : rTk t (w_up (w_up S 237 154 (200 * t + (K.2.1.length : Int) - 1)) 237 155 ((K.2.1.getD (K.2.1.length - 1) (0, 0, 0, (0, 0, []), 0, 0, 0)).2.1 + 1)) K := T0_k h1
  have hc := r_at hk (i := K.1.length - 1) (by omega) (j := 2100 * t + (K.1.length : Int) - 1) (by omega)
  have hW3 := rWd_sv (i := b.toNat) hW2 hy.1 hy.2 hv hc
  rw [eb, show (w_up (w_up S 237 154 (200 * t + (K.2.1.length : Int) - 1)) 237 155 ((K.2.1.getD (K.2.1.length - 1) (0, 0, 0, (0, 0, []), 0, 0, 0)).2.1 + 1)) 334 (cO (aAr L) a.toNat (K.2.1.getD (K.2.1.length - 1) (0, 0, 0, (0, 0, []), 0, 0, 0)).2.2.1) = S 334 (cO (aAr L) a.toNat (K.2.1.getD (K.2.1.length - 1) (0, 0, 0, (0, 0, []), 0, 0, 0)).2.2.1) from r_16 rfl (by decide)] at hW3
  have es : ∀ (k v : Int) (j : Nat) (x : Int), j ≠ 335 → j ≠ 336 → (w_up (w_up (w_up (w_up S 237 154 (200 * t + (K.2.1.length : Int) - 1)) 237 155 ((K.2.1.getD (K.2.1.length - 1) (0, 0, 0, (0, 0, []), 0, 0, 0)).2.1 + 1)) 335 (S 334 (cO (aAr L) a.toNat (K.2.1.getD (K.2.1.length - 1) (0, 0, 0, (0, 0, []), 0, 0, 0)).2.2.1) + b) k) 336 (S 334 (cO (aAr L) a.toNat (K.2.1.getD (K.2.1.length - 1) (0, 0, 0, (0, 0, []), 0, 0, 0)).2.2.1) + b) v) j x = (w_up (w_up S 237 154 (200 * t + (K.2.1.length : Int) - 1)) 237 155 ((K.2.1.getD (K.2.1.length - 1) (0, 0, 0, (0, 0, []), 0, 0, 0)).2.1 + 1)) j x := fun k v j x j0 j1 => (w_up_slot j1).trans (w_up_slot j0)
  have hk2 : ∀ k v : Int, rTk t (w_up (w_up (w_up (w_up S 237 154 (200 * t + (K.2.1.length : Int) - 1)) 237 155 ((K.2.1.getD (K.2.1.length - 1) (0, 0, 0, (0, 0, []), 0, 0, 0)).2.1 + 1)) 335 (S 334 (cO (aAr L) a.toNat (K.2.1.getD (K.2.1.length - 1) (0, 0, 0, (0, 0, []), 0, 0, 0)).2.2.1) + b) k) 336 (S 334 (cO (aAr L) a.toNat (K.2.1.getD (K.2.1.length - 1) (0, 0, 0, (0, 0, []), 0, 0, 0)).2.2.1) + b) v) K := fun k v => rTk_ag hk (rTx_of (es k v 237 19 (by decide) (by decide)) (es k v 237 102 (by decide) (by decide)) (fun j x j0 j1 => es k v j x (by omega) (by omega))) ⟨fun j hj => es k v j t (by omega) (by omega), fun j i j0 j1 _ _ => es k v j i (by omega) (by omega), fun j i j0 j1 _ _ => es k v j i (by omega) (by omega)⟩ (es k v 359 t (by decide) (by decide)) (fun i _ _ => ⟨es k v 363 i (by decide) (by decide), es k v 364 i (by decide) (by decide)⟩)
  refine rg_v h hs hi.1 hi.2.1 hi.2.2 (by decide) (y2 (u := S 334 (cO (aAr L) a.toNat (K.2.1.getD (K.2.1.length - 1) (0, 0, 0, (0, 0, []), 0, 0, 0)).2.2.1)) (m := (L.length : Int)) (mP_of h) hab (r_16 r3 (by decide)) ⟨by omega, by omega⟩ ha hb (fun j q => by rw [e j q]; exact hj j q) (e a.toNat (Nat.le_refl _)) (r_16 rfl (by decide)) ⟨u1, by omega⟩ rfl rfl (by omega)) (fun Z hz => ?_)
  subst hz
  exact rp_m (P := fun Z => rWd Z sl T (L.set (cO (aAr L) a.toNat (K.2.1.getD (K.2.1.length - 1) (0, 0, 0, (0, 0, []), 0, 0, 0)).2.2.1).toNat ((L.getD (cO (aAr L) a.toNat (K.2.1.getD (K.2.1.length - 1) (0, 0, 0, (0, 0, []), 0, 0, 0)).2.2.1).toNat (0, [])).1, (L.getD (cO (aAr L) a.toNat (K.2.1.getD (K.2.1.length - 1) (0, 0, 0, (0, 0, []), 0, 0, 0)).2.2.1).toNat (0, [])).2.set b.toNat (K.1.getD (K.1.length - 1) (0, 0, [])))) G) h (w_ML_up (w_ML_up (T0_ml h2) (by omega)) (by omega)) ((es _ _ 237 154 (by decide) (by decide)).trans T0_4) ((es _ _ 237 155 (by decide) (by decide)).trans T0_5) (hk2 _ _) rfl (rTm_up (rTm_up (rTm_r T0_f) (Or.inr (Or.inl rfl))) (Or.inr (Or.inr rfl))) (rWd_366 hW3)
theorem rn4 (h : stR t S K) (hs : S 357 t = 1) (hi : rIn S K 4 a b) (hab : (-2147483648 ≤ a ∧ a ≤ 2147483647) ∧ (-2147483648 ≤ b ∧ b ≤ 2147483647)) (hW : rWd S sl T L G) (ha : 0 ≤ a ∧ a < 4000) (hh1 : 1 ≤ K.1.length) (hu : (K.1.getD (K.1.length - 1) (0, 0, [])).1 ≠ -1) : rSm xs d t (fun j _ => 337 ≤ j ∧ j ≤ 339) S (kNx K ((K.2.1.getD (K.2.1.length - 1) (0, 0, 0, (0, 0, []), 0, 0, 0)).2.1 + 1)) (fun Z => rWd Z sl T L (aGs G a (K.1.getD (K.1.length - 1) (0, 0, [])))) := by
  obtain ⟨h1, h2, h3, h4b, ⟨h7, h8, h9, h9b⟩, -⟩ := id h
  have hk : rTk t (w_up (w_up S 237 154 (200 * t + (K.2.1.length : Int) - 1)) 237 155 ((K.2.1.getD (K.2.1.length - 1) (0, 0, 0, (0, 0, []), 0, 0, 0)).2.1 + 1)) K := T0_k h1
  have hc := r_at hk (i := K.1.length - 1) (by omega) (j := 2100 * t + (K.1.length : Int) - 1) (by omega)
  have es : ∀ (k v : Int) (j : Nat) (x : Int), j ≠ 337 → j ≠ 338 → j ≠ 339 → (w_up (w_up (w_up (w_up (w_up S 237 154 (200 * t + (K.2.1.length : Int) - 1)) 237 155 ((K.2.1.getD (K.2.1.length - 1) (0, 0, 0, (0, 0, []), 0, 0, 0)).2.1 + 1)) 337 a 1) 338 a k) 339 a v) j x = (w_up (w_up S 237 154 (200 * t + (K.2.1.length : Int) - 1)) 237 155 ((K.2.1.getD (K.2.1.length - 1) (0, 0, 0, (0, 0, []), 0, 0, 0)).2.1 + 1)) j x := fun k v j x j0 j1 j2 => (w_up_slot j2).trans ((w_up_slot j1).trans (w_up_slot j0))
  have eT : ∀ k v : Int, rTx (w_up (w_up S 237 154 (200 * t + (K.2.1.length : Int) - 1)) 237 155 ((K.2.1.getD (K.2.1.length - 1) (0, 0, 0, (0, 0, []), 0, 0, 0)).2.1 + 1)) (w_up (w_up (w_up (w_up (w_up S 237 154 (200 * t + (K.2.1.length : Int) - 1)) 237 155 ((K.2.1.getD (K.2.1.length - 1) (0, 0, 0, (0, 0, []), 0, 0, 0)).2.1 + 1)) 337 a 1) 338 a k) 339 a v) := fun k v => rTx_of (es k v 237 19 (by decide) (by decide) (by decide)) (es k v 237 102 (by decide) (by decide) (by decide)) (fun j x j0 j1 => es k v j x (by omega) (by omega) (by omega))
  have hk2 : ∀ k v : Int, rTk t (w_up (w_up (w_up (w_up (w_up S 237 154 (200 * t + (K.2.1.length : Int) - 1)) 237 155 ((K.2.1.getD (K.2.1.length - 1) (0, 0, 0, (0, 0, []), 0, 0, 0)).2.1 + 1)) 337 a 1) 338 a k) 339 a v) K := fun k v => rTk_ag hk (eT k v) ⟨fun j hj => es k v j t (by omega) (by omega) (by omega), fun j i j0 j1 _ _ => es k v j i (by omega) (by omega) (by omega), fun j i j0 j1 _ _ => es k v j i (by omega) (by omega) (by omega)⟩ (es k v 359 t (by decide) (by decide) (by decide)) (fun i _ _ => ⟨es k v 363 i (by decide) (by decide) (by decide), es k v 364 i (by decide) (by decide) (by decide)⟩)
  obtain ⟨v1, v2, v3, v4, v5⟩ := rWd_T0 (x := (200 * t + (K.2.1.length : Int) - 1)) (y := (K.2.1.getD (K.2.1.length - 1) (0, 0, 0, (0, 0, []), 0, 0, 0)).2.1 + 1) hW
  refine rg_v h hs hi.1 hi.2.1 hi.2.2 (by decide) (y4 (mP_of h) hab ha rfl rfl (by omega)) (fun Z hz => ?_)
  subst hz
  refine rp_m (P := fun Z => rWd Z sl T L (aGs G a (K.1.getD (K.1.length - 1) (0, 0, [])))) h (w_ML_up (w_ML_up (w_ML_up (T0_ml h2) (by omega)) (by omega)) (by omega)) ((es _ _ 237 154 (by decide) (by decide) (by decide)).trans T0_4) ((es _ _ 237 155 (by decide) (by decide) (by decide)).trans T0_5) (hk2 _ _) rfl (rTm_up (rTm_up (rTm_up (rTm_r T0_f) (Or.inr (by decide))) (Or.inr (by decide))) (Or.inr (by decide))) (rWd_366 ⟨rTh_mo v1 (eT _ _) (es _ _ 237 68 (by decide) (by decide) (by decide)) (es _ _ 237 82 (by decide) (by decide) (by decide)) (fun j x j0 j1 => es _ _ j x (by omega) (by omega) (by omega)), rCa_mo v2 (eT _ _) (es _ _ 237 69 (by decide) (by decide) (by decide)) (es _ _ 237 94 (by decide) (by decide) (by decide)) (fun j x j0 j1 => es _ _ j x (by omega) (by omega) (by omega)), fun k q hq hr => ?_, ?_, rGl_st v5 hc hu⟩)
  · rw [es _ _ 334 _ (by decide) (by decide) (by decide), es _ _ 334 _ (by decide) (by decide) (by decide)]; exact v3 k q hq hr
  · rw [es _ _ 237 94 (by decide) (by decide) (by decide)]; exact v4
end Wen
