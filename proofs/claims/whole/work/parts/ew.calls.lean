/-! PART ew: a call begins, task and world of both. -/
section Wew
variable {S Z A B : wS} {K : aK} {k v q a b ar f kd bt nw md t p : Int} {th : aV} {w m pl es vn : Nat} {L : List aC} {T : List aO} {G : Int → aV} {sl : Nat → List Int}
/-- the variables of a call: what was passed, then null -/
def aVr (l : List aV) (pl es vn : Nat) : List aV := (List.range vn).map (fun i => if i < es then l.getD (pl + 1 + i) (0, 0, []) else (0, 0, []))
theorem aVr_l {l : List aV} : (aVr l pl es vn).length = vn := by unfold aVr; rw [List.length_map, List.length_range]
theorem aVr_g {l : List aV} {i : Nat} (h : i < vn) : (aVr l pl es vn).getD i (0, 0, []) = if i < es then l.getD (pl + 1 + i) (0, 0, []) else (0, 0, []) := by
  unfold aVr
  rw [List.getD_eq_getElem?_getD, List.getElem?_map, List.getElem?_range h]
  rfl
/-- what a call of the class changes beside its task -/
def cMc (j : Nat) (x : Int) : Prop := j = 138 ∨ j = 139 ∨ j = 141 ∨ j = 142 ∨ (j = 72 ∧ x = 5) ∨ (j = 140 ∧ x = 2) ∨ (j = 150 ∧ (x = 0 ∨ x = 1))
def rMc (j : Nat) (x : Int) : Prop := (333 ≤ j ∧ j ≤ 336) ∨ (j = 237 ∧ (x = 62 ∨ x = 63 ∨ x = 69 ∨ x = 94))
theorem kCl_e : kCl K (K.1.take pl) q f a th md = (K.1.take pl, (kNx K q).2.1 ++ [(f, 0, a, th, md, (K.1.take pl).length, K.2.2.1.length)], K.2.2) := rfl
theorem en_k_215 (hK : cTk 215 S K) (hW : cWd S T L G) (hq : enQ_215 ar (vn : Int) (es : Int) (pl : Int) (K.2.1.length : Int) p f (L.length : Int) kd bt nw (S 140 2) S Z) (h0 : 0 < K.2.1.length) (hl : K.2.1.length < 200) (hes : pl + 1 + es ≤ K.1.length) (hv : cVl S kd bt th) (hm : (md = -1 ∧ nw = 0) ∨ (0 ≤ md ∧ nw = 1 ∧ th = (4, md, []))) (hc : (L.length : Int) ≤ 8000) (hz : S 140 2 + (vn : Int) ≤ 240200) : cTk 215 Z (kCl K (K.1.take pl) (p + 1) f (L.length : Int) th md) ∧ cWd Z T (L ++ [(ar, aVr K.1 pl es vn)]) G ∧ cFm 215 cMc S Z ∧ Z 150 0 = S 150 0 + 1 ∧ Z 150 1 = S 150 1 + (vn : Int) ∧ (cPo S → cPo Z) := by
  have hg : wG = 1000000 := rfl
  obtain ⟨A, B, hA, hB, rfl⟩ := hq
  obtain ⟨hB1, hB2⟩ := hB
  obtain ⟨⟨a1, a2, a3⟩, -, -, -, -, -, -, fr, gA, rA⟩ := id hA
  have n6 : 0 ≤ S 140 2 := hW.2.2.2.1.2.2.1.1
  have eS : ∀ (j : Nat) (x : Int), j < 4000000 → j ≠ wG → ¬ cMc j x → B j x = S j x := fun j x j0 j1 j2 => by
    unfold cMc at j2
    exact (hB2 j x (Or.inl (by omega))).trans (fr j x j0 j1 (by omega) (by omega) (by omega) (by omega) (by omega) (by omega) (by omega))
  have eL : ∀ (j : Nat) (x : Int), (160 < j ∨ j < 72) → j < 237 → B j x = S j x := fun j x j0 j1 => eS j x (by omega) (by omega) (by unfold cMc; omega)
  have e : cTx S B := cTx_of (eL 2 1 (by decide) (by decide)) (fun x => eL 3 x (by decide) (by decide))
  have hkB : cTk 215 B K := cTk_ag hK e (fun j y hj => eL j y (by omega) (by omega))
  have k1 := cTk_tk (m := pl) hkB (Or.inl rfl) (by omega)
  have k2 := cTk_nx (q := p + 1) k1 (Or.inl rfl) h0
  have el : (kNx (K.1.take pl, K.2) (p + 1)).2.1.length = K.2.1.length := List.length_set
  have k3 := cTk_ad (f := f) (n := (L.length : Int)) (bs := (K.1.take pl).length) (tb := K.2.2.1.length) (kd := kd) (bt := bt) (nw := nw) (th := th) (md := md) k2 (Or.inl rfl) (by rw [el]; exact hl) (cVl_mo hv (cTx_tr e (cTx_of ((w_up_slot (by decide)).trans (w_up_slot (by decide))) (fun x => (w_up_slot (by decide)).trans (w_up_slot (by decide)))))) hm
  rw [el] at k3
  have gB : gI B := gI_ag2 gA (fun j hj => hB2 j (-1) (Or.inl ⟨by omega, by omega⟩)) (fun x _ => hB2 238 _ (Or.inl (by decide))) (hB2 14 5 (Or.inl (by decide)))
  have rB : rmR S B := rmR_ag rA (fun k _ => hB2 k (-1) (Or.inr (Or.inl (by omega)))) (hB2 wG 0 (Or.inl (by decide))) (hB2 wG 1 (Or.inl (by decide)))
  have fB : cFm 215 cMc S B := ⟨fun j x j0 j1 _ j3 => eS j x j0 j1 j3, fun j j0 j1 => eL j (-1) (by omega) (by omega), gB, rB⟩
  have hWB : cWd B T (L ++ [(ar, aVr K.1 pl es vn)]) G := by
    refine cWd_ac hW hA hB2 (by rw [aVr_l]) (fun i hi => ?_) hc hz
    rw [aVr_l] at hi
    rw [aVr_g hi, (hB1 i (by omega) (by omega)).1, (hB1 i (by omega) (by omega)).2]
    by_cases ci : i < es
    · rw [if_pos (by omega), if_pos (by omega), if_pos ci]
      have hx := c_at hK (i := pl + 1 + i) (by omega) (j := (pl : Int) + 1 + (i : Int)) (by omega)
      rw [show A (215 + 2) ((pl : Int) + 1 + (i : Int)) = S (215 + 2) ((pl : Int) + 1 + (i : Int)) from fr 217 _ (by decide) (by decide) (by decide) (by decide) (by decide) (by decide) (Or.inl (by decide)) (Or.inl (by decide)) (Or.inl (by decide)), show A (215 + 3) ((pl : Int) + 1 + (i : Int)) = S (215 + 3) ((pl : Int) + 1 + (i : Int)) from fr 218 _ (by decide) (by decide) (by decide) (by decide) (by decide) (by decide) (Or.inl (by decide)) (Or.inl (by decide)) (Or.inl (by decide))]
      exact hx
    · rw [if_neg (by omega), if_neg (by omega), if_neg ci]
      exact cV_e (by decide) rfl
  refine ⟨k3, ?_, ?_, ?_, ?_, fun po => ?_⟩
  · exact cWd_up (cWd_up (cWd_up (cWd_up (cWd_up (cWd_up (cWd_up (cWd_up (cWd_up hWB (by decide)) (by decide)) (by decide)) (by decide)) (by decide)) (by decide)) (by decide)) (by decide)) (by decide)
  · exact cFm_up (Or.inl rfl) (cFm_up (Or.inl rfl) (cFm_up (Or.inl rfl) (cFm_up (Or.inl rfl) (cFm_up (Or.inl rfl) (cFm_up (Or.inl rfl) (cFm_up (Or.inl rfl) (cFm_up (Or.inl rfl) (cFm_up (Or.inl rfl) (fB) (by omega) (Or.inl (by decide)) (by decide)) (by omega) (Or.inl (by decide)) (by decide)) (by omega) (Or.inl (by decide)) (by decide)) (by omega) (Or.inl (by decide)) (by decide)) (by omega) (Or.inl (by decide)) (by decide)) (by omega) (Or.inl (by decide)) (by decide)) (by omega) (Or.inl (by decide)) (by decide)) (by omega) (Or.inl (by decide)) (by decide)) (by omega) (Or.inl (by decide)) (by decide)
  · exact (w_up_slot (by decide)).trans ((w_up_slot (by decide)).trans ((w_up_slot (by decide)).trans ((w_up_slot (by decide)).trans ((w_up_slot (by decide)).trans ((w_up_slot (by decide)).trans ((w_up_slot (by decide)).trans ((w_up_slot (by decide)).trans ((w_up_slot (by decide)).trans ((hB2 150 0 (Or.inl (by decide))).trans a2)))))))))
  · exact (w_up_slot (by decide)).trans ((w_up_slot (by decide)).trans ((w_up_slot (by decide)).trans ((w_up_slot (by decide)).trans ((w_up_slot (by decide)).trans ((w_up_slot (by decide)).trans ((w_up_slot (by decide)).trans ((w_up_slot (by decide)).trans ((w_up_slot (by decide)).trans ((hB2 150 1 (Or.inl (by decide))).trans a3)))))))))
  · have zf : ∀ (j : Nat) (x : Int), j < 215 → j ≠ 141 → j ≠ 142 → (w_up (w_up (w_up (w_up (w_up (w_up (w_up (w_up (w_up B 216 2 (pl : Int)) 220 ((K.2.1.length : Int) - 1) (p + 1)) 219 (K.2.1.length : Int) f) 220 (K.2.1.length : Int) 0) 221 (K.2.1.length : Int) (L.length : Int)) 222 (K.2.1.length : Int) kd) 223 (K.2.1.length : Int) bt) 224 (K.2.1.length : Int) nw) 215 4 ((K.2.1.length : Int) + 1)) j x = A j x := fun j x j0 j1 j2 => (w_up_slot (by omega)).trans ((w_up_slot (by omega)).trans ((w_up_slot (by omega)).trans ((w_up_slot (by omega)).trans ((w_up_slot (by omega)).trans ((w_up_slot (by omega)).trans ((w_up_slot (by omega)).trans ((w_up_slot (by omega)).trans ((w_up_slot (by omega)).trans (hB2 j x (Or.inl ⟨j1, j2⟩))))))))))
    exact cPo_ag (cPo_ac po hA (by omega)) (zf 72 3 (by decide) (by decide) (by decide)) (fun x => ⟨zf 134 x (by decide) (by decide) (by decide), zf 135 x (by decide) (by decide) (by decide)⟩) (zf 140 2 (by decide) (by decide) (by decide)) (zf 150 1 (by decide) (by decide) (by decide))
theorem en_k_226 (hK : cTk 226 S K) (hW : cWd S T L G) (hq : enQ_226 ar (vn : Int) (es : Int) (pl : Int) (K.2.1.length : Int) p f (L.length : Int) kd bt nw (S 140 2) S Z) (h0 : 0 < K.2.1.length) (hl : K.2.1.length < 200) (hes : pl + 1 + es ≤ K.1.length) (hv : cVl S kd bt th) (hm : (md = -1 ∧ nw = 0) ∨ (0 ≤ md ∧ nw = 1 ∧ th = (4, md, []))) (hc : (L.length : Int) ≤ 8000) (hz : S 140 2 + (vn : Int) ≤ 240200) : cTk 226 Z (kCl K (K.1.take pl) (p + 1) f (L.length : Int) th md) ∧ cWd Z T (L ++ [(ar, aVr K.1 pl es vn)]) G ∧ cFm 226 cMc S Z ∧ Z 150 0 = S 150 0 + 1 ∧ Z 150 1 = S 150 1 + (vn : Int) ∧ (cPo S → cPo Z) := by
  have hg : wG = 1000000 := rfl
  obtain ⟨A, B, hA, hB, rfl⟩ := hq
  obtain ⟨hB1, hB2⟩ := hB
  obtain ⟨⟨a1, a2, a3⟩, -, -, -, -, -, -, fr, gA, rA⟩ := id hA
  have n6 : 0 ≤ S 140 2 := hW.2.2.2.1.2.2.1.1
  have eS : ∀ (j : Nat) (x : Int), j < 4000000 → j ≠ wG → ¬ cMc j x → B j x = S j x := fun j x j0 j1 j2 => by
    unfold cMc at j2
    exact (hB2 j x (Or.inl (by omega))).trans (fr j x j0 j1 (by omega) (by omega) (by omega) (by omega) (by omega) (by omega) (by omega))
  have eL : ∀ (j : Nat) (x : Int), (160 < j ∨ j < 72) → j < 237 → B j x = S j x := fun j x j0 j1 => eS j x (by omega) (by omega) (by unfold cMc; omega)
  have e : cTx S B := cTx_of (eL 2 1 (by decide) (by decide)) (fun x => eL 3 x (by decide) (by decide))
  have hkB : cTk 226 B K := cTk_ag hK e (fun j y hj => eL j y (by omega) (by omega))
  have k1 := cTk_tk (m := pl) hkB (Or.inr rfl) (by omega)
  have k2 := cTk_nx (q := p + 1) k1 (Or.inr rfl) h0
  have el : (kNx (K.1.take pl, K.2) (p + 1)).2.1.length = K.2.1.length := List.length_set
  have k3 := cTk_ad (f := f) (n := (L.length : Int)) (bs := (K.1.take pl).length) (tb := K.2.2.1.length) (kd := kd) (bt := bt) (nw := nw) (th := th) (md := md) k2 (Or.inr rfl) (by rw [el]; exact hl) (cVl_mo hv (cTx_tr e (cTx_of ((w_up_slot (by decide)).trans (w_up_slot (by decide))) (fun x => (w_up_slot (by decide)).trans (w_up_slot (by decide)))))) hm
  rw [el] at k3
  have gB : gI B := gI_ag2 gA (fun j hj => hB2 j (-1) (Or.inl ⟨by omega, by omega⟩)) (fun x _ => hB2 238 _ (Or.inl (by decide))) (hB2 14 5 (Or.inl (by decide)))
  have rB : rmR S B := rmR_ag rA (fun k _ => hB2 k (-1) (Or.inr (Or.inl (by omega)))) (hB2 wG 0 (Or.inl (by decide))) (hB2 wG 1 (Or.inl (by decide)))
  have fB : cFm 226 cMc S B := ⟨fun j x j0 j1 _ j3 => eS j x j0 j1 j3, fun j j0 j1 => eL j (-1) (by omega) (by omega), gB, rB⟩
  have hWB : cWd B T (L ++ [(ar, aVr K.1 pl es vn)]) G := by
    refine cWd_ac hW hA hB2 (by rw [aVr_l]) (fun i hi => ?_) hc hz
    rw [aVr_l] at hi
    rw [aVr_g hi, (hB1 i (by omega) (by omega)).1, (hB1 i (by omega) (by omega)).2]
    by_cases ci : i < es
    · rw [if_pos (by omega), if_pos (by omega), if_pos ci]
      have hx := c_at hK (i := pl + 1 + i) (by omega) (j := (pl : Int) + 1 + (i : Int)) (by omega)
      rw [show A (226 + 2) ((pl : Int) + 1 + (i : Int)) = S (226 + 2) ((pl : Int) + 1 + (i : Int)) from fr 228 _ (by decide) (by decide) (by decide) (by decide) (by decide) (by decide) (Or.inl (by decide)) (Or.inl (by decide)) (Or.inl (by decide)), show A (226 + 3) ((pl : Int) + 1 + (i : Int)) = S (226 + 3) ((pl : Int) + 1 + (i : Int)) from fr 229 _ (by decide) (by decide) (by decide) (by decide) (by decide) (by decide) (Or.inl (by decide)) (Or.inl (by decide)) (Or.inl (by decide))]
      exact hx
    · rw [if_neg (by omega), if_neg (by omega), if_neg ci]
      exact cV_e (by decide) rfl
  refine ⟨k3, ?_, ?_, ?_, ?_, fun po => ?_⟩
  · exact cWd_up (cWd_up (cWd_up (cWd_up (cWd_up (cWd_up (cWd_up (cWd_up (cWd_up hWB (by decide)) (by decide)) (by decide)) (by decide)) (by decide)) (by decide)) (by decide)) (by decide)) (by decide)
  · exact cFm_up (Or.inr rfl) (cFm_up (Or.inr rfl) (cFm_up (Or.inr rfl) (cFm_up (Or.inr rfl) (cFm_up (Or.inr rfl) (cFm_up (Or.inr rfl) (cFm_up (Or.inr rfl) (cFm_up (Or.inr rfl) (cFm_up (Or.inr rfl) (fB) (by omega) (Or.inl (by decide)) (by decide)) (by omega) (Or.inl (by decide)) (by decide)) (by omega) (Or.inl (by decide)) (by decide)) (by omega) (Or.inl (by decide)) (by decide)) (by omega) (Or.inl (by decide)) (by decide)) (by omega) (Or.inl (by decide)) (by decide)) (by omega) (Or.inl (by decide)) (by decide)) (by omega) (Or.inl (by decide)) (by decide)) (by omega) (Or.inl (by decide)) (by decide)
  · exact (w_up_slot (by decide)).trans ((w_up_slot (by decide)).trans ((w_up_slot (by decide)).trans ((w_up_slot (by decide)).trans ((w_up_slot (by decide)).trans ((w_up_slot (by decide)).trans ((w_up_slot (by decide)).trans ((w_up_slot (by decide)).trans ((w_up_slot (by decide)).trans ((hB2 150 0 (Or.inl (by decide))).trans a2)))))))))
  · exact (w_up_slot (by decide)).trans ((w_up_slot (by decide)).trans ((w_up_slot (by decide)).trans ((w_up_slot (by decide)).trans ((w_up_slot (by decide)).trans ((w_up_slot (by decide)).trans ((w_up_slot (by decide)).trans ((w_up_slot (by decide)).trans ((w_up_slot (by decide)).trans ((hB2 150 1 (Or.inl (by decide))).trans a3)))))))))
  · have zf : ∀ (j : Nat) (x : Int), j < 215 → j ≠ 141 → j ≠ 142 → (w_up (w_up (w_up (w_up (w_up (w_up (w_up (w_up (w_up B 227 2 (pl : Int)) 231 ((K.2.1.length : Int) - 1) (p + 1)) 230 (K.2.1.length : Int) f) 231 (K.2.1.length : Int) 0) 232 (K.2.1.length : Int) (L.length : Int)) 233 (K.2.1.length : Int) kd) 234 (K.2.1.length : Int) bt) 235 (K.2.1.length : Int) nw) 226 4 ((K.2.1.length : Int) + 1)) j x = A j x := fun j x j0 j1 j2 => (w_up_slot (by omega)).trans ((w_up_slot (by omega)).trans ((w_up_slot (by omega)).trans ((w_up_slot (by omega)).trans ((w_up_slot (by omega)).trans ((w_up_slot (by omega)).trans ((w_up_slot (by omega)).trans ((w_up_slot (by omega)).trans ((w_up_slot (by omega)).trans (hB2 j x (Or.inl ⟨j1, j2⟩))))))))))
    exact cPo_ag (cPo_ac po hA (by omega)) (zf 72 3 (by decide) (by decide) (by decide)) (fun x => ⟨zf 134 x (by decide) (by decide) (by decide), zf 135 x (by decide) (by decide) (by decide)⟩) (zf 140 2 (by decide) (by decide) (by decide)) (zf 150 1 (by decide) (by decide) (by decide))
theorem cf_k {u v0 pn en u0 : Int} (hK : rTk t S K) (hW : rWd S sl T L G) (ht : 0 ≤ t ∧ t ≤ 1) (hq : cfQ t (K.2.1.length : Int) p (200 * t + (K.2.1.length : Int) - 1) u v0 (vn : Int) pn en (pl : Int) f ar (L.length : Int) u0 kd bt (K.2.2.1.length : Int) S Z) (hu : S 237 94 = u) (hu0 : 0 ≤ u) (hv0 : S 237 63 = v0) (hu62 : S 237 62 = u0) (h0 : 0 < K.2.1.length) (hl : K.2.1.length < 200) (hes : pl + 1 + es ≤ K.1.length) (hpe : ∀ i : Int, (i < pn ∧ i < en) ↔ i < (es : Int)) (hpl : K.1.length ≤ 2001) (hv : rVl S kd bt th) (hc : (L.length : Int) < 8000) (hz : u + (vn : Int) ≤ 60000) : rTk t Z (kCl K (K.1.take pl) (p + 1) f (L.length : Int) th (-1)) ∧ rWd Z sl T (L ++ [(ar, aVr K.1 pl es vn)]) G ∧ rTm t rMc S Z ∧ Z 237 62 = S 237 62 + 1 ∧ Z 237 63 = S 237 63 + (vn : Int) ∧ Z 237 94 = S 237 94 + (vn : Int) := by
  obtain ⟨B, ⟨⟨m1, m2⟩, m3, m4⟩, rfl⟩ := hq
  have lp : (K.1.take pl).length = pl := by rw [List.length_take]; omega
  have e1 : ∀ (j : Nat) (x : Int), j ≠ 366 → (j ≠ 237 ∨ (x ≠ 69 ∧ x ≠ 62)) → ((j ≠ 333 ∧ j ≠ 334) ∨ x ≠ (L.length : Int)) → (w_up (w_up (w_up (w_up (w_up S 366 (200 * t + (K.2.1.length : Int) - 1) (p + 1)) 237 69 ((L.length : Int) + 1)) 237 62 (u0 + 1)) 333 (L.length : Int) ar) 334 (L.length : Int) u) j x = S j x := fun j x j0 j1 j2 => (w_up_no (by omega)).trans ((w_up_no (by omega)).trans ((w_up_no (by omega)).trans ((w_up_no (by omega)).trans (w_up_no (by omega)))))
  have eB : ∀ (j : Nat) (x : Int), j ≠ 366 → (j ≠ 237 ∨ (x ≠ 69 ∧ x ≠ 62 ∧ x ≠ 94 ∧ x ≠ 63)) → ((j ≠ 333 ∧ j ≠ 334) ∨ x ≠ (L.length : Int)) → ((j ≠ 335 ∧ j ≠ 336) ∨ x < u ∨ u + (vn : Int) ≤ x) → B j x = S j x := fun j x j0 j1 j2 j3 => (m4 j x j3 (by omega)).trans (e1 j x j0 (by omega) j2)
  have eN : ∀ (j : Nat) (x : Int), 345 ≤ j → B j x = (w_up S 366 (200 * t + (K.2.1.length : Int) - 1) (p + 1)) j x := fun j x j0 => (m4 j x (Or.inl (by omega)) (Or.inl (by omega))).trans ((w_up_slot (by omega)).trans ((w_up_slot (by omega)).trans ((w_up_slot (by omega)).trans (w_up_slot (by omega)))))
  have k1 := rTk_nx (q := p + 1) hK h0
  have tx : rTx S B := rTx_of (eB 237 19 (by decide) (by decide) (Or.inl (by decide)) (Or.inl (by decide))) (eB 237 102 (by decide) (by decide) (Or.inl (by decide)) (Or.inl (by decide))) (fun j x j0 j1 => eB j x (by omega) (by omega) (by omega) (by omega))
  have tx1 : rTx (w_up S 366 (200 * t + (K.2.1.length : Int) - 1) (p + 1)) B := rTx_of ((eB 237 19 (by decide) (by decide) (Or.inl (by decide)) (Or.inl (by decide))).trans (w_up_slot (by decide)).symm) ((eB 237 102 (by decide) (by decide) (Or.inl (by decide)) (Or.inl (by decide))).trans (w_up_slot (by decide)).symm) (fun j x j0 j1 => (eB j x (by omega) (by omega) (by omega) (by omega)).trans (w_up_slot (by omega)).symm)
  have k2 : rTk t B (kNx K (p + 1)) := rTk_ag k1 tx1 ⟨fun j hj => eN j t (by omega), fun j i j0 j1 _ _ => eN j i (by omega), fun j i j0 j1 _ _ => eN j i (by omega)⟩ (eN 359 t (by decide)) (fun i _ _ => ⟨eN 363 i (by decide), eN 364 i (by decide)⟩)
  have k3 := rTk_tk (m := pl) k2 (show pl ≤ K.1.length by omega)
  have el : (kNx K (p + 1)).2.1.length = K.2.1.length := List.length_set
  have k4 := rTk_ad (f := f) (n := (L.length : Int)) (bs := (K.1.take pl).length) (tb := K.2.2.1.length) (kd := kd) (bt := bt) (th := th) (md := -1) k3 ht (show (kNx K (p + 1)).2.1.length < 200 by rw [el]; exact hl) (rVl_mo hv (rTx_tr tx (rTx_of (w_up_slot (by decide)) (w_up_slot (by decide)) (fun j x j0 j1 => w_up_slot (by omega)))))
  replace k4 := (show rTk t _ ((kNx K (p + 1)).1.take pl, (kNx K (p + 1)).2.1 ++ [(f, 0, (L.length : Int), th, -1, (K.1.take pl).length, K.2.2.1.length)], (kNx K (p + 1)).2.2) from k4)
  dsimp only at k4
  rw [el, lp] at k4
  have hWB : rWd B sl T (L ++ [(ar, aVr K.1 pl es vn)]) G := by
    refine rWd_nc (u := u) (vn := (vn : Int)) hW rfl hu hu0 ((m4 237 69 (Or.inl (by decide)) (Or.inr (by decide))).trans ((w_up_slot (by decide)).trans ((w_up_slot (by decide)).trans ((w_up_at (by decide)).trans (w_up_same _ _ _ _))))) ((m4 333 _ (Or.inl (by decide)) (Or.inl (by decide))).trans ((w_up_slot (by decide)).trans (w_up_same _ _ _ _))) ((m4 334 _ (Or.inl (by decide)) (Or.inl (by decide))).trans (w_up_same _ _ _ _)) m1 (fun j x j0 j1 j2 j3 => eB j x (by omega) j0 j1 j2) (by rw [aVr_l]) (fun i hi => ?_) hc hz
    rw [aVr_l] at hi
    rw [aVr_g hi, (m3 i (by omega) (by omega)).1, (m3 i (by omega) (by omega)).2]
    by_cases ci : i < es
    · have cc := (hpe (i : Int)).mpr (by omega)
      rw [if_pos cc, if_pos cc, if_pos ci, e1 363 _ (by decide) (Or.inl (by decide)) (Or.inl (by decide)), e1 364 _ (by decide) (Or.inl (by decide)) (Or.inl (by decide))]
      exact r_at hK (i := pl + 1 + i) (by omega) (by omega)
    · have cc : ¬ ((i : Int) < pn ∧ (i : Int) < en) := fun z => ci (by have := (hpe (i : Int)).mp z; omega)
      rw [if_neg cc, if_neg cc, if_neg ci]
      exact rV_e (by decide) rfl
  refine ⟨by rw [kCl_e, lp]; exact k4, ?_, ?_, ?_, ?_, ?_⟩
  · exact rWd_up (rWd_up (rWd_up (rWd_up (rWd_up (rWd_up (rWd_up (rWd_up (rWd_up (rWd_up (rWd_up hWB (Or.inl (by decide))) (Or.inr (by decide))) (Or.inl (by decide))) (Or.inl (by decide))) (Or.inl (by decide))) (Or.inl (by decide))) (Or.inl (by decide))) (Or.inl (by decide))) (Or.inl (by decide))) (Or.inl (by decide))) (Or.inl (by decide))
  · have fB : rTm t rMc S B := fun j x o nn => by
      by_cases c6 : j = 366
      · rw [c6, eN 366 x (by decide)]
        rw [c6] at o
        exact w_up_at (fun z => absurd o (by rw [z]; exact no_f (by decide) (by omega)))
      · unfold rMc at nn
        exact eB j x c6 (by omega) (by omega) (by omega)
    exact rTm_up (rTm_up (rTm_up (rTm_up (rTm_up (rTm_up (rTm_up (rTm_up (rTm_up (rTm_up (rTm_up fB (Or.inl (no_t (by decide)))) (Or.inl (no_37 (by decide)))) (Or.inl (no_t (by decide)))) (Or.inl (no_f (by decide) (by omega)))) (Or.inl (no_f (by decide) (by omega)))) (Or.inl (no_f (by decide) (by omega)))) (Or.inl (no_f (by decide) (by omega)))) (Or.inl (no_f (by decide) (by omega)))) (Or.inl (no_f (by decide) (by omega)))) (Or.inl (no_f (by decide) (by omega)))) (Or.inl (no_f (by decide) (by omega)))
  · rw [hu62]
    exact (w_up_slot (by decide)).trans ((w_up_slot (by decide)).trans ((w_up_slot (by decide)).trans ((w_up_slot (by decide)).trans ((w_up_slot (by decide)).trans ((w_up_slot (by decide)).trans ((w_up_slot (by decide)).trans ((w_up_slot (by decide)).trans ((w_up_slot (by decide)).trans ((w_up_at (by decide)).trans ((w_up_slot (by decide)).trans ((m4 237 62 (Or.inl (by decide)) (Or.inr (by decide))).trans ((w_up_slot (by decide)).trans ((w_up_slot (by decide)).trans (w_up_same _ _ _ _))))))))))))))
  · rw [hv0]
    exact (w_up_slot (by decide)).trans ((w_up_slot (by decide)).trans ((w_up_slot (by decide)).trans ((w_up_slot (by decide)).trans ((w_up_slot (by decide)).trans ((w_up_slot (by decide)).trans ((w_up_slot (by decide)).trans ((w_up_slot (by decide)).trans ((w_up_slot (by decide)).trans ((w_up_at (by decide)).trans ((w_up_slot (by decide)).trans m2))))))))))
  · rw [hu]
    exact (w_up_slot (by decide)).trans ((w_up_slot (by decide)).trans ((w_up_slot (by decide)).trans ((w_up_slot (by decide)).trans ((w_up_slot (by decide)).trans ((w_up_slot (by decide)).trans ((w_up_slot (by decide)).trans ((w_up_slot (by decide)).trans ((w_up_slot (by decide)).trans ((w_up_at (by decide)).trans ((w_up_slot (by decide)).trans m1))))))))))
end Wew
