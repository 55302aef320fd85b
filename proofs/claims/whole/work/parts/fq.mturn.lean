/-! PART fq: turn of the reference, by tasks and worlds. -/
section Wfq
variable {xs : List (Nat × List Int32)} {M : Nat → Prop} {d : Nat} {S S0 Z A B : wS} {H : List aH} {T : List aO} {L : List aC} {G : Int → aV} {sl : Nat → List Int} {K : aK} {t b q k : Int}
theorem chZ_e {e ch : Int} (j : Nat) (x : Int) (h1 : j ≠ 323 ∧ j ≠ 324) (h2 : j ≠ 237 ∨ x ≠ 81) : chZ k e ch A j x = A j x := by
  unfold chZ
  by_cases c : e = -1
  · rw [if_pos c]
  · rw [if_neg c]; exact (w_up_no (by omega)).trans ((w_up_no (by omega)).trans (w_up_no (by omega)))
theorem chZ_m {e ch : Int} (h : w_ML A) (hk : 0 ≤ k) : w_ML (chZ k e ch A) := by
  unfold chZ
  by_cases c : e = -1
  · rw [if_pos c]; exact h
  · rw [if_neg c]; exact w_ML_up (w_ML_up (w_ML_up h hk) (by first | decide | omega)) hk
theorem chZ_81 {e ch : Int} (h : A 237 81 = ch) : chZ k e ch A 237 81 = ch + (if e = -1 then 0 else 1) := by
  unfold chZ
  by_cases c : e = -1
  · rw [if_pos c, if_pos c, h]; omega
  · rw [if_neg c, if_neg c]; exact (w_up_slot (by first | decide | omega)).trans (w_up_same _ _ _ _)
/-- the reference behind rebuilt and changed; the newest value goes -/
theorem rs_tail {wo sh ep : Int} {l : List Int} (h : stR t S K) (hh : 2 ≤ K.1.length) (hk0 : 0 ≤ k ∧ k < (T.length : Int)) (hlen : (rsT T H q).length = T.length) (hl : (fS wo (pNs (tO T k)) 0) = l) (he : ep = (tO (rsT T H q) k).2.2.2.2.1) (he0 : -1 ≤ ep) (hA : rbQ q wo k sl T H L G (w_up (w_up S 237 154 (200 * t + (K.2.1.length : Int) - 1)) 237 155 ((K.2.1.getD (K.2.1.length - 1) (0, 0, 0, (0, 0, []), 0, 0, 0)).2.1 + 1)) A) (hz : w_up (chZ k ep ((w_up (w_up S 237 154 (200 * t + (K.2.1.length : Int) - 1)) 237 155 ((K.2.1.getD (K.2.1.length - 1) (0, 0, 0, (0, 0, []), 0, 0, 0)).2.1 + 1)) 237 81) (w_up A 315 k sh)) 359 t ((K.1.length : Int) - 1) = Z) : (w_ML Z ∧ Z 237 154 = (200 * t + (K.2.1.length : Int) - 1)) ∧ rTk t (w_up Z 366 (200 * t + (K.2.1.length : Int) - 1) (Z 237 155)) (kP K 2 (K.1.getD (K.1.length - 2) (0, 0, []))) ∧ rTm t rMt S (w_up Z 366 (200 * t + (K.2.1.length : Int) - 1) (Z 237 155)) ∧ (rWd (w_up Z 366 (200 * t + (K.2.1.length : Int) - 1) (Z 237 155)) sl (tNc (rsT T H q) k sh (S 237 81)) L G ∧ rHs (w_up Z 366 (200 * t + (K.2.1.length : Int) - 1) (Z 237 155)) (rsH T H q l) ∧ ((w_up Z 366 (200 * t + (K.2.1.length : Int) - 1) (Z 237 155)) 237 66 = S 237 66 + aMb H q l ∧ (w_up Z 366 (200 * t + (K.2.1.length : Int) - 1) (Z 237 155)) 237 81 = S 237 81 + (if ep = -1 then 0 else 1)) ∧ ∀ x : Int, x ≠ 66 → x ≠ 87 → x ≠ 81 → x ≠ 154 → x ≠ 155 → (w_up Z 366 (200 * t + (K.2.1.length : Int) - 1) (Z 237 155)) 237 x = S 237 x) := by
  obtain ⟨h1, h2, h3, h4b, ⟨h7, h8, h9, h9b⟩, -⟩ := id h
  obtain ⟨a1, a2, a3, a4, a5⟩ := id hA
  rw [hl] at a1 a4
  have hk1 := T0_k (x := (200 * t + (K.2.1.length : Int) - 1)) (y := (K.2.1.getD (K.2.1.length - 1) (0, 0, 0, (0, 0, []), 0, 0, 0)).2.1 + 1) h1
  have et : ∀ x : Int, x ≠ 154 → x ≠ 155 → (w_up (w_up S 237 154 (200 * t + (K.2.1.length : Int) - 1)) 237 155 ((K.2.1.getD (K.2.1.length - 1) (0, 0, 0, (0, 0, []), 0, 0, 0)).2.1 + 1)) 237 x = S 237 x := fun x x0 x1 => (w_up_at x1).trans (w_up_at x0)
  have es : ∀ (j : Nat) (x : Int), (j ≠ 359 ∨ x ≠ t) → (j ≠ 315 ∨ x ≠ k) → (j ≠ 323 ∧ j ≠ 324) → (j ≠ 237 ∨ x ≠ 81) → Z j x = A j x := fun j x j0 j1 j2 j3 => by
    rw [← hz]
    exact (w_up_no (by omega)).trans ((chZ_e j x j2 j3).trans (w_up_no (by omega)))
  have eA : ∀ (j : Nat) (x : Int), ¬ rMr q j x → A j x = (w_up (w_up S 237 154 (200 * t + (K.2.1.length : Int) - 1)) 237 155 ((K.2.1.getD (K.2.1.length - 1) (0, 0, 0, (0, 0, []), 0, 0, 0)).2.1 + 1)) j x := a5
  have ez : ∀ (j : Nat) (x : Int), 333 ≤ j → (j ≠ 359 ∨ x ≠ t) → Z j x = (w_up (w_up S 237 154 (200 * t + (K.2.1.length : Int) - 1)) 237 155 ((K.2.1.getD (K.2.1.length - 1) (0, 0, 0, (0, 0, []), 0, 0, 0)).2.1 + 1)) j x := fun j x j0 j1 => (es j x j1 (by omega) (by omega) (by omega)).trans (eA j x (by unfold rMr; omega))
  have e7 : ∀ x : Int, x ≠ 66 → x ≠ 87 → x ≠ 81 → Z 237 x = (w_up (w_up S 237 154 (200 * t + (K.2.1.length : Int) - 1)) 237 155 ((K.2.1.getD (K.2.1.length - 1) (0, 0, 0, (0, 0, []), 0, 0, 0)).2.1 + 1)) 237 x := fun x x0 x1 x2 => (es 237 x (Or.inl (by first | decide | omega)) (Or.inl (by first | decide | omega)) (by first | decide | omega) (Or.inr x2)).trans (eA 237 x (by unfold rMr; omega))
  have e : rTx (w_up (w_up S 237 154 (200 * t + (K.2.1.length : Int) - 1)) 237 155 ((K.2.1.getD (K.2.1.length - 1) (0, 0, 0, (0, 0, []), 0, 0, 0)).2.1 + 1)) Z := rTx_of (e7 19 (by first | decide | omega) (by first | decide | omega) (by first | decide | omega)) (e7 102 (by first | decide | omega) (by first | decide | omega) (by first | decide | omega)) (fun j x j0 j1 => (es j x (by omega) (by omega) (by omega) (by omega)).trans (eA j x (by unfold rMr; omega)))
  have hvx := r_at hk1 (i := K.1.length - 2) (by omega) (j := 2100 * t + ((K.1.length - 2 : Nat) : Int)) rfl
  have e9 : Z 359 t = (K.1.length : Int) - 1 := by rw [← hz]; exact w_up_same _ _ _ _
  have hkZ := rTk_l1 (m := K.1.length - 2) (a := (K.1.getD (K.1.length - 2) (0, 0, []))) hk1 e ⟨fun j hj => ez j t (by omega) (by omega), fun j x j0 j1 _ _ => ez j x (by omega) (by omega), fun j x j0 j1 _ _ => ez j x (by omega) (by omega)⟩ (by omega) (e9.trans (by omega)) (fun x x0 x1 => ⟨ez 363 x (by first | decide | omega) (Or.inl (by first | decide | omega)), ez 364 x (by first | decide | omega) (Or.inl (by first | decide | omega))⟩) (by rw [ez 363 _ (by first | decide | omega) (Or.inl (by first | decide | omega)), ez 364 _ (by first | decide | omega) (Or.inl (by first | decide | omega))]; exact rVl_mo hvx e)
  have hMZ : w_ML Z := by rw [← hz]; exact w_ML_up (chZ_m (w_ML_up a3 hk0.1) hk0.1) (by omega)
  have hfZ : rTm t rMt S Z := fun j x o nn => by
    have n2 := nn
    unfold rMt at n2
    by_cases c : j = 359 ∧ x = t
    · have := o.2.2.2.2.2.1 (by omega) (by omega); omega
    · exact (es j x (by omega) (by omega) (by omega) (by omega)).trans ((eA j x (by unfold rMr; omega)).trans (T0_f j x o))
  have h81 : (w_up A 315 k sh) 237 81 = (w_up (w_up S 237 154 (200 * t + (K.2.1.length : Int) - 1)) 237 155 ((K.2.1.getD (K.2.1.length - 1) (0, 0, 0, (0, 0, []), 0, 0, 0)).2.1 + 1)) 237 81 := (w_up_slot (by first | decide | omega)).trans (eA 237 81 (by unfold rMr; omega))
  have hWZ : rWd Z sl (tNc (rsT T H q) k sh (S 237 81)) L G := by
    rw [← hz, ← et 81 (by first | decide | omega) (by first | decide | omega)]
    exact rWd_up (rWd_nCh a2 hk0.1 (by rw [show (aBr T H q).1.length = T.length from hlen]; exact hk0.2) he he0) (Or.inl (by first | decide | omega))
  have hHZ : rHs Z (rsH T H q l) := rHs_ag a1 (es 237 87 (Or.inl (by first | decide | omega)) (Or.inl (by first | decide | omega)) (by first | decide | omega) (by first | decide | omega)) (fun j x j0 j1 => es j x (by omega) (by omega) (by omega) (by omega))
  unfold kP
  refine rp_m (P := fun Z => rWd Z sl (tNc (rsT T H q) k sh (S 237 81)) L G ∧ rHs Z (rsH T H q l) ∧ (Z 237 66 = S 237 66 + aMb H q l ∧ Z 237 81 = S 237 81 + (if ep = -1 then 0 else 1)) ∧ ∀ x : Int, x ≠ 66 → x ≠ 87 → x ≠ 81 → x ≠ 154 → x ≠ 155 → Z 237 x = S 237 x) h hMZ ((e7 154 (by first | decide | omega) (by first | decide | omega) (by first | decide | omega)).trans T0_4) ((e7 155 (by first | decide | omega) (by first | decide | omega) (by first | decide | omega)).trans T0_5) hkZ rfl hfZ ⟨rWd_366 hWZ, rHs_up hHZ (Or.inl (by first | decide | omega)), ⟨?_, ?_⟩, fun x x0 x1 x2 x3 x4 => (w_up_slot (by first | decide | omega)).trans ((e7 x x0 x1 x2).trans (et x x3 x4))⟩
  · exact (w_up_slot (by first | decide | omega)).trans ((es 237 66 (Or.inl (by first | decide | omega)) (Or.inl (by first | decide | omega)) (by first | decide | omega) (by first | decide | omega)).trans (a4.trans (by rw [et 66 (by first | decide | omega) (by first | decide | omega)])))
  · rw [w_up_slot (by first | decide | omega), ← hz, w_up_slot (by first | decide | omega), chZ_81 h81, et 81 (by first | decide | omega) (by first | decide | omega)]
set_option maxHeartbeats 4000000 in
theorem yb30 {t c p h tp kx o1 : Int} (hP : mP t c p h tp S) (hkx : S 363 (2100 * t + h - 1 - 1) = kx) (hvx : S 364 (2100 * t + h - 1 - 1) = o1) (hh1 : 2 ≤ h) (hkx45 : kx = 4 ∨ kx = 5) (ho : isO T o1) (hky : S 363 (2100 * t + h - 1) = 0) (hW : rWd S sl T L G) (hH : rHs S H) (hw : wSh T H) (hT : (T.length : Int) ≤ 8000) (h82 : S 237 82 ≤ 60000) (hu4 : 0 ≤ S 237 66 ∧ S 237 66 ≤ 4000 ∧ (H.length : Int) ≤ S 237 66 + 1) (hnb : ∀ s : Int, 0 ≤ s → s < (H.length : Int) → qNm H s ≤ 100000) (hch : 0 ≤ S 237 81 ∧ S 237 81 ≤ 9000000) (hep : ∀ k : Int, isO T k → (tO T k).2.2.2.2.1 ≤ S 237 81) : wJ (pe_GA xs) wY0 M (d + 11) t_M_others ((pe_at t_M_others.bl 0).getD (0, [])).2 [(0, (2, 237)), (1, (0, 28)), (2, (0, 3))] [] S (fun o Z => (hMe (aPr T H) o1 (T.length + 1) (-1) = 1 ∧ o = .inr 238 ∧ hZ 12 S = Z) ∨ (hMe (aPr T H) o1 (T.length + 1) (-1) = 0 ∧ 4000 < S 237 66 + aMb H (-1) (fS (-1) (aNs H (tO T o1).2.1) 0) ∧ o = .inr 238 ∧ hZ 99 S = Z) ∨ (hMe (aPr T H) o1 (T.length + 1) (-1) = 0 ∧ S 237 66 + aMb H (-1) (fS (-1) (aNs H (tO T o1).2.1) 0) ≤ 4000 ∧ o = .inl none ∧ ∃ A : wS, rbQ (-1) (-1) o1 sl T H L G S A ∧ w_up (chZ o1 (tO (aBr T H (-1)).1 o1).2.2.2.2.1 (S 237 81) (w_up A 315 o1 (aRb (-1) (fS (-1) (aNs H (tO T o1).2.1) 0) (aBr T H (-1)).2.1 (aBr T H (-1)).2.2).2)) 359 t (h - 1) = Z)) := by
  obtain ⟨hM, ⟨mt, mt0, mt1⟩, mp, mf, ⟨mc, mc0, mc1⟩, ⟨mtp, mtq⟩, ⟨mpa, mp0, mp1⟩, mh, mh0, mh1⟩ := id hP
  refine wa_aload_n (n := 0) rfl ?_
  refine wa_cv 237 rfl (wy_pr rfl) wt_237 (M2 := fun _ => False) rfl at_M_h ⟨_, rfl⟩ rfl rfl ⟨(Or.inr ⟨wy_pr rfl, fun q => q⟩), trivial, trivial, trivial⟩ trivial (fun _ _ q => False.elim q) ?_ (fun _ _ _ q => q)
  refine wa_aload_n (n := 0) rfl ?_
  refine wb_gfi 237 rfl (wy_pr rfl) wt_237 wf_15_152 (v := (2100 * t)) (mp) (fun r1 => ?_)
  refine wa_aload_n (n := 0) rfl ?_
  refine wb_gf4 237 rfl (wy_pr rfl) wt_237 wf_15_134 (v := 359) wl_237_134 ?_
  refine wa_aload_n (n := 0) rfl ?_
  refine wb_gfi 237 rfl (wy_pr rfl) wt_237 wf_15_151 (v := t) (mt) (fun r2 => ?_)
  refine wb_iald 359 rfl (wy_pr rfl) wt_359 (n := 2) ((ml_359 hM)) (by omega) (by omega) (v := h) (mh) (fun r3 => ?_)
  refine wa_iadd ?_
  refine wa_ireturn rfl ?_
  show wJ _ _ _ _ _ _ _ _ _ _
  refine wa_iconst ?_
  refine wa_isub ?_
  refine wa_istore_n (n := 3) rfl ?_
  refine wa_iload_n (n := 1) rfl ?_
  refine wb_sw (w_rg0 (by omega) (by omega)) (tb := 12) rfl ⟨_, rfl⟩ ?_
  refine wa_aload_n (n := 0) rfl ?_
  refine wa_iload_n (n := 2) rfl ?_
  refine wa_cv 237 rfl (wy_pr rfl) wt_237 (M2 := fun _ => False) rfl at_M_builtins ⟨_, rfl⟩ rfl rfl ⟨trivial, (Or.inr ⟨wy_pr rfl, fun q => q⟩), trivial, trivial, trivial⟩ trivial (fun _ _ q => False.elim q) ?_ (fun _ _ _ q => q)
  refine wa_aload_n (n := 0) rfl ?_
  refine wa_cv 237 rfl (wy_pr rfl) wt_237 (M2 := fun _ => False) rfl at_M_h ⟨_, rfl⟩ rfl rfl ⟨(Or.inr ⟨wy_pr rfl, fun q => q⟩), trivial, trivial⟩ trivial (fun _ _ q => False.elim q) ?_ (fun _ _ _ q => q)
  refine wa_aload_n (n := 0) rfl ?_
  refine wb_gfi 237 rfl (wy_pr rfl) wt_237 wf_15_152 (v := (2100 * t)) (mp) (fun r4 => ?_)
  refine wa_aload_n (n := 0) rfl ?_
  refine wb_gf4 237 rfl (wy_pr rfl) wt_237 wf_15_134 (v := 359) wl_237_134 ?_
  refine wa_aload_n (n := 0) rfl ?_
  refine wb_gfi 237 rfl (wy_pr rfl) wt_237 wf_15_151 (v := t) (mt) (fun r5 => ?_)
  refine wb_iald 359 rfl (wy_pr rfl) wt_359 (n := 2) ((ml_359 hM)) (by omega) (by omega) (v := h) (mh) (fun r6 => ?_)
  refine wa_iadd ?_
  refine wa_ireturn rfl ?_
  show wJ _ _ _ _ _ _ _ _ _ _
  refine wa_iconst ?_
  refine wa_isub ?_
  refine wa_istore_n (n := 2) rfl ?_
  refine wa_iload_n (n := 2) rfl ?_
  refine wa_iconst ?_
  refine wa_isub ?_
  refine wa_istore_n (n := 3) rfl ?_
  refine wa_iload_n (n := 1) rfl ?_
  refine wb_sw (w_rg0 (by omega) (by omega)) (tb := 8) rfl ⟨_, rfl⟩ ?_
  refine wa_aload_n (n := 0) rfl ?_
  refine wa_iload_n (n := 3) rfl ?_
  refine wa_iload_n (n := 2) rfl ?_
  refine wa_cv 237 rfl (wy_pr rfl) wt_237 (M2 := fun _ => False) rfl at_M_turns ⟨_, rfl⟩ rfl rfl ⟨trivial, trivial, (Or.inr ⟨wy_pr rfl, fun q => q⟩), trivial, trivial⟩ trivial (fun _ _ q => False.elim q) (r_tu0 (one := 2100 * t + h - 1 - 1) (oth := 2100 * t + h - 1) hM hW hH hw hT h82 hu4 hnb hch hep ⟨by omega, by omega⟩ ⟨by omega, by omega⟩ hkx hvx hkx45 ho hky) (fun oq7 Sq7 hp8 q7 => ?_)
  rcases q7 with ⟨hm, rfl, rfl⟩ | ⟨hm, hno, rfl, rfl⟩ | ⟨hm, hyes, rfl, A, hA, rfl⟩
  · skip
    refine ⟨rfl, ?_⟩
    refine ⟨rfl, ?_⟩
    exact Or.inl ⟨hm, rfl, rfl⟩
  · skip
    refine ⟨rfl, ?_⟩
    refine ⟨rfl, ?_⟩
    exact Or.inr (Or.inl ⟨hm, hno, rfl, rfl⟩)
  · skip
    show wJ _ _ _ _ _ _ _ _ _ _
    have hAF := hA.2.2.2.2
    refine wa_aload_n (n := 0) rfl ?_
    refine wb_gf4 237 rfl (wy_pr rfl) wt_237 wf_15_134 (v := 359) wl_237_134 ?_
    refine wa_aload_n (n := 0) rfl ?_
    refine wb_gfi 237 rfl (wy_pr rfl) wt_237 wf_15_151 (v := t) ((((chZ_e 237 151 (by decide) (by omega)).trans ((w_up_slot (by decide)).trans (hAF 237 151 (by unfold rMr; omega)))).trans (mt))) (fun r9 => ?_)
    refine wa_dup2 (by decide) (by decide) ?_
    refine wb_iald 359 rfl (wy_pr rfl) wt_359 (n := 2) ((((chZ_e 359 (-1) (by decide) (by omega)).trans ((w_up_slot (by decide)).trans (hAF 359 (-1) (by unfold rMr; omega)))).trans ((ml_359 hM)))) (by omega) (by omega) (v := h) ((((chZ_e 359 t (by decide) (by omega)).trans ((w_up_slot (by decide)).trans (hAF 359 t (by unfold rMr; omega)))).trans (mh))) (fun r10 => ?_)
    refine wa_iconst ?_
    refine wa_isub ?_
    refine wb_iast 359 rfl (wy_pr rfl) wt_359 (n := 2) ((((chZ_e 359 (-1) (by decide) (by omega)).trans ((w_up_slot (by decide)).trans (hAF 359 (-1) (by unfold rMr; omega)))).trans ((ml_359 hM)))) (by omega) (by omega) ⟨(by omega), (by omega)⟩ ?_
    refine wa_goto ⟨_, rfl⟩ ?_
    refine wa_return rfl ?_
    show wJ _ _ _ _ _ _ _ _ _ _
    refine wa_goto ⟨_, rfl⟩ ?_
    refine wa_return rfl ?_
    exact Or.inr (Or.inr ⟨hm, hyes, rfl, A, hA, rfl⟩)
set_option maxHeartbeats 4000000 in
theorem yb31 {t c p h tp kx o1 ky q : Int} (hP : mP t c p h tp S) (hkx : S 363 (2100 * t + h - 1 - 1) = kx) (hvx : S 364 (2100 * t + h - 1 - 1) = o1) (hh1 : 2 ≤ h) (hkx45 : kx = 4 ∨ kx = 5) (ho : isO T o1) (hky : S 363 (2100 * t + h - 1) = ky) (hvy : S 364 (2100 * t + h - 1) = q) (hky45 : ky = 4 ∨ ky = 5) (hq : isO T q) (hW : rWd S sl T L G) (hH : rHs S H) (hw : wSh T H) (hT : (T.length : Int) ≤ 8000) (h82 : S 237 82 ≤ 60000) (hu4 : 0 ≤ S 237 66 ∧ S 237 66 ≤ 4000 ∧ (H.length : Int) ≤ S 237 66 + 1) (hnb : ∀ s : Int, 0 ≤ s → s < (H.length : Int) → qNm H s ≤ 100000) (hch : 0 ≤ S 237 81 ∧ S 237 81 ≤ 9000000) (hep : ∀ k : Int, isO T k → (tO T k).2.2.2.2.1 ≤ S 237 81) : wJ (pe_GA xs) wY0 M (d + 11) t_M_others ((pe_at t_M_others.bl 0).getD (0, [])).2 [(0, (2, 237)), (1, (0, 28)), (2, (0, 3))] [] S (fun o Z => (hMe (aPr T H) o1 (T.length + 1) q = 1 ∧ o = .inr 238 ∧ hZ 12 S = Z) ∨ (hMe (aPr T H) o1 (T.length + 1) q = 0 ∧ 4000 < S 237 66 + aMb H q (fS (-1) (aNs H (tO T o1).2.1) 0) ∧ o = .inr 238 ∧ hZ 99 S = Z) ∨ (hMe (aPr T H) o1 (T.length + 1) q = 0 ∧ S 237 66 + aMb H q (fS (-1) (aNs H (tO T o1).2.1) 0) ≤ 4000 ∧ o = .inl none ∧ ∃ A : wS, rbQ q (-1) o1 sl T H L G S A ∧ w_up (chZ o1 (tO (aBr T H q).1 o1).2.2.2.2.1 (S 237 81) (w_up A 315 o1 (aRb q (fS (-1) (aNs H (tO T o1).2.1) 0) (aBr T H q).2.1 (aBr T H q).2.2).2)) 359 t (h - 1) = Z)) := by
  obtain ⟨hM, ⟨mt, mt0, mt1⟩, mp, mf, ⟨mc, mc0, mc1⟩, ⟨mtp, mtq⟩, ⟨mpa, mp0, mp1⟩, mh, mh0, mh1⟩ := id hP
  refine wa_aload_n (n := 0) rfl ?_
  refine wa_cv 237 rfl (wy_pr rfl) wt_237 (M2 := fun _ => False) rfl at_M_h ⟨_, rfl⟩ rfl rfl ⟨(Or.inr ⟨wy_pr rfl, fun q => q⟩), trivial, trivial, trivial⟩ trivial (fun _ _ q => False.elim q) ?_ (fun _ _ _ q => q)
  refine wa_aload_n (n := 0) rfl ?_
  refine wb_gfi 237 rfl (wy_pr rfl) wt_237 wf_15_152 (v := (2100 * t)) (mp) (fun r1 => ?_)
  refine wa_aload_n (n := 0) rfl ?_
  refine wb_gf4 237 rfl (wy_pr rfl) wt_237 wf_15_134 (v := 359) wl_237_134 ?_
  refine wa_aload_n (n := 0) rfl ?_
  refine wb_gfi 237 rfl (wy_pr rfl) wt_237 wf_15_151 (v := t) (mt) (fun r2 => ?_)
  refine wb_iald 359 rfl (wy_pr rfl) wt_359 (n := 2) ((ml_359 hM)) (by omega) (by omega) (v := h) (mh) (fun r3 => ?_)
  refine wa_iadd ?_
  refine wa_ireturn rfl ?_
  show wJ _ _ _ _ _ _ _ _ _ _
  refine wa_iconst ?_
  refine wa_isub ?_
  refine wa_istore_n (n := 3) rfl ?_
  refine wa_iload_n (n := 1) rfl ?_
  refine wb_sw (w_rg0 (by omega) (by omega)) (tb := 12) rfl ⟨_, rfl⟩ ?_
  refine wa_aload_n (n := 0) rfl ?_
  refine wa_iload_n (n := 2) rfl ?_
  refine wa_cv 237 rfl (wy_pr rfl) wt_237 (M2 := fun _ => False) rfl at_M_builtins ⟨_, rfl⟩ rfl rfl ⟨trivial, (Or.inr ⟨wy_pr rfl, fun q => q⟩), trivial, trivial, trivial⟩ trivial (fun _ _ q => False.elim q) ?_ (fun _ _ _ q => q)
  refine wa_aload_n (n := 0) rfl ?_
  refine wa_cv 237 rfl (wy_pr rfl) wt_237 (M2 := fun _ => False) rfl at_M_h ⟨_, rfl⟩ rfl rfl ⟨(Or.inr ⟨wy_pr rfl, fun q => q⟩), trivial, trivial⟩ trivial (fun _ _ q => False.elim q) ?_ (fun _ _ _ q => q)
  refine wa_aload_n (n := 0) rfl ?_
  refine wb_gfi 237 rfl (wy_pr rfl) wt_237 wf_15_152 (v := (2100 * t)) (mp) (fun r4 => ?_)
  refine wa_aload_n (n := 0) rfl ?_
  refine wb_gf4 237 rfl (wy_pr rfl) wt_237 wf_15_134 (v := 359) wl_237_134 ?_
  refine wa_aload_n (n := 0) rfl ?_
  refine wb_gfi 237 rfl (wy_pr rfl) wt_237 wf_15_151 (v := t) (mt) (fun r5 => ?_)
  refine wb_iald 359 rfl (wy_pr rfl) wt_359 (n := 2) ((ml_359 hM)) (by omega) (by omega) (v := h) (mh) (fun r6 => ?_)
  refine wa_iadd ?_
  refine wa_ireturn rfl ?_
  show wJ _ _ _ _ _ _ _ _ _ _
  refine wa_iconst ?_
  refine wa_isub ?_
  refine wa_istore_n (n := 2) rfl ?_
  refine wa_iload_n (n := 2) rfl ?_
  refine wa_iconst ?_
  refine wa_isub ?_
  refine wa_istore_n (n := 3) rfl ?_
  refine wa_iload_n (n := 1) rfl ?_
  refine wb_sw (w_rg0 (by omega) (by omega)) (tb := 8) rfl ⟨_, rfl⟩ ?_
  refine wa_aload_n (n := 0) rfl ?_
  refine wa_iload_n (n := 3) rfl ?_
  refine wa_iload_n (n := 2) rfl ?_
  refine wa_cv 237 rfl (wy_pr rfl) wt_237 (M2 := fun _ => False) rfl at_M_turns ⟨_, rfl⟩ rfl rfl ⟨trivial, trivial, (Or.inr ⟨wy_pr rfl, fun q => q⟩), trivial, trivial⟩ trivial (fun _ _ q => False.elim q) (r_tu1 (one := 2100 * t + h - 1 - 1) (oth := 2100 * t + h - 1) hM hW hH hw hT h82 hu4 hnb hch hep ⟨by omega, by omega⟩ ⟨by omega, by omega⟩ hkx hvx hkx45 ho hky hvy hky45 hq) (fun oq7 Sq7 hp8 q7 => ?_)
  rcases q7 with ⟨hm, rfl, rfl⟩ | ⟨hm, hno, rfl, rfl⟩ | ⟨hm, hyes, rfl, A, hA, rfl⟩
  · skip
    refine ⟨rfl, ?_⟩
    refine ⟨rfl, ?_⟩
    exact Or.inl ⟨hm, rfl, rfl⟩
  · skip
    refine ⟨rfl, ?_⟩
    refine ⟨rfl, ?_⟩
    exact Or.inr (Or.inl ⟨hm, hno, rfl, rfl⟩)
  · skip
    show wJ _ _ _ _ _ _ _ _ _ _
    have hAF := hA.2.2.2.2
    refine wa_aload_n (n := 0) rfl ?_
    refine wb_gf4 237 rfl (wy_pr rfl) wt_237 wf_15_134 (v := 359) wl_237_134 ?_
    refine wa_aload_n (n := 0) rfl ?_
    refine wb_gfi 237 rfl (wy_pr rfl) wt_237 wf_15_151 (v := t) ((((chZ_e 237 151 (by decide) (by omega)).trans ((w_up_slot (by decide)).trans (hAF 237 151 (by unfold rMr; omega)))).trans (mt))) (fun r9 => ?_)
    refine wa_dup2 (by decide) (by decide) ?_
    refine wb_iald 359 rfl (wy_pr rfl) wt_359 (n := 2) ((((chZ_e 359 (-1) (by decide) (by omega)).trans ((w_up_slot (by decide)).trans (hAF 359 (-1) (by unfold rMr; omega)))).trans ((ml_359 hM)))) (by omega) (by omega) (v := h) ((((chZ_e 359 t (by decide) (by omega)).trans ((w_up_slot (by decide)).trans (hAF 359 t (by unfold rMr; omega)))).trans (mh))) (fun r10 => ?_)
    refine wa_iconst ?_
    refine wa_isub ?_
    refine wb_iast 359 rfl (wy_pr rfl) wt_359 (n := 2) ((((chZ_e 359 (-1) (by decide) (by omega)).trans ((w_up_slot (by decide)).trans (hAF 359 (-1) (by unfold rMr; omega)))).trans ((ml_359 hM)))) (by omega) (by omega) ⟨(by omega), (by omega)⟩ ?_
    refine wa_goto ⟨_, rfl⟩ ?_
    refine wa_return rfl ?_
    show wJ _ _ _ _ _ _ _ _ _ _
    refine wa_goto ⟨_, rfl⟩ ?_
    refine wa_return rfl ?_
    exact Or.inr (Or.inr ⟨hm, hyes, rfl, A, hA, rfl⟩)
theorem yb3e {t c p h tp kx ky vx vy : Int} (hP : mP t c p h tp S) (hky : S 363 (2100 * t + h - 1) = ky) (hvy : S 364 (2100 * t + h - 1) = vy) (hkx : S 363 (2100 * t + h - 1 - 1) = kx) (hvx : S 364 (2100 * t + h - 1 - 1) = vx) (hh1 : 2 ≤ h) (hke : ¬ ((kx = 4 ∨ kx = 5) ∧ (ky = 0 ∨ ky = 4 ∨ ky = 5))) : wJ (pe_GA xs) wY0 M (d + 11) t_M_others ((pe_at t_M_others.bl 0).getD (0, [])).2 [(0, (2, 237)), (1, (0, 28)), (2, (0, 3))] [] S (fun o Z => o = .inr 238 ∧ hZ 12 S = Z) := by
  obtain ⟨hM, ⟨mt, mt0, mt1⟩, mp, mf, ⟨mc, mc0, mc1⟩, ⟨mtp, mtq⟩, ⟨mpa, mp0, mp1⟩, mh, mh0, mh1⟩ := id hP
  refine wa_aload_n (n := 0) rfl ?_
  refine wa_cv 237 rfl (wy_pr rfl) wt_237 (M2 := fun _ => False) rfl at_M_h ⟨_, rfl⟩ rfl rfl ⟨(Or.inr ⟨wy_pr rfl, fun q => q⟩), trivial, trivial, trivial⟩ trivial (fun _ _ q => False.elim q) ?_ (fun _ _ _ q => q)
  refine wa_aload_n (n := 0) rfl ?_
  refine wb_gfi 237 rfl (wy_pr rfl) wt_237 wf_15_152 (v := (2100 * t)) (mp) (fun r1 => ?_)
  refine wa_aload_n (n := 0) rfl ?_
  refine wb_gf4 237 rfl (wy_pr rfl) wt_237 wf_15_134 (v := 359) wl_237_134 ?_
  refine wa_aload_n (n := 0) rfl ?_
  refine wb_gfi 237 rfl (wy_pr rfl) wt_237 wf_15_151 (v := t) (mt) (fun r2 => ?_)
  refine wb_iald 359 rfl (wy_pr rfl) wt_359 (n := 2) ((ml_359 hM)) (by omega) (by omega) (v := h) (mh) (fun r3 => ?_)
  refine wa_iadd ?_
  refine wa_ireturn rfl ?_
  show wJ _ _ _ _ _ _ _ _ _ _
  refine wa_iconst ?_
  refine wa_isub ?_
  refine wa_istore_n (n := 3) rfl ?_
  refine wa_iload_n (n := 1) rfl ?_
  refine wb_sw (w_rg0 (by omega) (by omega)) (tb := 12) rfl ⟨_, rfl⟩ ?_
  refine wa_aload_n (n := 0) rfl ?_
  refine wa_iload_n (n := 2) rfl ?_
  refine wa_cv 237 rfl (wy_pr rfl) wt_237 (M2 := fun _ => False) rfl at_M_builtins ⟨_, rfl⟩ rfl rfl ⟨trivial, (Or.inr ⟨wy_pr rfl, fun q => q⟩), trivial, trivial, trivial⟩ trivial (fun _ _ q => False.elim q) ?_ (fun _ _ _ q => q)
  refine wa_aload_n (n := 0) rfl ?_
  refine wa_cv 237 rfl (wy_pr rfl) wt_237 (M2 := fun _ => False) rfl at_M_h ⟨_, rfl⟩ rfl rfl ⟨(Or.inr ⟨wy_pr rfl, fun q => q⟩), trivial, trivial⟩ trivial (fun _ _ q => False.elim q) ?_ (fun _ _ _ q => q)
  refine wa_aload_n (n := 0) rfl ?_
  refine wb_gfi 237 rfl (wy_pr rfl) wt_237 wf_15_152 (v := (2100 * t)) (mp) (fun r4 => ?_)
  refine wa_aload_n (n := 0) rfl ?_
  refine wb_gf4 237 rfl (wy_pr rfl) wt_237 wf_15_134 (v := 359) wl_237_134 ?_
  refine wa_aload_n (n := 0) rfl ?_
  refine wb_gfi 237 rfl (wy_pr rfl) wt_237 wf_15_151 (v := t) (mt) (fun r5 => ?_)
  refine wb_iald 359 rfl (wy_pr rfl) wt_359 (n := 2) ((ml_359 hM)) (by omega) (by omega) (v := h) (mh) (fun r6 => ?_)
  refine wa_iadd ?_
  refine wa_ireturn rfl ?_
  show wJ _ _ _ _ _ _ _ _ _ _
  refine wa_iconst ?_
  refine wa_isub ?_
  refine wa_istore_n (n := 2) rfl ?_
  refine wa_iload_n (n := 2) rfl ?_
  refine wa_iconst ?_
  refine wa_isub ?_
  refine wa_istore_n (n := 3) rfl ?_
  refine wa_iload_n (n := 1) rfl ?_
  refine wb_sw (w_rg0 (by omega) (by omega)) (tb := 8) rfl ⟨_, rfl⟩ ?_
  refine wa_aload_n (n := 0) rfl ?_
  refine wa_iload_n (n := 3) rfl ?_
  refine wa_iload_n (n := 2) rfl ?_
  refine wa_cv 237 rfl (wy_pr rfl) wt_237 (M2 := fun _ => False) rfl at_M_turns ⟨_, rfl⟩ rfl rfl ⟨trivial, trivial, (Or.inr ⟨wy_pr rfl, fun q => q⟩), trivial, trivial⟩ trivial (fun _ _ q => False.elim q) ?_ (fun _ _ _ q => q)
  refine wa_aload_n (n := 0) rfl ?_
  refine wa_aload_n (n := 0) rfl ?_
  refine wb_gf4 237 rfl (wy_pr rfl) wt_237 wf_15_138 (v := 363) wl_237_138 ?_
  refine wa_iload_n (n := 1) rfl ?_
  refine wb_iald 363 rfl (wy_pr rfl) wt_363 (n := 4200) ((ml_363 hM)) (by omega) (by omega) (v := kx) (hkx) (fun r7 => ?_)
  refine wa_cv 237 rfl (wy_pr rfl) wt_237 (M2 := fun _ => False) rfl at_M_hasShape ⟨_, rfl⟩ rfl rfl ⟨(Or.inr ⟨wy_pr rfl, fun q => q⟩), trivial, trivial, trivial⟩ trivial (fun _ _ q => False.elim q) ?_ (fun _ _ _ q => q)
  refine wa_iload_n (n := 1) rfl ?_
  refine wa_iconst ?_
  refine wa_icmpeq (w_rg0 (by omega) (by omega)) (w_rg0 (by omega) (by omega)) ⟨_, rfl⟩ (fun c8 => ?_) (fun c8 => ?_)
  · skip
    refine wa_iconst ?_
    refine wa_goto ⟨_, rfl⟩ ?_
    refine wa_zreturn rfl (Or.inr rfl) ?_
    show wJ _ _ _ _ _ _ _ _ _ _
    refine wa_ifeq (w_rg0 (by omega) (by omega)) ⟨_, rfl⟩ (fun c9 => ?_) (fun c9 => ?_)
    · skip
      exact absurd c9 (by omega)
    · skip
      refine wa_aload_n (n := 0) rfl ?_
      refine wb_gf4 237 rfl (wy_pr rfl) wt_237 wf_15_138 (v := 363) wl_237_138 ?_
      refine wa_iload_n (n := 2) rfl ?_
      refine wb_iald 363 rfl (wy_pr rfl) wt_363 (n := 4200) ((ml_363 hM)) (by omega) (by omega) (v := ky) (hky) (fun r10 => ?_)
      refine wa_ifeq (w_rg0 (by omega) (by omega)) ⟨_, rfl⟩ (fun c11 => ?_) (fun c11 => ?_)
      · skip
        exfalso; omega
      · skip
        refine wa_aload_n (n := 0) rfl ?_
        refine wa_aload_n (n := 0) rfl ?_
        refine wb_gf4 237 rfl (wy_pr rfl) wt_237 wf_15_138 (v := 363) wl_237_138 ?_
        refine wa_iload_n (n := 2) rfl ?_
        refine wb_iald 363 rfl (wy_pr rfl) wt_363 (n := 4200) ((ml_363 hM)) (by omega) (by omega) (v := ky) (hky) (fun r12 => ?_)
        refine wa_cv 237 rfl (wy_pr rfl) wt_237 (M2 := fun _ => False) rfl at_M_hasShape ⟨_, rfl⟩ rfl rfl ⟨(Or.inr ⟨wy_pr rfl, fun q => q⟩), trivial, trivial, trivial⟩ trivial (fun _ _ q => False.elim q) ?_ (fun _ _ _ q => q)
        refine wa_iload_n (n := 1) rfl ?_
        refine wa_iconst ?_
        refine wa_icmpeq (w_rg0 (by omega) (by omega)) (w_rg0 (by omega) (by omega)) ⟨_, rfl⟩ (fun c13 => ?_) (fun c13 => ?_)
        · skip
          refine wa_iconst ?_
          refine wa_goto ⟨_, rfl⟩ ?_
          refine wa_zreturn rfl (Or.inr rfl) ?_
          show wJ _ _ _ _ _ _ _ _ _ _
          refine wa_ifne (w_rg0 (by omega) (by omega)) ⟨_, rfl⟩ (fun c14 => ?_) (fun c14 => ?_)
          · skip
            exfalso; omega
          · skip
            exact absurd c14 (by omega)
        · skip
          refine wa_iload_n (n := 1) rfl ?_
          refine wa_iconst ?_
          refine wa_icmpne (w_rg0 (by omega) (by omega)) (w_rg0 (by omega) (by omega)) ⟨_, rfl⟩ (fun c15 => ?_) (fun c15 => ?_)
          · skip
            refine wa_iconst ?_
            refine wa_fall ⟨_, rfl⟩ ?_
            refine wa_zreturn rfl (Or.inl rfl) ?_
            show wJ _ _ _ _ _ _ _ _ _ _
            refine wa_ifne (w_rg0 (by omega) (by omega)) ⟨_, rfl⟩ (fun c16 => ?_) (fun c16 => ?_)
            · skip
              exact absurd c16 (by omega)
            · skip
              refine wa_fall ⟨_, rfl⟩ ?_
              refine wa_aload_n (n := 0) rfl ?_
              refine wa_bipush (w_rg2 (by omega) (by omega)) ?_
              refine wa_cv 237 rfl (wy_pr rfl) wt_237 (M2 := fun _ => False) rfl at_M_error ⟨_, rfl⟩ rfl rfl ⟨(Or.inr ⟨wy_pr rfl, fun q => q⟩), trivial, trivial, trivial⟩ trivial (fun _ _ q => False.elim q) ?_ (fun _ _ _ q => q)
              refine wa_aload_n (n := 0) rfl ?_
              refine wb_gf4 237 rfl (wy_pr rfl) wt_237 wf_15_1 (v := 238) wl_237_1 ?_
              refine wa_iload_n (n := 1) rfl ?_
              refine wa_iconst ?_
              refine wa_cv 238 rfl (wy_pr rfl) wt_238 (M2 := fun _ => False) rfl at_MH_of ⟨_, rfl⟩ rfl rfl ⟨(Or.inr ⟨wy_pr rfl, fun q => q⟩), trivial, trivial⟩ trivial (fun _ _ q => False.elim q) ?_ (fun _ _ _ q => q)
              refine wa_aload_n (n := 0) rfl ?_
              refine wa_iload_n (n := 1) rfl ?_
              refine wb_pfi 238 rfl (wy_pr rfl) wt_238 wf_11_5 (n := 5) rfl ⟨(by omega), (by omega)⟩ ?_
              refine wa_aload_n (n := 0) rfl ?_
              refine wa_iload_n (n := 2) rfl ?_
              refine wb_pfi 238 rfl (wy_pr rfl) wt_238 wf_11_6 (n := 6) rfl ⟨(by omega), (by omega)⟩ ?_
              refine wa_aload_n (n := 0) rfl ?_
              refine wa_oreturn rfl ?_
              show wJ _ _ _ _ _ _ _ _ _ _
              refine wa_th (j := 238) ?_
              refine ⟨rfl, ?_⟩
              refine ⟨rfl, ?_⟩
              refine ⟨rfl, ?_⟩
              exact ⟨rfl, rfl⟩
          · skip
            refine wa_fall ⟨_, rfl⟩ ?_
            refine wa_iconst ?_
            refine wa_goto ⟨_, rfl⟩ ?_
            refine wa_zreturn rfl (Or.inr rfl) ?_
            show wJ _ _ _ _ _ _ _ _ _ _
            refine wa_ifne (w_rg0 (by omega) (by omega)) ⟨_, rfl⟩ (fun c17 => ?_) (fun c17 => ?_)
            · skip
              exfalso; omega
            · skip
              exact absurd c17 (by omega)
  · skip
    refine wa_iload_n (n := 1) rfl ?_
    refine wa_iconst ?_
    refine wa_icmpne (w_rg0 (by omega) (by omega)) (w_rg0 (by omega) (by omega)) ⟨_, rfl⟩ (fun c18 => ?_) (fun c18 => ?_)
    · skip
      refine wa_iconst ?_
      refine wa_fall ⟨_, rfl⟩ ?_
      refine wa_zreturn rfl (Or.inl rfl) ?_
      show wJ _ _ _ _ _ _ _ _ _ _
      refine wa_ifeq (w_rg0 (by omega) (by omega)) ⟨_, rfl⟩ (fun c19 => ?_) (fun c19 => ?_)
      · skip
        refine wa_aload_n (n := 0) rfl ?_
        refine wa_bipush (w_rg2 (by omega) (by omega)) ?_
        refine wa_cv 237 rfl (wy_pr rfl) wt_237 (M2 := fun _ => False) rfl at_M_error ⟨_, rfl⟩ rfl rfl ⟨(Or.inr ⟨wy_pr rfl, fun q => q⟩), trivial, trivial, trivial⟩ trivial (fun _ _ q => False.elim q) ?_ (fun _ _ _ q => q)
        refine wa_aload_n (n := 0) rfl ?_
        refine wb_gf4 237 rfl (wy_pr rfl) wt_237 wf_15_1 (v := 238) wl_237_1 ?_
        refine wa_iload_n (n := 1) rfl ?_
        refine wa_iconst ?_
        refine wa_cv 238 rfl (wy_pr rfl) wt_238 (M2 := fun _ => False) rfl at_MH_of ⟨_, rfl⟩ rfl rfl ⟨(Or.inr ⟨wy_pr rfl, fun q => q⟩), trivial, trivial⟩ trivial (fun _ _ q => False.elim q) ?_ (fun _ _ _ q => q)
        refine wa_aload_n (n := 0) rfl ?_
        refine wa_iload_n (n := 1) rfl ?_
        refine wb_pfi 238 rfl (wy_pr rfl) wt_238 wf_11_5 (n := 5) rfl ⟨(by omega), (by omega)⟩ ?_
        refine wa_aload_n (n := 0) rfl ?_
        refine wa_iload_n (n := 2) rfl ?_
        refine wb_pfi 238 rfl (wy_pr rfl) wt_238 wf_11_6 (n := 6) rfl ⟨(by omega), (by omega)⟩ ?_
        refine wa_aload_n (n := 0) rfl ?_
        refine wa_oreturn rfl ?_
        show wJ _ _ _ _ _ _ _ _ _ _
        refine wa_th (j := 238) ?_
        refine ⟨rfl, ?_⟩
        refine ⟨rfl, ?_⟩
        refine ⟨rfl, ?_⟩
        exact ⟨rfl, rfl⟩
      · skip
        exact absurd c19 (by omega)
    · skip
      refine wa_fall ⟨_, rfl⟩ ?_
      refine wa_iconst ?_
      refine wa_goto ⟨_, rfl⟩ ?_
      refine wa_zreturn rfl (Or.inr rfl) ?_
      show wJ _ _ _ _ _ _ _ _ _ _
      refine wa_ifeq (w_rg0 (by omega) (by omega)) ⟨_, rfl⟩ (fun c20 => ?_) (fun c20 => ?_)
      · skip
        exact absurd c20 (by omega)
      · skip
        refine wa_aload_n (n := 0) rfl ?_
        refine wb_gf4 237 rfl (wy_pr rfl) wt_237 wf_15_138 (v := 363) wl_237_138 ?_
        refine wa_iload_n (n := 2) rfl ?_
        refine wb_iald 363 rfl (wy_pr rfl) wt_363 (n := 4200) ((ml_363 hM)) (by omega) (by omega) (v := ky) (hky) (fun r21 => ?_)
        refine wa_ifeq (w_rg0 (by omega) (by omega)) ⟨_, rfl⟩ (fun c22 => ?_) (fun c22 => ?_)
        · skip
          exfalso; omega
        · skip
          refine wa_aload_n (n := 0) rfl ?_
          refine wa_aload_n (n := 0) rfl ?_
          refine wb_gf4 237 rfl (wy_pr rfl) wt_237 wf_15_138 (v := 363) wl_237_138 ?_
          refine wa_iload_n (n := 2) rfl ?_
          refine wb_iald 363 rfl (wy_pr rfl) wt_363 (n := 4200) ((ml_363 hM)) (by omega) (by omega) (v := ky) (hky) (fun r23 => ?_)
          refine wa_cv 237 rfl (wy_pr rfl) wt_237 (M2 := fun _ => False) rfl at_M_hasShape ⟨_, rfl⟩ rfl rfl ⟨(Or.inr ⟨wy_pr rfl, fun q => q⟩), trivial, trivial, trivial⟩ trivial (fun _ _ q => False.elim q) ?_ (fun _ _ _ q => q)
          refine wa_iload_n (n := 1) rfl ?_
          refine wa_iconst ?_
          refine wa_icmpeq (w_rg0 (by omega) (by omega)) (w_rg0 (by omega) (by omega)) ⟨_, rfl⟩ (fun c24 => ?_) (fun c24 => ?_)
          · skip
            refine wa_iconst ?_
            refine wa_goto ⟨_, rfl⟩ ?_
            refine wa_zreturn rfl (Or.inr rfl) ?_
            show wJ _ _ _ _ _ _ _ _ _ _
            refine wa_ifne (w_rg0 (by omega) (by omega)) ⟨_, rfl⟩ (fun c25 => ?_) (fun c25 => ?_)
            · skip
              exfalso; omega
            · skip
              exact absurd c25 (by omega)
          · skip
            refine wa_iload_n (n := 1) rfl ?_
            refine wa_iconst ?_
            refine wa_icmpne (w_rg0 (by omega) (by omega)) (w_rg0 (by omega) (by omega)) ⟨_, rfl⟩ (fun c26 => ?_) (fun c26 => ?_)
            · skip
              refine wa_iconst ?_
              refine wa_fall ⟨_, rfl⟩ ?_
              refine wa_zreturn rfl (Or.inl rfl) ?_
              show wJ _ _ _ _ _ _ _ _ _ _
              refine wa_ifne (w_rg0 (by omega) (by omega)) ⟨_, rfl⟩ (fun c27 => ?_) (fun c27 => ?_)
              · skip
                exact absurd c27 (by omega)
              · skip
                refine wa_fall ⟨_, rfl⟩ ?_
                refine wa_aload_n (n := 0) rfl ?_
                refine wa_bipush (w_rg2 (by omega) (by omega)) ?_
                refine wa_cv 237 rfl (wy_pr rfl) wt_237 (M2 := fun _ => False) rfl at_M_error ⟨_, rfl⟩ rfl rfl ⟨(Or.inr ⟨wy_pr rfl, fun q => q⟩), trivial, trivial, trivial⟩ trivial (fun _ _ q => False.elim q) ?_ (fun _ _ _ q => q)
                refine wa_aload_n (n := 0) rfl ?_
                refine wb_gf4 237 rfl (wy_pr rfl) wt_237 wf_15_1 (v := 238) wl_237_1 ?_
                refine wa_iload_n (n := 1) rfl ?_
                refine wa_iconst ?_
                refine wa_cv 238 rfl (wy_pr rfl) wt_238 (M2 := fun _ => False) rfl at_MH_of ⟨_, rfl⟩ rfl rfl ⟨(Or.inr ⟨wy_pr rfl, fun q => q⟩), trivial, trivial⟩ trivial (fun _ _ q => False.elim q) ?_ (fun _ _ _ q => q)
                refine wa_aload_n (n := 0) rfl ?_
                refine wa_iload_n (n := 1) rfl ?_
                refine wb_pfi 238 rfl (wy_pr rfl) wt_238 wf_11_5 (n := 5) rfl ⟨(by omega), (by omega)⟩ ?_
                refine wa_aload_n (n := 0) rfl ?_
                refine wa_iload_n (n := 2) rfl ?_
                refine wb_pfi 238 rfl (wy_pr rfl) wt_238 wf_11_6 (n := 6) rfl ⟨(by omega), (by omega)⟩ ?_
                refine wa_aload_n (n := 0) rfl ?_
                refine wa_oreturn rfl ?_
                show wJ _ _ _ _ _ _ _ _ _ _
                refine wa_th (j := 238) ?_
                refine ⟨rfl, ?_⟩
                refine ⟨rfl, ?_⟩
                refine ⟨rfl, ?_⟩
                exact ⟨rfl, rfl⟩
            · skip
              refine wa_fall ⟨_, rfl⟩ ?_
              refine wa_iconst ?_
              refine wa_goto ⟨_, rfl⟩ ?_
              refine wa_zreturn rfl (Or.inr rfl) ?_
              show wJ _ _ _ _ _ _ _ _ _ _
              refine wa_ifne (w_rg0 (by omega) (by omega)) ⟨_, rfl⟩ (fun c28 => ?_) (fun c28 => ?_)
              · skip
                exfalso; omega
              · skip
                exact absurd c28 (by omega)
theorem rnb30 (h : stR t S K) (hs : S 357 t = 1) (hi : rIn S K 28 3 b) (hW : rWd S sl T L G) (hH : rHs S H) (hwS : wSh T H) (hT : (T.length : Int) ≤ 8000) (h82 : S 237 82 ≤ 60000) (hu4 : 0 ≤ S 237 66 ∧ S 237 66 ≤ 4000 ∧ (H.length : Int) ≤ S 237 66 + 1) (hnb : ∀ s : Int, 0 ≤ s → s < (H.length : Int) → qNm H s ≤ 100000) (hch : 0 ≤ S 237 81 ∧ S 237 81 ≤ 9000000) (hep : ∀ k : Int, isO T k → (tO T k).2.2.2.2.1 ≤ S 237 81) (hh1 : 2 ≤ K.1.length) (hx : (K.1.getD (K.1.length - 2) (0, 0, [])).1 = 4 ∨ (K.1.getD (K.1.length - 2) (0, 0, [])).1 = 5) (ho : isO T (K.1.getD (K.1.length - 2) (0, 0, [])).2.1) (hy : (K.1.getD (K.1.length - 1) (0, 0, [])).1 = 0) (hm0 : hMe (aPr T H) (K.1.getD (K.1.length - 2) (0, 0, [])).2.1 (T.length + 1) (-1) = 0) (hm : S 237 66 + aMb H (-1) (fS (-1) (aNs H (tO T (K.1.getD (K.1.length - 2) (0, 0, [])).2.1).2.1) 0) ≤ 4000) : rSm xs d t rMt S (kP K 2 (K.1.getD (K.1.length - 2) (0, 0, []))) (fun Z => rWd Z sl (tNc (rsT T H (-1)) (K.1.getD (K.1.length - 2) (0, 0, [])).2.1 (rsS T H (-1) (fS (-1) (aNs H (tO T (K.1.getD (K.1.length - 2) (0, 0, [])).2.1).2.1) 0)) (S 237 81)) L G ∧ rHs Z (rsH T H (-1) (fS (-1) (aNs H (tO T (K.1.getD (K.1.length - 2) (0, 0, [])).2.1).2.1) 0)) ∧ (Z 237 66 = S 237 66 + aMb H (-1) (fS (-1) (aNs H (tO T (K.1.getD (K.1.length - 2) (0, 0, [])).2.1).2.1) 0) ∧ Z 237 81 = S 237 81 + (if (tO (aBr T H (-1)).1 (K.1.getD (K.1.length - 2) (0, 0, [])).2.1).2.2.2.2.1 = -1 then 0 else 1)) ∧ ∀ x : Int, x ≠ 66 → x ≠ 87 → x ≠ 81 → x ≠ 154 → x ≠ 155 → Z 237 x = S 237 x) := by
  obtain ⟨h1, h2, h3, h4b, ⟨h7, h8, h9, h9b⟩, -⟩ := id h
  have hW2 : rWd (w_up (w_up S 237 154 (200 * t + (K.2.1.length : Int) - 1)) 237 155 ((K.2.1.getD (K.2.1.length - 1) (0, 0, 0, (0, 0, []), 0, 0, 0)).2.1 + 1)) sl T L G := rWd_T0 hW
  have hH2 : rHs (w_up (w_up S 237 154 (200 * t + (K.2.1.length : Int) - 1)) 237 155 ((K.2.1.getD (K.2.1.length - 1) (0, 0, 0, (0, 0, []), 0, 0, 0)).2.1 + 1)) H := rHs_up (rHs_up hH (by first | decide | omega)) (by first | decide | omega)
  have hk0 : rTk t (w_up (w_up S 237 154 (200 * t + (K.2.1.length : Int) - 1)) 237 155 ((K.2.1.getD (K.2.1.length - 1) (0, 0, 0, (0, 0, []), 0, 0, 0)).2.1 + 1)) K := T0_k h1
  have et : ∀ x : Int, x ≠ 154 → x ≠ 155 → (w_up (w_up S 237 154 (200 * t + (K.2.1.length : Int) - 1)) 237 155 ((K.2.1.getD (K.2.1.length - 1) (0, 0, 0, (0, 0, []), 0, 0, 0)).2.1 + 1)) 237 x = S 237 x := fun x x0 x1 => (w_up_at x1).trans (w_up_at x0)
  have e4 := et 66 (by first | decide | omega) (by first | decide | omega)
  have e1 := et 81 (by first | decide | omega) (by first | decide | omega)
  have hcy := r_at hk0 (i := K.1.length - 1) (by omega) (j := (2100 * t + (K.1.length : Int) - 1)) (by omega)
  have hcx := r_at hk0 (i := K.1.length - 2) (by omega) (j := (2100 * t + (K.1.length : Int) - 1) - 1) (by omega)
  have hvx : (w_up (w_up S 237 154 (200 * t + (K.2.1.length : Int) - 1)) 237 155 ((K.2.1.getD (K.2.1.length - 1) (0, 0, 0, (0, 0, []), 0, 0, 0)).2.1 + 1)) 364 ((2100 * t + (K.1.length : Int) - 1) - 1) = (K.1.getD (K.1.length - 2) (0, 0, [])).2.1 := rV_v hcx (by omega)
  have hlen : (rsT T H (-1)).length = T.length := (aBr_ok (l := (fS (-1) (aNs H (tO T (K.1.getD (K.1.length - 2) (0, 0, [])).2.1).2.1) 0)) hwS (Or.inl rfl) (by have := hwS.1.2.1; omega)).2.2.2.2.2.2.2
  refine rg_t (R := fun Z => ∃ A : wS, rbQ (-1) (-1) (K.1.getD (K.1.length - 2) (0, 0, [])).2.1 sl T H L G (w_up (w_up S 237 154 (200 * t + (K.2.1.length : Int) - 1)) 237 155 ((K.2.1.getD (K.2.1.length - 1) (0, 0, 0, (0, 0, []), 0, 0, 0)).2.1 + 1)) A ∧ w_up (chZ (K.1.getD (K.1.length - 2) (0, 0, [])).2.1 (tO (aBr T H (-1)).1 (K.1.getD (K.1.length - 2) (0, 0, [])).2.1).2.2.2.2.1 ((w_up (w_up S 237 154 (200 * t + (K.2.1.length : Int) - 1)) 237 155 ((K.2.1.getD (K.2.1.length - 1) (0, 0, 0, (0, 0, []), 0, 0, 0)).2.1 + 1)) 237 81) (w_up A 315 (K.1.getD (K.1.length - 2) (0, 0, [])).2.1 (rsS T H (-1) (fS (-1) (aNs H (tO T (K.1.getD (K.1.length - 2) (0, 0, [])).2.1).2.1) 0)))) 359 t ((K.1.length : Int) - 1) = Z) h hs hi.1 hi.2.1 hi.2.2 (by first | decide | omega) (wJ_mono (yb30 (o1 := (K.1.getD (K.1.length - 2) (0, 0, [])).2.1) (mP_of h) hcx.1 hvx (by omega) hx ho (hcy.1.trans hy) hW2 hH2 hwS hT (by rw [et 82 (by first | decide | omega) (by first | decide | omega)]; exact h82) (by rw [e4]; exact hu4) hnb (by rw [e1]; exact hch) (by rw [e1]; exact hep)) (fun o Z hz => ?_)) (fun Z hz => ?_)
  · rcases hz with ⟨z, -⟩ | ⟨-, z, -⟩ | ⟨-, -, z⟩
    · rw [hm0] at z; exact absurd z (by first | decide | omega)
    · rw [e4] at z; omega
    · exact z
  · obtain ⟨A, hA, hz⟩ := hz
    exact rs_tail (l := (fS (-1) (aNs H (tO T (K.1.getD (K.1.length - 2) (0, 0, [])).2.1).2.1) 0)) h hh1 ho.1 hlen (by rw [(hwS.2.2.2.1 _ ho).1]) rfl (aBr_ep hwS (Or.inl rfl) ho (m := S 237 81) hep hch).1 hA hz
theorem rnb30r (h : stR t S K) (hs : S 357 t = 1) (hi : rIn S K 28 3 b) (hW : rWd S sl T L G) (hH : rHs S H) (hwS : wSh T H) (hT : (T.length : Int) ≤ 8000) (h82 : S 237 82 ≤ 60000) (hu4 : 0 ≤ S 237 66 ∧ S 237 66 ≤ 4000 ∧ (H.length : Int) ≤ S 237 66 + 1) (hnb : ∀ s : Int, 0 ≤ s → s < (H.length : Int) → qNm H s ≤ 100000) (hch : 0 ≤ S 237 81 ∧ S 237 81 ≤ 9000000) (hep : ∀ k : Int, isO T k → (tO T k).2.2.2.2.1 ≤ S 237 81) (hh1 : 2 ≤ K.1.length) (hx : (K.1.getD (K.1.length - 2) (0, 0, [])).1 = 4 ∨ (K.1.getD (K.1.length - 2) (0, 0, [])).1 = 5) (ho : isO T (K.1.getD (K.1.length - 2) (0, 0, [])).2.1) (hy : (K.1.getD (K.1.length - 1) (0, 0, [])).1 = 0) (hm0 : hMe (aPr T H) (K.1.getD (K.1.length - 2) (0, 0, [])).2.1 (T.length + 1) (-1) = 1) : rSt xs d t S (kTh K (2, 12, [])) := by
  obtain ⟨h1, h2, h3, h4b, ⟨h7, h8, h9, h9b⟩, -⟩ := id h
  have hW2 : rWd (w_up (w_up S 237 154 (200 * t + (K.2.1.length : Int) - 1)) 237 155 ((K.2.1.getD (K.2.1.length - 1) (0, 0, 0, (0, 0, []), 0, 0, 0)).2.1 + 1)) sl T L G := rWd_T0 hW
  have hH2 : rHs (w_up (w_up S 237 154 (200 * t + (K.2.1.length : Int) - 1)) 237 155 ((K.2.1.getD (K.2.1.length - 1) (0, 0, 0, (0, 0, []), 0, 0, 0)).2.1 + 1)) H := rHs_up (rHs_up hH (by first | decide | omega)) (by first | decide | omega)
  have hk0 : rTk t (w_up (w_up S 237 154 (200 * t + (K.2.1.length : Int) - 1)) 237 155 ((K.2.1.getD (K.2.1.length - 1) (0, 0, 0, (0, 0, []), 0, 0, 0)).2.1 + 1)) K := T0_k h1
  have et : ∀ x : Int, x ≠ 154 → x ≠ 155 → (w_up (w_up S 237 154 (200 * t + (K.2.1.length : Int) - 1)) 237 155 ((K.2.1.getD (K.2.1.length - 1) (0, 0, 0, (0, 0, []), 0, 0, 0)).2.1 + 1)) 237 x = S 237 x := fun x x0 x1 => (w_up_at x1).trans (w_up_at x0)
  have e4 := et 66 (by first | decide | omega) (by first | decide | omega)
  have e1 := et 81 (by first | decide | omega) (by first | decide | omega)
  have hcy := r_at hk0 (i := K.1.length - 1) (by omega) (j := (2100 * t + (K.1.length : Int) - 1)) (by omega)
  have hcx := r_at hk0 (i := K.1.length - 2) (by omega) (j := (2100 * t + (K.1.length : Int) - 1) - 1) (by omega)
  have hvx : (w_up (w_up S 237 154 (200 * t + (K.2.1.length : Int) - 1)) 237 155 ((K.2.1.getD (K.2.1.length - 1) (0, 0, 0, (0, 0, []), 0, 0, 0)).2.1 + 1)) 364 ((2100 * t + (K.1.length : Int) - 1) - 1) = (K.1.getD (K.1.length - 2) (0, 0, [])).2.1 := rV_v hcx (by omega)
  exact rx_t h hs hi.1 hi.2.1 hi.2.2 (by first | decide | omega) (by first | decide | omega) (wJ_mono (yb30 (o1 := (K.1.getD (K.1.length - 2) (0, 0, [])).2.1) (mP_of h) hcx.1 hvx (by omega) hx ho (hcy.1.trans hy) hW2 hH2 hwS hT (by rw [et 82 (by first | decide | omega) (by first | decide | omega)]; exact h82) (by rw [e4]; exact hu4) hnb (by rw [e1]; exact hch) (by rw [e1]; exact hep)) (fun o Z hz => by
    rcases hz with ⟨-, z⟩ | ⟨z, -⟩ | ⟨z, -⟩
    · exact z
    · rw [hm0] at z; exact absurd z (by first | decide | omega)
    · rw [hm0] at z; exact absurd z (by first | decide | omega)))
theorem rnb30m (h : stR t S K) (hs : S 357 t = 1) (hi : rIn S K 28 3 b) (hW : rWd S sl T L G) (hH : rHs S H) (hwS : wSh T H) (hT : (T.length : Int) ≤ 8000) (h82 : S 237 82 ≤ 60000) (hu4 : 0 ≤ S 237 66 ∧ S 237 66 ≤ 4000 ∧ (H.length : Int) ≤ S 237 66 + 1) (hnb : ∀ s : Int, 0 ≤ s → s < (H.length : Int) → qNm H s ≤ 100000) (hch : 0 ≤ S 237 81 ∧ S 237 81 ≤ 9000000) (hep : ∀ k : Int, isO T k → (tO T k).2.2.2.2.1 ≤ S 237 81) (hh1 : 2 ≤ K.1.length) (hx : (K.1.getD (K.1.length - 2) (0, 0, [])).1 = 4 ∨ (K.1.getD (K.1.length - 2) (0, 0, [])).1 = 5) (ho : isO T (K.1.getD (K.1.length - 2) (0, 0, [])).2.1) (hy : (K.1.getD (K.1.length - 1) (0, 0, [])).1 = 0) (hm0 : hMe (aPr T H) (K.1.getD (K.1.length - 2) (0, 0, [])).2.1 (T.length + 1) (-1) = 0) (hm : 4000 < S 237 66 + aMb H (-1) (fS (-1) (aNs H (tO T (K.1.getD (K.1.length - 2) (0, 0, [])).2.1).2.1) 0)) : rSn xs d t S K := by
  obtain ⟨h1, h2, h3, h4b, ⟨h7, h8, h9, h9b⟩, -⟩ := id h
  have hW2 : rWd (w_up (w_up S 237 154 (200 * t + (K.2.1.length : Int) - 1)) 237 155 ((K.2.1.getD (K.2.1.length - 1) (0, 0, 0, (0, 0, []), 0, 0, 0)).2.1 + 1)) sl T L G := rWd_T0 hW
  have hH2 : rHs (w_up (w_up S 237 154 (200 * t + (K.2.1.length : Int) - 1)) 237 155 ((K.2.1.getD (K.2.1.length - 1) (0, 0, 0, (0, 0, []), 0, 0, 0)).2.1 + 1)) H := rHs_up (rHs_up hH (by first | decide | omega)) (by first | decide | omega)
  have hk0 : rTk t (w_up (w_up S 237 154 (200 * t + (K.2.1.length : Int) - 1)) 237 155 ((K.2.1.getD (K.2.1.length - 1) (0, 0, 0, (0, 0, []), 0, 0, 0)).2.1 + 1)) K := T0_k h1
  have et : ∀ x : Int, x ≠ 154 → x ≠ 155 → (w_up (w_up S 237 154 (200 * t + (K.2.1.length : Int) - 1)) 237 155 ((K.2.1.getD (K.2.1.length - 1) (0, 0, 0, (0, 0, []), 0, 0, 0)).2.1 + 1)) 237 x = S 237 x := fun x x0 x1 => (w_up_at x1).trans (w_up_at x0)
  have e4 := et 66 (by first | decide | omega) (by first | decide | omega)
  have e1 := et 81 (by first | decide | omega) (by first | decide | omega)
  have hcy := r_at hk0 (i := K.1.length - 1) (by omega) (j := (2100 * t + (K.1.length : Int) - 1)) (by omega)
  have hcx := r_at hk0 (i := K.1.length - 2) (by omega) (j := (2100 * t + (K.1.length : Int) - 1) - 1) (by omega)
  have hvx : (w_up (w_up S 237 154 (200 * t + (K.2.1.length : Int) - 1)) 237 155 ((K.2.1.getD (K.2.1.length - 1) (0, 0, 0, (0, 0, []), 0, 0, 0)).2.1 + 1)) 364 ((2100 * t + (K.1.length : Int) - 1) - 1) = (K.1.getD (K.1.length - 2) (0, 0, [])).2.1 := rV_v hcx (by omega)
  exact rm_t h hs hi.1 hi.2.1 hi.2.2 (by first | decide | omega) (wJ_mono (yb30 (o1 := (K.1.getD (K.1.length - 2) (0, 0, [])).2.1) (mP_of h) hcx.1 hvx (by omega) hx ho (hcy.1.trans hy) hW2 hH2 hwS hT (by rw [et 82 (by first | decide | omega) (by first | decide | omega)]; exact h82) (by rw [e4]; exact hu4) hnb (by rw [e1]; exact hch) (by rw [e1]; exact hep)) (fun o Z hz => by
    rcases hz with ⟨z, -⟩ | ⟨-, -, z⟩ | ⟨-, z, -⟩
    · rw [hm0] at z; exact absurd z (by first | decide | omega)
    · exact z
    · rw [e4] at z; omega))
theorem rnb31 (h : stR t S K) (hs : S 357 t = 1) (hi : rIn S K 28 3 b) (hW : rWd S sl T L G) (hH : rHs S H) (hwS : wSh T H) (hT : (T.length : Int) ≤ 8000) (h82 : S 237 82 ≤ 60000) (hu4 : 0 ≤ S 237 66 ∧ S 237 66 ≤ 4000 ∧ (H.length : Int) ≤ S 237 66 + 1) (hnb : ∀ s : Int, 0 ≤ s → s < (H.length : Int) → qNm H s ≤ 100000) (hch : 0 ≤ S 237 81 ∧ S 237 81 ≤ 9000000) (hep : ∀ k : Int, isO T k → (tO T k).2.2.2.2.1 ≤ S 237 81) (hh1 : 2 ≤ K.1.length) (hx : (K.1.getD (K.1.length - 2) (0, 0, [])).1 = 4 ∨ (K.1.getD (K.1.length - 2) (0, 0, [])).1 = 5) (ho : isO T (K.1.getD (K.1.length - 2) (0, 0, [])).2.1) (hy : (K.1.getD (K.1.length - 1) (0, 0, [])).1 = 4 ∨ (K.1.getD (K.1.length - 1) (0, 0, [])).1 = 5) (hq : isO T (K.1.getD (K.1.length - 1) (0, 0, [])).2.1) (hm0 : hMe (aPr T H) (K.1.getD (K.1.length - 2) (0, 0, [])).2.1 (T.length + 1) (K.1.getD (K.1.length - 1) (0, 0, [])).2.1 = 0) (hm : S 237 66 + aMb H (K.1.getD (K.1.length - 1) (0, 0, [])).2.1 (fS (-1) (aNs H (tO T (K.1.getD (K.1.length - 2) (0, 0, [])).2.1).2.1) 0) ≤ 4000) : rSm xs d t rMt S (kP K 2 (K.1.getD (K.1.length - 2) (0, 0, []))) (fun Z => rWd Z sl (tNc (rsT T H (K.1.getD (K.1.length - 1) (0, 0, [])).2.1) (K.1.getD (K.1.length - 2) (0, 0, [])).2.1 (rsS T H (K.1.getD (K.1.length - 1) (0, 0, [])).2.1 (fS (-1) (aNs H (tO T (K.1.getD (K.1.length - 2) (0, 0, [])).2.1).2.1) 0)) (S 237 81)) L G ∧ rHs Z (rsH T H (K.1.getD (K.1.length - 1) (0, 0, [])).2.1 (fS (-1) (aNs H (tO T (K.1.getD (K.1.length - 2) (0, 0, [])).2.1).2.1) 0)) ∧ (Z 237 66 = S 237 66 + aMb H (K.1.getD (K.1.length - 1) (0, 0, [])).2.1 (fS (-1) (aNs H (tO T (K.1.getD (K.1.length - 2) (0, 0, [])).2.1).2.1) 0) ∧ Z 237 81 = S 237 81 + (if (tO (aBr T H (K.1.getD (K.1.length - 1) (0, 0, [])).2.1).1 (K.1.getD (K.1.length - 2) (0, 0, [])).2.1).2.2.2.2.1 = -1 then 0 else 1)) ∧ ∀ x : Int, x ≠ 66 → x ≠ 87 → x ≠ 81 → x ≠ 154 → x ≠ 155 → Z 237 x = S 237 x) := by
  obtain ⟨h1, h2, h3, h4b, ⟨h7, h8, h9, h9b⟩, -⟩ := id h
  have hW2 : rWd (w_up (w_up S 237 154 (200 * t + (K.2.1.length : Int) - 1)) 237 155 ((K.2.1.getD (K.2.1.length - 1) (0, 0, 0, (0, 0, []), 0, 0, 0)).2.1 + 1)) sl T L G := rWd_T0 hW
  have hH2 : rHs (w_up (w_up S 237 154 (200 * t + (K.2.1.length : Int) - 1)) 237 155 ((K.2.1.getD (K.2.1.length - 1) (0, 0, 0, (0, 0, []), 0, 0, 0)).2.1 + 1)) H := rHs_up (rHs_up hH (by first | decide | omega)) (by first | decide | omega)
  have hk0 : rTk t (w_up (w_up S 237 154 (200 * t + (K.2.1.length : Int) - 1)) 237 155 ((K.2.1.getD (K.2.1.length - 1) (0, 0, 0, (0, 0, []), 0, 0, 0)).2.1 + 1)) K := T0_k h1
  have et : ∀ x : Int, x ≠ 154 → x ≠ 155 → (w_up (w_up S 237 154 (200 * t + (K.2.1.length : Int) - 1)) 237 155 ((K.2.1.getD (K.2.1.length - 1) (0, 0, 0, (0, 0, []), 0, 0, 0)).2.1 + 1)) 237 x = S 237 x := fun x x0 x1 => (w_up_at x1).trans (w_up_at x0)
  have e4 := et 66 (by first | decide | omega) (by first | decide | omega)
  have e1 := et 81 (by first | decide | omega) (by first | decide | omega)
  have hcy := r_at hk0 (i := K.1.length - 1) (by omega) (j := (2100 * t + (K.1.length : Int) - 1)) (by omega)
  have hcx := r_at hk0 (i := K.1.length - 2) (by omega) (j := (2100 * t + (K.1.length : Int) - 1) - 1) (by omega)
  have hvx : (w_up (w_up S 237 154 (200 * t + (K.2.1.length : Int) - 1)) 237 155 ((K.2.1.getD (K.2.1.length - 1) (0, 0, 0, (0, 0, []), 0, 0, 0)).2.1 + 1)) 364 ((2100 * t + (K.1.length : Int) - 1) - 1) = (K.1.getD (K.1.length - 2) (0, 0, [])).2.1 := rV_v hcx (by omega)
  have hvy : (w_up (w_up S 237 154 (200 * t + (K.2.1.length : Int) - 1)) 237 155 ((K.2.1.getD (K.2.1.length - 1) (0, 0, 0, (0, 0, []), 0, 0, 0)).2.1 + 1)) 364 (2100 * t + (K.1.length : Int) - 1) = (K.1.getD (K.1.length - 1) (0, 0, [])).2.1 := rV_v hcy (by omega)
  have hlen : (rsT T H (K.1.getD (K.1.length - 1) (0, 0, [])).2.1).length = T.length := (aBr_ok (l := (fS (-1) (aNs H (tO T (K.1.getD (K.1.length - 2) (0, 0, [])).2.1).2.1) 0)) hwS (Or.inr hq) (by have := hwS.1.2.1; omega)).2.2.2.2.2.2.2
  refine rg_t (R := fun Z => ∃ A : wS, rbQ (K.1.getD (K.1.length - 1) (0, 0, [])).2.1 (-1) (K.1.getD (K.1.length - 2) (0, 0, [])).2.1 sl T H L G (w_up (w_up S 237 154 (200 * t + (K.2.1.length : Int) - 1)) 237 155 ((K.2.1.getD (K.2.1.length - 1) (0, 0, 0, (0, 0, []), 0, 0, 0)).2.1 + 1)) A ∧ w_up (chZ (K.1.getD (K.1.length - 2) (0, 0, [])).2.1 (tO (aBr T H (K.1.getD (K.1.length - 1) (0, 0, [])).2.1).1 (K.1.getD (K.1.length - 2) (0, 0, [])).2.1).2.2.2.2.1 ((w_up (w_up S 237 154 (200 * t + (K.2.1.length : Int) - 1)) 237 155 ((K.2.1.getD (K.2.1.length - 1) (0, 0, 0, (0, 0, []), 0, 0, 0)).2.1 + 1)) 237 81) (w_up A 315 (K.1.getD (K.1.length - 2) (0, 0, [])).2.1 (rsS T H (K.1.getD (K.1.length - 1) (0, 0, [])).2.1 (fS (-1) (aNs H (tO T (K.1.getD (K.1.length - 2) (0, 0, [])).2.1).2.1) 0)))) 359 t ((K.1.length : Int) - 1) = Z) h hs hi.1 hi.2.1 hi.2.2 (by first | decide | omega) (wJ_mono (yb31 (o1 := (K.1.getD (K.1.length - 2) (0, 0, [])).2.1) (q := (K.1.getD (K.1.length - 1) (0, 0, [])).2.1) (mP_of h) hcx.1 hvx (by omega) hx ho hcy.1 hvy hy hq hW2 hH2 hwS hT (by rw [et 82 (by first | decide | omega) (by first | decide | omega)]; exact h82) (by rw [e4]; exact hu4) hnb (by rw [e1]; exact hch) (by rw [e1]; exact hep)) (fun o Z hz => ?_)) (fun Z hz => ?_)
  · rcases hz with ⟨z, -⟩ | ⟨-, z, -⟩ | ⟨-, -, z⟩
    · rw [hm0] at z; exact absurd z (by first | decide | omega)
    · rw [e4] at z; omega
    · exact z
  · obtain ⟨A, hA, hz⟩ := hz
    exact rs_tail (l := (fS (-1) (aNs H (tO T (K.1.getD (K.1.length - 2) (0, 0, [])).2.1).2.1) 0)) h hh1 ho.1 hlen (by rw [(hwS.2.2.2.1 _ ho).1]) rfl (aBr_ep hwS (Or.inr hq) ho (m := S 237 81) hep hch).1 hA hz
theorem rnb31r (h : stR t S K) (hs : S 357 t = 1) (hi : rIn S K 28 3 b) (hW : rWd S sl T L G) (hH : rHs S H) (hwS : wSh T H) (hT : (T.length : Int) ≤ 8000) (h82 : S 237 82 ≤ 60000) (hu4 : 0 ≤ S 237 66 ∧ S 237 66 ≤ 4000 ∧ (H.length : Int) ≤ S 237 66 + 1) (hnb : ∀ s : Int, 0 ≤ s → s < (H.length : Int) → qNm H s ≤ 100000) (hch : 0 ≤ S 237 81 ∧ S 237 81 ≤ 9000000) (hep : ∀ k : Int, isO T k → (tO T k).2.2.2.2.1 ≤ S 237 81) (hh1 : 2 ≤ K.1.length) (hx : (K.1.getD (K.1.length - 2) (0, 0, [])).1 = 4 ∨ (K.1.getD (K.1.length - 2) (0, 0, [])).1 = 5) (ho : isO T (K.1.getD (K.1.length - 2) (0, 0, [])).2.1) (hy : (K.1.getD (K.1.length - 1) (0, 0, [])).1 = 4 ∨ (K.1.getD (K.1.length - 1) (0, 0, [])).1 = 5) (hq : isO T (K.1.getD (K.1.length - 1) (0, 0, [])).2.1) (hm0 : hMe (aPr T H) (K.1.getD (K.1.length - 2) (0, 0, [])).2.1 (T.length + 1) (K.1.getD (K.1.length - 1) (0, 0, [])).2.1 = 1) : rSt xs d t S (kTh K (2, 12, [])) := by
  obtain ⟨h1, h2, h3, h4b, ⟨h7, h8, h9, h9b⟩, -⟩ := id h
  have hW2 : rWd (w_up (w_up S 237 154 (200 * t + (K.2.1.length : Int) - 1)) 237 155 ((K.2.1.getD (K.2.1.length - 1) (0, 0, 0, (0, 0, []), 0, 0, 0)).2.1 + 1)) sl T L G := rWd_T0 hW
  have hH2 : rHs (w_up (w_up S 237 154 (200 * t + (K.2.1.length : Int) - 1)) 237 155 ((K.2.1.getD (K.2.1.length - 1) (0, 0, 0, (0, 0, []), 0, 0, 0)).2.1 + 1)) H := rHs_up (rHs_up hH (by first | decide | omega)) (by first | decide | omega)
  have hk0 : rTk t (w_up (w_up S 237 154 (200 * t + (K.2.1.length : Int) - 1)) 237 155 ((K.2.1.getD (K.2.1.length - 1) (0, 0, 0, (0, 0, []), 0, 0, 0)).2.1 + 1)) K := T0_k h1
  have et : ∀ x : Int, x ≠ 154 → x ≠ 155 → (w_up (w_up S 237 154 (200 * t + (K.2.1.length : Int) - 1)) 237 155 ((K.2.1.getD (K.2.1.length - 1) (0, 0, 0, (0, 0, []), 0, 0, 0)).2.1 + 1)) 237 x = S 237 x := fun x x0 x1 => (w_up_at x1).trans (w_up_at x0)
  have e4 := et 66 (by first | decide | omega) (by first | decide | omega)
  have e1 := et 81 (by first | decide | omega) (by first | decide | omega)
  have hcy := r_at hk0 (i := K.1.length - 1) (by omega) (j := (2100 * t + (K.1.length : Int) - 1)) (by omega)
  have hcx := r_at hk0 (i := K.1.length - 2) (by omega) (j := (2100 * t + (K.1.length : Int) - 1) - 1) (by omega)
  have hvx : (w_up (w_up S 237 154 (200 * t + (K.2.1.length : Int) - 1)) 237 155 ((K.2.1.getD (K.2.1.length - 1) (0, 0, 0, (0, 0, []), 0, 0, 0)).2.1 + 1)) 364 ((2100 * t + (K.1.length : Int) - 1) - 1) = (K.1.getD (K.1.length - 2) (0, 0, [])).2.1 := rV_v hcx (by omega)
  have hvy : (w_up (w_up S 237 154 (200 * t + (K.2.1.length : Int) - 1)) 237 155 ((K.2.1.getD (K.2.1.length - 1) (0, 0, 0, (0, 0, []), 0, 0, 0)).2.1 + 1)) 364 (2100 * t + (K.1.length : Int) - 1) = (K.1.getD (K.1.length - 1) (0, 0, [])).2.1 := rV_v hcy (by omega)
  exact rx_t h hs hi.1 hi.2.1 hi.2.2 (by first | decide | omega) (by first | decide | omega) (wJ_mono (yb31 (o1 := (K.1.getD (K.1.length - 2) (0, 0, [])).2.1) (q := (K.1.getD (K.1.length - 1) (0, 0, [])).2.1) (mP_of h) hcx.1 hvx (by omega) hx ho hcy.1 hvy hy hq hW2 hH2 hwS hT (by rw [et 82 (by first | decide | omega) (by first | decide | omega)]; exact h82) (by rw [e4]; exact hu4) hnb (by rw [e1]; exact hch) (by rw [e1]; exact hep)) (fun o Z hz => by
    rcases hz with ⟨-, z⟩ | ⟨z, -⟩ | ⟨z, -⟩
    · exact z
    · rw [hm0] at z; exact absurd z (by first | decide | omega)
    · rw [hm0] at z; exact absurd z (by first | decide | omega)))
theorem rnb31m (h : stR t S K) (hs : S 357 t = 1) (hi : rIn S K 28 3 b) (hW : rWd S sl T L G) (hH : rHs S H) (hwS : wSh T H) (hT : (T.length : Int) ≤ 8000) (h82 : S 237 82 ≤ 60000) (hu4 : 0 ≤ S 237 66 ∧ S 237 66 ≤ 4000 ∧ (H.length : Int) ≤ S 237 66 + 1) (hnb : ∀ s : Int, 0 ≤ s → s < (H.length : Int) → qNm H s ≤ 100000) (hch : 0 ≤ S 237 81 ∧ S 237 81 ≤ 9000000) (hep : ∀ k : Int, isO T k → (tO T k).2.2.2.2.1 ≤ S 237 81) (hh1 : 2 ≤ K.1.length) (hx : (K.1.getD (K.1.length - 2) (0, 0, [])).1 = 4 ∨ (K.1.getD (K.1.length - 2) (0, 0, [])).1 = 5) (ho : isO T (K.1.getD (K.1.length - 2) (0, 0, [])).2.1) (hy : (K.1.getD (K.1.length - 1) (0, 0, [])).1 = 4 ∨ (K.1.getD (K.1.length - 1) (0, 0, [])).1 = 5) (hq : isO T (K.1.getD (K.1.length - 1) (0, 0, [])).2.1) (hm0 : hMe (aPr T H) (K.1.getD (K.1.length - 2) (0, 0, [])).2.1 (T.length + 1) (K.1.getD (K.1.length - 1) (0, 0, [])).2.1 = 0) (hm : 4000 < S 237 66 + aMb H (K.1.getD (K.1.length - 1) (0, 0, [])).2.1 (fS (-1) (aNs H (tO T (K.1.getD (K.1.length - 2) (0, 0, [])).2.1).2.1) 0)) : rSn xs d t S K := by
  obtain ⟨h1, h2, h3, h4b, ⟨h7, h8, h9, h9b⟩, -⟩ := id h
  have hW2 : rWd (w_up (w_up S 237 154 (200 * t + (K.2.1.length : Int) - 1)) 237 155 ((K.2.1.getD (K.2.1.length - 1) (0, 0, 0, (0, 0, []), 0, 0, 0)).2.1 + 1)) sl T L G := rWd_T0 hW
  have hH2 : rHs (w_up (w_up S 237 154 (200 * t + (K.2.1.length : Int) - 1)) 237 155 ((K.2.1.getD (K.2.1.length - 1) (0, 0, 0, (0, 0, []), 0, 0, 0)).2.1 + 1)) H := rHs_up (rHs_up hH (by first | decide | omega)) (by first | decide | omega)
  have hk0 : rTk t (w_up (w_up S 237 154 (200 * t + (K.2.1.length : Int) - 1)) 237 155 ((K.2.1.getD (K.2.1.length - 1) (0, 0, 0, (0, 0, []), 0, 0, 0)).2.1 + 1)) K := T0_k h1
  have et : ∀ x : Int, x ≠ 154 → x ≠ 155 → (w_up (w_up S 237 154 (200 * t + (K.2.1.length : Int) - 1)) 237 155 ((K.2.1.getD (K.2.1.length - 1) (0, 0, 0, (0, 0, []), 0, 0, 0)).2.1 + 1)) 237 x = S 237 x := fun x x0 x1 => (w_up_at x1).trans (w_up_at x0)
  have e4 := et 66 (by first | decide | omega) (by first | decide | omega)
  have e1 := et 81 (by first | decide | omega) (by first | decide | omega)
  have hcy := r_at hk0 (i := K.1.length - 1) (by omega) (j := (2100 * t + (K.1.length : Int) - 1)) (by omega)
  have hcx := r_at hk0 (i := K.1.length - 2) (by omega) (j := (2100 * t + (K.1.length : Int) - 1) - 1) (by omega)
  have hvx : (w_up (w_up S 237 154 (200 * t + (K.2.1.length : Int) - 1)) 237 155 ((K.2.1.getD (K.2.1.length - 1) (0, 0, 0, (0, 0, []), 0, 0, 0)).2.1 + 1)) 364 ((2100 * t + (K.1.length : Int) - 1) - 1) = (K.1.getD (K.1.length - 2) (0, 0, [])).2.1 := rV_v hcx (by omega)
  have hvy : (w_up (w_up S 237 154 (200 * t + (K.2.1.length : Int) - 1)) 237 155 ((K.2.1.getD (K.2.1.length - 1) (0, 0, 0, (0, 0, []), 0, 0, 0)).2.1 + 1)) 364 (2100 * t + (K.1.length : Int) - 1) = (K.1.getD (K.1.length - 1) (0, 0, [])).2.1 := rV_v hcy (by omega)
  exact rm_t h hs hi.1 hi.2.1 hi.2.2 (by first | decide | omega) (wJ_mono (yb31 (o1 := (K.1.getD (K.1.length - 2) (0, 0, [])).2.1) (q := (K.1.getD (K.1.length - 1) (0, 0, [])).2.1) (mP_of h) hcx.1 hvx (by omega) hx ho hcy.1 hvy hy hq hW2 hH2 hwS hT (by rw [et 82 (by first | decide | omega) (by first | decide | omega)]; exact h82) (by rw [e4]; exact hu4) hnb (by rw [e1]; exact hch) (by rw [e1]; exact hep)) (fun o Z hz => by
    rcases hz with ⟨z, -⟩ | ⟨-, -, z⟩ | ⟨-, z, -⟩
    · rw [hm0] at z; exact absurd z (by first | decide | omega)
    · exact z
    · rw [e4] at z; omega))
theorem rnb3e (h : stR t S K) (hs : S 357 t = 1) (hi : rIn S K 28 3 b) (hh1 : 2 ≤ K.1.length) (hy : ¬ (((K.1.getD (K.1.length - 2) (0, 0, [])).1 = 4 ∨ (K.1.getD (K.1.length - 2) (0, 0, [])).1 = 5) ∧ ((K.1.getD (K.1.length - 1) (0, 0, [])).1 = 0 ∨ (K.1.getD (K.1.length - 1) (0, 0, [])).1 = 4 ∨ (K.1.getD (K.1.length - 1) (0, 0, [])).1 = 5))) : rSt xs d t S (kTh K (2, 12, [])) := by
  have hk0 : rTk t (w_up (w_up S 237 154 (200 * t + (K.2.1.length : Int) - 1)) 237 155 ((K.2.1.getD (K.2.1.length - 1) (0, 0, 0, (0, 0, []), 0, 0, 0)).2.1 + 1)) K := T0_k h.1
  have hcy := r_at hk0 (i := K.1.length - 1) (by omega) (j := (2100 * t + (K.1.length : Int) - 1)) (by omega)
  have hcx := r_at hk0 (i := K.1.length - 2) (by omega) (j := (2100 * t + (K.1.length : Int) - 1) - 1) (by omega)
  exact rx_t h hs hi.1 hi.2.1 hi.2.2 (by first | decide | omega) (by first | decide | omega) (yb3e (mP_of h) hcy.1 rfl hcx.1 rfl (by omega) hy)
end Wfq
