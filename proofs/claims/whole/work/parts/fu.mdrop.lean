/-! PART fu: drop of the reference, by tasks and worlds. -/
section Wfu
variable {xs : List (Nat × List Int32)} {M : Nat → Prop} {d : Nat} {S S0 Z A B : wS} {H : List aH} {T : List aO} {L : List aC} {G : Int → aV} {sl : Nat → List Int} {K : aK} {t b q k : Int} {N : List (List Int)} {x : List Int}
/-- what drop may change of the reference -/
def rMd (j : Nat) (x : Int) : Prop := rMt j x ∨ (316 ≤ j ∧ j ≤ 318) ∨ j = 328
/-- the reference behind rebuilt, dropSlot and changed; two values go, one comes -/
theorem rd_tail {wo sh ep vv : Int} {l : List Int} (h : stR t S K) (hh : 2 ≤ K.1.length) (hk0 : 0 ≤ k ∧ k < (T.length : Int)) (hlen : (rsT T H q).length = T.length) (hl : (fS wo (pNs (tO T k)) 0) = l) (hix : 0 ≤ wo ∧ wo < ((sl k.toNat).length : Int)) (he : ep = (tO (rsT T H q) k).2.2.2.2.1) (he0 : -1 ≤ ep) (hA : rbQ q wo k sl T H L G (w_up (w_up S 237 154 (200 * t + (K.2.1.length : Int) - 1)) 237 155 ((K.2.1.getD (K.2.1.length - 1) (0, 0, 0, (0, 0, []), 0, 0, 0)).2.1 + 1)) A) (hB : ds_ag k wo (sl k.toNat) A B) (hz : pYZ t (K.1.length : Int) 1 vv (chZ k ep ((w_up (w_up S 237 154 (200 * t + (K.2.1.length : Int) - 1)) 237 155 ((K.2.1.getD (K.2.1.length - 1) (0, 0, 0, (0, 0, []), 0, 0, 0)).2.1 + 1)) 237 81) (w_up B 315 k sh)) = Z) : (w_ML Z ∧ Z 237 154 = (200 * t + (K.2.1.length : Int) - 1)) ∧ rTk t (w_up Z 366 (200 * t + (K.2.1.length : Int) - 1) (Z 237 155)) (kP K 2 (1, vv, [])) ∧ rTm t rMd S (w_up Z 366 (200 * t + (K.2.1.length : Int) - 1) (Z 237 155)) ∧ (rWd (w_up Z 366 (200 * t + (K.2.1.length : Int) - 1) (Z 237 155)) (slD sl k wo) (tNc (tDp (rsT T H q) k wo) k sh (S 237 81)) L G ∧ rHs (w_up Z 366 (200 * t + (K.2.1.length : Int) - 1) (Z 237 155)) (rsH T H q l) ∧ ((w_up Z 366 (200 * t + (K.2.1.length : Int) - 1) (Z 237 155)) 237 66 = S 237 66 + aMb H q l ∧ (w_up Z 366 (200 * t + (K.2.1.length : Int) - 1) (Z 237 155)) 237 81 = S 237 81 + (if ep = -1 then 0 else 1)) ∧ ∀ x : Int, x ≠ 66 → x ≠ 87 → x ≠ 81 → x ≠ 154 → x ≠ 155 → (w_up Z 366 (200 * t + (K.2.1.length : Int) - 1) (Z 237 155)) 237 x = S 237 x) := by
  obtain ⟨h1, h2, h3, h4b, ⟨h7, h8, h9, h9b⟩, -⟩ := id h
  obtain ⟨a1, a2, a3, a4, a5⟩ := id hA
  obtain ⟨-, -, b3, b4⟩ := id hB
  rw [hl] at a1 a4
  have hk1 := T0_k (x := (200 * t + (K.2.1.length : Int) - 1)) (y := (K.2.1.getD (K.2.1.length - 1) (0, 0, 0, (0, 0, []), 0, 0, 0)).2.1 + 1) h1
  have k1 : k < ((rsT T H q).length : Int) := by rw [hlen]; exact hk0.2
  have et : ∀ x : Int, x ≠ 154 → x ≠ 155 → (w_up (w_up S 237 154 (200 * t + (K.2.1.length : Int) - 1)) 237 155 ((K.2.1.getD (K.2.1.length - 1) (0, 0, 0, (0, 0, []), 0, 0, 0)).2.1 + 1)) 237 x = S 237 x := fun x x0 x1 => (w_up_at x1).trans (w_up_at x0)
  have es : ∀ (j : Nat) (x : Int), (j ≠ 359 ∨ x ≠ t) → ((j ≠ 363 ∧ j ≠ 364) ∨ x ≠ 2100 * t + (K.1.length : Int) - 1 - 1) → (j ≠ 315 ∨ x ≠ k) → (j ≠ 323 ∧ j ≠ 324) → (j ≠ 237 ∨ x ≠ 81) → (j ≠ 316 ∧ j ≠ 317 ∧ j ≠ 318 ∧ j ≠ 328) → Z j x = A j x := fun j x j0 jp j1 j2 j3 j4 => by
    rw [← hz]
    exact (w_up_no (by omega)).trans ((w_up_no (by omega)).trans ((w_up_no (by omega)).trans ((chZ_e j x j2 j3).trans ((w_up_no (by omega)).trans (b3 j x (Or.inl ⟨j4.1, j4.2.1, j4.2.2.1⟩) (Or.inl j4.2.2.2))))))
  have eA : ∀ (j : Nat) (x : Int), ¬ rMr q j x → A j x = (w_up (w_up S 237 154 (200 * t + (K.2.1.length : Int) - 1)) 237 155 ((K.2.1.getD (K.2.1.length - 1) (0, 0, 0, (0, 0, []), 0, 0, 0)).2.1 + 1)) j x := a5
  have ez : ∀ (j : Nat) (x : Int), 333 ≤ j → (j ≠ 359 ∨ x ≠ t) → ((j ≠ 363 ∧ j ≠ 364) ∨ x ≠ 2100 * t + (K.1.length : Int) - 1 - 1) → Z j x = (w_up (w_up S 237 154 (200 * t + (K.2.1.length : Int) - 1)) 237 155 ((K.2.1.getD (K.2.1.length - 1) (0, 0, 0, (0, 0, []), 0, 0, 0)).2.1 + 1)) j x := fun j x j0 j1 j2 => (es j x j1 j2 (by omega) (by omega) (by omega) (by omega)).trans (eA j x (by unfold rMr; omega))
  have e7 : ∀ x : Int, x ≠ 66 → x ≠ 87 → x ≠ 81 → Z 237 x = (w_up (w_up S 237 154 (200 * t + (K.2.1.length : Int) - 1)) 237 155 ((K.2.1.getD (K.2.1.length - 1) (0, 0, 0, (0, 0, []), 0, 0, 0)).2.1 + 1)) 237 x := fun x x0 x1 x2 => (es 237 x (Or.inl (by first | decide | omega)) (Or.inl (by first | decide | omega)) (Or.inl (by first | decide | omega)) (by first | decide | omega) (Or.inr x2) (by first | decide | omega)).trans (eA 237 x (by unfold rMr; omega))
  have e : rTx (w_up (w_up S 237 154 (200 * t + (K.2.1.length : Int) - 1)) 237 155 ((K.2.1.getD (K.2.1.length - 1) (0, 0, 0, (0, 0, []), 0, 0, 0)).2.1 + 1)) Z := rTx_of (e7 19 (by first | decide | omega) (by first | decide | omega) (by first | decide | omega)) (e7 102 (by first | decide | omega) (by first | decide | omega) (by first | decide | omega)) (fun j x j0 j1 => (es j x (by omega) (by omega) (by omega) (by omega) (by omega) (by omega)).trans (eA j x (by unfold rMr; omega)))
  have e3 : Z 363 (2100 * t + ((K.1.length - 2 : Nat) : Int)) = 1 := by
    rw [← hz, show 2100 * t + ((K.1.length - 2 : Nat) : Int) = 2100 * t + (K.1.length : Int) - 1 - 1 by omega]
    exact (w_up_slot (by first | decide | omega)).trans (w_up_same _ _ _ _)
  have e4 : Z 364 (2100 * t + ((K.1.length - 2 : Nat) : Int)) = vv := by
    rw [← hz, show 2100 * t + ((K.1.length - 2 : Nat) : Int) = 2100 * t + (K.1.length : Int) - 1 - 1 by omega]
    exact w_up_same _ _ _ _
  have e9 : Z 359 t = (K.1.length : Int) - 1 := by rw [← hz]; exact (w_up_slot (by first | decide | omega)).trans ((w_up_slot (by first | decide | omega)).trans (w_up_same _ _ _ _))
  have hkZ := rTk_l1 (m := K.1.length - 2) (a := (1, vv, [])) hk1 e ⟨fun j hj => ez j t (by omega) (by omega) (by omega), fun j x j0 j1 _ _ => ez j x (by omega) (by omega) (by omega), fun j x j0 j1 _ _ => ez j x (by omega) (by omega) (by omega)⟩ (by omega) (e9.trans (by omega)) (fun x x0 x1 => ⟨ez 363 x (by first | decide | omega) (Or.inl (by first | decide | omega)) (Or.inr (by omega)), ez 364 x (by first | decide | omega) (Or.inl (by first | decide | omega)) (Or.inr (by omega))⟩) (by rw [e3, e4]; exact rV_e (by first | decide | omega) rfl)
  have hMZ : w_ML Z := by rw [← hz]; exact w_ML_up (w_ML_up (w_ML_up (chZ_m (w_ML_up b4 hk0.1) hk0.1) (by omega)) (by omega)) (by omega)
  have hfZ : rTm t rMd S Z := fun j x o nn => by
    have n2 := nn
    unfold rMd rMt at n2
    have o1 := o.2.2.2.2.2.1
    have o2 := o.2.2.2.2.2.2.1
    exact (es j x (by omega) (by omega) (by omega) (by omega) (by omega) (by omega)).trans ((eA j x (by unfold rMr; omega)).trans (T0_f j x o))
  have h81 : (w_up B 315 k sh) 237 81 = (w_up (w_up S 237 154 (200 * t + (K.2.1.length : Int) - 1)) 237 155 ((K.2.1.getD (K.2.1.length - 1) (0, 0, 0, (0, 0, []), 0, 0, 0)).2.1 + 1)) 237 81 := (w_up_slot (by first | decide | omega)).trans ((b3 237 81 (Or.inl (by first | decide | omega)) (Or.inl (by first | decide | omega))).trans (eA 237 81 (by unfold rMr; omega)))
  have hWB := rWd_dr a2 hk0.1 k1 hix hB
  have hWZ : rWd Z (slD sl k wo) (tNc (tDp (rsT T H q) k wo) k sh (S 237 81)) L G := by
    rw [← hz, ← et 81 (by first | decide | omega) (by first | decide | omega)]
    refine rWd_up (rWd_up (rWd_up (rWd_nCh hWB hk0.1 (by rw [tDp_l]; exact k1) ?_ he0) (Or.inl (by first | decide | omega))) (Or.inl (by first | decide | omega))) (Or.inl (by first | decide | omega))
    rw [(tDp_f (ix := wo) hk0.1 k1 hk0.1).2.2.2.2.1]; exact he
  have hHZ : rHs Z (rsH T H q l) := rHs_ag a1 (es 237 87 (Or.inl (by first | decide | omega)) (Or.inl (by first | decide | omega)) (Or.inl (by first | decide | omega)) (by first | decide | omega) (by first | decide | omega) (by first | decide | omega)) (fun j x j0 j1 => es j x (by omega) (by omega) (by omega) (by omega) (by omega) (by omega))
  unfold kP
  refine rp_m (P := fun Z => rWd Z (slD sl k wo) (tNc (tDp (rsT T H q) k wo) k sh (S 237 81)) L G ∧ rHs Z (rsH T H q l) ∧ (Z 237 66 = S 237 66 + aMb H q l ∧ Z 237 81 = S 237 81 + (if ep = -1 then 0 else 1)) ∧ ∀ x : Int, x ≠ 66 → x ≠ 87 → x ≠ 81 → x ≠ 154 → x ≠ 155 → Z 237 x = S 237 x) h hMZ ((e7 154 (by first | decide | omega) (by first | decide | omega) (by first | decide | omega)).trans T0_4) ((e7 155 (by first | decide | omega) (by first | decide | omega) (by first | decide | omega)).trans T0_5) hkZ rfl hfZ ⟨rWd_366 hWZ, rHs_up hHZ (Or.inl (by first | decide | omega)), ⟨?_, ?_⟩, fun x x0 x1 x2 x3 x4 => (w_up_slot (by first | decide | omega)).trans ((e7 x x0 x1 x2).trans (et x x3 x4))⟩
  · exact (w_up_slot (by first | decide | omega)).trans ((es 237 66 (Or.inl (by first | decide | omega)) (Or.inl (by first | decide | omega)) (Or.inl (by first | decide | omega)) (by first | decide | omega) (by first | decide | omega) (by first | decide | omega)).trans (a4.trans (by rw [et 66 (by first | decide | omega) (by first | decide | omega)])))
  · rw [w_up_slot (by first | decide | omega), ← hz]
    unfold pYZ
    rw [w_up_slot (by first | decide | omega), w_up_slot (by first | decide | omega), w_up_slot (by first | decide | omega), chZ_81 h81, et 81 (by first | decide | omega) (by first | decide | omega)]
set_option maxHeartbeats 4000000 in
theorem yb4 {t c p h tp kx o1 tx nx : Int} (hP : mP t c p h tp S) (hky : S 363 (2100 * t + h - 1) = 3) (hvy : S 364 (2100 * t + h - 1) = tx) (hkx : S 363 (2100 * t + h - 1 - 1) = kx) (hvx : S 364 (2100 * t + h - 1 - 1) = o1) (hh1 : 2 ≤ h) (hk45 : kx = 4 ∨ kx = 5) (hW : rWd S sl T L G) (hH : rHs S H) (hw : wSh T H) (hT : (T.length : Int) ≤ 8000) (h82 : S 237 82 ≤ 60000) (hu4 : 0 ≤ S 237 66 ∧ S 237 66 ≤ 4000 ∧ (H.length : Int) ≤ S 237 66 + 1) (hnb : ∀ s : Int, 0 ≤ s → s < (H.length : Int) → qNm H s ≤ 100000) (hch : 0 ≤ S 237 81 ∧ S 237 81 ≤ 9000000) (hep : ∀ k : Int, isO T k → (tO T k).2.2.2.2.1 ≤ S 237 81) (hy0 : 0 ≤ tx ∧ tx < 16000) (hl : S 285 tx = (x.length : Int)) (hf0 : 0 ≤ S 284 tx ∧ S 284 tx + (x.length : Int) ≤ 269632) (he : ∀ i : Nat, i < x.length → S 283 (S 284 tx + (i : Int)) = x.getD i 0) (hN : mN N S) (ho : isO T o1) (hnx : nx = ixL N x) : wJ (pe_GA xs) wY0 M (d + 11) t_M_others ((pe_at t_M_others.bl 0).getD (0, [])).2 [(0, (2, 237)), (1, (0, 28)), (2, (0, 4))] [] S (fun o Z => ((nx = -1 ∨ (aIx T nx o1) = -1) ∧ o = .inl none ∧ pYZ t h 1 0 S = Z) ∨ (nx ≠ -1 ∧ (aIx T nx o1) ≠ -1 ∧ 4000 < S 237 66 + aMb H (aPr T H o1) (fS (aIx T nx o1) (aNs H (tO T o1).2.1) 0) ∧ o = .inr 238 ∧ hZ 99 S = Z) ∨ (nx ≠ -1 ∧ (aIx T nx o1) ≠ -1 ∧ S 237 66 + aMb H (aPr T H o1) (fS (aIx T nx o1) (aNs H (tO T o1).2.1) 0) ≤ 4000 ∧ o = .inl none ∧ ∃ A B : wS, rbQ (aPr T H o1) (aIx T nx o1) o1 sl T H L G S A ∧ ds_ag o1 (aIx T nx o1) (sl o1.toNat) A B ∧ pYZ t h 1 1 (chZ o1 (tO (aBr T H (aPr T H o1)).1 o1).2.2.2.2.1 (S 237 81) (w_up B 315 o1 (aRb (aPr T H o1) (fS (aIx T nx o1) (aNs H (tO T o1).2.1) 0) (aBr T H (aPr T H o1)).2.1 (aBr T H (aPr T H o1)).2.2).2)) = Z)) := by
  obtain ⟨hM, ⟨mt, mt0, mt1⟩, mp, mf, ⟨mc, mc0, mc1⟩, ⟨mtp, mtq⟩, ⟨mpa, mp0, mp1⟩, mh, mh0, mh1⟩ := id hP
  have hq0 := ho.1
  refine wa_aload_n (n := 0) rfl ?_
  refine wa_cv 237 rfl (wy_pr rfl) wt_237 (M2 := fun _ => False) rfl at_M_h ⟨_, rfl⟩ rfl rfl ⟨(Or.inr ⟨wy_pr rfl, fun q => q⟩), trivial, trivial, trivial⟩ trivial (fun _ _ q => False.elim q) ?_ (fun _ _ _ q => q)
  refine wa_aload_n (n := 0) rfl ?_
  refine wb_gfi 237 rfl (wy_pr rfl) wt_237 wf_15_152 (v := (2100 * t)) (mp) (fun r1 => ?_)
  refine wa_aload_n (n := 0) rfl ?_
  refine wb_gf4 237 rfl (wy_pr rfl) wt_237 wf_15_134 (v := 359) wl_237_134 ?_
  refine wa_aload_n (n := 0) rfl ?_
  refine wb_gfi 237 rfl (wy_pr rfl) wt_237 wf_15_151 (v := t) (mt) (fun r2 => ?_)
  refine wb_iald 359 rfl (wy_pr rfl) wt_359 (n := 2) ((ml_359 hM)) (by omega) (by omega) (v := h) (mh) (fun r3 => ?_)
  refine wa_iadd ?_
  refine wa_ireturn rfl ?_
  show wJ _ _ _ _ _ _ _ _ _ _
  refine wa_iconst ?_
  refine wa_isub ?_
  refine wa_istore_n (n := 3) rfl ?_
  refine wa_iload_n (n := 1) rfl ?_
  refine wb_sw (w_rg0 (by omega) (by omega)) (tb := 12) rfl ⟨_, rfl⟩ ?_
  refine wa_aload_n (n := 0) rfl ?_
  refine wa_iload_n (n := 2) rfl ?_
  refine wa_cv 237 rfl (wy_pr rfl) wt_237 (M2 := fun _ => False) rfl at_M_builtins ⟨_, rfl⟩ rfl rfl ⟨trivial, (Or.inr ⟨wy_pr rfl, fun q => q⟩), trivial, trivial, trivial⟩ trivial (fun _ _ q => False.elim q) ?_ (fun _ _ _ q => q)
  refine wa_aload_n (n := 0) rfl ?_
  refine wa_cv 237 rfl (wy_pr rfl) wt_237 (M2 := fun _ => False) rfl at_M_h ⟨_, rfl⟩ rfl rfl ⟨(Or.inr ⟨wy_pr rfl, fun q => q⟩), trivial, trivial⟩ trivial (fun _ _ q => False.elim q) ?_ (fun _ _ _ q => q)
  refine wa_aload_n (n := 0) rfl ?_
  refine wb_gfi 237 rfl (wy_pr rfl) wt_237 wf_15_152 (v := (2100 * t)) (mp) (fun r4 => ?_)
  refine wa_aload_n (n := 0) rfl ?_
  refine wb_gf4 237 rfl (wy_pr rfl) wt_237 wf_15_134 (v := 359) wl_237_134 ?_
  refine wa_aload_n (n := 0) rfl ?_
  refine wb_gfi 237 rfl (wy_pr rfl) wt_237 wf_15_151 (v := t) (mt) (fun r5 => ?_)
  refine wb_iald 359 rfl (wy_pr rfl) wt_359 (n := 2) ((ml_359 hM)) (by omega) (by omega) (v := h) (mh) (fun r6 => ?_)
  refine wa_iadd ?_
  refine wa_ireturn rfl ?_
  show wJ _ _ _ _ _ _ _ _ _ _
  refine wa_iconst ?_
  refine wa_isub ?_
  refine wa_istore_n (n := 2) rfl ?_
  refine wa_iload_n (n := 2) rfl ?_
  refine wa_iconst ?_
  refine wa_isub ?_
  refine wa_istore_n (n := 3) rfl ?_
  refine wa_iload_n (n := 1) rfl ?_
  refine wb_sw (w_rg0 (by omega) (by omega)) (tb := 9) rfl ⟨_, rfl⟩ ?_
  refine wa_aload_n (n := 0) rfl ?_
  refine wa_aload_n (n := 0) rfl ?_
  refine wb_gf4 237 rfl (wy_pr rfl) wt_237 wf_15_138 (v := 363) wl_237_138 ?_
  refine wa_iload_n (n := 3) rfl ?_
  refine wb_iald 363 rfl (wy_pr rfl) wt_363 (n := 4200) ((ml_363 hM)) (by omega) (by omega) (v := kx) (hkx) (fun r7 => ?_)
  refine wa_cv 237 rfl (wy_pr rfl) wt_237 (M2 := fun _ => False) rfl at_M_hasShape ⟨_, rfl⟩ rfl rfl ⟨trivial, trivial, (Or.inr ⟨wy_pr rfl, fun q => q⟩), trivial, trivial⟩ trivial (fun _ _ q => False.elim q) ?_ (fun _ _ _ q => q)
  refine wa_iload_n (n := 1) rfl ?_
  refine wa_iconst ?_
  refine wa_icmpeq (w_rg0 (by omega) (by omega)) (w_rg0 (by omega) (by omega)) ⟨_, rfl⟩ (fun c8 => ?_) (fun c8 => ?_)
  · skip
    refine wa_iconst ?_
    refine wa_goto ⟨_, rfl⟩ ?_
    refine wa_zreturn rfl (Or.inr rfl) ?_
    show wJ _ _ _ _ _ _ _ _ _ _
    refine wa_ifeq (w_rg0 (by omega) (by omega)) ⟨_, rfl⟩ (fun c9 => ?_) (fun c9 => ?_)
    · skip
      exact absurd c9 (by omega)
    · skip
      refine wa_aload_n (n := 0) rfl ?_
      refine wb_gf4 237 rfl (wy_pr rfl) wt_237 wf_15_138 (v := 363) wl_237_138 ?_
      refine wa_iload_n (n := 2) rfl ?_
      refine wb_iald 363 rfl (wy_pr rfl) wt_363 (n := 4200) ((ml_363 hM)) (by omega) (by omega) (v := 3) (hky) (fun r10 => ?_)
      refine wa_iconst ?_
      refine wa_icmpeq (w_rg0 (by omega) (by omega)) (w_rg0 (by omega) (by omega)) ⟨_, rfl⟩ (fun c11 => ?_) (fun c11 => ?_)
      · skip
        refine wa_iload_n (n := 1) rfl ?_
        refine wa_iconst ?_
        refine wa_icmpne (w_rg0 (by omega) (by omega)) (w_rg0 (by omega) (by omega)) ⟨_, rfl⟩ (fun c12 => ?_) (fun c12 => ?_)
        · skip
          exact absurd c12 (by omega)
        · skip
          refine wa_aload_n (n := 0) rfl ?_
          refine wa_aload_n (n := 0) rfl ?_
          refine wb_gf4 237 rfl (wy_pr rfl) wt_237 wf_15_139 (v := 364) wl_237_139 ?_
          refine wa_iload_n (n := 3) rfl ?_
          refine wb_lald 364 rfl (wy_pr rfl) wt_364 (n := 4200) ((ml_364 hM)) (by omega) (by omega) (v := o1) (hvx) (fun r13 => ?_)
          refine wb_l2i_r (wb_l2i_id ⟨(by omega), (by omega)⟩) ?_
          refine wa_aload_n (n := 0) rfl ?_
          refine wb_gf4 237 rfl (wy_pr rfl) wt_237 wf_15_139 (v := 364) wl_237_139 ?_
          refine wa_iload_n (n := 2) rfl ?_
          refine wb_lald 364 rfl (wy_pr rfl) wt_364 (n := 4200) ((ml_364 hM)) (by omega) (by omega) (v := tx) (hvy) (fun r14 => ?_)
          refine wb_l2i_r (wb_l2i_id ⟨(by omega), (by omega)⟩) ?_
          refine wa_cv 237 rfl (wy_pr rfl) wt_237 (M2 := fun _ => False) rfl at_M_drops ⟨_, rfl⟩ rfl rfl ⟨trivial, trivial, (Or.inr ⟨wy_pr rfl, fun q => q⟩), trivial, trivial⟩ trivial (fun _ _ q => False.elim q) (r_dr (nx := nx) hM hW hH hw hT h82 hu4 hnb hch hep hy0 hl hf0 he hN ho hnx) (fun oq15 Sq15 hp16 q15 => ?_)
          rcases q15 with ⟨hm, rfl, rfl⟩ | ⟨hm1, hm2, hno, rfl, rfl⟩ | ⟨hm1, hm2, hyes, rfl, A, B, hA, hB, rfl⟩
          · skip
            show wJ _ _ _ _ _ _ _ _ _ _
            refine wa_goto ⟨_, rfl⟩ ?_
            refine wa_istore (n := 6) rfl ?_
            refine wa_aload_n (n := 0) rfl ?_
            refine wb_gf4 237 rfl (wy_pr rfl) wt_237 wf_15_134 (v := 359) wl_237_134 ?_
            refine wa_aload_n (n := 0) rfl ?_
            refine wb_gfi 237 rfl (wy_pr rfl) wt_237 wf_15_151 (v := t) (mt) (fun r17 => ?_)
            refine wa_dup2 (by decide) (by decide) ?_
            refine wb_iald 359 rfl (wy_pr rfl) wt_359 (n := 2) ((ml_359 hM)) (by omega) (by omega) (v := h) (mh) (fun r18 => ?_)
            refine wa_iconst ?_
            refine wa_isub ?_
            refine wb_iast 359 rfl (wy_pr rfl) wt_359 (n := 2) ((ml_359 hM)) (by omega) (by omega) ⟨(by omega), (by omega)⟩ ?_
            refine wa_aload_n (n := 0) rfl ?_
            refine wa_iload_n (n := 3) rfl ?_
            refine wa_iconst ?_
            refine wa_iload (n := 6) rfl ?_
            refine wa_ifeq (w_rg0 (by omega) (by omega)) ⟨_, rfl⟩ (fun c19 => ?_) (fun c19 => ?_)
            · skip
              refine wb_lconst (m := 0) rfl ?_
              refine wa_fall ⟨_, rfl⟩ ?_
              refine wa_cv 237 rfl (wy_pr rfl) wt_237 (M2 := fun _ => False) rfl at_M_put ⟨_, rfl⟩ rfl rfl ⟨trivial, trivial, trivial, (Or.inr ⟨wy_pr rfl, fun q => q⟩), trivial, trivial⟩ trivial (fun _ _ q => False.elim q) ?_ (fun _ _ _ q => q)
              refine wa_aload_n (n := 0) rfl ?_
              refine wb_gf4 237 rfl (wy_pr rfl) wt_237 wf_15_138 (v := 363) wl_237_138 ?_
              refine wa_iload_n (n := 1) rfl ?_
              refine wa_iload_n (n := 2) rfl ?_
              refine wb_iast 363 rfl (wy_pr rfl) wt_363 (n := 4200) ((w_up_slot (by decide)).trans ((ml_363 hM))) (by omega) (by omega) ⟨(by omega), (by omega)⟩ ?_
              refine wa_aload_n (n := 0) rfl ?_
              refine wb_gf4 237 rfl (wy_pr rfl) wt_237 wf_15_139 (v := 364) wl_237_139 ?_
              refine wa_iload_n (n := 1) rfl ?_
              refine wa_lload_n (n := 3) rfl ?_
              refine wb_last 364 rfl (wy_pr rfl) wt_364 (n := 4200) ((w_up_slot (by decide)).trans ((w_up_slot (by decide)).trans ((ml_364 hM)))) (by omega) (by omega) ⟨(by omega), (by omega)⟩ ?_
              refine wa_return rfl ?_
              show wJ _ _ _ _ _ _ _ _ _ _
              refine wa_goto ⟨_, rfl⟩ ?_
              refine wa_return rfl ?_
              show wJ _ _ _ _ _ _ _ _ _ _
              refine wa_goto ⟨_, rfl⟩ ?_
              refine wa_return rfl ?_
              exact Or.inl ⟨hm, rfl, rfl⟩
            · skip
              exact absurd c19 (by omega)
          · skip
            refine ⟨rfl, ?_⟩
            refine ⟨rfl, ?_⟩
            exact Or.inr (Or.inl ⟨hm1, hm2, hno, rfl, rfl⟩)
          · skip
            show wJ _ _ _ _ _ _ _ _ _ _
            have hAF := hA.2.2.2.2
            have hBF := hB.2.2.1
            refine wa_goto ⟨_, rfl⟩ ?_
            refine wa_istore (n := 6) rfl ?_
            refine wa_aload_n (n := 0) rfl ?_
            refine wb_gf4 237 rfl (wy_pr rfl) wt_237 wf_15_134 (v := 359) wl_237_134 ?_
            refine wa_aload_n (n := 0) rfl ?_
            refine wb_gfi 237 rfl (wy_pr rfl) wt_237 wf_15_151 (v := t) ((((chZ_e 237 151 (by decide) (by omega)).trans ((w_up_slot (by decide)).trans ((hBF 237 151 (Or.inl (by decide)) (Or.inl (by decide))).trans (hAF 237 151 (by unfold rMr; omega))))).trans (mt))) (fun r20 => ?_)
            refine wa_dup2 (by decide) (by decide) ?_
            refine wb_iald 359 rfl (wy_pr rfl) wt_359 (n := 2) ((((chZ_e 359 (-1) (by decide) (by omega)).trans ((w_up_slot (by decide)).trans ((hBF 359 (-1) (Or.inl (by decide)) (Or.inl (by decide))).trans (hAF 359 (-1) (by unfold rMr; omega))))).trans ((ml_359 hM)))) (by omega) (by omega) (v := h) ((((chZ_e 359 t (by decide) (by omega)).trans ((w_up_slot (by decide)).trans ((hBF 359 t (Or.inl (by decide)) (Or.inl (by decide))).trans (hAF 359 t (by unfold rMr; omega))))).trans (mh))) (fun r21 => ?_)
            refine wa_iconst ?_
            refine wa_isub ?_
            refine wb_iast 359 rfl (wy_pr rfl) wt_359 (n := 2) ((((chZ_e 359 (-1) (by decide) (by omega)).trans ((w_up_slot (by decide)).trans ((hBF 359 (-1) (Or.inl (by decide)) (Or.inl (by decide))).trans (hAF 359 (-1) (by unfold rMr; omega))))).trans ((ml_359 hM)))) (by omega) (by omega) ⟨(by omega), (by omega)⟩ ?_
            refine wa_aload_n (n := 0) rfl ?_
            refine wa_iload_n (n := 3) rfl ?_
            refine wa_iconst ?_
            refine wa_iload (n := 6) rfl ?_
            refine wa_ifeq (w_rg0 (by omega) (by omega)) ⟨_, rfl⟩ (fun c22 => ?_) (fun c22 => ?_)
            · skip
              exact absurd c22 (by omega)
            · skip
              refine wb_lconst (m := 1) rfl ?_
              refine wa_goto ⟨_, rfl⟩ ?_
              refine wa_cv 237 rfl (wy_pr rfl) wt_237 (M2 := fun _ => False) rfl at_M_put ⟨_, rfl⟩ rfl rfl ⟨trivial, trivial, trivial, (Or.inr ⟨wy_pr rfl, fun q => q⟩), trivial, trivial⟩ trivial (fun _ _ q => False.elim q) ?_ (fun _ _ _ q => q)
              refine wa_aload_n (n := 0) rfl ?_
              refine wb_gf4 237 rfl (wy_pr rfl) wt_237 wf_15_138 (v := 363) wl_237_138 ?_
              refine wa_iload_n (n := 1) rfl ?_
              refine wa_iload_n (n := 2) rfl ?_
              refine wb_iast 363 rfl (wy_pr rfl) wt_363 (n := 4200) ((w_up_slot (by decide)).trans ((((chZ_e 363 (-1) (by decide) (by omega)).trans ((w_up_slot (by decide)).trans ((hBF 363 (-1) (Or.inl (by decide)) (Or.inl (by decide))).trans (hAF 363 (-1) (by unfold rMr; omega))))).trans ((ml_363 hM))))) (by omega) (by omega) ⟨(by omega), (by omega)⟩ ?_
              refine wa_aload_n (n := 0) rfl ?_
              refine wb_gf4 237 rfl (wy_pr rfl) wt_237 wf_15_139 (v := 364) wl_237_139 ?_
              refine wa_iload_n (n := 1) rfl ?_
              refine wa_lload_n (n := 3) rfl ?_
              refine wb_last 364 rfl (wy_pr rfl) wt_364 (n := 4200) ((w_up_slot (by decide)).trans ((w_up_slot (by decide)).trans ((((chZ_e 364 (-1) (by decide) (by omega)).trans ((w_up_slot (by decide)).trans ((hBF 364 (-1) (Or.inl (by decide)) (Or.inl (by decide))).trans (hAF 364 (-1) (by unfold rMr; omega))))).trans ((ml_364 hM)))))) (by omega) (by omega) ⟨(by omega), (by omega)⟩ ?_
              refine wa_return rfl ?_
              show wJ _ _ _ _ _ _ _ _ _ _
              refine wa_goto ⟨_, rfl⟩ ?_
              refine wa_return rfl ?_
              show wJ _ _ _ _ _ _ _ _ _ _
              refine wa_goto ⟨_, rfl⟩ ?_
              refine wa_return rfl ?_
              exact Or.inr (Or.inr ⟨hm1, hm2, hyes, rfl, A, B, hA, hB, rfl⟩)
      · skip
        exact absurd c11 (by omega)
  · skip
    refine wa_iload_n (n := 1) rfl ?_
    refine wa_iconst ?_
    refine wa_icmpne (w_rg0 (by omega) (by omega)) (w_rg0 (by omega) (by omega)) ⟨_, rfl⟩ (fun c23 => ?_) (fun c23 => ?_)
    · skip
      exact absurd c23 (by omega)
    · skip
      refine wa_fall ⟨_, rfl⟩ ?_
      refine wa_iconst ?_
      refine wa_goto ⟨_, rfl⟩ ?_
      refine wa_zreturn rfl (Or.inr rfl) ?_
      show wJ _ _ _ _ _ _ _ _ _ _
      refine wa_ifeq (w_rg0 (by omega) (by omega)) ⟨_, rfl⟩ (fun c24 => ?_) (fun c24 => ?_)
      · skip
        exact absurd c24 (by omega)
      · skip
        refine wa_aload_n (n := 0) rfl ?_
        refine wb_gf4 237 rfl (wy_pr rfl) wt_237 wf_15_138 (v := 363) wl_237_138 ?_
        refine wa_iload_n (n := 2) rfl ?_
        refine wb_iald 363 rfl (wy_pr rfl) wt_363 (n := 4200) ((ml_363 hM)) (by omega) (by omega) (v := 3) (hky) (fun r25 => ?_)
        refine wa_iconst ?_
        refine wa_icmpeq (w_rg0 (by omega) (by omega)) (w_rg0 (by omega) (by omega)) ⟨_, rfl⟩ (fun c26 => ?_) (fun c26 => ?_)
        · skip
          refine wa_iload_n (n := 1) rfl ?_
          refine wa_iconst ?_
          refine wa_icmpne (w_rg0 (by omega) (by omega)) (w_rg0 (by omega) (by omega)) ⟨_, rfl⟩ (fun c27 => ?_) (fun c27 => ?_)
          · skip
            exact absurd c27 (by omega)
          · skip
            refine wa_aload_n (n := 0) rfl ?_
            refine wa_aload_n (n := 0) rfl ?_
            refine wb_gf4 237 rfl (wy_pr rfl) wt_237 wf_15_139 (v := 364) wl_237_139 ?_
            refine wa_iload_n (n := 3) rfl ?_
            refine wb_lald 364 rfl (wy_pr rfl) wt_364 (n := 4200) ((ml_364 hM)) (by omega) (by omega) (v := o1) (hvx) (fun r28 => ?_)
            refine wb_l2i_r (wb_l2i_id ⟨(by omega), (by omega)⟩) ?_
            refine wa_aload_n (n := 0) rfl ?_
            refine wb_gf4 237 rfl (wy_pr rfl) wt_237 wf_15_139 (v := 364) wl_237_139 ?_
            refine wa_iload_n (n := 2) rfl ?_
            refine wb_lald 364 rfl (wy_pr rfl) wt_364 (n := 4200) ((ml_364 hM)) (by omega) (by omega) (v := tx) (hvy) (fun r29 => ?_)
            refine wb_l2i_r (wb_l2i_id ⟨(by omega), (by omega)⟩) ?_
            refine wa_cv 237 rfl (wy_pr rfl) wt_237 (M2 := fun _ => False) rfl at_M_drops ⟨_, rfl⟩ rfl rfl ⟨trivial, trivial, (Or.inr ⟨wy_pr rfl, fun q => q⟩), trivial, trivial⟩ trivial (fun _ _ q => False.elim q) (r_dr (nx := nx) hM hW hH hw hT h82 hu4 hnb hch hep hy0 hl hf0 he hN ho hnx) (fun oq30 Sq30 hp31 q30 => ?_)
            rcases q30 with ⟨hm, rfl, rfl⟩ | ⟨hm1, hm2, hno, rfl, rfl⟩ | ⟨hm1, hm2, hyes, rfl, A, B, hA, hB, rfl⟩
            · skip
              show wJ _ _ _ _ _ _ _ _ _ _
              refine wa_goto ⟨_, rfl⟩ ?_
              refine wa_istore (n := 6) rfl ?_
              refine wa_aload_n (n := 0) rfl ?_
              refine wb_gf4 237 rfl (wy_pr rfl) wt_237 wf_15_134 (v := 359) wl_237_134 ?_
              refine wa_aload_n (n := 0) rfl ?_
              refine wb_gfi 237 rfl (wy_pr rfl) wt_237 wf_15_151 (v := t) (mt) (fun r32 => ?_)
              refine wa_dup2 (by decide) (by decide) ?_
              refine wb_iald 359 rfl (wy_pr rfl) wt_359 (n := 2) ((ml_359 hM)) (by omega) (by omega) (v := h) (mh) (fun r33 => ?_)
              refine wa_iconst ?_
              refine wa_isub ?_
              refine wb_iast 359 rfl (wy_pr rfl) wt_359 (n := 2) ((ml_359 hM)) (by omega) (by omega) ⟨(by omega), (by omega)⟩ ?_
              refine wa_aload_n (n := 0) rfl ?_
              refine wa_iload_n (n := 3) rfl ?_
              refine wa_iconst ?_
              refine wa_iload (n := 6) rfl ?_
              refine wa_ifeq (w_rg0 (by omega) (by omega)) ⟨_, rfl⟩ (fun c34 => ?_) (fun c34 => ?_)
              · skip
                refine wb_lconst (m := 0) rfl ?_
                refine wa_fall ⟨_, rfl⟩ ?_
                refine wa_cv 237 rfl (wy_pr rfl) wt_237 (M2 := fun _ => False) rfl at_M_put ⟨_, rfl⟩ rfl rfl ⟨trivial, trivial, trivial, (Or.inr ⟨wy_pr rfl, fun q => q⟩), trivial, trivial⟩ trivial (fun _ _ q => False.elim q) ?_ (fun _ _ _ q => q)
                refine wa_aload_n (n := 0) rfl ?_
                refine wb_gf4 237 rfl (wy_pr rfl) wt_237 wf_15_138 (v := 363) wl_237_138 ?_
                refine wa_iload_n (n := 1) rfl ?_
                refine wa_iload_n (n := 2) rfl ?_
                refine wb_iast 363 rfl (wy_pr rfl) wt_363 (n := 4200) ((w_up_slot (by decide)).trans ((ml_363 hM))) (by omega) (by omega) ⟨(by omega), (by omega)⟩ ?_
                refine wa_aload_n (n := 0) rfl ?_
                refine wb_gf4 237 rfl (wy_pr rfl) wt_237 wf_15_139 (v := 364) wl_237_139 ?_
                refine wa_iload_n (n := 1) rfl ?_
                refine wa_lload_n (n := 3) rfl ?_
                refine wb_last 364 rfl (wy_pr rfl) wt_364 (n := 4200) ((w_up_slot (by decide)).trans ((w_up_slot (by decide)).trans ((ml_364 hM)))) (by omega) (by omega) ⟨(by omega), (by omega)⟩ ?_
                refine wa_return rfl ?_
                show wJ _ _ _ _ _ _ _ _ _ _
                refine wa_goto ⟨_, rfl⟩ ?_
                refine wa_return rfl ?_
                show wJ _ _ _ _ _ _ _ _ _ _
                refine wa_goto ⟨_, rfl⟩ ?_
                refine wa_return rfl ?_
                exact Or.inl ⟨hm, rfl, rfl⟩
              · skip
                exact absurd c34 (by omega)
            · skip
              refine ⟨rfl, ?_⟩
              refine ⟨rfl, ?_⟩
              exact Or.inr (Or.inl ⟨hm1, hm2, hno, rfl, rfl⟩)
            · skip
              show wJ _ _ _ _ _ _ _ _ _ _
              have hAF := hA.2.2.2.2
              have hBF := hB.2.2.1
              refine wa_goto ⟨_, rfl⟩ ?_
              refine wa_istore (n := 6) rfl ?_
              refine wa_aload_n (n := 0) rfl ?_
              refine wb_gf4 237 rfl (wy_pr rfl) wt_237 wf_15_134 (v := 359) wl_237_134 ?_
              refine wa_aload_n (n := 0) rfl ?_
              refine wb_gfi 237 rfl (wy_pr rfl) wt_237 wf_15_151 (v := t) ((((chZ_e 237 151 (by decide) (by omega)).trans ((w_up_slot (by decide)).trans ((hBF 237 151 (Or.inl (by decide)) (Or.inl (by decide))).trans (hAF 237 151 (by unfold rMr; omega))))).trans (mt))) (fun r35 => ?_)
              refine wa_dup2 (by decide) (by decide) ?_
              refine wb_iald 359 rfl (wy_pr rfl) wt_359 (n := 2) ((((chZ_e 359 (-1) (by decide) (by omega)).trans ((w_up_slot (by decide)).trans ((hBF 359 (-1) (Or.inl (by decide)) (Or.inl (by decide))).trans (hAF 359 (-1) (by unfold rMr; omega))))).trans ((ml_359 hM)))) (by omega) (by omega) (v := h) ((((chZ_e 359 t (by decide) (by omega)).trans ((w_up_slot (by decide)).trans ((hBF 359 t (Or.inl (by decide)) (Or.inl (by decide))).trans (hAF 359 t (by unfold rMr; omega))))).trans (mh))) (fun r36 => ?_)
              refine wa_iconst ?_
              refine wa_isub ?_
              refine wb_iast 359 rfl (wy_pr rfl) wt_359 (n := 2) ((((chZ_e 359 (-1) (by decide) (by omega)).trans ((w_up_slot (by decide)).trans ((hBF 359 (-1) (Or.inl (by decide)) (Or.inl (by decide))).trans (hAF 359 (-1) (by unfold rMr; omega))))).trans ((ml_359 hM)))) (by omega) (by omega) ⟨(by omega), (by omega)⟩ ?_
              refine wa_aload_n (n := 0) rfl ?_
              refine wa_iload_n (n := 3) rfl ?_
              refine wa_iconst ?_
              refine wa_iload (n := 6) rfl ?_
              refine wa_ifeq (w_rg0 (by omega) (by omega)) ⟨_, rfl⟩ (fun c37 => ?_) (fun c37 => ?_)
              · skip
                exact absurd c37 (by omega)
              · skip
                refine wb_lconst (m := 1) rfl ?_
                refine wa_goto ⟨_, rfl⟩ ?_
                refine wa_cv 237 rfl (wy_pr rfl) wt_237 (M2 := fun _ => False) rfl at_M_put ⟨_, rfl⟩ rfl rfl ⟨trivial, trivial, trivial, (Or.inr ⟨wy_pr rfl, fun q => q⟩), trivial, trivial⟩ trivial (fun _ _ q => False.elim q) ?_ (fun _ _ _ q => q)
                refine wa_aload_n (n := 0) rfl ?_
                refine wb_gf4 237 rfl (wy_pr rfl) wt_237 wf_15_138 (v := 363) wl_237_138 ?_
                refine wa_iload_n (n := 1) rfl ?_
                refine wa_iload_n (n := 2) rfl ?_
                refine wb_iast 363 rfl (wy_pr rfl) wt_363 (n := 4200) ((w_up_slot (by decide)).trans ((((chZ_e 363 (-1) (by decide) (by omega)).trans ((w_up_slot (by decide)).trans ((hBF 363 (-1) (Or.inl (by decide)) (Or.inl (by decide))).trans (hAF 363 (-1) (by unfold rMr; omega))))).trans ((ml_363 hM))))) (by omega) (by omega) ⟨(by omega), (by omega)⟩ ?_
                refine wa_aload_n (n := 0) rfl ?_
                refine wb_gf4 237 rfl (wy_pr rfl) wt_237 wf_15_139 (v := 364) wl_237_139 ?_
                refine wa_iload_n (n := 1) rfl ?_
                refine wa_lload_n (n := 3) rfl ?_
                refine wb_last 364 rfl (wy_pr rfl) wt_364 (n := 4200) ((w_up_slot (by decide)).trans ((w_up_slot (by decide)).trans ((((chZ_e 364 (-1) (by decide) (by omega)).trans ((w_up_slot (by decide)).trans ((hBF 364 (-1) (Or.inl (by decide)) (Or.inl (by decide))).trans (hAF 364 (-1) (by unfold rMr; omega))))).trans ((ml_364 hM)))))) (by omega) (by omega) ⟨(by omega), (by omega)⟩ ?_
                refine wa_return rfl ?_
                show wJ _ _ _ _ _ _ _ _ _ _
                refine wa_goto ⟨_, rfl⟩ ?_
                refine wa_return rfl ?_
                show wJ _ _ _ _ _ _ _ _ _ _
                refine wa_goto ⟨_, rfl⟩ ?_
                refine wa_return rfl ?_
                exact Or.inr (Or.inr ⟨hm1, hm2, hyes, rfl, A, B, hA, hB, rfl⟩)
        · skip
          exact absurd c26 (by omega)
theorem rnb4 {nx : Int} (h : stR t S K) (hs : S 357 t = 1) (hi : rIn S K 28 4 b) (hN : mN N S) (ht : rTt S) (hW : rWd S sl T L G) (hH : rHs S H) (hwS : wSh T H) (hT : (T.length : Int) ≤ 8000) (h82 : S 237 82 ≤ 60000) (hu4 : 0 ≤ S 237 66 ∧ S 237 66 ≤ 4000 ∧ (H.length : Int) ≤ S 237 66 + 1) (hnb : ∀ s : Int, 0 ≤ s → s < (H.length : Int) → qNm H s ≤ 100000) (hch : 0 ≤ S 237 81 ∧ S 237 81 ≤ 9000000) (hep : ∀ k : Int, isO T k → (tO T k).2.2.2.2.1 ≤ S 237 81) (hh1 : 2 ≤ K.1.length) (hx : (K.1.getD (K.1.length - 2) (0, 0, [])).1 = 4 ∨ (K.1.getD (K.1.length - 2) (0, 0, [])).1 = 5) (hq : isO T (K.1.getD (K.1.length - 2) (0, 0, [])).2.1) (hy : (K.1.getD (K.1.length - 1) (0, 0, [])).1 = 3) (hnx : nx = ixL N (K.1.getD (K.1.length - 1) (0, 0, [])).2.2) (hm0 : nx ≠ -1 ∧ (aIx T nx (K.1.getD (K.1.length - 2) (0, 0, [])).2.1) ≠ -1) (hm : S 237 66 + aMb H (aPr T H (K.1.getD (K.1.length - 2) (0, 0, [])).2.1) (fS (aIx T nx (K.1.getD (K.1.length - 2) (0, 0, [])).2.1) (aNs H (tO T (K.1.getD (K.1.length - 2) (0, 0, [])).2.1).2.1) 0) ≤ 4000) : rSm xs d t rMd S (kP K 2 (1, 1, [])) (fun Z => rWd Z (slD sl (K.1.getD (K.1.length - 2) (0, 0, [])).2.1 (aIx T nx (K.1.getD (K.1.length - 2) (0, 0, [])).2.1)) (tNc (tDp (rsT T H (aPr T H (K.1.getD (K.1.length - 2) (0, 0, [])).2.1)) (K.1.getD (K.1.length - 2) (0, 0, [])).2.1 (aIx T nx (K.1.getD (K.1.length - 2) (0, 0, [])).2.1)) (K.1.getD (K.1.length - 2) (0, 0, [])).2.1 (rsS T H (aPr T H (K.1.getD (K.1.length - 2) (0, 0, [])).2.1) (fS (aIx T nx (K.1.getD (K.1.length - 2) (0, 0, [])).2.1) (aNs H (tO T (K.1.getD (K.1.length - 2) (0, 0, [])).2.1).2.1) 0)) (S 237 81)) L G ∧ rHs Z (rsH T H (aPr T H (K.1.getD (K.1.length - 2) (0, 0, [])).2.1) (fS (aIx T nx (K.1.getD (K.1.length - 2) (0, 0, [])).2.1) (aNs H (tO T (K.1.getD (K.1.length - 2) (0, 0, [])).2.1).2.1) 0)) ∧ (Z 237 66 = S 237 66 + aMb H (aPr T H (K.1.getD (K.1.length - 2) (0, 0, [])).2.1) (fS (aIx T nx (K.1.getD (K.1.length - 2) (0, 0, [])).2.1) (aNs H (tO T (K.1.getD (K.1.length - 2) (0, 0, [])).2.1).2.1) 0) ∧ Z 237 81 = S 237 81 + (if (tO (aBr T H (aPr T H (K.1.getD (K.1.length - 2) (0, 0, [])).2.1)).1 (K.1.getD (K.1.length - 2) (0, 0, [])).2.1).2.2.2.2.1 = -1 then 0 else 1)) ∧ ∀ x : Int, x ≠ 66 → x ≠ 87 → x ≠ 81 → x ≠ 154 → x ≠ 155 → Z 237 x = S 237 x) := by
  have hk0 : rTk t (w_up (w_up S 237 154 (200 * t + (K.2.1.length : Int) - 1)) 237 155 ((K.2.1.getD (K.2.1.length - 1) (0, 0, 0, (0, 0, []), 0, 0, 0)).2.1 + 1)) K := T0_k h.1
  have hcy := r_at h.1 (i := K.1.length - 1) (by omega) (j := (2100 * t + (K.1.length : Int) - 1)) (by omega)
  have hcx := r_at h.1 (i := K.1.length - 2) (by omega) (j := (2100 * t + (K.1.length : Int) - 1) - 1) (by omega)
  have hvx : S 364 ((2100 * t + (K.1.length : Int) - 1) - 1) = (K.1.getD (K.1.length - 2) (0, 0, [])).2.1 := rV_v hcx (by omega)
  obtain ⟨g1, g2, g3, g4⟩ := rV_t hcy hy ht
  have ef : ∀ (j : Nat) (x : Int), j ≠ 237 → (w_up (w_up S 237 154 (200 * t + (K.2.1.length : Int) - 1)) 237 155 ((K.2.1.getD (K.2.1.length - 1) (0, 0, 0, (0, 0, []), 0, 0, 0)).2.1 + 1)) j x = S j x := fun j x j0 => r_16 rfl j0
  have et : ∀ x : Int, x ≠ 154 → x ≠ 155 → (w_up (w_up S 237 154 (200 * t + (K.2.1.length : Int) - 1)) 237 155 ((K.2.1.getD (K.2.1.length - 1) (0, 0, 0, (0, 0, []), 0, 0, 0)).2.1 + 1)) 237 x = S 237 x := fun x x0 x1 => (w_up_at x1).trans (w_up_at x0)
  have e4 := et 66 (by first | decide | omega) (by first | decide | omega)
  have e1 := et 81 (by first | decide | omega) (by first | decide | omega)
  have hN2 : mN N (w_up (w_up S 237 154 (200 * t + (K.2.1.length : Int) - 1)) 237 155 ((K.2.1.getD (K.2.1.length - 1) (0, 0, 0, (0, 0, []), 0, 0, 0)).2.1 + 1)) := by
    obtain ⟨n1, n2, n3⟩ := hN
    refine ⟨(et 16 (by first | decide | omega) (by first | decide | omega)).trans n1, n2, fun k hk => ?_⟩
    rw [ef 282 _ (by first | decide | omega)]
    exact ⟨(n3 k hk).1, (n3 k hk).2.1, fun x hx => (ef 281 _ (by first | decide | omega)).trans ((n3 k hk).2.2 x hx)⟩
  have hcal := yb4 (xs := xs) (M := fun _ => False) (d := d) (x := (K.1.getD (K.1.length - 1) (0, 0, [])).2.2) (N := N) (o1 := (K.1.getD (K.1.length - 2) (0, 0, [])).2.1) (tx := S 364 (2100 * t + (K.1.length : Int) - 1)) (nx := nx) (mP_of h) ((ef 363 _ (by first | decide | omega)).trans (hcy.1.trans hy)) (ef 364 _ (by first | decide | omega)) ((ef 363 _ (by first | decide | omega)).trans hcx.1) ((ef 364 _ (by first | decide | omega)).trans hvx) (by omega) hx (rWd_T0 hW) (rHs_up (rHs_up hH (by first | decide | omega)) (by first | decide | omega)) hwS hT (by rw [et 82 (by first | decide | omega) (by first | decide | omega)]; exact h82) (by rw [e4]; exact hu4) hnb (by rw [e1]; exact hch) (by rw [e1]; exact hep) g1 ((ef 285 _ (by first | decide | omega)).trans g2) (by rw [ef 284 _ (by first | decide | omega)]; exact g3) (fun i hi2 => by rw [ef 284 _ (by first | decide | omega), ef 283 _ (by first | decide | omega)]; exact g4 i hi2) hN2 hq hnx
  have hpr := wSh_pr hwS hq
  have hlen : (rsT T H (aPr T H (K.1.getD (K.1.length - 2) (0, 0, [])).2.1)).length = T.length := (aBr_ok (l := (fS (aIx T nx (K.1.getD (K.1.length - 2) (0, 0, [])).2.1) (aNs H (tO T (K.1.getD (K.1.length - 2) (0, 0, [])).2.1).2.1) 0)) hwS hpr (by have := hwS.1.2.1; omega)).2.2.2.2.2.2.2
  have hir := aIx_rg (T := T) (nm := nx) (k := (K.1.getD (K.1.length - 2) (0, 0, [])).2.1)
  have hsl := (r_sl hW.1 hq.1.1 hq.1.2 h82).2.1
  refine rg_t (R := fun Z => ∃ A B : wS, rbQ (aPr T H (K.1.getD (K.1.length - 2) (0, 0, [])).2.1) (aIx T nx (K.1.getD (K.1.length - 2) (0, 0, [])).2.1) (K.1.getD (K.1.length - 2) (0, 0, [])).2.1 sl T H L G (w_up (w_up S 237 154 (200 * t + (K.2.1.length : Int) - 1)) 237 155 ((K.2.1.getD (K.2.1.length - 1) (0, 0, 0, (0, 0, []), 0, 0, 0)).2.1 + 1)) A ∧ ds_ag (K.1.getD (K.1.length - 2) (0, 0, [])).2.1 (aIx T nx (K.1.getD (K.1.length - 2) (0, 0, [])).2.1) (sl (K.1.getD (K.1.length - 2) (0, 0, [])).2.1.toNat) A B ∧ pYZ t (K.1.length : Int) 1 1 (chZ (K.1.getD (K.1.length - 2) (0, 0, [])).2.1 (tO (aBr T H (aPr T H (K.1.getD (K.1.length - 2) (0, 0, [])).2.1)).1 (K.1.getD (K.1.length - 2) (0, 0, [])).2.1).2.2.2.2.1 ((w_up (w_up S 237 154 (200 * t + (K.2.1.length : Int) - 1)) 237 155 ((K.2.1.getD (K.2.1.length - 1) (0, 0, 0, (0, 0, []), 0, 0, 0)).2.1 + 1)) 237 81) (w_up B 315 (K.1.getD (K.1.length - 2) (0, 0, [])).2.1 (rsS T H (aPr T H (K.1.getD (K.1.length - 2) (0, 0, [])).2.1) (fS (aIx T nx (K.1.getD (K.1.length - 2) (0, 0, [])).2.1) (aNs H (tO T (K.1.getD (K.1.length - 2) (0, 0, [])).2.1).2.1) 0)))) = Z) h hs hi.1 hi.2.1 hi.2.2 (by first | decide | omega) (wJ_mono hcal (fun o Z hz => ?_)) (fun Z hz => ?_)
  · rcases hz with ⟨z, -⟩ | ⟨-, -, z, -⟩ | ⟨-, -, -, z⟩
    · omega
    · rw [e4] at z; omega
    · exact z
  · obtain ⟨A, B, hA, hB, hz⟩ := hz
    exact rd_tail (l := (fS (aIx T nx (K.1.getD (K.1.length - 2) (0, 0, [])).2.1) (aNs H (tO T (K.1.getD (K.1.length - 2) (0, 0, [])).2.1).2.1) 0)) h hh1 hq.1 hlen (by rw [(hwS.2.2.2.1 _ hq).1]) ⟨by omega, by rw [hsl]; exact hir.2⟩ rfl (aBr_ep hwS hpr hq (m := S 237 81) hep hch).1 hA hB hz
theorem rnb4n {nx : Int} (h : stR t S K) (hs : S 357 t = 1) (hi : rIn S K 28 4 b) (hN : mN N S) (ht : rTt S) (hW : rWd S sl T L G) (hH : rHs S H) (hwS : wSh T H) (hT : (T.length : Int) ≤ 8000) (h82 : S 237 82 ≤ 60000) (hu4 : 0 ≤ S 237 66 ∧ S 237 66 ≤ 4000 ∧ (H.length : Int) ≤ S 237 66 + 1) (hnb : ∀ s : Int, 0 ≤ s → s < (H.length : Int) → qNm H s ≤ 100000) (hch : 0 ≤ S 237 81 ∧ S 237 81 ≤ 9000000) (hep : ∀ k : Int, isO T k → (tO T k).2.2.2.2.1 ≤ S 237 81) (hh1 : 2 ≤ K.1.length) (hx : (K.1.getD (K.1.length - 2) (0, 0, [])).1 = 4 ∨ (K.1.getD (K.1.length - 2) (0, 0, [])).1 = 5) (hq : isO T (K.1.getD (K.1.length - 2) (0, 0, [])).2.1) (hy : (K.1.getD (K.1.length - 1) (0, 0, [])).1 = 3) (hnx : nx = ixL N (K.1.getD (K.1.length - 1) (0, 0, [])).2.2) (hm0 : nx = -1 ∨ (aIx T nx (K.1.getD (K.1.length - 2) (0, 0, [])).2.1) = -1) : rSt xs d t S (kP K 2 (1, 0, [])) := by
  have hk0 : rTk t (w_up (w_up S 237 154 (200 * t + (K.2.1.length : Int) - 1)) 237 155 ((K.2.1.getD (K.2.1.length - 1) (0, 0, 0, (0, 0, []), 0, 0, 0)).2.1 + 1)) K := T0_k h.1
  have hcy := r_at h.1 (i := K.1.length - 1) (by omega) (j := (2100 * t + (K.1.length : Int) - 1)) (by omega)
  have hcx := r_at h.1 (i := K.1.length - 2) (by omega) (j := (2100 * t + (K.1.length : Int) - 1) - 1) (by omega)
  have hvx : S 364 ((2100 * t + (K.1.length : Int) - 1) - 1) = (K.1.getD (K.1.length - 2) (0, 0, [])).2.1 := rV_v hcx (by omega)
  obtain ⟨g1, g2, g3, g4⟩ := rV_t hcy hy ht
  have ef : ∀ (j : Nat) (x : Int), j ≠ 237 → (w_up (w_up S 237 154 (200 * t + (K.2.1.length : Int) - 1)) 237 155 ((K.2.1.getD (K.2.1.length - 1) (0, 0, 0, (0, 0, []), 0, 0, 0)).2.1 + 1)) j x = S j x := fun j x j0 => r_16 rfl j0
  have et : ∀ x : Int, x ≠ 154 → x ≠ 155 → (w_up (w_up S 237 154 (200 * t + (K.2.1.length : Int) - 1)) 237 155 ((K.2.1.getD (K.2.1.length - 1) (0, 0, 0, (0, 0, []), 0, 0, 0)).2.1 + 1)) 237 x = S 237 x := fun x x0 x1 => (w_up_at x1).trans (w_up_at x0)
  have e4 := et 66 (by first | decide | omega) (by first | decide | omega)
  have e1 := et 81 (by first | decide | omega) (by first | decide | omega)
  have hN2 : mN N (w_up (w_up S 237 154 (200 * t + (K.2.1.length : Int) - 1)) 237 155 ((K.2.1.getD (K.2.1.length - 1) (0, 0, 0, (0, 0, []), 0, 0, 0)).2.1 + 1)) := by
    obtain ⟨n1, n2, n3⟩ := hN
    refine ⟨(et 16 (by first | decide | omega) (by first | decide | omega)).trans n1, n2, fun k hk => ?_⟩
    rw [ef 282 _ (by first | decide | omega)]
    exact ⟨(n3 k hk).1, (n3 k hk).2.1, fun x hx => (ef 281 _ (by first | decide | omega)).trans ((n3 k hk).2.2 x hx)⟩
  have hcal := yb4 (xs := xs) (M := fun _ => False) (d := d) (x := (K.1.getD (K.1.length - 1) (0, 0, [])).2.2) (N := N) (o1 := (K.1.getD (K.1.length - 2) (0, 0, [])).2.1) (tx := S 364 (2100 * t + (K.1.length : Int) - 1)) (nx := nx) (mP_of h) ((ef 363 _ (by first | decide | omega)).trans (hcy.1.trans hy)) (ef 364 _ (by first | decide | omega)) ((ef 363 _ (by first | decide | omega)).trans hcx.1) ((ef 364 _ (by first | decide | omega)).trans hvx) (by omega) hx (rWd_T0 hW) (rHs_up (rHs_up hH (by first | decide | omega)) (by first | decide | omega)) hwS hT (by rw [et 82 (by first | decide | omega) (by first | decide | omega)]; exact h82) (by rw [e4]; exact hu4) hnb (by rw [e1]; exact hch) (by rw [e1]; exact hep) g1 ((ef 285 _ (by first | decide | omega)).trans g2) (by rw [ef 284 _ (by first | decide | omega)]; exact g3) (fun i hi2 => by rw [ef 284 _ (by first | decide | omega), ef 283 _ (by first | decide | omega)]; exact g4 i hi2) hN2 hq hnx
  exact rg_t h hs hi.1 hi.2.1 hi.2.2 (by first | decide | omega) (wJ_mono hcal (fun o Z hz => (by
    rcases hz with ⟨-, z⟩ | ⟨z1, z2, -⟩ | ⟨z1, z2, -⟩
    · exact z
    · omega
    · omega : o = .inl none ∧ pYZ t (K.1.length : Int) 1 0 (w_up (w_up S 237 154 (200 * t + (K.2.1.length : Int) - 1)) 237 155 ((K.2.1.getD (K.2.1.length - 1) (0, 0, 0, (0, 0, []), 0, 0, 0)).2.1 + 1)) = Z))) (fun Z hz => rp_Y h hh1 (rV_e (by first | decide | omega) rfl) hz)
theorem rnb4m {nx : Int} (h : stR t S K) (hs : S 357 t = 1) (hi : rIn S K 28 4 b) (hN : mN N S) (ht : rTt S) (hW : rWd S sl T L G) (hH : rHs S H) (hwS : wSh T H) (hT : (T.length : Int) ≤ 8000) (h82 : S 237 82 ≤ 60000) (hu4 : 0 ≤ S 237 66 ∧ S 237 66 ≤ 4000 ∧ (H.length : Int) ≤ S 237 66 + 1) (hnb : ∀ s : Int, 0 ≤ s → s < (H.length : Int) → qNm H s ≤ 100000) (hch : 0 ≤ S 237 81 ∧ S 237 81 ≤ 9000000) (hep : ∀ k : Int, isO T k → (tO T k).2.2.2.2.1 ≤ S 237 81) (hh1 : 2 ≤ K.1.length) (hx : (K.1.getD (K.1.length - 2) (0, 0, [])).1 = 4 ∨ (K.1.getD (K.1.length - 2) (0, 0, [])).1 = 5) (hq : isO T (K.1.getD (K.1.length - 2) (0, 0, [])).2.1) (hy : (K.1.getD (K.1.length - 1) (0, 0, [])).1 = 3) (hnx : nx = ixL N (K.1.getD (K.1.length - 1) (0, 0, [])).2.2) (hm0 : nx ≠ -1 ∧ (aIx T nx (K.1.getD (K.1.length - 2) (0, 0, [])).2.1) ≠ -1) (hm : 4000 < S 237 66 + aMb H (aPr T H (K.1.getD (K.1.length - 2) (0, 0, [])).2.1) (fS (aIx T nx (K.1.getD (K.1.length - 2) (0, 0, [])).2.1) (aNs H (tO T (K.1.getD (K.1.length - 2) (0, 0, [])).2.1).2.1) 0)) : rSn xs d t S K := by
  have hk0 : rTk t (w_up (w_up S 237 154 (200 * t + (K.2.1.length : Int) - 1)) 237 155 ((K.2.1.getD (K.2.1.length - 1) (0, 0, 0, (0, 0, []), 0, 0, 0)).2.1 + 1)) K := T0_k h.1
  have hcy := r_at h.1 (i := K.1.length - 1) (by omega) (j := (2100 * t + (K.1.length : Int) - 1)) (by omega)
  have hcx := r_at h.1 (i := K.1.length - 2) (by omega) (j := (2100 * t + (K.1.length : Int) - 1) - 1) (by omega)
  have hvx : S 364 ((2100 * t + (K.1.length : Int) - 1) - 1) = (K.1.getD (K.1.length - 2) (0, 0, [])).2.1 := rV_v hcx (by omega)
  obtain ⟨g1, g2, g3, g4⟩ := rV_t hcy hy ht
  have ef : ∀ (j : Nat) (x : Int), j ≠ 237 → (w_up (w_up S 237 154 (200 * t + (K.2.1.length : Int) - 1)) 237 155 ((K.2.1.getD (K.2.1.length - 1) (0, 0, 0, (0, 0, []), 0, 0, 0)).2.1 + 1)) j x = S j x := fun j x j0 => r_16 rfl j0
  have et : ∀ x : Int, x ≠ 154 → x ≠ 155 → (w_up (w_up S 237 154 (200 * t + (K.2.1.length : Int) - 1)) 237 155 ((K.2.1.getD (K.2.1.length - 1) (0, 0, 0, (0, 0, []), 0, 0, 0)).2.1 + 1)) 237 x = S 237 x := fun x x0 x1 => (w_up_at x1).trans (w_up_at x0)
  have e4 := et 66 (by first | decide | omega) (by first | decide | omega)
  have e1 := et 81 (by first | decide | omega) (by first | decide | omega)
  have hN2 : mN N (w_up (w_up S 237 154 (200 * t + (K.2.1.length : Int) - 1)) 237 155 ((K.2.1.getD (K.2.1.length - 1) (0, 0, 0, (0, 0, []), 0, 0, 0)).2.1 + 1)) := by
    obtain ⟨n1, n2, n3⟩ := hN
    refine ⟨(et 16 (by first | decide | omega) (by first | decide | omega)).trans n1, n2, fun k hk => ?_⟩
    rw [ef 282 _ (by first | decide | omega)]
    exact ⟨(n3 k hk).1, (n3 k hk).2.1, fun x hx => (ef 281 _ (by first | decide | omega)).trans ((n3 k hk).2.2 x hx)⟩
  have hcal := yb4 (xs := xs) (M := fun _ => False) (d := d) (x := (K.1.getD (K.1.length - 1) (0, 0, [])).2.2) (N := N) (o1 := (K.1.getD (K.1.length - 2) (0, 0, [])).2.1) (tx := S 364 (2100 * t + (K.1.length : Int) - 1)) (nx := nx) (mP_of h) ((ef 363 _ (by first | decide | omega)).trans (hcy.1.trans hy)) (ef 364 _ (by first | decide | omega)) ((ef 363 _ (by first | decide | omega)).trans hcx.1) ((ef 364 _ (by first | decide | omega)).trans hvx) (by omega) hx (rWd_T0 hW) (rHs_up (rHs_up hH (by first | decide | omega)) (by first | decide | omega)) hwS hT (by rw [et 82 (by first | decide | omega) (by first | decide | omega)]; exact h82) (by rw [e4]; exact hu4) hnb (by rw [e1]; exact hch) (by rw [e1]; exact hep) g1 ((ef 285 _ (by first | decide | omega)).trans g2) (by rw [ef 284 _ (by first | decide | omega)]; exact g3) (fun i hi2 => by rw [ef 284 _ (by first | decide | omega), ef 283 _ (by first | decide | omega)]; exact g4 i hi2) hN2 hq hnx
  exact rm_t h hs hi.1 hi.2.1 hi.2.2 (by first | decide | omega) (wJ_mono hcal (fun o Z hz => by
    rcases hz with ⟨z, -⟩ | ⟨-, -, -, z⟩ | ⟨-, -, z, -⟩
    · omega
    · exact z
    · rw [e4] at z; omega))
end Wfu
