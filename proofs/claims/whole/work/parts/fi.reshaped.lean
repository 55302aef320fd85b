/-! PART fi: reshaped of the class, whole. -/
section Wfi
variable {xs : List (Nat × List Int32)} {M : Nat → Prop} {d : Nat} {S S0 Z A B : wS} {H : List aH} {T : List aO} {L : List aC} {G : Int → aV} {k n nm p wo sz : Int} {l : List Int} {Q : wO → wS → Prop}
/-- what reshaped leaves where there is room -/
def reQ (p wo k : Int) (T : List aO) (H : List aH) (L : List aC) (G : Int → aV) (S Z : wS) : Prop := cSw Z (aBr T H p).1 (aRb p (fS wo (aNs H (tO T k).2.1) 0) (aBr T H p).2.1 (aBr T H p).2.2).1 ∧ cWd Z (aBr T H p).1 L G ∧ (w_CL Z ∧ gI Z ∧ rmR S Z) ∧ Z 150 4 = S 150 4 + aMb H p (fS wo (aNs H (tO T k).2.1) 0) ∧ ∀ (j : Nat) (x : Int), j < 4000000 → j ≠ wG → ¬ cMr p j x → Z j x = S j x
theorem oF_sw (h : cSw S T H) (ho : oF S Z) : cSw Z T H := cSw_ag h (fun j x hj => ho.1 j x (by omega))
theorem oF_wd (h : cWd S T L G) (ho : oF S Z) : cWd Z T L G := cWd_ag h (cTx_of (ho.1 2 1 (by first | decide | omega)) (fun x => ho.1 3 x (by omega))) (fun j x hj => ho.1 j x (by unfold cWo at hj; omega))
theorem cIv_q {u4 : Int} {T1 : List aO} {H3 : List aH} (ho : oF S A) (h : cIv p u4 T1 H3 L G A Z) : cSw Z T1 H3 ∧ cWd Z T1 L G ∧ (w_CL Z ∧ gI Z ∧ rmR S Z) ∧ Z 150 4 = u4 + (H3.length : Int) ∧ ∀ (j : Nat) (x : Int), j < 4000000 → j ≠ wG → ¬ cMr p j x → Z j x = S j x := by
  obtain ⟨h1, h2, ⟨h3, h4, h5⟩, h6, h7, -⟩ := h
  exact ⟨h1, h2, ⟨h3, h4, rmR_tr ho.2.2 h5⟩, h6, fun j x j0 j1 j2 => (h7 j x j0 j1 j2).trans (ho.1 j x (by unfold cMr at j2; omega))⟩
theorem fS_le : ∀ (l : List Int) (i : Int), (fS wo l i).length ≤ l.length
  | [], _ => Nat.le_refl _
  | a :: l, i => by
    by_cases c : i = wo
    · rw [fS_e a l c, List.length_cons]; exact Nat.le_succ_of_le (fS_le l (i + 1))
    · rw [fS_n a l c, List.length_cons, List.length_cons]; exact Nat.succ_le_succ (fS_le l (i + 1))
set_option maxHeartbeats 4000000 in
theorem c_re0 (hC : w_CL S) (hI : gI S) (hx1 : pe_at (pe_GA xs).xs 1 = some (1, tx_1)) (hW : cWd S T L G) (h : cSw S T H) (hw : wSh T H) (hk : isO T k) (hwo : -1 ≤ wo ∧ wo ≤ 100000) (hu : 0 ≤ S 150 4 ∧ S 150 4 ≤ 4000 ∧ (H.length : Int) ≤ S 150 4 + 1) (hnb : ∀ s : Int, 0 ≤ s → s < (H.length : Int) → qNm H s ≤ 100000) (h56 : S 156 (-1) = 65) : wJ (pe_GA xs) wY0 (mS [144, 145, 146, 147, 148]) (d + 4) t_XH_reshaped ((pe_at t_XH_reshaped.bl 0).getD (0, [])).2 [(0, (2, 72)), (1, (0, k)), (2, (0, (-1))), (3, (0, wo))] [] S (fun o Z => (o = .inl (some (0, -1)) ∧ 4000 < S 150 4 + aMb H (-1) (fS wo (aNs H (tO T k).2.1) 0) ∧ oF S Z) ∨ (S 150 4 + aMb H (-1) (fS wo (aNs H (tO T k).2.1) 0) ≤ 4000 ∧ o = .inl (some (0, (aRb (-1) (fS wo (aNs H (tO T k).2.1) 0) (aBr T H (-1)).2.1 (aBr T H (-1)).2.2).2)) ∧ reQ (-1) wo k T H L G S Z)) := by
  have hg : wG = 1000000 := rfl
  have hsh := wSh_sh hw hk
  have hH := hw.1.2.1
  have hk0 := hk.1
  obtain ⟨h1, ⟨l1, l2, l3, l4⟩, -, hb⟩ := id h
  obtain ⟨w1, -, -, -, ⟨hth, t2, t3, t4⟩, -⟩ := id hW
  have e28 : S 128 k = (tO T k).2.1 := (c_th w1 hk0.1 hk0.2).1.2.1
  have e45 : S 145 (tO T k).2.1 = qSz H (tO T k).2.1 := (cHs_e h1 hsh.1 hsh.2).2.2.2
  have hz0 : 0 ≤ qSz H (tO T k).2.1 := (wHs_c hw.1 _ hsh.1 hsh.2).1.1
  have hln : ((aNs H (tO T k).2.1).length : Int) = qSz H (tO T k).2.1 := by rw [aNs_len]; omega
  have h64 : qSz H (tO T k).2.1 ≤ 64 := by
    have g := hw.2.2.2.1 k hk
    have : (pNs (tO T k)).length = (aNs H (tO T k).2.1).length := by rw [g.1]
    rw [List.length_map] at this
    omega
  have hds := nDs_H hw.1 hw.2.1 _ _ hsh.1 hsh.2 rfl
  have hbb := nNb _ _ hw.1 hnb hsh.1 hsh.2 rfl
  have hxx : ∀ x ∈ (aNs H (tO T k).2.1), 0 ≤ x ∧ x ≤ 100000 := fun x hx => ⟨hds.2 x hx, hbb x hx⟩
  refine wa_aload_n (n := 0) rfl ?_
  refine wb_gf4 72 rfl (wy_pr rfl) wt_72 wf_2_2 (v := 126) wl_72_2 ?_
  refine wa_iconst ?_
  refine wb_aald5 126 1 rfl rfl (wy_pr rfl) wt_126 (by rw [show _ = _ from ((cl_126 hC))]; omega) wl_126_1 ?_
  refine wa_iload_n (n := 1) rfl ?_
  refine wb_iald 128 rfl (wy_pr rfl) wt_128 (n := (S 127 (-1))) ((hth 1 (by decide))) (by omega) (by omega) (v := (tO T k).2.1) (e28) (fun r1 => ?_)
  refine wa_istore (n := 4) rfl ?_
  refine wa_aload_n (n := 0) rfl ?_
  refine wb_gf4 72 rfl (wy_pr rfl) wt_72 wf_2_7 (v := 143) wl_72_7 ?_
  refine wa_iconst ?_
  refine wb_aald5 143 1 rfl rfl (wy_pr rfl) wt_143 (by rw [show _ = _ from ((cl_143 hC))]; omega) wl_143_1 ?_
  refine wa_iload (n := 4) rfl ?_
  refine wb_iald 145 rfl (wy_pr rfl) wt_145 (n := (S 144 (-1))) ((l1 1 (by decide))) (by omega) (by omega) (v := (qSz H (tO T k).2.1)) (e45) (fun r2 => ?_)
  refine wa_istore (n := 5) rfl ?_
  refine wa_iload (n := 5) rfl ?_
  refine wa_iconst ?_
  refine wa_isub ?_
  refine wa_istore (n := 6) rfl ?_
  refine wa_fall ⟨_, rfl⟩ ?_
  refine wJ_S (ro_l (l := (aNs H (tO T k).2.1)) (sz := (qSz H (tO T k).2.1)) h hw hC hln.symm h64 h56 (qSz H (tO T k).2.1).toNat (tO T k).2.1 ((qSz H (tO T k).2.1) - 1) S [] (by omega) (fun _ => ⟨hsh.1, hsh.2, by omega, (List.append_nil _).symm⟩) (by omega) (oF_r hI) (fun j j0 j1 => by omega) (fun Z1 fr1 i1 ho1 hj1 => ?_)) ⟨rfl, rfl, rfl, rfl, rfl, rfl, rfl, trivial⟩
  have swA := oF_sw h ho1
  have wdA := oF_wd hW ho1
  have clA := oF_cl ho1 hC
  have eA : ∀ (j : Nat) (x : Int), (j ≠ 156 ∨ x < 0) → Z1 j x = S j x := ho1.1
  have mA : ∀ x : Nat, x < 10 → Z1 (127 + x) (-1) = S 127 (-1) := fun x hx => (eA (127 + x) (-1) (by omega)).trans (hth x hx)
  refine wa_iload_n (n := 2) rfl ?_
  refine wa_iconst ?_
  refine wa_icmpne (w_rg0 (by omega) (by omega)) (w_rg0 (by omega) (by omega)) ⟨_, rfl⟩ (fun c3 => ?_) (fun c3 => ?_)
  · skip
    exact absurd c3 (by omega)
  · skip
    refine wa_iconst ?_
    refine wa_goto ⟨_, rfl⟩ ?_
    refine wa_istore (n := 6) rfl ?_
    refine wa_iload (n := 6) rfl ?_
    refine wa_iconst ?_
    refine wa_icmpne (w_rg0 (by omega) (by omega)) (w_rg0 (by omega) (by omega)) ⟨_, rfl⟩ (fun c4 => ?_) (fun c4 => ?_)
    · skip
      refine wa_iconst ?_
      refine wa_fall ⟨_, rfl⟩ ?_
      refine wa_istore (n := 7) rfl ?_
      refine wa_iconst ?_
      refine wa_istore (n := 8) rfl ?_
      refine wa_fall ⟨_, rfl⟩ ?_
      refine wJ_S (rm_l (p := (-1)) (wo := wo) (sz := (qSz H (tO T k).2.1)) (fr := fr1) clA swA hw h64 ((eA 156 (-1) (Or.inr (by first | decide | omega))).trans h56) hwo (aNs H (tO T k).2.1) 0 0 0 (by omega) (by omega) (fun j hj2 => by rw [show (0 : Int) + (j : Int) = (j : Int) by omega]; exact hj1 j hj2) hxx (Or.inr ⟨by omega, by have := wHs_0 hw.1; omega, (wHs_z hw.1).1⟩) ⟨by omega, by omega⟩ (fun kn2 => ?_)) ⟨rfl, rfl, rfl, rfl, rfl, rfl, rfl, rfl, rfl, trivial⟩
      have emb : (0 + aMs H (-1) 0 (fS wo (aNs H (tO T k).2.1) 0)) = aMb H (-1) (fS wo (aNs H (tO T k).2.1) 0) := by show 0 + aMs H (-1) 0 (fS wo (aNs H (tO T k).2.1) 0) = _; rw [Int.zero_add]; exact (if_pos rfl).symm
      have ebr := aMs_rg (H := H) (p := (-1)) (fS wo (aNs H (tO T k).2.1) 0) 0
      have efl : ((fS wo (aNs H (tO T k).2.1) 0).length : Int) ≤ (qSz H (tO T k).2.1) := by have := fS_le (wo := wo) (aNs H (tO T k).2.1) 0; omega
      have u4A : Z1 150 4 = S 150 4 := eA 150 4 (by first | decide | omega)
      rw [show (0, (0 + aMs H (-1) 0 (fS wo (aNs H (tO T k).2.1) 0))) = ((0, aMb H (-1) (fS wo (aNs H (tO T k).2.1) 0)) : Nat × Int) by rw [emb]]
      obtain ⟨mb, hmb⟩ : ∃ mb : Int, mb = aMb H (-1) (fS wo (aNs H (tO T k).2.1) 0) := ⟨_, rfl⟩
      rw [← hmb] at emb ⊢
      refine wa_aload_n (n := 0) rfl ?_
      refine wa_iconst ?_
      refine wa_iload (n := 7) rfl ?_
      refine wa_cv 72 rfl (wy_pr rfl) wt_72 (M2 := mS [144, 145, 146, 147, 148]) rfl at_XH_hasRoom ⟨_, rfl⟩ rfl rfl ⟨(Or.inr ⟨wy_pr rfl, mS_no rfl⟩), trivial, trivial, trivial, trivial, trivial, trivial, trivial, trivial, trivial⟩ trivial (fun _ _ q => q) ?_ (fun _ _ _ q => q)
      refine wa_aload_n (n := 0) rfl ?_
      refine wb_gf4 72 rfl (wy_pr rfl) wt_72 wf_2_10 (v := 150) wl_72_10 ?_
      refine wa_iload_n (n := 1) rfl ?_
      refine wb_iald 150 rfl (wy_pr rfl) wt_150 (n := 6) ((cl_150 clA)) (by omega) (by omega) (v := (S 150 4)) (u4A) (fun r5 => ?_)
      refine wa_iload_n (n := 2) rfl ?_
      refine wa_iadd ?_
      refine wa_gs ?_
      refine wa_iload_n (n := 1) rfl ?_
      refine wb_xald 1 rfl hx1 (by decide) (by omega) (by decide) (v := 4000) (by decide) (fun r6 => ?_)
      refine wa_icmpgt (w_rg0 (by omega) (by omega)) (w_rg0 (by omega) (by omega)) ⟨_, rfl⟩ (fun c7 => ?_) (fun c7 => ?_)
      · skip
        refine wa_iconst ?_
        refine wa_fall ⟨_, rfl⟩ ?_
        refine wa_zreturn rfl (Or.inl rfl) ?_
        show wJ _ _ _ _ _ _ _ _ _ _
        refine wa_ifne (w_rg0 (by omega) (by omega)) ⟨_, rfl⟩ (fun c8 => ?_) (fun c8 => ?_)
        · skip
          exact absurd c8 (by omega)
        · skip
          refine wa_iconst ?_
          refine wa_ireturn rfl ?_
          exact Or.inl ⟨rfl, by omega, ho1⟩
      · skip
        refine wa_iconst ?_
        refine wa_goto ⟨_, rfl⟩ ?_
        refine wa_zreturn rfl (Or.inr rfl) ?_
        show wJ _ _ _ _ _ _ _ _ _ _
        refine wa_ifne (w_rg0 (by omega) (by omega)) ⟨_, rfl⟩ (fun c9 => ?_) (fun c9 => ?_)
        · skip
          refine wa_aload_n (n := 0) rfl ?_
          refine wa_iload_n (n := 2) rfl ?_
          refine wa_cv 72 rfl (wy_pr rfl) wt_72 (M2 := mS [144, 145, 146, 147, 148]) rfl at_XH_bareShape ⟨_, rfl⟩ rfl rfl ⟨(Or.inr ⟨wy_pr rfl, mS_no rfl⟩), trivial, trivial, trivial, trivial, trivial, trivial, trivial, trivial, trivial⟩ trivial (fun _ _ q => q) (c_b0) (fun oq10 Sq10 hp11 q10 => ?_)
          rcases q10 with ⟨rfl, rfl⟩
          show wJ _ _ _ _ _ _ _ _ _ _
          refine wa_istore (n := 8) rfl ?_
          refine wa_iconst ?_
          refine wa_istore (n := 9) rfl ?_
          refine wa_fall ⟨_, rfl⟩ ?_
          have hrm : S 150 4 + mb ≤ 4000 := by omega
          rw [hmb] at hrm
          obtain ⟨b1, ⟨b2, b3⟩, b4, b5, b6, b7, b8, b9⟩ := aBr_ok hw (Or.inl rfl) (l := (fS wo (aNs H (tO T k).2.1) 0)) (by omega)
          have eb : aBr T H (-1) = (T, H, 0) := if_pos rfl
          unfold reQ
          rw [eb] at b1 b2 b3 b4 b5 b6 b7 b8 ⊢
          have hcv : cIv (-1) (S 150 4 - (H.length : Int)) T H L G Z1 Z1 := ⟨swA, wdA, ⟨clA, ho1.2.1, rmR_rfl _⟩, by omega, fun _ _ _ _ _ => rfl, fun _ => rfl⟩
          refine wJ_S (rb_l (p := (-1)) (wo := wo) (sz := (qSz H (tO T k).2.1)) (u4 := S 150 4 - (H.length : Int)) hx1 h64 ((eA 156 (-1) (Or.inr (by first | decide | omega))).trans h56) hwo (aNs H (tO T k).2.1) 0 0 H Z1 (by omega) (by omega) (fun j hj2 => by rw [show (0 : Int) + (j : Int) = (j : Int) by omega]; exact hj1 j hj2) hxx hds.1 hcv b1 ⟨b2, b3, b4⟩ (fun x _ z => by rw [show aNs H 0 = [] from b5] at z; exact absurd z List.not_mem_nil) ⟨by omega, by have b6x : (H.length : Int) + aMs H (-1) 0 (fS wo (aNs H (tO T k).2.1) 0) = (H.length : Int) + aMb H (-1) (fS wo (aNs H (tO T k).2.1) 0) := b6; omega⟩ (fun Zr hcr => ?_)) ⟨rfl, rfl, rfl, rfl, rfl, rfl, rfl, rfl, rfl, rfl, trivial⟩
          have hrl := aRb_ok (T := T) (fS wo (aNs H (tO T k).2.1) 0) H 0 b1 b2 b3 b4 (nDs_f _ _ hds.1) (fun x hx => ⟨(hxx x (fS_m _ _ x hx)).1, fun z => by rw [show aNs H 0 = [] from b5] at z; exact absurd z List.not_mem_nil⟩) (by have b6x : (H.length : Int) + aMs H (-1) 0 (fS wo (aNs H (tO T k).2.1) 0) = (H.length : Int) + aMb H (-1) (fS wo (aNs H (tO T k).2.1) 0) := b6; omega)
          obtain ⟨-, ⟨q1, q2⟩, -, -, q5, -⟩ := id hrl
          refine wa_iload (n := 8) rfl ?_
          refine wa_ireturn rfl ?_
          obtain ⟨y1, y2, y3, y4, y5⟩ := cIv_q ho1 hcr
          refine Or.inr ⟨by omega, rfl, y1, y2, y3, ?_, y5⟩
          have b6x : (H.length : Int) + aMs H (-1) 0 (fS wo (aNs H (tO T k).2.1) 0) = (H.length : Int) + aMb H (-1) (fS wo (aNs H (tO T k).2.1) 0) := b6
          omega
        · skip
          exact absurd c9 (by omega)
    · skip
      exact absurd c4 (by omega)
set_option maxHeartbeats 4000000 in
theorem c_re1 (hC : w_CL S) (hI : gI S) (hx1 : pe_at (pe_GA xs).xs 1 = some (1, tx_1)) (hW : cWd S T L G) (h : cSw S T H) (hw : wSh T H) (hk : isO T k) (hp : isO T p) (hwo : -1 ≤ wo ∧ wo ≤ 100000) (hu : 0 ≤ S 150 4 ∧ S 150 4 ≤ 4000 ∧ (H.length : Int) ≤ S 150 4 + 1) (hnb : ∀ s : Int, 0 ≤ s → s < (H.length : Int) → qNm H s ≤ 100000) (h56 : S 156 (-1) = 65) : wJ (pe_GA xs) wY0 (mS [144, 145, 146, 147, 148]) (d + 4) t_XH_reshaped ((pe_at t_XH_reshaped.bl 0).getD (0, [])).2 [(0, (2, 72)), (1, (0, k)), (2, (0, p)), (3, (0, wo))] [] S (fun o Z => (o = .inl (some (0, -1)) ∧ 4000 < S 150 4 + aMb H p (fS wo (aNs H (tO T k).2.1) 0) ∧ oF S Z) ∨ (S 150 4 + aMb H p (fS wo (aNs H (tO T k).2.1) 0) ≤ 4000 ∧ o = .inl (some (0, (aRb p (fS wo (aNs H (tO T k).2.1) 0) (aBr T H p).2.1 (aBr T H p).2.2).2)) ∧ reQ p wo k T H L G S Z)) := by
  have hg : wG = 1000000 := rfl
  have hsh := wSh_sh hw hk
  have hH := hw.1.2.1
  have hk0 := hk.1
  obtain ⟨h1, ⟨l1, l2, l3, l4⟩, -, hb⟩ := id h
  obtain ⟨w1, -, -, -, ⟨hth, t2, t3, t4⟩, -⟩ := id hW
  have e28 : S 128 k = (tO T k).2.1 := (c_th w1 hk0.1 hk0.2).1.2.1
  have e45 : S 145 (tO T k).2.1 = qSz H (tO T k).2.1 := (cHs_e h1 hsh.1 hsh.2).2.2.2
  have hz0 : 0 ≤ qSz H (tO T k).2.1 := (wHs_c hw.1 _ hsh.1 hsh.2).1.1
  have hln : ((aNs H (tO T k).2.1).length : Int) = qSz H (tO T k).2.1 := by rw [aNs_len]; omega
  have h64 : qSz H (tO T k).2.1 ≤ 64 := by
    have g := hw.2.2.2.1 k hk
    have : (pNs (tO T k)).length = (aNs H (tO T k).2.1).length := by rw [g.1]
    rw [List.length_map] at this
    omega
  have hds := nDs_H hw.1 hw.2.1 _ _ hsh.1 hsh.2 rfl
  have hbb := nNb _ _ hw.1 hnb hsh.1 hsh.2 rfl
  have hxx : ∀ x ∈ (aNs H (tO T k).2.1), 0 ≤ x ∧ x ≤ 100000 := fun x hx => ⟨hds.2 x hx, hbb x hx⟩
  have hp0 := hp.1
  have e132 := hb p hp0.1 hp0.2
  obtain ⟨r0, hr0⟩ : ∃ r0 : Int, r0 = aFs (-1) p (-1) H 0 := ⟨_, rfl⟩
  rw [← hr0] at e132
  have hrr := aFs_rg (be := -1) (pr := p) (nm := -1) (H := H)
  rw [← hr0] at hrr
  refine wa_aload_n (n := 0) rfl ?_
  refine wb_gf4 72 rfl (wy_pr rfl) wt_72 wf_2_2 (v := 126) wl_72_2 ?_
  refine wa_iconst ?_
  refine wb_aald5 126 1 rfl rfl (wy_pr rfl) wt_126 (by rw [show _ = _ from ((cl_126 hC))]; omega) wl_126_1 ?_
  refine wa_iload_n (n := 1) rfl ?_
  refine wb_iald 128 rfl (wy_pr rfl) wt_128 (n := (S 127 (-1))) ((hth 1 (by decide))) (by omega) (by omega) (v := (tO T k).2.1) (e28) (fun r1 => ?_)
  refine wa_istore (n := 4) rfl ?_
  refine wa_aload_n (n := 0) rfl ?_
  refine wb_gf4 72 rfl (wy_pr rfl) wt_72 wf_2_7 (v := 143) wl_72_7 ?_
  refine wa_iconst ?_
  refine wb_aald5 143 1 rfl rfl (wy_pr rfl) wt_143 (by rw [show _ = _ from ((cl_143 hC))]; omega) wl_143_1 ?_
  refine wa_iload (n := 4) rfl ?_
  refine wb_iald 145 rfl (wy_pr rfl) wt_145 (n := (S 144 (-1))) ((l1 1 (by decide))) (by omega) (by omega) (v := (qSz H (tO T k).2.1)) (e45) (fun r2 => ?_)
  refine wa_istore (n := 5) rfl ?_
  refine wa_iload (n := 5) rfl ?_
  refine wa_iconst ?_
  refine wa_isub ?_
  refine wa_istore (n := 6) rfl ?_
  refine wa_fall ⟨_, rfl⟩ ?_
  refine wJ_S (ro_l (l := (aNs H (tO T k).2.1)) (sz := (qSz H (tO T k).2.1)) h hw hC hln.symm h64 h56 (qSz H (tO T k).2.1).toNat (tO T k).2.1 ((qSz H (tO T k).2.1) - 1) S [] (by omega) (fun _ => ⟨hsh.1, hsh.2, by omega, (List.append_nil _).symm⟩) (by omega) (oF_r hI) (fun j j0 j1 => by omega) (fun Z1 fr1 i1 ho1 hj1 => ?_)) ⟨rfl, rfl, rfl, rfl, rfl, rfl, rfl, trivial⟩
  have swA := oF_sw h ho1
  have wdA := oF_wd hW ho1
  have clA := oF_cl ho1 hC
  have eA : ∀ (j : Nat) (x : Int), (j ≠ 156 ∨ x < 0) → Z1 j x = S j x := ho1.1
  have mA : ∀ x : Nat, x < 10 → Z1 (127 + x) (-1) = S 127 (-1) := fun x hx => (eA (127 + x) (-1) (by omega)).trans (hth x hx)
  refine wa_iload_n (n := 2) rfl ?_
  refine wa_iconst ?_
  refine wa_icmpne (w_rg0 (by omega) (by omega)) (w_rg0 (by omega) (by omega)) ⟨_, rfl⟩ (fun c3 => ?_) (fun c3 => ?_)
  · skip
    refine wa_aload_n (n := 0) rfl ?_
    refine wb_gf4 72 rfl (wy_pr rfl) wt_72 wf_2_2 (v := 126) wl_72_2 ?_
    refine wa_iconst ?_
    refine wb_aald5 126 5 rfl rfl (wy_pr rfl) wt_126 (by rw [show _ = _ from ((cl_126 clA))]; omega) wl_126_5 ?_
    refine wa_iload_n (n := 2) rfl ?_
    refine wb_iald 132 rfl (wy_pr rfl) wt_132 (n := (S 127 (-1))) ((mA 5 (by decide))) (by omega) (by omega) (v := r0) (((eA 132 p (by omega)).trans e132)) (fun r4 => ?_)
    refine wa_fall ⟨_, rfl⟩ ?_
    refine wa_istore (n := 6) rfl ?_
    refine wa_iload (n := 6) rfl ?_
    refine wa_iconst ?_
    refine wa_icmpne (w_rg0 (by omega) (by omega)) (w_rg0 (by omega) (by omega)) ⟨_, rfl⟩ (fun c5 => ?_) (fun c5 => ?_)
    · skip
      refine wa_iconst ?_
      refine wa_fall ⟨_, rfl⟩ ?_
      refine wa_istore (n := 7) rfl ?_
      refine wa_iconst ?_
      refine wa_istore (n := 8) rfl ?_
      refine wa_fall ⟨_, rfl⟩ ?_
      refine wJ_S (rm_l (p := p) (wo := wo) (sz := (qSz H (tO T k).2.1)) (fr := fr1) clA swA hw h64 ((eA 156 (-1) (Or.inr (by first | decide | omega))).trans h56) hwo (aNs H (tO T k).2.1) 0 r0 0 (by omega) (by omega) (fun j hj2 => by rw [show (0 : Int) + (j : Int) = (j : Int) by omega]; exact hj1 j hj2) hxx (by by_cases c : r0 = -1; exact Or.inl c; exact Or.inr ⟨by omega, by omega, by rw [hr0]; exact (aFs_at (by rw [← hr0]; omega)).1⟩) ⟨by omega, by omega⟩ (fun kn2 => ?_)) ⟨rfl, rfl, rfl, rfl, rfl, rfl, rfl, rfl, rfl, trivial⟩
      have emb : (0 + aMs H p r0 (fS wo (aNs H (tO T k).2.1) 0)) = aMb H p (fS wo (aNs H (tO T k).2.1) 0) := by
        have e2 : aMb H p (fS wo (aNs H (tO T k).2.1) 0) = (if aFs (-1) p (-1) H 0 = -1 then 1 else 0) + aMs H p (aFs (-1) p (-1) H 0) (fS wo (aNs H (tO T k).2.1) 0) := if_neg (by omega)
        rw [e2, ← hr0]; first | rw [if_pos (by omega)] | rw [if_neg (by omega)]
      have ebr := aMs_rg (H := H) (p := p) (fS wo (aNs H (tO T k).2.1) 0) r0
      have efl : ((fS wo (aNs H (tO T k).2.1) 0).length : Int) ≤ (qSz H (tO T k).2.1) := by have := fS_le (wo := wo) (aNs H (tO T k).2.1) 0; omega
      have u4A : Z1 150 4 = S 150 4 := eA 150 4 (by first | decide | omega)
      rw [show (0, (0 + aMs H p r0 (fS wo (aNs H (tO T k).2.1) 0))) = ((0, aMb H p (fS wo (aNs H (tO T k).2.1) 0)) : Nat × Int) by rw [emb]]
      obtain ⟨mb, hmb⟩ : ∃ mb : Int, mb = aMb H p (fS wo (aNs H (tO T k).2.1) 0) := ⟨_, rfl⟩
      rw [← hmb] at emb ⊢
      refine wa_aload_n (n := 0) rfl ?_
      refine wa_iconst ?_
      refine wa_iload (n := 7) rfl ?_
      refine wa_cv 72 rfl (wy_pr rfl) wt_72 (M2 := mS [144, 145, 146, 147, 148]) rfl at_XH_hasRoom ⟨_, rfl⟩ rfl rfl ⟨(Or.inr ⟨wy_pr rfl, mS_no rfl⟩), trivial, trivial, trivial, trivial, trivial, trivial, trivial, trivial, trivial⟩ trivial (fun _ _ q => q) ?_ (fun _ _ _ q => q)
      refine wa_aload_n (n := 0) rfl ?_
      refine wb_gf4 72 rfl (wy_pr rfl) wt_72 wf_2_10 (v := 150) wl_72_10 ?_
      refine wa_iload_n (n := 1) rfl ?_
      refine wb_iald 150 rfl (wy_pr rfl) wt_150 (n := 6) ((cl_150 clA)) (by omega) (by omega) (v := (S 150 4)) (u4A) (fun r6 => ?_)
      refine wa_iload_n (n := 2) rfl ?_
      refine wa_iadd ?_
      refine wa_gs ?_
      refine wa_iload_n (n := 1) rfl ?_
      refine wb_xald 1 rfl hx1 (by decide) (by omega) (by decide) (v := 4000) (by decide) (fun r7 => ?_)
      refine wa_icmpgt (w_rg0 (by omega) (by omega)) (w_rg0 (by omega) (by omega)) ⟨_, rfl⟩ (fun c8 => ?_) (fun c8 => ?_)
      · skip
        refine wa_iconst ?_
        refine wa_fall ⟨_, rfl⟩ ?_
        refine wa_zreturn rfl (Or.inl rfl) ?_
        show wJ _ _ _ _ _ _ _ _ _ _
        refine wa_ifne (w_rg0 (by omega) (by omega)) ⟨_, rfl⟩ (fun c9 => ?_) (fun c9 => ?_)
        · skip
          exact absurd c9 (by omega)
        · skip
          refine wa_iconst ?_
          refine wa_ireturn rfl ?_
          exact Or.inl ⟨rfl, by omega, ho1⟩
      · skip
        refine wa_iconst ?_
        refine wa_goto ⟨_, rfl⟩ ?_
        refine wa_zreturn rfl (Or.inr rfl) ?_
        show wJ _ _ _ _ _ _ _ _ _ _
        refine wa_ifne (w_rg0 (by omega) (by omega)) ⟨_, rfl⟩ (fun c10 => ?_) (fun c10 => ?_)
        · skip
          refine wa_aload_n (n := 0) rfl ?_
          refine wa_iload_n (n := 2) rfl ?_
          refine wa_cv 72 rfl (wy_pr rfl) wt_72 (M2 := mS [144, 145, 146, 147, 148]) rfl at_XH_bareShape ⟨_, rfl⟩ rfl rfl ⟨(Or.inr ⟨wy_pr rfl, mS_no rfl⟩), trivial, trivial, trivial, trivial, trivial, trivial, trivial, trivial, trivial⟩ trivial (fun _ _ q => q) (c_bs (r := r0) clA ho1.2.1 swA wdA.2.2.2.2.1 hw hp hr0 ⟨by omega, fun z => by omega⟩) (fun oq11 Sq11 hp12 q11 => ?_)
          rcases q11 with ⟨hbr, rfl, rfl⟩ | ⟨hbr, hbs, rfl⟩
          · skip
            show wJ _ _ _ _ _ _ _ _ _ _
            refine wa_istore (n := 8) rfl ?_
            refine wa_iconst ?_
            refine wa_istore (n := 9) rfl ?_
            refine wa_fall ⟨_, rfl⟩ ?_
            have hrm : S 150 4 + mb ≤ 4000 := by omega
            rw [hmb] at hrm
            obtain ⟨b1, ⟨b2, b3⟩, b4, b5, b6, b7, b8, b9⟩ := aBr_ok hw (Or.inr hp) (l := (fS wo (aNs H (tO T k).2.1) 0)) (by omega)
            have eb : aBr T H p = (T, H, r0) := by rw [hr0]; exact (if_neg (by omega)).trans (if_neg (by rw [← hr0]; omega))
            unfold reQ
            rw [eb] at b1 b2 b3 b4 b5 b6 b7 b8 ⊢
            have hcv : cIv p (S 150 4 - (H.length : Int)) T H L G Z1 Z1 := ⟨swA, wdA, ⟨clA, ho1.2.1, rmR_rfl _⟩, by omega, fun _ _ _ _ _ => rfl, fun _ => rfl⟩
            refine wJ_S (rb_l (p := p) (wo := wo) (sz := (qSz H (tO T k).2.1)) (u4 := S 150 4 - (H.length : Int)) hx1 h64 ((eA 156 (-1) (Or.inr (by first | decide | omega))).trans h56) hwo (aNs H (tO T k).2.1) 0 r0 H Z1 (by omega) (by omega) (fun j hj2 => by rw [show (0 : Int) + (j : Int) = (j : Int) by omega]; exact hj1 j hj2) hxx hds.1 hcv b1 ⟨b2, b3, b4⟩ (fun x _ z => by rw [show aNs H r0 = [] from b5] at z; exact absurd z List.not_mem_nil) ⟨by omega, by have b6x : (H.length : Int) + aMs H p r0 (fS wo (aNs H (tO T k).2.1) 0) = (H.length : Int) + aMb H p (fS wo (aNs H (tO T k).2.1) 0) := b6; omega⟩ (fun Zr hcr => ?_)) ⟨rfl, rfl, rfl, rfl, rfl, rfl, rfl, rfl, rfl, rfl, trivial⟩
            have hrl := aRb_ok (T := T) (fS wo (aNs H (tO T k).2.1) 0) H r0 b1 b2 b3 b4 (nDs_f _ _ hds.1) (fun x hx => ⟨(hxx x (fS_m _ _ x hx)).1, fun z => by rw [show aNs H r0 = [] from b5] at z; exact absurd z List.not_mem_nil⟩) (by have b6x : (H.length : Int) + aMs H p r0 (fS wo (aNs H (tO T k).2.1) 0) = (H.length : Int) + aMb H p (fS wo (aNs H (tO T k).2.1) 0) := b6; omega)
            obtain ⟨-, ⟨q1, q2⟩, -, -, q5, -⟩ := id hrl
            refine wa_iload (n := 8) rfl ?_
            refine wa_ireturn rfl ?_
            obtain ⟨y1, y2, y3, y4, y5⟩ := cIv_q ho1 hcr
            refine Or.inr ⟨by omega, rfl, y1, y2, y3, ?_, y5⟩
            have b6x : (H.length : Int) + aMs H p r0 (fS wo (aNs H (tO T k).2.1) 0) = (H.length : Int) + aMb H p (fS wo (aNs H (tO T k).2.1) 0) := b6
            omega
          · skip
            show wJ _ _ _ _ _ _ _ _ _ _
            refine wa_istore (n := 8) rfl ?_
            refine wa_iconst ?_
            refine wa_istore (n := 9) rfl ?_
            refine wa_fall ⟨_, rfl⟩ ?_
            have hrm : S 150 4 + mb ≤ 4000 := by omega
            rw [hmb] at hrm
            obtain ⟨b1, ⟨b2, b3⟩, b4, b5, b6, b7, b8, b9⟩ := aBr_ok hw (Or.inr hp) (l := (fS wo (aNs H (tO T k).2.1) 0)) (by omega)
            have eb : aBr T H p = (tEp T p 0, H ++ [(p, -1, -1, 0)], (H.length : Int)) := (if_neg (by omega)).trans (if_pos (by rw [← hr0]; omega))
            unfold reQ
            rw [eb] at b1 b2 b3 b4 b5 b6 b7 b8 ⊢
            have hfn : aFs (-1) p (-1) H 0 = -1 := by rw [← hr0]; omega
            obtain ⟨⟨-, n4⟩, -, -, -, nf, ng, nr⟩ := id hbs
            have lt : (H ++ [((p, -1, -1, 0) : aH)]).length = H.length + 1 := by rw [List.length_append]; rfl
            have hl4 : (H.length : Int) ≤ 4000 := by rw [lt] at b6; omega
            have hcv : cIv p (S 150 4 - (H.length : Int)) (tEp T p 0) (H ++ [(p, -1, -1, 0)]) L G Z1 Sq11 := ⟨cSw_bs swA hp hfn hl4 hbs, cWd_bs wdA hp0.1 hp0.2 hbs, ⟨CL_bs clA hbs, ng, nr⟩, by rw [n4, lt]; omega, fun j x j0 j1 j2 => nf j x j0 j1 (by unfold cMr at j2; omega) (by unfold cMr at j2; omega) (by unfold cMr at j2; omega) (by unfold cMr at j2; omega), fun x => nf 156 x (by first | decide | omega) (by first | decide | omega) (by first | decide | omega) (Or.inl (by first | decide | omega)) (Or.inl (by first | decide | omega)) (Or.inl (by first | decide | omega))⟩
            refine wJ_S (rb_l (p := p) (wo := wo) (sz := (qSz H (tO T k).2.1)) (u4 := S 150 4 - (H.length : Int)) hx1 h64 ((eA 156 (-1) (Or.inr (by first | decide | omega))).trans h56) hwo (aNs H (tO T k).2.1) 0 (H.length : Int) (H ++ [(p, -1, -1, 0)]) Sq11 (by omega) (by omega) (fun j hj2 => by rw [show (0 : Int) + (j : Int) = (j : Int) by omega]; exact hj1 j hj2) hxx hds.1 hcv b1 ⟨b2, b3, b4⟩ (fun x _ z => by rw [show aNs (H ++ [(p, -1, -1, 0)]) (H.length : Int) = [] from b5] at z; exact absurd z List.not_mem_nil) ⟨by omega, by have b6x : ((H ++ [(p, -1, -1, 0)]).length : Int) + aMs (H ++ [(p, -1, -1, 0)]) p (H.length : Int) (fS wo (aNs H (tO T k).2.1) 0) = (H.length : Int) + aMb H p (fS wo (aNs H (tO T k).2.1) 0) := b6; omega⟩ (fun Zr hcr => ?_)) ⟨rfl, rfl, rfl, rfl, rfl, rfl, rfl, rfl, rfl, rfl, trivial⟩
            have hrl := aRb_ok (T := (tEp T p 0)) (fS wo (aNs H (tO T k).2.1) 0) (H ++ [(p, -1, -1, 0)]) (H.length : Int) b1 b2 b3 b4 (nDs_f _ _ hds.1) (fun x hx => ⟨(hxx x (fS_m _ _ x hx)).1, fun z => by rw [show aNs (H ++ [(p, -1, -1, 0)]) (H.length : Int) = [] from b5] at z; exact absurd z List.not_mem_nil⟩) (by have b6x : ((H ++ [(p, -1, -1, 0)]).length : Int) + aMs (H ++ [(p, -1, -1, 0)]) p (H.length : Int) (fS wo (aNs H (tO T k).2.1) 0) = (H.length : Int) + aMb H p (fS wo (aNs H (tO T k).2.1) 0) := b6; omega)
            obtain ⟨-, ⟨q1, q2⟩, -, -, q5, -⟩ := id hrl
            refine wa_iload (n := 8) rfl ?_
            refine wa_ireturn rfl ?_
            obtain ⟨y1, y2, y3, y4, y5⟩ := cIv_q ho1 hcr
            refine Or.inr ⟨by omega, rfl, y1, y2, y3, ?_, y5⟩
            have b6x : ((H ++ [(p, -1, -1, 0)]).length : Int) + aMs (H ++ [(p, -1, -1, 0)]) p (H.length : Int) (fS wo (aNs H (tO T k).2.1) 0) = (H.length : Int) + aMb H p (fS wo (aNs H (tO T k).2.1) 0) := b6
            omega
        · skip
          exact absurd c10 (by omega)
    · skip
      refine wa_iconst ?_
      refine wa_goto ⟨_, rfl⟩ ?_
      refine wa_istore (n := 7) rfl ?_
      refine wa_iconst ?_
      refine wa_istore (n := 8) rfl ?_
      refine wa_fall ⟨_, rfl⟩ ?_
      refine wJ_S (rm_l (p := p) (wo := wo) (sz := (qSz H (tO T k).2.1)) (fr := fr1) clA swA hw h64 ((eA 156 (-1) (Or.inr (by first | decide | omega))).trans h56) hwo (aNs H (tO T k).2.1) 0 r0 1 (by omega) (by omega) (fun j hj2 => by rw [show (0 : Int) + (j : Int) = (j : Int) by omega]; exact hj1 j hj2) hxx (by by_cases c : r0 = -1; exact Or.inl c; exact Or.inr ⟨by omega, by omega, by rw [hr0]; exact (aFs_at (by rw [← hr0]; omega)).1⟩) ⟨by omega, by omega⟩ (fun kn2 => ?_)) ⟨rfl, rfl, rfl, rfl, rfl, rfl, rfl, rfl, rfl, trivial⟩
      have emb : (1 + aMs H p r0 (fS wo (aNs H (tO T k).2.1) 0)) = aMb H p (fS wo (aNs H (tO T k).2.1) 0) := by
        have e2 : aMb H p (fS wo (aNs H (tO T k).2.1) 0) = (if aFs (-1) p (-1) H 0 = -1 then 1 else 0) + aMs H p (aFs (-1) p (-1) H 0) (fS wo (aNs H (tO T k).2.1) 0) := if_neg (by omega)
        rw [e2, ← hr0]; first | rw [if_pos (by omega)] | rw [if_neg (by omega)]
      have ebr := aMs_rg (H := H) (p := p) (fS wo (aNs H (tO T k).2.1) 0) r0
      have efl : ((fS wo (aNs H (tO T k).2.1) 0).length : Int) ≤ (qSz H (tO T k).2.1) := by have := fS_le (wo := wo) (aNs H (tO T k).2.1) 0; omega
      have u4A : Z1 150 4 = S 150 4 := eA 150 4 (by first | decide | omega)
      rw [show (0, (1 + aMs H p r0 (fS wo (aNs H (tO T k).2.1) 0))) = ((0, aMb H p (fS wo (aNs H (tO T k).2.1) 0)) : Nat × Int) by rw [emb]]
      obtain ⟨mb, hmb⟩ : ∃ mb : Int, mb = aMb H p (fS wo (aNs H (tO T k).2.1) 0) := ⟨_, rfl⟩
      rw [← hmb] at emb ⊢
      refine wa_aload_n (n := 0) rfl ?_
      refine wa_iconst ?_
      refine wa_iload (n := 7) rfl ?_
      refine wa_cv 72 rfl (wy_pr rfl) wt_72 (M2 := mS [144, 145, 146, 147, 148]) rfl at_XH_hasRoom ⟨_, rfl⟩ rfl rfl ⟨(Or.inr ⟨wy_pr rfl, mS_no rfl⟩), trivial, trivial, trivial, trivial, trivial, trivial, trivial, trivial, trivial⟩ trivial (fun _ _ q => q) ?_ (fun _ _ _ q => q)
      refine wa_aload_n (n := 0) rfl ?_
      refine wb_gf4 72 rfl (wy_pr rfl) wt_72 wf_2_10 (v := 150) wl_72_10 ?_
      refine wa_iload_n (n := 1) rfl ?_
      refine wb_iald 150 rfl (wy_pr rfl) wt_150 (n := 6) ((cl_150 clA)) (by omega) (by omega) (v := (S 150 4)) (u4A) (fun r13 => ?_)
      refine wa_iload_n (n := 2) rfl ?_
      refine wa_iadd ?_
      refine wa_gs ?_
      refine wa_iload_n (n := 1) rfl ?_
      refine wb_xald 1 rfl hx1 (by decide) (by omega) (by decide) (v := 4000) (by decide) (fun r14 => ?_)
      refine wa_icmpgt (w_rg0 (by omega) (by omega)) (w_rg0 (by omega) (by omega)) ⟨_, rfl⟩ (fun c15 => ?_) (fun c15 => ?_)
      · skip
        refine wa_iconst ?_
        refine wa_fall ⟨_, rfl⟩ ?_
        refine wa_zreturn rfl (Or.inl rfl) ?_
        show wJ _ _ _ _ _ _ _ _ _ _
        refine wa_ifne (w_rg0 (by omega) (by omega)) ⟨_, rfl⟩ (fun c16 => ?_) (fun c16 => ?_)
        · skip
          exact absurd c16 (by omega)
        · skip
          refine wa_iconst ?_
          refine wa_ireturn rfl ?_
          exact Or.inl ⟨rfl, by omega, ho1⟩
      · skip
        refine wa_iconst ?_
        refine wa_goto ⟨_, rfl⟩ ?_
        refine wa_zreturn rfl (Or.inr rfl) ?_
        show wJ _ _ _ _ _ _ _ _ _ _
        refine wa_ifne (w_rg0 (by omega) (by omega)) ⟨_, rfl⟩ (fun c17 => ?_) (fun c17 => ?_)
        · skip
          refine wa_aload_n (n := 0) rfl ?_
          refine wa_iload_n (n := 2) rfl ?_
          refine wa_cv 72 rfl (wy_pr rfl) wt_72 (M2 := mS [144, 145, 146, 147, 148]) rfl at_XH_bareShape ⟨_, rfl⟩ rfl rfl ⟨(Or.inr ⟨wy_pr rfl, mS_no rfl⟩), trivial, trivial, trivial, trivial, trivial, trivial, trivial, trivial, trivial⟩ trivial (fun _ _ q => q) (c_bs (r := r0) clA ho1.2.1 swA wdA.2.2.2.2.1 hw hp hr0 ⟨by omega, fun z => by omega⟩) (fun oq18 Sq18 hp19 q18 => ?_)
          rcases q18 with ⟨hbr, rfl, rfl⟩ | ⟨hbr, hbs, rfl⟩
          · skip
            show wJ _ _ _ _ _ _ _ _ _ _
            refine wa_istore (n := 8) rfl ?_
            refine wa_iconst ?_
            refine wa_istore (n := 9) rfl ?_
            refine wa_fall ⟨_, rfl⟩ ?_
            have hrm : S 150 4 + mb ≤ 4000 := by omega
            rw [hmb] at hrm
            obtain ⟨b1, ⟨b2, b3⟩, b4, b5, b6, b7, b8, b9⟩ := aBr_ok hw (Or.inr hp) (l := (fS wo (aNs H (tO T k).2.1) 0)) (by omega)
            have eb : aBr T H p = (T, H, r0) := by rw [hr0]; exact (if_neg (by omega)).trans (if_neg (by rw [← hr0]; omega))
            unfold reQ
            rw [eb] at b1 b2 b3 b4 b5 b6 b7 b8 ⊢
            have hcv : cIv p (S 150 4 - (H.length : Int)) T H L G Z1 Z1 := ⟨swA, wdA, ⟨clA, ho1.2.1, rmR_rfl _⟩, by omega, fun _ _ _ _ _ => rfl, fun _ => rfl⟩
            refine wJ_S (rb_l (p := p) (wo := wo) (sz := (qSz H (tO T k).2.1)) (u4 := S 150 4 - (H.length : Int)) hx1 h64 ((eA 156 (-1) (Or.inr (by first | decide | omega))).trans h56) hwo (aNs H (tO T k).2.1) 0 r0 H Z1 (by omega) (by omega) (fun j hj2 => by rw [show (0 : Int) + (j : Int) = (j : Int) by omega]; exact hj1 j hj2) hxx hds.1 hcv b1 ⟨b2, b3, b4⟩ (fun x _ z => by rw [show aNs H r0 = [] from b5] at z; exact absurd z List.not_mem_nil) ⟨by omega, by have b6x : (H.length : Int) + aMs H p r0 (fS wo (aNs H (tO T k).2.1) 0) = (H.length : Int) + aMb H p (fS wo (aNs H (tO T k).2.1) 0) := b6; omega⟩ (fun Zr hcr => ?_)) ⟨rfl, rfl, rfl, rfl, rfl, rfl, rfl, rfl, rfl, rfl, trivial⟩
            have hrl := aRb_ok (T := T) (fS wo (aNs H (tO T k).2.1) 0) H r0 b1 b2 b3 b4 (nDs_f _ _ hds.1) (fun x hx => ⟨(hxx x (fS_m _ _ x hx)).1, fun z => by rw [show aNs H r0 = [] from b5] at z; exact absurd z List.not_mem_nil⟩) (by have b6x : (H.length : Int) + aMs H p r0 (fS wo (aNs H (tO T k).2.1) 0) = (H.length : Int) + aMb H p (fS wo (aNs H (tO T k).2.1) 0) := b6; omega)
            obtain ⟨-, ⟨q1, q2⟩, -, -, q5, -⟩ := id hrl
            refine wa_iload (n := 8) rfl ?_
            refine wa_ireturn rfl ?_
            obtain ⟨y1, y2, y3, y4, y5⟩ := cIv_q ho1 hcr
            refine Or.inr ⟨by omega, rfl, y1, y2, y3, ?_, y5⟩
            have b6x : (H.length : Int) + aMs H p r0 (fS wo (aNs H (tO T k).2.1) 0) = (H.length : Int) + aMb H p (fS wo (aNs H (tO T k).2.1) 0) := b6
            omega
          · skip
            show wJ _ _ _ _ _ _ _ _ _ _
            refine wa_istore (n := 8) rfl ?_
            refine wa_iconst ?_
            refine wa_istore (n := 9) rfl ?_
            refine wa_fall ⟨_, rfl⟩ ?_
            have hrm : S 150 4 + mb ≤ 4000 := by omega
            rw [hmb] at hrm
            obtain ⟨b1, ⟨b2, b3⟩, b4, b5, b6, b7, b8, b9⟩ := aBr_ok hw (Or.inr hp) (l := (fS wo (aNs H (tO T k).2.1) 0)) (by omega)
            have eb : aBr T H p = (tEp T p 0, H ++ [(p, -1, -1, 0)], (H.length : Int)) := (if_neg (by omega)).trans (if_pos (by rw [← hr0]; omega))
            unfold reQ
            rw [eb] at b1 b2 b3 b4 b5 b6 b7 b8 ⊢
            have hfn : aFs (-1) p (-1) H 0 = -1 := by rw [← hr0]; omega
            obtain ⟨⟨-, n4⟩, -, -, -, nf, ng, nr⟩ := id hbs
            have lt : (H ++ [((p, -1, -1, 0) : aH)]).length = H.length + 1 := by rw [List.length_append]; rfl
            have hl4 : (H.length : Int) ≤ 4000 := by rw [lt] at b6; omega
            have hcv : cIv p (S 150 4 - (H.length : Int)) (tEp T p 0) (H ++ [(p, -1, -1, 0)]) L G Z1 Sq18 := ⟨cSw_bs swA hp hfn hl4 hbs, cWd_bs wdA hp0.1 hp0.2 hbs, ⟨CL_bs clA hbs, ng, nr⟩, by rw [n4, lt]; omega, fun j x j0 j1 j2 => nf j x j0 j1 (by unfold cMr at j2; omega) (by unfold cMr at j2; omega) (by unfold cMr at j2; omega) (by unfold cMr at j2; omega), fun x => nf 156 x (by first | decide | omega) (by first | decide | omega) (by first | decide | omega) (Or.inl (by first | decide | omega)) (Or.inl (by first | decide | omega)) (Or.inl (by first | decide | omega))⟩
            refine wJ_S (rb_l (p := p) (wo := wo) (sz := (qSz H (tO T k).2.1)) (u4 := S 150 4 - (H.length : Int)) hx1 h64 ((eA 156 (-1) (Or.inr (by first | decide | omega))).trans h56) hwo (aNs H (tO T k).2.1) 0 (H.length : Int) (H ++ [(p, -1, -1, 0)]) Sq18 (by omega) (by omega) (fun j hj2 => by rw [show (0 : Int) + (j : Int) = (j : Int) by omega]; exact hj1 j hj2) hxx hds.1 hcv b1 ⟨b2, b3, b4⟩ (fun x _ z => by rw [show aNs (H ++ [(p, -1, -1, 0)]) (H.length : Int) = [] from b5] at z; exact absurd z List.not_mem_nil) ⟨by omega, by have b6x : ((H ++ [(p, -1, -1, 0)]).length : Int) + aMs (H ++ [(p, -1, -1, 0)]) p (H.length : Int) (fS wo (aNs H (tO T k).2.1) 0) = (H.length : Int) + aMb H p (fS wo (aNs H (tO T k).2.1) 0) := b6; omega⟩ (fun Zr hcr => ?_)) ⟨rfl, rfl, rfl, rfl, rfl, rfl, rfl, rfl, rfl, rfl, trivial⟩
            have hrl := aRb_ok (T := (tEp T p 0)) (fS wo (aNs H (tO T k).2.1) 0) (H ++ [(p, -1, -1, 0)]) (H.length : Int) b1 b2 b3 b4 (nDs_f _ _ hds.1) (fun x hx => ⟨(hxx x (fS_m _ _ x hx)).1, fun z => by rw [show aNs (H ++ [(p, -1, -1, 0)]) (H.length : Int) = [] from b5] at z; exact absurd z List.not_mem_nil⟩) (by have b6x : ((H ++ [(p, -1, -1, 0)]).length : Int) + aMs (H ++ [(p, -1, -1, 0)]) p (H.length : Int) (fS wo (aNs H (tO T k).2.1) 0) = (H.length : Int) + aMb H p (fS wo (aNs H (tO T k).2.1) 0) := b6; omega)
            obtain ⟨-, ⟨q1, q2⟩, -, -, q5, -⟩ := id hrl
            refine wa_iload (n := 8) rfl ?_
            refine wa_ireturn rfl ?_
            obtain ⟨y1, y2, y3, y4, y5⟩ := cIv_q ho1 hcr
            refine Or.inr ⟨by omega, rfl, y1, y2, y3, ?_, y5⟩
            have b6x : ((H ++ [(p, -1, -1, 0)]).length : Int) + aMs (H ++ [(p, -1, -1, 0)]) p (H.length : Int) (fS wo (aNs H (tO T k).2.1) 0) = (H.length : Int) + aMb H p (fS wo (aNs H (tO T k).2.1) 0) := b6
            omega
        · skip
          exact absurd c17 (by omega)
  · skip
    exact absurd c3 (by omega)
end Wfi
