/-! PART ii: property, of the class and of the reference. -/
section Wii
variable {xs : List (Nat × List Int32)} {Mm : Nat → Prop} {d : Nat} {S Z : wS} {T : List aO} {H : List aH} {L : List aC} {Gg : Int → aV} {sl : Nat → List Int} {k i wh m : Int} {B N C : Int → Int}
theorem hAt_ns (hc : hcF B C m) {n : Nat} : ∀ (f : Nat) (s : Int), 0 ≤ s → s < m → C s = (f : Int) → n < f → N (hAt B C ((n : Int) + 1) (f + 1) s) = (hNl B N f s).getD n 0 := by
  intro f
  induction f with
  | zero => intro s s0 s1 hs hn; omega
  | succ f ih =>
    intro s s0 s1 hs hn
    have hb := (hc s s0 s1).2 (by omega)
    show N (if C s ≤ (n : Int) + 1 then s else hAt B C ((n : Int) + 1) (f + 1) (B s)) = (hNl B N f (B s) ++ [N s]).getD n 0
    by_cases c : C s ≤ (n : Int) + 1
    · have e : n = f := by omega
      rw [if_pos c, e, List.getD_eq_getElem?_getD, List.getElem?_append_right (by rw [hNl_l]; omega), hNl_l, Nat.sub_self]
      rfl
    · rw [if_neg c, ih (B s) hb.1 (by omega) (by omega) (by omega), List.getD_eq_getElem?_getD, List.getD_eq_getElem?_getD, List.getElem?_append_left (by rw [hNl_l]; omega)]
theorem ni_v {q : Int} (hs : cHs S H) (hw : wHs H q) (k0 : 0 ≤ k) (k1 : k < (H.length : Int)) {n : Nat} (hn : (n : Int) < qSz H k) : S 146 (hAt (S 147) (S 145) ((n : Int) + 1) ((S 145 k).toNat + 1) k) = (aNs H k).getD n 0 := by
  have e : ∀ k : Int, 0 ≤ k → k < (H.length : Int) → S 147 k = qBe H k ∧ S 145 k = qSz H k := fun k a b => by
    obtain ⟨-, h2, -, h4⟩ := hs.2.2 k.toNat (by omega)
    rw [show ((k.toNat : Nat) : Int) = k by omega] at h2 h4
    exact ⟨h2, h4⟩
  have hc : hcF (qBe H) (qSz H) (H.length : Int) := wHs_c hw
  have hr := hAt_rg hc (n := (n : Int) + 1) (by omega) ((S 145 k).toNat + 1) k k0 k1
  rw [hAt_cg hc e (by omega) ((S 145 k).toNat + 1) k k0 k1]
  have e3 : S 146 (hAt (qBe H) (qSz H) ((n : Int) + 1) ((S 145 k).toNat + 1) k) = qNm H (hAt (qBe H) (qSz H) ((n : Int) + 1) ((S 145 k).toNat + 1) k) := by
    have h3 := (hs.2.2 (hAt (qBe H) (qSz H) ((n : Int) + 1) ((S 145 k).toNat + 1) k).toNat (by omega)).2.2.1
    rw [show (((hAt (qBe H) (qSz H) ((n : Int) + 1) ((S 145 k).toNat + 1) k).toNat : Nat) : Int) = hAt (qBe H) (qSz H) ((n : Int) + 1) ((S 145 k).toNat + 1) k by omega] at h3
    exact h3
  rw [e3, (e k k0 k1).2]
  exact hAt_ns (N := qNm H) hc (qSz H k).toNat k k0 k1 (by omega) (by omega)
/-- whether there is such a property -/
def pyO (T : List aO) (k i wh : Int) : Prop := (0 ≤ k ∧ k < (T.length : Int)) ∧ (0 ≤ wh ∧ wh ≤ 2) ∧ 0 ≤ i ∧ i < ((tO T k).2.2.2.2.2.2.length : Int)
/-- what is told of a property -/
def pyV (T : List aO) (k i wh : Int) : Int := if wh = 2 then ((tO T k).2.2.2.2.2.2.getD i.toNat (0, (0, 0, []))).1 else tdV ((tO T k).2.2.2.2.2.2.getD i.toNat (0, (0, 0, []))).2 wh
theorem xpy (hI : gI S) (hC : w_CL S) (hW : cWd S T L Gg) (hS : cSw S T H) (hw : wSh T H) (h21 : S 2 1 ≤ 10000000) (hT : (T.length : Int) ≤ 100000) (hnr : ∀ k i : Int, -1 ≤ ((tO T k).2.2.2.2.2.2.getD i.toNat (0, (0, 0, []))).1 ∧ ((tO T k).2.2.2.2.2.2.getD i.toNat (0, (0, 0, []))).1 ≤ 100000) (hvk : ∀ k i : Int, -128 ≤ ((tO T k).2.2.2.2.2.2.getD i.toNat (0, (0, 0, []))).2.1 ∧ ((tO T k).2.2.2.2.2.2.getD i.toNat (0, (0, 0, []))).2.1 ≤ 127) (hk : -2147483648 ≤ k ∧ k ≤ 2147483647) (hi : -2147483648 ≤ i ∧ i ≤ 2147483647) (hwh : -2147483648 ≤ wh ∧ wh ≤ 2147483647) : wJ (pe_GA xs) wY0 Mm (d + 7) t_X_property ((pe_at t_X_property.bl 0).getD (0, [])).2 [(0, (2, 0)), (1, (0, k)), (2, (0, i)), (3, (0, wh))] [] S (fun o Z => (¬ pyO T k i wh ∧ nxO S 18 o Z) ∨ (pyO T k i wh ∧ S = Z ∧ o = .inl (some (1, pyV T k i wh)))) := wJ_E (fun ⟨ad, hp0, hE⟩ => by
  have hG : 0 ≤ S wG 1 := wE_G hE
  obtain ⟨hTh, -, -, hLc, hLt, -⟩ := hW
  have h723 : S 72 3 = (T.length : Int) := hTh.1
  obtain ⟨-, hl14, ⟨hz0, hz1⟩, -, hz2⟩ := hLc
  obtain ⟨ht1, ht2, ht3, ht4⟩ := hLt
  obtain ⟨hHs, ⟨hs5, hs6, hs7, hs8⟩, -, -⟩ := hS
  have h728 : S 72 8 = (H.length : Int) := hHs.1
  refine wa_iload_n (n := 1) rfl ?_
  refine wa_iflt (w_rg0 (by omega) (by omega)) ⟨_, rfl⟩ (fun c1 => ?_) (fun c1 => ?_)
  · skip
    have g0 : 0 ≤ S wG 1 := hG
    refine wa_nx (nN S 50) (nN_rg g0 (by decide)) (wt_nX ⟨by decide, by decide⟩) (by decide +kernel) ⟨(Or.inr ⟨wy_pr rfl, fun q => q⟩), trivial, trivial, trivial, trivial⟩ trivial (nx_d (by omega) (by decide)) ?_
    refine wa_th ?_
    exact Or.inl ⟨fun z => by have z1 := z.1; have z2 := z.2.1; have z3 := z.2.2; omega, ⟨_, rfl, fun j x j0 j1 => w_nw_o j0 j1, gI_nx hI (by first | decide | omega) ⟨by decide, by decide⟩, w_nw_GX, wt_nX ⟨by decide, by decide⟩, w_pr_nx (by first | decide | omega)⟩⟩
  · skip
    refine wa_iload_n (n := 1) rfl ?_
    refine wa_aload_n (n := 0) rfl ?_
    refine wb_gf4 0 rfl (wy_pr rfl) wt_0 wf_10_7 (v := 72) wl_0_7 ?_
    refine wb_gfi 72 rfl (wy_pr rfl) wt_72 wf_2_3 (v := (S 72 3)) rfl (fun r2 => ?_)
    refine wa_icmpge (w_rg0 (by omega) (by omega)) (w_rg0 (by omega) (by omega)) ⟨_, rfl⟩ (fun c3 => ?_) (fun c3 => ?_)
    · skip
      have g0 : 0 ≤ S wG 1 := hG
      refine wa_nx (nN S 50) (nN_rg g0 (by decide)) (wt_nX ⟨by decide, by decide⟩) (by decide +kernel) ⟨(Or.inr ⟨wy_pr rfl, fun q => q⟩), trivial, trivial, trivial, trivial⟩ trivial (nx_d (by omega) (by decide)) ?_
      refine wa_th ?_
      exact Or.inl ⟨fun z => by have z1 := z.1; have z2 := z.2.1; have z3 := z.2.2; omega, ⟨_, rfl, fun j x j0 j1 => w_nw_o j0 j1, gI_nx hI (by first | decide | omega) ⟨by decide, by decide⟩, w_nw_GX, wt_nX ⟨by decide, by decide⟩, w_pr_nx (by first | decide | omega)⟩⟩
    · skip
      refine wa_iload_n (n := 3) rfl ?_
      refine wa_iflt (w_rg0 (by omega) (by omega)) ⟨_, rfl⟩ (fun c4 => ?_) (fun c4 => ?_)
      · skip
        have g0 : 0 ≤ S wG 1 := hG
        refine wa_nx (nN S 50) (nN_rg g0 (by decide)) (wt_nX ⟨by decide, by decide⟩) (by decide +kernel) ⟨(Or.inr ⟨wy_pr rfl, fun q => q⟩), trivial, trivial, trivial, trivial⟩ trivial (nx_d (by omega) (by decide)) ?_
        refine wa_th ?_
        exact Or.inl ⟨fun z => by have z1 := z.1; have z2 := z.2.1; have z3 := z.2.2; omega, ⟨_, rfl, fun j x j0 j1 => w_nw_o j0 j1, gI_nx hI (by first | decide | omega) ⟨by decide, by decide⟩, w_nw_GX, wt_nX ⟨by decide, by decide⟩, w_pr_nx (by first | decide | omega)⟩⟩
      · skip
        refine wa_iload_n (n := 3) rfl ?_
        refine wa_iconst ?_
        refine wa_icmple (w_rg0 (by omega) (by omega)) (w_rg0 (by omega) (by omega)) ⟨_, rfl⟩ (fun c5 => ?_) (fun c5 => ?_)
        · skip
          obtain ⟨⟨-, a2, -⟩, ⟨b1, b2, b3, b4⟩, b5⟩ := hTh.2 k.toNat (by omega)
          rw [show ((k.toNat : Nat) : Int) = k by omega] at a2 b1 b2 b3 b4 b5
          replace a2 : S 128 k = (tO T k).2.1 := a2
          replace b1 : S 134 k = ((tO T k).2.2.2.2.2.2.length : Int) := b1
          refine wa_iload_n (n := 2) rfl ?_
          refine wa_iflt (w_rg0 (by omega) (by omega)) ⟨_, rfl⟩ (fun c6 => ?_) (fun c6 => ?_)
          · skip
            have g0 : 0 ≤ S wG 1 := hG
            refine wa_nx (nN S 50) (nN_rg g0 (by decide)) (wt_nX ⟨by decide, by decide⟩) (by decide +kernel) ⟨(Or.inr ⟨wy_pr rfl, fun q => q⟩), trivial, trivial, trivial, trivial⟩ trivial (nx_d (by omega) (by decide)) ?_
            refine wa_th ?_
            exact Or.inl ⟨fun z => by have z1 := z.1; have z2 := z.2.1; have z3 := z.2.2; omega, ⟨_, rfl, fun j x j0 j1 => w_nw_o j0 j1, gI_nx hI (by first | decide | omega) ⟨by decide, by decide⟩, w_nw_GX, wt_nX ⟨by decide, by decide⟩, w_pr_nx (by first | decide | omega)⟩⟩
          · skip
            refine wa_iload_n (n := 2) rfl ?_
            refine wa_aload_n (n := 0) rfl ?_
            refine wb_gf4 0 rfl (wy_pr rfl) wt_0 wf_10_7 (v := 72) wl_0_7 ?_
            refine wb_gf4 72 rfl (wy_pr rfl) wt_72 wf_2_2 (v := 126) wl_72_2 ?_
            refine wa_bipush (w_rg2 (by omega) (by omega)) ?_
            refine wb_aald5 126 7 rfl rfl (wy_pr rfl) wt_126 (by rw [show _ = _ from ((cl_126 hC))]; omega) wl_126_7 ?_
            refine wa_iload_n (n := 1) rfl ?_
            refine wb_iald 134 rfl (wy_pr rfl) wt_134 (n := (S 127 (-1))) ((ht1 7 (by decide))) (by omega) (by omega) (v := (S 134 k)) rfl (fun r7 => ?_)
            refine wa_icmplt (w_rg0 (by omega) (by omega)) (w_rg0 (by omega) (by omega)) ⟨_, rfl⟩ (fun c8 => ?_) (fun c8 => ?_)
            · skip
              have hok : pyO T k i wh := ⟨by omega, by omega, by omega, by omega⟩
              have hvk1 := hvk k i
              refine wa_iload_n (n := 3) rfl ?_
              refine wa_iconst ?_
              refine wa_icmpne (w_rg0 (by omega) (by omega)) (w_rg0 (by omega) (by omega)) ⟨_, rfl⟩ (fun c9 => ?_) (fun c9 => ?_)
              · skip
                have cv := b5 i.toNat (by rw [List.length_map]; show i.toNat < (tO T k).2.2.2.2.2.2.length; omega)
                rw [show ((i.toNat : Nat) : Int) = i by omega] at cv
                have em : ((tO T k).2.2.2.2.2.2.map (fun x => x.2)).getD i.toNat (0, 0, []) = ((tO T k).2.2.2.2.2.2.getD i.toNat (0, (0, 0, []))).2 := by
                  rw [List.getD_eq_getElem?_getD, List.getElem?_map, List.getD_eq_getElem?_getD]; cases (tO T k).2.2.2.2.2.2[i.toNat]? <;> rfl
                replace cv : cVl S (S 141 (S 133 k + i)) (S 142 (S 133 k + i)) ((tO T k).2.2.2.2.2.2.getD i.toNat (0, (0, 0, []))).2 := em ▸ cv
                refine wa_aload_n (n := 0) rfl ?_
                refine wb_gf4 0 rfl (wy_pr rfl) wt_0 wf_10_7 (v := 72) wl_0_7 ?_
                refine wb_gf4 72 rfl (wy_pr rfl) wt_72 wf_2_2 (v := 126) wl_72_2 ?_
                refine wa_bipush (w_rg2 (by omega) (by omega)) ?_
                refine wb_aald5 126 6 rfl rfl (wy_pr rfl) wt_126 (by rw [show _ = _ from ((cl_126 hC))]; omega) wl_126_6 ?_
                refine wa_iload_n (n := 1) rfl ?_
                refine wb_iald 133 rfl (wy_pr rfl) wt_133 (n := (S 127 (-1))) ((ht1 6 (by decide))) (by omega) (by omega) (v := (S 133 k)) rfl (fun r10 => ?_)
                refine wa_iload_n (n := 2) rfl ?_
                refine wa_iadd ?_
                refine wa_istore (n := 4) rfl ?_
                refine wa_aload_n (n := 0) rfl ?_
                refine wb_gf4 0 rfl (wy_pr rfl) wt_0 wf_10_7 (v := 72) wl_0_7 ?_
                refine wb_gf4 72 rfl (wy_pr rfl) wt_72 wf_2_6 (v := 140) wl_72_6 ?_
                refine wb_gf4 140 rfl (wy_pr rfl) wt_140 wf_7_0 (v := 141) wl_140_0 ?_
                refine wa_iload (n := 4) rfl ?_
                refine wb_bald 141 rfl (wy_pr rfl) wt_141 (n := (S 141 (-1))) (rfl) (by omega) (by omega) (v := (S 141 ((S 133 k) + i))) rfl (fun r11 => ?_)
                refine wa_aload_n (n := 0) rfl ?_
                refine wb_gf4 0 rfl (wy_pr rfl) wt_0 wf_10_7 (v := 72) wl_0_7 ?_
                refine wb_gf4 72 rfl (wy_pr rfl) wt_72 wf_2_6 (v := 140) wl_72_6 ?_
                refine wb_gf4 140 rfl (wy_pr rfl) wt_140 wf_7_1 (v := 142) wl_140_1 ?_
                refine wa_iload (n := 4) rfl ?_
                refine wb_lald 142 rfl (wy_pr rfl) wt_142 (n := (S 141 (-1))) (hl14) (by omega) (by omega) (v := (S 142 ((S 133 k) + i))) rfl (fun r12 => ?_)
                refine wa_iload_n (n := 3) rfl ?_
                refine wa_cs (M2 := fun _ => False) rfl at_X_told ⟨_, rfl⟩ rfl rfl ⟨trivial, (Or.inr ⟨wy_pr rfl, fun q => q⟩), trivial, trivial, trivial, trivial⟩ trivial (fun _ _ q => False.elim q) (tdo (S := S) (k := S 141 (S 133 k + i)) (b := S 142 (S 133 k + i)) (v := ((tO T k).2.2.2.2.2.2.getD i.toNat (0, (0, 0, []))).2) (wh := wh) cv h21 (by have := cv.1; omega) (by omega)) (fun oq13 Sq13 hp14 q13 => ?_)
                rcases q13 with ⟨rfl, rfl⟩
                show wJ _ _ _ _ _ _ _ _ _ _
                refine wa_lreturn rfl ?_
                refine Or.inr ⟨hok, rfl, congrArg (fun z => Sum.inl (some (1, z))) ?_⟩
                unfold pyV
                rw [if_neg (by omega)]
              · skip
                refine wa_aload_n (n := 0) rfl ?_
                refine wb_gf4 0 rfl (wy_pr rfl) wt_0 wf_10_7 (v := 72) wl_0_7 ?_
                refine wb_gf4 72 rfl (wy_pr rfl) wt_72 wf_2_2 (v := 126) wl_72_2 ?_
                refine wa_iconst ?_
                refine wb_aald5 126 1 rfl rfl (wy_pr rfl) wt_126 (by rw [show _ = _ from ((cl_126 hC))]; omega) wl_126_1 ?_
                refine wa_iload_n (n := 1) rfl ?_
                refine wb_iald 128 rfl (wy_pr rfl) wt_128 (n := (S 127 (-1))) ((ht1 1 (by decide))) (by omega) (by omega) (v := (S 128 k)) rfl (fun r15 => ?_)
                refine wa_istore (n := 4) rfl ?_
                refine wa_iload (n := 4) rfl ?_
                refine wa_iconst ?_
                refine wa_icmpne (w_rg0 (by omega) (by omega)) (w_rg0 (by omega) (by omega)) ⟨_, rfl⟩ (fun c16 => ?_) (fun c16 => ?_)
                · skip
                  have hwt := hw.2.2.1 k.toNat (by omega)
                  have hiso : isO T k := ⟨by omega, by have h6 := hwt.2.2.1; have h7 := hwt.1; change (tO T k).1 = 4 ∨ (tO T k).1 = 5; change (tO T k).1 = 6 ∨ (tO T k).1 = 7 → (tO T k).2.1 = -1 at h6; change 4 ≤ (tO T k).1 ∧ (tO T k).1 ≤ 7 at h7; omega⟩
                  have hsh : 0 ≤ (tO T k).2.1 ∧ (tO T k).2.1 < (H.length : Int) := hwt.2.1 hiso.2
                  have hpn := (hw.2.2.2.1 k hiso).1
                  have hnl : ((tO T k).2.2.2.2.2.2.map (fun x => x.1)).length = (aNs H (tO T k).2.1).length := congrArg List.length hpn
                  rw [aNs_len, List.length_map] at hnl
                  have h45 : S 145 (S 128 k) = qSz H (tO T k).2.1 := by
                    rw [a2]; have h4 := (hHs.2.2 (tO T k).2.1.toNat (by omega)).2.2.2; rw [show (((tO T k).2.1.toNat : Nat) : Int) = (tO T k).2.1 by omega] at h4; exact h4
                  have hnv := ni_v hHs hw.1 hsh.1 hsh.2 (n := i.toNat) (by omega)
                  rw [show ((i.toNat : Nat) : Int) = i by omega, ← a2] at hnv
                  have hpe : (aNs H (S 128 k)).getD i.toNat 0 = ((tO T k).2.2.2.2.2.2.getD i.toNat (0, (0, 0, []))).1 := by
                    rw [a2, ← hpn, List.getD_eq_getElem?_getD, List.getElem?_map, List.getD_eq_getElem?_getD, List.getElem?_eq_getElem (show i.toNat < (tO T k).2.2.2.2.2.2.length by omega)]
                    rfl
                  rw [hpe] at hnv
                  have hnr1 := hnr k i
                  have hcf : hcF (S 147) (S 145) (H.length : Int) := hcF_of (wHs_c hw.1) (fun q q0 q1 => by
                    obtain ⟨-, z2, -, z4⟩ := hHs.2.2 q.toNat (by omega)
                    rw [show ((q.toNat : Nat) : Int) = q by omega] at z2 z4
                    exact ⟨z2, z4⟩)
                  refine wa_aload_n (n := 0) rfl ?_
                  refine wb_gf4 0 rfl (wy_pr rfl) wt_0 wf_10_7 (v := 72) wl_0_7 ?_
                  refine wa_iload (n := 4) rfl ?_
                  refine wa_iload_n (n := 2) rfl ?_
                  refine wa_cv 72 rfl (wy_pr rfl) wt_72 (M2 := fun _ => False) rfl at_XH_nameIn ⟨_, rfl⟩ rfl rfl ⟨trivial, (Or.inr ⟨wy_pr rfl, fun q => q⟩), trivial, trivial, trivial, trivial⟩ trivial (fun _ _ q => False.elim q) (ni_ok (S := S) (k := S 128 k) (n := i) (m := (H.length : Int)) hs5 hC (by omega) (by omega) hcf (by omega) (by omega) (by omega)) (fun oq17 Sq17 hp18 q17 => ?_)
                  rcases q17 with ⟨rfl, rfl⟩
                  show wJ _ _ _ _ _ _ _ _ _ _
                  refine wa_i2l (w_rg0 (by omega) (by omega)) ?_
                  refine wa_fall ⟨_, rfl⟩ ?_
                  refine wa_lreturn rfl ?_
                  refine Or.inr ⟨hok, rfl, congrArg (fun z => Sum.inl (some (1, z))) ?_⟩
                  unfold pyV
                  rw [if_pos (by omega), hnv]
                · skip
                  have hwt := hw.2.2.1 k.toNat (by omega)
                  have h67 : (tO T k).1 = 6 ∨ (tO T k).1 = 7 := by
                    have h6 := hwt.2.1; have h7 := hwt.1; change (tO T k).1 = 4 ∨ (tO T k).1 = 5 → 0 ≤ (tO T k).2.1 ∧ (tO T k).2.1 < (H.length : Int) at h6; change 4 ≤ (tO T k).1 ∧ (tO T k).1 ≤ 7 at h7; omega
                  have hn1 : ((tO T k).2.2.2.2.2.2.getD i.toNat (0, (0, 0, []))).1 = -1 := hw.2.2.2.2.1 k (by omega) (by omega) h67 _ (by rw [List.getD_eq_getElem?_getD, List.getElem?_eq_getElem (by omega)]; exact List.getElem_mem _)
                  refine wb_kl (n := (-1)) rfl ?_
                  refine wa_goto ⟨_, rfl⟩ ?_
                  refine wa_lreturn rfl ?_
                  refine Or.inr ⟨hok, rfl, congrArg (fun z => Sum.inl (some (1, z))) ?_⟩
                  unfold pyV
                  rw [if_pos (by omega), hn1]
            · skip
              refine wa_fall ⟨_, rfl⟩ ?_
              have g0 : 0 ≤ S wG 1 := hG
              refine wa_nx (nN S 50) (nN_rg g0 (by decide)) (wt_nX ⟨by decide, by decide⟩) (by decide +kernel) ⟨(Or.inr ⟨wy_pr rfl, fun q => q⟩), trivial, trivial, trivial, trivial⟩ trivial (nx_d (by omega) (by decide)) ?_
              refine wa_th ?_
              exact Or.inl ⟨fun z => by have z1 := z.1; have z2 := z.2.1; have z3 := z.2.2; omega, ⟨_, rfl, fun j x j0 j1 => w_nw_o j0 j1, gI_nx hI (by first | decide | omega) ⟨by decide, by decide⟩, w_nw_GX, wt_nX ⟨by decide, by decide⟩, w_pr_nx (by first | decide | omega)⟩⟩
        · skip
          refine wa_fall ⟨_, rfl⟩ ?_
          have g0 : 0 ≤ S wG 1 := hG
          refine wa_nx (nN S 50) (nN_rg g0 (by decide)) (wt_nX ⟨by decide, by decide⟩) (by decide +kernel) ⟨(Or.inr ⟨wy_pr rfl, fun q => q⟩), trivial, trivial, trivial, trivial⟩ trivial (nx_d (by omega) (by decide)) ?_
          refine wa_th ?_
          exact Or.inl ⟨fun z => by have z1 := z.1; have z2 := z.2.1; have z3 := z.2.2; omega, ⟨_, rfl, fun j x j0 j1 => w_nw_o j0 j1, gI_nx hI (by first | decide | omega) ⟨by decide, by decide⟩, w_nw_GX, wt_nX ⟨by decide, by decide⟩, w_pr_nx (by first | decide | omega)⟩⟩)
theorem mpy (hM : w_ML S) (hW : rWd S sl T L Gg) (hT : (T.length : Int) ≤ 8000) (h82 : S 237 82 ≤ 60000) (hsl : ∀ q : Nat, q < T.length → (sl q).length ≤ 60000) (h0 : ∀ k i : Int, ((tO T k).2.2.2.2.2.2.getD i.toNat (0, (0, 0, []))).2.1 = 0 → ((tO T k).2.2.2.2.2.2.getD i.toNat (0, (0, 0, []))).2.2.1 = 0) (h19 : S 237 19 ≤ 4000) (h102 : S 237 102 ≤ 12000) (hvk : ∀ k i : Int, -128 ≤ ((tO T k).2.2.2.2.2.2.getD i.toNat (0, (0, 0, []))).2.1 ∧ ((tO T k).2.2.2.2.2.2.getD i.toNat (0, (0, 0, []))).2.1 ≤ 127) (hnr : ∀ k i : Int, -1 ≤ ((tO T k).2.2.2.2.2.2.getD i.toNat (0, (0, 0, []))).1 ∧ ((tO T k).2.2.2.2.2.2.getD i.toNat (0, (0, 0, []))).1 ≤ 100000) (hk : -2147483648 ≤ k ∧ k ≤ 2147483647) (hi : -2147483648 ≤ i ∧ i ≤ 2147483647) (hwh : -2147483648 ≤ wh ∧ wh ≤ 2147483647) : wJ (pe_GA xs) wY0 Mm (d + 1) t_M_property ((pe_at t_M_property.bl 0).getD (0, [])).2 [(0, (2, 237)), (1, (0, k)), (2, (0, i)), (3, (0, wh))] [] S (fun o Z => (¬ pyO T k i wh ∧ w_up S 237 0 1 = Z ∧ o = .inl (some (1, 0))) ∨ (pyO T k i wh ∧ w_up S 237 0 0 = Z ∧ o = .inl (some (1, pyV T k i wh)))) := by
  obtain ⟨hTh, -⟩ := hW
  have h68 : S 237 68 = (T.length : Int) := hTh.1
  have hb1 : 0 ≤ k → k < (T.length : Int) → S 317 k = ((tO T k).2.2.2.2.2.2.length : Int) := fun k0 k1 => by
    obtain ⟨-, ⟨b1, -⟩, -⟩ := hTh.2 k.toNat (by omega)
    rw [show ((k.toNat : Nat) : Int) = k by omega] at b1
    exact b1
  have hpl : 0 ≤ k → k < (T.length : Int) → ((tO T k).2.2.2.2.2.2.length : Int) ≤ 60000 := fun k0 k1 => by
    obtain ⟨-, ⟨-, b2⟩, -⟩ := hTh.2 k.toNat (by omega)
    have := hsl k.toNat (by omega)
    show ((T.getD k.toNat (0, 0, 0, 0, 0, 0, [])).2.2.2.2.2.2.length : Int) ≤ 60000
    omega
  refine wa_iload_n (n := 1) rfl ?_
  refine wa_i2l (w_rg0 (by omega) (by omega)) ?_
  refine wa_lconst ?_
  refine wa_aload_n (n := 0) rfl ?_
  refine wb_gfi 237 rfl (wy_pr rfl) wt_237 wf_15_68 (v := (S 237 68)) rfl (fun r1 => ?_)
  refine wa_iconst ?_
  refine wa_isub ?_
  refine wa_i2l (w_rg0 (by omega) (by omega)) ?_
  refine wa_cs (M2 := fun _ => False) rfl at_M_in ⟨_, rfl⟩ rfl rfl ⟨(Or.inr ⟨wy_pr rfl, fun q => q⟩), trivial, trivial, trivial, trivial⟩ trivial (fun _ _ q => False.elim q) (in_ok (S := S) (a := k) (lo := 0) (hi := ((S 237 68) - 1)) ⟨by omega, by omega⟩ ⟨by omega, by omega⟩ ⟨by omega, by omega⟩) (fun oq3 Sq3 hp4 q3 => ?_)
  rcases q3 with ⟨rfl, ⟨rfl, hin2⟩ | ⟨rfl, hin2⟩⟩
  · skip
    show wJ _ _ _ _ _ _ _ _ _ _
    refine wa_ifeq (w_rg0 (by omega) (by omega)) ⟨_, rfl⟩ (fun c5 => ?_) (fun c5 => ?_)
    · skip
      exact absurd c5 (by omega)
    · skip
      refine wa_iload_n (n := 3) rfl ?_
      refine wa_i2l (w_rg0 (by omega) (by omega)) ?_
      refine wa_lconst ?_
      refine wb_kl (n := 2) rfl ?_
      refine wa_cs (M2 := fun _ => False) rfl at_M_in ⟨_, rfl⟩ rfl rfl ⟨(Or.inr ⟨wy_pr rfl, fun q => q⟩), trivial, trivial, trivial, trivial⟩ trivial (fun _ _ q => False.elim q) (in_ok (S := S) (a := wh) (lo := 0) (hi := 2) ⟨by omega, by omega⟩ ⟨by omega, by omega⟩ ⟨by omega, by omega⟩) (fun oq7 Sq7 hp8 q7 => ?_)
      rcases q7 with ⟨rfl, ⟨rfl, hin6⟩ | ⟨rfl, hin6⟩⟩
      · skip
        show wJ _ _ _ _ _ _ _ _ _ _
        refine wa_ifeq (w_rg0 (by omega) (by omega)) ⟨_, rfl⟩ (fun c9 => ?_) (fun c9 => ?_)
        · skip
          exact absurd c9 (by omega)
        · skip
          have hb2 := hb1 (by omega) (by omega)
          have hb3 := hpl (by omega) (by omega)
          refine wa_iload_n (n := 2) rfl ?_
          refine wa_i2l (w_rg0 (by omega) (by omega)) ?_
          refine wa_lconst ?_
          refine wa_iload_n (n := 1) rfl ?_
          refine wa_i2l (w_rg0 (by omega) (by omega)) ?_
          refine wa_lconst ?_
          refine wa_aload_n (n := 0) rfl ?_
          refine wb_gfi 237 rfl (wy_pr rfl) wt_237 wf_15_68 (v := (S 237 68)) rfl (fun r10 => ?_)
          refine wa_iconst ?_
          refine wa_isub ?_
          refine wa_i2l (w_rg0 (by omega) (by omega)) ?_
          refine wa_cs (M2 := fun _ => False) rfl at_M_in ⟨_, rfl⟩ rfl rfl ⟨(Or.inr ⟨wy_pr rfl, fun q => q⟩), trivial, trivial, trivial, trivial⟩ ⟨trivial, trivial, trivial⟩ (fun _ _ q => False.elim q) (in_ok (S := S) (a := k) (lo := 0) (hi := ((S 237 68) - 1)) ⟨by omega, by omega⟩ ⟨by omega, by omega⟩ ⟨by omega, by omega⟩) (fun oq12 Sq12 hp13 q12 => ?_)
          rcases q12 with ⟨rfl, ⟨rfl, hin11⟩ | ⟨rfl, hin11⟩⟩
          · skip
            show wJ _ _ _ _ _ _ _ _ _ _
            refine wa_ifeq (w_rg0 (by omega) (by omega)) ⟨_, rfl⟩ (fun c14 => ?_) (fun c14 => ?_)
            · skip
              exact absurd c14 (by omega)
            · skip
              refine wa_aload_n (n := 0) rfl ?_
              refine wb_gf4 237 rfl (wy_pr rfl) wt_237 wf_15_73 (v := 317) wl_237_73 ?_
              refine wa_iload_n (n := 1) rfl ?_
              refine wb_iald 317 rfl (wy_pr rfl) wt_317 (n := 8000) ((ml_317 hM)) (by omega) (by omega) (v := (S 317 k)) rfl (fun r15 => ?_)
              refine wa_goto ⟨_, rfl⟩ ?_
              refine wa_iconst ?_
              refine wa_isub ?_
              refine wa_i2l (w_rg0 (by omega) (by omega)) ?_
              refine wa_cs (M2 := fun _ => False) rfl at_M_in ⟨_, rfl⟩ rfl rfl ⟨(Or.inr ⟨wy_pr rfl, fun q => q⟩), trivial, trivial, trivial, trivial⟩ trivial (fun _ _ q => False.elim q) (in_ok (S := S) (a := i) (lo := 0) (hi := ((S 317 k) - 1)) ⟨by omega, by omega⟩ ⟨by omega, by omega⟩ ⟨by omega, by omega⟩) (fun oq17 Sq17 hp18 q17 => ?_)
              rcases q17 with ⟨rfl, ⟨rfl, hin16⟩ | ⟨rfl, hin16⟩⟩
              · skip
                show wJ _ _ _ _ _ _ _ _ _ _
                refine wa_ifeq (w_rg0 (by omega) (by omega)) ⟨_, rfl⟩ (fun c19 => ?_) (fun c19 => ?_)
                · skip
                  exact absurd c19 (by omega)
                · skip
                  refine wa_iconst ?_
                  refine wa_goto ⟨_, rfl⟩ ?_
                  refine wa_istore (n := 4) rfl ?_
                  refine wa_aload_n (n := 0) rfl ?_
                  refine wa_iload (n := 4) rfl ?_
                  refine wa_ifeq (w_rg0 (by omega) (by omega)) ⟨_, rfl⟩ (fun c20 => ?_) (fun c20 => ?_)
                  · skip
                    exact absurd c20 (by omega)
                  · skip
                    refine wa_iconst ?_
                    refine wa_goto ⟨_, rfl⟩ ?_
                    refine wb_pfi 237 rfl (wy_pr rfl) wt_237 wf_15_0 (n := 0) rfl ⟨(by omega), (by omega)⟩ ?_
                    refine wa_iload (n := 4) rfl ?_
                    refine wa_ifne (w_rg0 (by omega) (by omega)) ⟨_, rfl⟩ (fun c21 => ?_) (fun c21 => ?_)
                    · skip
                      have hok : pyO T k i wh := ⟨by omega, by omega, by omega, by omega⟩
                      have k0 := hok.1.1
                      have k1 := hok.1.2
                      obtain ⟨-, ⟨b1, b2⟩, b3, b4, -⟩ := hTh.2 k.toNat (by omega)
                      replace b2 : (sl k.toNat).length = (tO T k).2.2.2.2.2.2.length := b2
                      rw [show ((k.toNat : Nat) : Int) = k by omega] at b1 b3
                      have i0 := hok.2.2.1
                      have i1 := hok.2.2.2
                      have hi2 : i.toNat < (sl k.toNat).length := by omega
                      obtain ⟨c1, c2, c3, -⟩ := b4 i.toNat hi2
                      replace c2 : S 327 ((sl k.toNat).getD i.toNat 0) = ((tO T k).2.2.2.2.2.2.getD i.toNat (0, (0, 0, []))).1 := c2
                      replace c3 : rVl S (S 325 ((sl k.toNat).getD i.toNat 0)) (S 326 ((sl k.toNat).getD i.toNat 0)) ((tO T k).2.2.2.2.2.2.getD i.toNat (0, (0, 0, []))).2 := c3
                      have hslc : slC S k (sl k.toNat) := ⟨by rw [b1]; show (_ : Int) = _; rw [b2], fun z => (b3 z).1, fun q hq => ⟨by have := (b4 q hq).1; omega, (b4 q hq).2.2.2⟩⟩
                      have hvk1 := hvk k i
                      have hnr1 := hnr k i
                      have hsk := hsl k.toNat (by omega)
                      refine wa_aload_n (n := 0) rfl ?_
                      refine wa_iload_n (n := 1) rfl ?_
                      refine wa_iload_n (n := 2) rfl ?_
                      refine wa_cv 237 rfl (wy_pr rfl) wt_237 (M2 := fun _ => False) rfl at_M_slotAt ⟨_, rfl⟩ rfl rfl ⟨trivial, (Or.inr ⟨wy_pr rfl, fun q => q⟩), trivial, trivial, trivial, trivial⟩ trivial (fun _ _ q => False.elim q) (saM_ok (S := (w_up S 237 0 0)) (th := k) (i := i) (l := sl k.toNat) (w_ML_up hM (by decide)) (by omega) hslc (by omega) (by omega)) (fun oq22 Sq22 hp23 q22 => ?_)
                      rcases q22 with ⟨rfl, rfl⟩
                      show wJ _ _ _ _ _ _ _ _ _ _
                      refine wa_istore (n := 5) rfl ?_
                      refine wa_iload_n (n := 3) rfl ?_
                      refine wa_iconst ?_
                      refine wa_icmpne (w_rg0 (by omega) (by omega)) (w_rg0 (by omega) (by omega)) ⟨_, rfl⟩ (fun c24 => ?_) (fun c24 => ?_)
                      · skip
                        refine wa_aload_n (n := 0) rfl ?_
                        refine wa_aload_n (n := 0) rfl ?_
                        refine wb_gf4 237 rfl (wy_pr rfl) wt_237 wf_15_83 (v := 325) wl_237_83 ?_
                        refine wa_iload (n := 5) rfl ?_
                        refine wb_iald 325 rfl (wy_pr rfl) wt_325 (n := 60000) ((w_up_slot (by decide)).trans ((ml_325 hM))) (by omega) (by omega) (v := (S 325 ((sl k.toNat).getD i.toNat 0))) (w_up_slot (by decide)) (fun r25 => ?_)
                        refine wa_aload_n (n := 0) rfl ?_
                        refine wb_gf4 237 rfl (wy_pr rfl) wt_237 wf_15_84 (v := 326) wl_237_84 ?_
                        refine wa_iload (n := 5) rfl ?_
                        refine wb_lald 326 rfl (wy_pr rfl) wt_326 (n := 60000) ((w_up_slot (by decide)).trans ((ml_326 hM))) (by omega) (by omega) (v := (S 326 ((sl k.toNat).getD i.toNat 0))) (w_up_slot (by decide)) (fun r26 => ?_)
                        refine wa_iload_n (n := 3) rfl ?_
                        refine wa_cv 237 rfl (wy_pr rfl) wt_237 (M2 := fun _ => False) rfl at_M_told ⟨_, rfl⟩ rfl rfl ⟨trivial, trivial, (Or.inr ⟨wy_pr rfl, fun q => q⟩), trivial, trivial, trivial, trivial⟩ trivial (fun _ _ q => False.elim q) (mto (S := (w_up S 237 0 0)) (k := S 325 ((sl k.toNat).getD i.toNat 0)) (b := S 326 ((sl k.toNat).getD i.toNat 0)) (v := ((tO T k).2.2.2.2.2.2.getD i.toNat (0, (0, 0, []))).2) (wh := wh) (w_ML_up hM (by decide)) (rVl_mo c3 rTx_rfl) (h0 k i) h19 h102 (by have := c3.1; omega) (by omega)) (fun oq27 Sq27 hp28 q27 => ?_)
                        rcases q27 with ⟨rfl, rfl⟩
                        show wJ _ _ _ _ _ _ _ _ _ _
                        refine wa_fall ⟨_, rfl⟩ ?_
                        refine wa_lreturn rfl ?_
                        refine Or.inr ⟨hok, rfl, congrArg (fun z => Sum.inl (some (1, z))) ?_⟩
                        unfold pyV
                        rw [if_neg (by omega)]
                      · skip
                        refine wa_aload_n (n := 0) rfl ?_
                        refine wb_gf4 237 rfl (wy_pr rfl) wt_237 wf_15_85 (v := 327) wl_237_85 ?_
                        refine wa_iload (n := 5) rfl ?_
                        refine wb_iald 327 rfl (wy_pr rfl) wt_327 (n := 60000) ((w_up_slot (by decide)).trans ((ml_327 hM))) (by omega) (by omega) (v := (S 327 ((sl k.toNat).getD i.toNat 0))) (w_up_slot (by decide)) (fun r29 => ?_)
                        refine wa_i2l (w_rg0 (by omega) (by omega)) ?_
                        refine wa_goto ⟨_, rfl⟩ ?_
                        refine wa_lreturn rfl ?_
                        refine Or.inr ⟨hok, rfl, congrArg (fun z => Sum.inl (some (1, z))) ?_⟩
                        unfold pyV
                        rw [if_pos (by omega)]; exact c2
                    · skip
                      exact absurd c21 (by omega)
              · skip
                show wJ _ _ _ _ _ _ _ _ _ _
                refine wa_ifeq (w_rg0 (by omega) (by omega)) ⟨_, rfl⟩ (fun c30 => ?_) (fun c30 => ?_)
                · skip
                  refine wa_iconst ?_
                  refine wa_fall ⟨_, rfl⟩ ?_
                  refine wa_istore (n := 4) rfl ?_
                  refine wa_aload_n (n := 0) rfl ?_
                  refine wa_iload (n := 4) rfl ?_
                  refine wa_ifeq (w_rg0 (by omega) (by omega)) ⟨_, rfl⟩ (fun c31 => ?_) (fun c31 => ?_)
                  · skip
                    refine wa_iconst ?_
                    refine wa_fall ⟨_, rfl⟩ ?_
                    refine wb_pfi 237 rfl (wy_pr rfl) wt_237 wf_15_0 (n := 0) rfl ⟨(by omega), (by omega)⟩ ?_
                    refine wa_iload (n := 4) rfl ?_
                    refine wa_ifne (w_rg0 (by omega) (by omega)) ⟨_, rfl⟩ (fun c32 => ?_) (fun c32 => ?_)
                    · skip
                      exact absurd c32 (by omega)
                    · skip
                      refine wa_lconst ?_
                      refine wa_lreturn rfl ?_
                      exact Or.inl ⟨fun z => by have z1 := z.1; have z2 := z.2.1; have z3 := z.2.2; have z4 := hb1 z.1.1 z.1.2; have z5 := hpl z.1.1 z.1.2; omega, rfl, rfl⟩
                  · skip
                    exact absurd c31 (by omega)
                · skip
                  exact absurd c30 (by omega)
          · skip
            show wJ _ _ _ _ _ _ _ _ _ _
            refine wa_ifeq (w_rg0 (by omega) (by omega)) ⟨_, rfl⟩ (fun c33 => ?_) (fun c33 => ?_)
            · skip
              refine wa_iconst ?_
              refine wa_fall ⟨_, rfl⟩ ?_
              refine wa_iconst ?_
              refine wa_isub ?_
              refine wa_i2l (w_rg0 (by omega) (by omega)) ?_
              refine wa_cs (M2 := fun _ => False) rfl at_M_in ⟨_, rfl⟩ rfl rfl ⟨(Or.inr ⟨wy_pr rfl, fun q => q⟩), trivial, trivial, trivial, trivial⟩ trivial (fun _ _ q => False.elim q) (in_ok (S := S) (a := i) (lo := 0) (hi := (0 - 1)) ⟨by omega, by omega⟩ ⟨by omega, by omega⟩ ⟨by omega, by omega⟩) (fun oq35 Sq35 hp36 q35 => ?_)
              rcases q35 with ⟨rfl, ⟨rfl, hin34⟩ | ⟨rfl, hin34⟩⟩
              · skip
                show wJ _ _ _ _ _ _ _ _ _ _
                refine wa_ifeq (w_rg0 (by omega) (by omega)) ⟨_, rfl⟩ (fun c37 => ?_) (fun c37 => ?_)
                · skip
                  exact absurd c37 (by omega)
                · skip
                  refine wa_iconst ?_
                  refine wa_goto ⟨_, rfl⟩ ?_
                  refine wa_istore (n := 4) rfl ?_
                  refine wa_aload_n (n := 0) rfl ?_
                  refine wa_iload (n := 4) rfl ?_
                  refine wa_ifeq (w_rg0 (by omega) (by omega)) ⟨_, rfl⟩ (fun c38 => ?_) (fun c38 => ?_)
                  · skip
                    exact absurd c38 (by omega)
                  · skip
                    refine wa_iconst ?_
                    refine wa_goto ⟨_, rfl⟩ ?_
                    refine wb_pfi 237 rfl (wy_pr rfl) wt_237 wf_15_0 (n := 0) rfl ⟨(by omega), (by omega)⟩ ?_
                    refine wa_iload (n := 4) rfl ?_
                    refine wa_ifne (w_rg0 (by omega) (by omega)) ⟨_, rfl⟩ (fun c39 => ?_) (fun c39 => ?_)
                    · skip
                      have hok : pyO T k i wh := ⟨by omega, by omega, by omega, by omega⟩
                      have k0 := hok.1.1
                      have k1 := hok.1.2
                      obtain ⟨-, ⟨b1, b2⟩, b3, b4, -⟩ := hTh.2 k.toNat (by omega)
                      replace b2 : (sl k.toNat).length = (tO T k).2.2.2.2.2.2.length := b2
                      rw [show ((k.toNat : Nat) : Int) = k by omega] at b1 b3
                      have i0 := hok.2.2.1
                      have i1 := hok.2.2.2
                      have hi2 : i.toNat < (sl k.toNat).length := by omega
                      obtain ⟨c1, c2, c3, -⟩ := b4 i.toNat hi2
                      replace c2 : S 327 ((sl k.toNat).getD i.toNat 0) = ((tO T k).2.2.2.2.2.2.getD i.toNat (0, (0, 0, []))).1 := c2
                      replace c3 : rVl S (S 325 ((sl k.toNat).getD i.toNat 0)) (S 326 ((sl k.toNat).getD i.toNat 0)) ((tO T k).2.2.2.2.2.2.getD i.toNat (0, (0, 0, []))).2 := c3
                      have hslc : slC S k (sl k.toNat) := ⟨by rw [b1]; show (_ : Int) = _; rw [b2], fun z => (b3 z).1, fun q hq => ⟨by have := (b4 q hq).1; omega, (b4 q hq).2.2.2⟩⟩
                      have hvk1 := hvk k i
                      have hnr1 := hnr k i
                      have hsk := hsl k.toNat (by omega)
                      refine wa_aload_n (n := 0) rfl ?_
                      refine wa_iload_n (n := 1) rfl ?_
                      refine wa_iload_n (n := 2) rfl ?_
                      refine wa_cv 237 rfl (wy_pr rfl) wt_237 (M2 := fun _ => False) rfl at_M_slotAt ⟨_, rfl⟩ rfl rfl ⟨trivial, (Or.inr ⟨wy_pr rfl, fun q => q⟩), trivial, trivial, trivial, trivial⟩ trivial (fun _ _ q => False.elim q) (saM_ok (S := (w_up S 237 0 0)) (th := k) (i := i) (l := sl k.toNat) (w_ML_up hM (by decide)) (by omega) hslc (by omega) (by omega)) (fun oq40 Sq40 hp41 q40 => ?_)
                      rcases q40 with ⟨rfl, rfl⟩
                      show wJ _ _ _ _ _ _ _ _ _ _
                      refine wa_istore (n := 5) rfl ?_
                      refine wa_iload_n (n := 3) rfl ?_
                      refine wa_iconst ?_
                      refine wa_icmpne (w_rg0 (by omega) (by omega)) (w_rg0 (by omega) (by omega)) ⟨_, rfl⟩ (fun c42 => ?_) (fun c42 => ?_)
                      · skip
                        refine wa_aload_n (n := 0) rfl ?_
                        refine wa_aload_n (n := 0) rfl ?_
                        refine wb_gf4 237 rfl (wy_pr rfl) wt_237 wf_15_83 (v := 325) wl_237_83 ?_
                        refine wa_iload (n := 5) rfl ?_
                        refine wb_iald 325 rfl (wy_pr rfl) wt_325 (n := 60000) ((w_up_slot (by decide)).trans ((ml_325 hM))) (by omega) (by omega) (v := (S 325 ((sl k.toNat).getD i.toNat 0))) (w_up_slot (by decide)) (fun r43 => ?_)
                        refine wa_aload_n (n := 0) rfl ?_
                        refine wb_gf4 237 rfl (wy_pr rfl) wt_237 wf_15_84 (v := 326) wl_237_84 ?_
                        refine wa_iload (n := 5) rfl ?_
                        refine wb_lald 326 rfl (wy_pr rfl) wt_326 (n := 60000) ((w_up_slot (by decide)).trans ((ml_326 hM))) (by omega) (by omega) (v := (S 326 ((sl k.toNat).getD i.toNat 0))) (w_up_slot (by decide)) (fun r44 => ?_)
                        refine wa_iload_n (n := 3) rfl ?_
                        refine wa_cv 237 rfl (wy_pr rfl) wt_237 (M2 := fun _ => False) rfl at_M_told ⟨_, rfl⟩ rfl rfl ⟨trivial, trivial, (Or.inr ⟨wy_pr rfl, fun q => q⟩), trivial, trivial, trivial, trivial⟩ trivial (fun _ _ q => False.elim q) (mto (S := (w_up S 237 0 0)) (k := S 325 ((sl k.toNat).getD i.toNat 0)) (b := S 326 ((sl k.toNat).getD i.toNat 0)) (v := ((tO T k).2.2.2.2.2.2.getD i.toNat (0, (0, 0, []))).2) (wh := wh) (w_ML_up hM (by decide)) (rVl_mo c3 rTx_rfl) (h0 k i) h19 h102 (by have := c3.1; omega) (by omega)) (fun oq45 Sq45 hp46 q45 => ?_)
                        rcases q45 with ⟨rfl, rfl⟩
                        show wJ _ _ _ _ _ _ _ _ _ _
                        refine wa_fall ⟨_, rfl⟩ ?_
                        refine wa_lreturn rfl ?_
                        refine Or.inr ⟨hok, rfl, congrArg (fun z => Sum.inl (some (1, z))) ?_⟩
                        unfold pyV
                        rw [if_neg (by omega)]
                      · skip
                        refine wa_aload_n (n := 0) rfl ?_
                        refine wb_gf4 237 rfl (wy_pr rfl) wt_237 wf_15_85 (v := 327) wl_237_85 ?_
                        refine wa_iload (n := 5) rfl ?_
                        refine wb_iald 327 rfl (wy_pr rfl) wt_327 (n := 60000) ((w_up_slot (by decide)).trans ((ml_327 hM))) (by omega) (by omega) (v := (S 327 ((sl k.toNat).getD i.toNat 0))) (w_up_slot (by decide)) (fun r47 => ?_)
                        refine wa_i2l (w_rg0 (by omega) (by omega)) ?_
                        refine wa_goto ⟨_, rfl⟩ ?_
                        refine wa_lreturn rfl ?_
                        refine Or.inr ⟨hok, rfl, congrArg (fun z => Sum.inl (some (1, z))) ?_⟩
                        unfold pyV
                        rw [if_pos (by omega)]; exact c2
                    · skip
                      exact absurd c39 (by omega)
              · skip
                show wJ _ _ _ _ _ _ _ _ _ _
                refine wa_ifeq (w_rg0 (by omega) (by omega)) ⟨_, rfl⟩ (fun c48 => ?_) (fun c48 => ?_)
                · skip
                  refine wa_iconst ?_
                  refine wa_fall ⟨_, rfl⟩ ?_
                  refine wa_istore (n := 4) rfl ?_
                  refine wa_aload_n (n := 0) rfl ?_
                  refine wa_iload (n := 4) rfl ?_
                  refine wa_ifeq (w_rg0 (by omega) (by omega)) ⟨_, rfl⟩ (fun c49 => ?_) (fun c49 => ?_)
                  · skip
                    refine wa_iconst ?_
                    refine wa_fall ⟨_, rfl⟩ ?_
                    refine wb_pfi 237 rfl (wy_pr rfl) wt_237 wf_15_0 (n := 0) rfl ⟨(by omega), (by omega)⟩ ?_
                    refine wa_iload (n := 4) rfl ?_
                    refine wa_ifne (w_rg0 (by omega) (by omega)) ⟨_, rfl⟩ (fun c50 => ?_) (fun c50 => ?_)
                    · skip
                      exact absurd c50 (by omega)
                    · skip
                      refine wa_lconst ?_
                      refine wa_lreturn rfl ?_
                      exact Or.inl ⟨fun z => by have z1 := z.1; have z2 := z.2.1; have z3 := z.2.2; have z4 := hb1 z.1.1 z.1.2; have z5 := hpl z.1.1 z.1.2; omega, rfl, rfl⟩
                  · skip
                    exact absurd c49 (by omega)
                · skip
                  exact absurd c48 (by omega)
            · skip
              exact absurd c33 (by omega)
      · skip
        show wJ _ _ _ _ _ _ _ _ _ _
        refine wa_ifeq (w_rg0 (by omega) (by omega)) ⟨_, rfl⟩ (fun c51 => ?_) (fun c51 => ?_)
        · skip
          refine wa_iconst ?_
          refine wa_fall ⟨_, rfl⟩ ?_
          refine wa_istore (n := 4) rfl ?_
          refine wa_aload_n (n := 0) rfl ?_
          refine wa_iload (n := 4) rfl ?_
          refine wa_ifeq (w_rg0 (by omega) (by omega)) ⟨_, rfl⟩ (fun c52 => ?_) (fun c52 => ?_)
          · skip
            refine wa_iconst ?_
            refine wa_fall ⟨_, rfl⟩ ?_
            refine wb_pfi 237 rfl (wy_pr rfl) wt_237 wf_15_0 (n := 0) rfl ⟨(by omega), (by omega)⟩ ?_
            refine wa_iload (n := 4) rfl ?_
            refine wa_ifne (w_rg0 (by omega) (by omega)) ⟨_, rfl⟩ (fun c53 => ?_) (fun c53 => ?_)
            · skip
              exact absurd c53 (by omega)
            · skip
              refine wa_lconst ?_
              refine wa_lreturn rfl ?_
              exact Or.inl ⟨fun z => by have z1 := z.1; have z2 := z.2.1; have z3 := z.2.2; have z4 := hb1 z.1.1 z.1.2; have z5 := hpl z.1.1 z.1.2; omega, rfl, rfl⟩
          · skip
            exact absurd c52 (by omega)
        · skip
          exact absurd c51 (by omega)
  · skip
    show wJ _ _ _ _ _ _ _ _ _ _
    refine wa_ifeq (w_rg0 (by omega) (by omega)) ⟨_, rfl⟩ (fun c54 => ?_) (fun c54 => ?_)
    · skip
      refine wa_iconst ?_
      refine wa_fall ⟨_, rfl⟩ ?_
      refine wa_istore (n := 4) rfl ?_
      refine wa_aload_n (n := 0) rfl ?_
      refine wa_iload (n := 4) rfl ?_
      refine wa_ifeq (w_rg0 (by omega) (by omega)) ⟨_, rfl⟩ (fun c55 => ?_) (fun c55 => ?_)
      · skip
        refine wa_iconst ?_
        refine wa_fall ⟨_, rfl⟩ ?_
        refine wb_pfi 237 rfl (wy_pr rfl) wt_237 wf_15_0 (n := 0) rfl ⟨(by omega), (by omega)⟩ ?_
        refine wa_iload (n := 4) rfl ?_
        refine wa_ifne (w_rg0 (by omega) (by omega)) ⟨_, rfl⟩ (fun c56 => ?_) (fun c56 => ?_)
        · skip
          exact absurd c56 (by omega)
        · skip
          refine wa_lconst ?_
          refine wa_lreturn rfl ?_
          exact Or.inl ⟨fun z => by have z1 := z.1; have z2 := z.2.1; have z3 := z.2.2; have z4 := hb1 z.1.1 z.1.2; have z5 := hpl z.1.1 z.1.2; omega, rfl, rfl⟩
      · skip
        exact absurd c55 (by omega)
    · skip
      exact absurd c54 (by omega)
end Wii
