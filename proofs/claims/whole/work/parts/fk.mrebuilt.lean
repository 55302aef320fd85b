/-! PART fk: rebuilt of the reference, whole. -/
section Wfk
variable {xs : List (Nat × List Int32)} {M : Nat → Prop} {d : Nat} {S S0 Z A B : wS} {H : List aH} {T : List aO} {L : List aC} {G : Int → aV} {sl : Nat → List Int} {k n nm p wo sz th r0 : Int} {l ls : List Int} {Q : wO → wS → Prop}
theorem aFs_z (hw : wHs H n) : aFs (-1) (-1) (-1) H 0 = 0 := aFs_of hw (Int.le_refl _) (by have := wHs_0 hw; omega) ⟨(wHs_z hw).1, (wHs_z hw).2.1, (wHs_z hw).2.2.1⟩
theorem aMb_r (hw : wHs H n) (hr : r0 = aFs (-1) p (-1) H 0) : aMb H p l = (if r0 = -1 then 1 else 0) + aMs H p r0 l := by
  by_cases c : p = -1
  · have e : aMb H p l = aMs H p 0 l := if_pos c
    have e0 : r0 = 0 := by rw [hr, c]; exact aFs_z hw
    rw [e, e0, if_neg (by first | decide | omega)]; omega
  · have e : aMb H p l = (if aFs (-1) p (-1) H 0 = -1 then 1 else 0) + aMs H p (aFs (-1) p (-1) H 0) l := if_neg c
    rw [e, hr]
theorem aBr_f (hw : wHs H n) (hr : r0 = aFs (-1) p (-1) H 0) (h : r0 ≠ -1) : aBr T H p = (T, H, r0) := by
  by_cases c : p = -1
  · have e : aBr T H p = (T, H, 0) := if_pos c
    have e0 : r0 = 0 := by rw [hr, c]; exact aFs_z hw
    rw [e, e0]
  · rw [hr] at h ⊢
    exact (if_neg c).trans (if_neg h)
theorem aBr_n (hw : wHs H n) (hr : r0 = aFs (-1) p (-1) H 0) (h : r0 = -1) : p ≠ -1 ∧ aBr T H p = (tEp T p 0, H ++ [(p, -1, -1, 0)], (H.length : Int)) := by
  have c : p ≠ -1 := fun z => by
    rw [z, aFs_z hw] at hr; omega
  rw [hr] at h
  exact ⟨c, (if_neg c).trans (if_pos h)⟩
/-- what rebuilt leaves where there is room -/
def rbQ (p wo k : Int) (sl : Nat → List Int) (T : List aO) (H : List aH) (L : List aC) (G : Int → aV) (S Z : wS) : Prop := rHs Z (aRb p (fS wo (pNs (tO T k)) 0) (aBr T H p).2.1 (aBr T H p).2.2).1 ∧ rWd Z sl (aBr T H p).1 L G ∧ w_ML Z ∧ Z 237 66 = S 237 66 + aMb H p (fS wo (pNs (tO T k)) 0) ∧ ∀ (j : Nat) (x : Int), ¬ rMr p j x → Z j x = S j x
set_option maxHeartbeats 4000000 in
theorem r_rb (hM : w_ML S) (h1 : rHs S H) (hW : rWd S sl T L G) (hw : wSh T H) (hk : isO T k) (hT : (T.length : Int) ≤ 8000) (h82 : S 237 82 ≤ 60000) (hp : p = -1 ∨ isO T p) (hwo : -1 ≤ wo ∧ wo ≤ 100000) (hu : 0 ≤ S 237 66 ∧ S 237 66 ≤ 4000 ∧ (H.length : Int) ≤ S 237 66 + 1) (hnb : ∀ s : Int, 0 ≤ s → s < (H.length : Int) → qNm H s ≤ 100000) : wJ (pe_GA xs) wY0 M (d + 3) t_M_rebuilt ((pe_at t_M_rebuilt.bl 0).getD (0, [])).2 [(0, (2, 237)), (1, (0, k)), (2, (0, p)), (3, (0, wo))] [] S (fun o Z => (4000 < S 237 66 + aMb H p (fS wo (pNs (tO T k)) 0) ∧ o = .inr 238 ∧ hZ 99 S = Z) ∨ (S 237 66 + aMb H p (fS wo (pNs (tO T k)) 0) ≤ 4000 ∧ o = .inl (some (0, (aRb p (fS wo (pNs (tO T k)) 0) (aBr T H p).2.1 (aBr T H p).2.2).2)) ∧ rbQ p wo k sl T H L G S Z)) := by
  have hsh := wSh_sh hw hk
  have hH := hw.1.2.1
  have hk0 := hk.1
  have hpr : -1 ≤ p ∧ p < 8000 := by rcases hp with z | z; omega; have := z.1; omega
  obtain ⟨s1, s2, s3⟩ := r_sl hW.1 hk0.1 hk0.2 h82
  have g4 := hw.2.2.2.1 k hk
  have lp : (pNs (tO T k)).length = (tO T k).2.2.2.2.2.2.length := List.length_map _
  have hn : slN S k (sl k.toNat) (pNs (tO T k)) := ⟨s1, by rw [lp]; exact s2, fun i hi => (s3 i (by rw [s2, ← lp]; exact hi)).1, by rw [lp]; exact g4.2, hk0.1, by omega⟩
  have hds := nDs_H hw.1 hw.2.1 _ _ hsh.1 hsh.2 rfl
  have hbb := nNb _ _ hw.1 hnb hsh.1 hsh.2 rfl
  rw [← g4.1] at hds hbb
  have hxx : ∀ x ∈ (pNs (tO T k)), 0 ≤ x ∧ x ≤ 100000 := fun x hx => ⟨hds.2 x hx, hbb x hx⟩
  obtain ⟨r0, hr0⟩ : ∃ r0 : Int, r0 = aFs (-1) p (-1) H 0 := ⟨_, rfl⟩
  have hrr := aFs_rg (be := -1) (pr := p) (nm := -1) (H := H)
  rw [← hr0] at hrr
  have hl64 : ((pNs (tO T k)).length : Int) ≤ 64 := by have := hn.2.2.2.1; omega
  have c17 : S 317 k = ((pNs (tO T k)).length : Int) := hn.1.1.trans (by rw [hn.2.1])
  have emb := aMb_r (l := (fS wo (pNs (tO T k)) 0)) hw.1 hr0
  have ebr := aMs_rg (H := H) (p := p) (fS wo (pNs (tO T k)) 0) r0
  have efl : ((fS wo (pNs (tO T k)) 0).length : Int) ≤ ((pNs (tO T k)).length : Int) := by have := fS_le (wo := wo) (pNs (tO T k)) 0; omega
  refine wa_iconst ?_
  refine wa_istore (n := 4) rfl ?_
  refine wa_aload_n (n := 0) rfl ?_
  refine wa_iconst ?_
  refine wa_iload_n (n := 2) rfl ?_
  refine wa_iconst ?_
  refine wa_cv 237 rfl (wy_pr rfl) wt_237 (M2 := fun _ => False) rfl at_M_findShape ⟨_, rfl⟩ rfl rfl ⟨trivial, (Or.inr ⟨wy_pr rfl, fun q => q⟩), trivial, trivial, trivial, trivial⟩ trivial (fun _ _ q => False.elim q) (wJ_mono (r_fs (be := -1) (pr := p) (nm := -1) hM h1 hw.1 (fun _ => rfl) (by decide) ⟨by omega, by omega⟩ (by decide)) (fun o Z hz => (⟨hz.1, by rw [hr0]; exact hz.2⟩ : S = Z ∧ o = .inl (some (0, r0))))) (fun oq1 Sq1 hp2 q1 => ?_)
  rcases q1 with ⟨rfl, rfl⟩
  show wJ _ _ _ _ _ _ _ _ _ _
  refine wa_istore (n := 5) rfl ?_
  refine wa_iload (n := 4) rfl ?_
  refine wa_iload (n := 5) rfl ?_
  refine wa_ifge (w_rg0 (by omega) (by omega)) ⟨_, rfl⟩ (fun c3 => ?_) (fun c3 => ?_)
  · skip
    refine wa_iconst ?_
    refine wa_fall ⟨_, rfl⟩ ?_
    refine wa_iadd ?_
    refine wa_istore (n := 4) rfl ?_
    refine wa_aload_n (n := 0) rfl ?_
    refine wb_gf4 237 rfl (wy_pr rfl) wt_237 wf_15_72 (v := 316) wl_237_72 ?_
    refine wa_iload_n (n := 1) rfl ?_
    refine wb_iald 316 rfl (wy_pr rfl) wt_316 (n := 8000) ((ml_316 hM)) (by omega) (by omega) (v := (S 316 k)) rfl (fun r4 => ?_)
    refine wa_istore (n := 6) rfl ?_
    refine wa_iconst ?_
    refine wa_istore (n := 7) rfl ?_
    refine wa_fall ⟨_, rfl⟩ ?_
    have ems : (0 + 0) + aMs H p r0 (fS wo (pNs (tO T k)) 0) = aMb H p (fS wo (pNs (tO T k)) 0) := by rw [emb]; first | (rw [if_pos (by omega)]; omega) | (rw [if_neg (by omega)]; omega)
    refine wJ_S (qm_l (S := S) (l := (pNs (tO T k))) (ls := (sl k.toNat)) (wo := wo) hM h1 hw.1 hn hpr hwo (pNs (tO T k)) 0 (S 316 k) r0 (0 + 0) (by omega) (fun j hj => by rw [Nat.zero_add]) (fun q => hn.1.2.1 (by rw [hn.2.1]; exact q)) hxx ⟨by omega, by omega⟩ ⟨by omega, by omega⟩ (fun kn2 s4 => ?_)) ⟨rfl, rfl, rfl, rfl, rfl, rfl, rfl, rfl, trivial⟩
    rw [show (0, (0 + 0) + aMs H p r0 (fS wo (pNs (tO T k)) ((0 : Nat) : Int))) = ((0, aMb H p (fS wo (pNs (tO T k)) 0)) : Nat × Int) by rw [← ems]; rfl]
    obtain ⟨mb, hmb⟩ : ∃ mb : Int, mb = aMb H p (fS wo (pNs (tO T k)) 0) := ⟨_, rfl⟩
    rw [← hmb] at emb ⊢
    refine wa_aload_n (n := 0) rfl ?_
    refine wa_aload_n (n := 0) rfl ?_
    refine wb_gfi 237 rfl (wy_pr rfl) wt_237 wf_15_66 (v := (S 237 66)) rfl (fun r5 => ?_)
    refine wa_iload (n := 4) rfl ?_
    refine wa_iadd ?_
    refine wa_sipush (by omega) ?_
    refine wa_icmpge (w_rg0 (by omega) (by omega)) (w_rg0 (by omega) (by omega)) ⟨_, rfl⟩ (fun c6 => ?_) (fun c6 => ?_)
    · skip
      refine wa_iconst ?_
      refine wa_fall ⟨_, rfl⟩ ?_
      refine wa_cv 237 rfl (wy_pr rfl) wt_237 (M2 := fun _ => False) rfl at_M_room ⟨_, rfl⟩ rfl rfl ⟨(Or.inr ⟨wy_pr rfl, fun q => q⟩), trivial, trivial, trivial, trivial, trivial, trivial, trivial, trivial⟩ trivial (fun _ _ q => False.elim q) ?_ (fun _ _ _ q => q)
      refine wa_iload_n (n := 1) rfl ?_
      refine wa_ifne (w_rg0 (by omega) (by omega)) ⟨_, rfl⟩ (fun c7 => ?_) (fun c7 => ?_)
      · skip
        exact absurd c7 (by omega)
      · skip
        refine wa_aload_n (n := 0) rfl ?_
        refine wb_gf4 237 rfl (wy_pr rfl) wt_237 wf_15_1 (v := 238) wl_237_1 ?_
        refine wa_bipush (w_rg2 (by omega) (by omega)) ?_
        refine wa_iconst ?_
        refine wa_cv 238 rfl (wy_pr rfl) wt_238 (M2 := fun _ => False) rfl at_MH_of ⟨_, rfl⟩ rfl rfl ⟨(Or.inr ⟨wy_pr rfl, fun q => q⟩), trivial, trivial⟩ trivial (fun _ _ q => False.elim q) ?_ (fun _ _ _ q => q)
        refine wa_aload_n (n := 0) rfl ?_
        refine wa_iload_n (n := 1) rfl ?_
        refine wb_pfi 238 rfl (wy_pr rfl) wt_238 wf_11_5 (n := 5) rfl ⟨(by omega), (by omega)⟩ ?_
        refine wa_aload_n (n := 0) rfl ?_
        refine wa_iload_n (n := 2) rfl ?_
        refine wb_pfi 238 rfl (wy_pr rfl) wt_238 wf_11_6 (n := 6) rfl ⟨(by omega), (by omega)⟩ ?_
        refine wa_aload_n (n := 0) rfl ?_
        refine wa_oreturn rfl ?_
        show wJ _ _ _ _ _ _ _ _ _ _
        refine wa_th (j := 238) ?_
        refine ⟨rfl, ?_⟩
        exact Or.inl ⟨by omega, rfl, rfl⟩
    · skip
      refine wa_iconst ?_
      refine wa_goto ⟨_, rfl⟩ ?_
      refine wa_cv 237 rfl (wy_pr rfl) wt_237 (M2 := fun _ => False) rfl at_M_room ⟨_, rfl⟩ rfl rfl ⟨(Or.inr ⟨wy_pr rfl, fun q => q⟩), trivial, trivial, trivial, trivial, trivial, trivial, trivial, trivial⟩ trivial (fun _ _ q => False.elim q) ?_ (fun _ _ _ q => q)
      refine wa_iload_n (n := 1) rfl ?_
      refine wa_ifne (w_rg0 (by omega) (by omega)) ⟨_, rfl⟩ (fun c8 => ?_) (fun c8 => ?_)
      · skip
        refine wa_return rfl ?_
        show wJ _ _ _ _ _ _ _ _ _ _
        refine wa_aload_n (n := 0) rfl ?_
        refine wa_iconst ?_
        refine wa_iload_n (n := 2) rfl ?_
        refine wa_iconst ?_
        refine wa_cv 237 rfl (wy_pr rfl) wt_237 (M2 := fun _ => False) rfl at_M_madeShape ⟨_, rfl⟩ rfl rfl ⟨(Or.inr ⟨wy_pr rfl, fun q => q⟩), trivial, trivial, trivial, trivial, trivial, trivial, trivial, trivial⟩ trivial (fun _ _ q => False.elim q) (r_ms (be := -1) (pr := p) (nm := -1) (r := r0) (u4 := S 237 66) hM h1 hw.1 (fun _ => rfl) ⟨by omega, by omega⟩ hpr (by decide) hr0 rfl ⟨by omega, by omega, by omega⟩) (fun oq9 Sq9 hp10 q9 => ?_)
        rcases q9 with ⟨hq0, rfl, rfl⟩ | ⟨hq0, hq1, -, -⟩ | ⟨hq0, hq1, rfl, rfl⟩
        · skip
          show wJ _ _ _ _ _ _ _ _ _ _
          refine wa_istore (n := 5) rfl ?_
          refine wa_aload_n (n := 0) rfl ?_
          refine wb_gf4 237 rfl (wy_pr rfl) wt_237 wf_15_72 (v := 316) wl_237_72 ?_
          refine wa_iload_n (n := 1) rfl ?_
          refine wb_iald 316 rfl (wy_pr rfl) wt_316 (n := 8000) ((ml_316 hM)) (by omega) (by omega) (v := (S 316 k)) rfl (fun r11 => ?_)
          refine wa_istore (n := 6) rfl ?_
          refine wa_iconst ?_
          refine wa_istore (n := 7) rfl ?_
          refine wa_fall ⟨_, rfl⟩ ?_
          have hrm : S 237 66 + mb ≤ 4000 := by omega
          rw [hmb] at hrm
          obtain ⟨b1, ⟨b2, b3⟩, b4, b5, b6, b7, b8, b9⟩ := aBr_ok hw hp (l := (fS wo (pNs (tO T k)) 0)) (by omega)
          have eb : aBr T H p = (T, H, r0) := aBr_f hw.1 hr0 (by omega)
          unfold rbQ
          rw [eb] at b1 b2 b3 b4 b5 b6 b7 b8 ⊢
          have hcv : rIv p (S 237 66 - (H.length : Int)) sl T H L G S S := ⟨h1, hW, hM, by omega, fun _ _ _ => rfl⟩
          refine wJ_S (qb_l (p := p) (wo := wo) (u4 := S 237 66 - (H.length : Int)) (ms := mb) (l := (pNs (tO T k))) (ls := (sl k.toNat)) hpr hn hwo (pNs (tO T k)) 0 (S 316 k) r0 H S (by omega) (fun j hj => by rw [Nat.zero_add]) (fun q => hn.1.2.1 (by rw [hn.2.1]; exact q)) hxx hds.1 hcv b1 ⟨b2, b3, b4⟩ (fun x _ z => by rw [show aNs H r0 = [] from b5] at z; exact absurd z List.not_mem_nil) ⟨by omega, by have b6x : (H.length : Int) + aMs H p r0 (fS wo (pNs (tO T k)) 0) = (H.length : Int) + aMb H p (fS wo (pNs (tO T k)) 0) := b6; show S 237 66 - (H.length : Int) + (H.length : Int) + aMs H p r0 (fS wo (pNs (tO T k)) 0) ≤ 4000; omega⟩ (fun Zr s7 hcr => ?_)) ⟨rfl, rfl, rfl, rfl, rfl, rfl, rfl, rfl, trivial⟩
          have hrl := aRb_ok (T := T) (fS wo (pNs (tO T k)) 0) H r0 b1 b2 b3 b4 (nDs_f _ _ hds.1) (fun x hx => ⟨(hxx x (fS_m _ _ x hx)).1, fun z => by rw [show aNs H r0 = [] from b5] at z; exact absurd z List.not_mem_nil⟩) (by have b6x : (H.length : Int) + aMs H p r0 (fS wo (pNs (tO T k)) 0) = (H.length : Int) + aMb H p (fS wo (pNs (tO T k)) 0) := b6; omega)
          obtain ⟨-, ⟨q1, q2⟩, -, -, q5, -⟩ := id hrl
          replace hcr : rIv p (S 237 66 - (H.length : Int)) sl T (aRb p (fS wo (pNs (tO T k)) 0) H r0).1 L G S Zr := hcr
          refine wa_iload (n := 5) rfl ?_
          refine wa_ireturn rfl ?_
          obtain ⟨y1, y2, y3, y4, y5⟩ := hcr
          refine Or.inr ⟨by omega, rfl, y1, y2, y3, ?_, y5⟩
          have b6x : (H.length : Int) + aMs H p r0 (fS wo (pNs (tO T k)) 0) = (H.length : Int) + aMb H p (fS wo (pNs (tO T k)) 0) := b6
          omega
        · skip
          exfalso
          rw [hq0, if_pos rfl] at emb
          omega
        · skip
          show wJ _ _ _ _ _ _ _ _ _ _
          refine wa_istore (n := 5) rfl ?_
          refine wa_aload_n (n := 0) rfl ?_
          refine wb_gf4 237 rfl (wy_pr rfl) wt_237 wf_15_72 (v := 316) wl_237_72 ?_
          refine wa_iload_n (n := 1) rfl ?_
          refine wb_iald 316 rfl (wy_pr rfl) wt_316 (n := 8000) (((msZ_e 316 (-1) (by omega) (by decide)).trans ((ml_316 hM)))) (by omega) (by omega) (v := (S 316 k)) ((msZ_e 316 k (by omega) (by decide))) (fun r12 => ?_)
          refine wa_istore (n := 6) rfl ?_
          refine wa_iconst ?_
          refine wa_istore (n := 7) rfl ?_
          refine wa_fall ⟨_, rfl⟩ ?_
          have hrm : S 237 66 + mb ≤ 4000 := by omega
          rw [hmb] at hrm
          obtain ⟨b1, ⟨b2, b3⟩, b4, b5, b6, b7, b8, b9⟩ := aBr_ok hw hp (l := (fS wo (pNs (tO T k)) 0)) (by omega)
          obtain ⟨pne, eb⟩ := aBr_n (T := T) hw.1 hr0 hq0
          unfold rbQ
          rw [eb] at b1 b2 b3 b4 b5 b6 b7 b8 ⊢
          have hp1 := hp.elim (fun z => absurd z pne) id
          obtain ⟨m1, m2, m3, m4⟩ := r_msb (u4 := S 237 66) h1 hW hp1 hw (hr0.symm.trans hq0)
          have lt : (H ++ [((p, -1, -1, 0) : aH)]).length = H.length + 1 := by rw [List.length_append]; rfl
          have hcv : rIv p (S 237 66 - (H.length : Int)) sl (tEp T p 0) (H ++ [(p, -1, -1, 0)]) L G S (msZ (-1) p (-1) (H.length : Int) (S 237 66) S) := ⟨m1, m2, ms_ml hM (by omega) (by omega), by rw [m3, lt]; omega, fun j x j2 => m4 j x (by unfold rMr at j2; omega) (by unfold rMr at j2; omega) (by unfold rMr at j2; omega)⟩
          refine wJ_S (qb_l (p := p) (wo := wo) (u4 := S 237 66 - (H.length : Int)) (ms := mb) (l := (pNs (tO T k))) (ls := (sl k.toNat)) hpr hn hwo (pNs (tO T k)) 0 (S 316 k) (H.length : Int) (H ++ [(p, -1, -1, 0)]) (msZ (-1) p (-1) (H.length : Int) (S 237 66) S) (by omega) (fun j hj => by rw [Nat.zero_add]) (fun q => hn.1.2.1 (by rw [hn.2.1]; exact q)) hxx hds.1 hcv b1 ⟨b2, b3, b4⟩ (fun x _ z => by rw [show aNs (H ++ [(p, -1, -1, 0)]) (H.length : Int) = [] from b5] at z; exact absurd z List.not_mem_nil) ⟨by omega, by have b6x : ((H ++ [(p, -1, -1, 0)]).length : Int) + aMs (H ++ [(p, -1, -1, 0)]) p (H.length : Int) (fS wo (pNs (tO T k)) 0) = (H.length : Int) + aMb H p (fS wo (pNs (tO T k)) 0) := b6; show S 237 66 - (H.length : Int) + ((H ++ [(p, -1, -1, 0)]).length : Int) + aMs (H ++ [(p, -1, -1, 0)]) p (H.length : Int) (fS wo (pNs (tO T k)) 0) ≤ 4000; omega⟩ (fun Zr s7 hcr => ?_)) ⟨rfl, rfl, rfl, rfl, rfl, rfl, rfl, rfl, trivial⟩
          have hrl := aRb_ok (T := (tEp T p 0)) (fS wo (pNs (tO T k)) 0) (H ++ [(p, -1, -1, 0)]) (H.length : Int) b1 b2 b3 b4 (nDs_f _ _ hds.1) (fun x hx => ⟨(hxx x (fS_m _ _ x hx)).1, fun z => by rw [show aNs (H ++ [(p, -1, -1, 0)]) (H.length : Int) = [] from b5] at z; exact absurd z List.not_mem_nil⟩) (by have b6x : ((H ++ [(p, -1, -1, 0)]).length : Int) + aMs (H ++ [(p, -1, -1, 0)]) p (H.length : Int) (fS wo (pNs (tO T k)) 0) = (H.length : Int) + aMb H p (fS wo (pNs (tO T k)) 0) := b6; omega)
          obtain ⟨-, ⟨q1, q2⟩, -, -, q5, -⟩ := id hrl
          replace hcr : rIv p (S 237 66 - (H.length : Int)) sl (tEp T p 0) (aRb p (fS wo (pNs (tO T k)) 0) (H ++ [(p, -1, -1, 0)]) (H.length : Int)).1 L G S Zr := hcr
          refine wa_iload (n := 5) rfl ?_
          refine wa_ireturn rfl ?_
          obtain ⟨y1, y2, y3, y4, y5⟩ := hcr
          refine Or.inr ⟨by omega, rfl, y1, y2, y3, ?_, y5⟩
          have b6x : ((H ++ [(p, -1, -1, 0)]).length : Int) + aMs (H ++ [(p, -1, -1, 0)]) p (H.length : Int) (fS wo (pNs (tO T k)) 0) = (H.length : Int) + aMb H p (fS wo (pNs (tO T k)) 0) := b6
          omega
      · skip
        exact absurd c8 (by omega)
  · skip
    refine wa_iconst ?_
    refine wa_goto ⟨_, rfl⟩ ?_
    refine wa_iadd ?_
    refine wa_istore (n := 4) rfl ?_
    refine wa_aload_n (n := 0) rfl ?_
    refine wb_gf4 237 rfl (wy_pr rfl) wt_237 wf_15_72 (v := 316) wl_237_72 ?_
    refine wa_iload_n (n := 1) rfl ?_
    refine wb_iald 316 rfl (wy_pr rfl) wt_316 (n := 8000) ((ml_316 hM)) (by omega) (by omega) (v := (S 316 k)) rfl (fun r13 => ?_)
    refine wa_istore (n := 6) rfl ?_
    refine wa_iconst ?_
    refine wa_istore (n := 7) rfl ?_
    refine wa_fall ⟨_, rfl⟩ ?_
    have ems : (0 + 1) + aMs H p r0 (fS wo (pNs (tO T k)) 0) = aMb H p (fS wo (pNs (tO T k)) 0) := by rw [emb]; first | (rw [if_pos (by omega)]; omega) | (rw [if_neg (by omega)]; omega)
    refine wJ_S (qm_l (S := S) (l := (pNs (tO T k))) (ls := (sl k.toNat)) (wo := wo) hM h1 hw.1 hn hpr hwo (pNs (tO T k)) 0 (S 316 k) r0 (0 + 1) (by omega) (fun j hj => by rw [Nat.zero_add]) (fun q => hn.1.2.1 (by rw [hn.2.1]; exact q)) hxx ⟨by omega, by omega⟩ ⟨by omega, by omega⟩ (fun kn2 s4 => ?_)) ⟨rfl, rfl, rfl, rfl, rfl, rfl, rfl, rfl, trivial⟩
    rw [show (0, (0 + 1) + aMs H p r0 (fS wo (pNs (tO T k)) ((0 : Nat) : Int))) = ((0, aMb H p (fS wo (pNs (tO T k)) 0)) : Nat × Int) by rw [← ems]; rfl]
    obtain ⟨mb, hmb⟩ : ∃ mb : Int, mb = aMb H p (fS wo (pNs (tO T k)) 0) := ⟨_, rfl⟩
    rw [← hmb] at emb ⊢
    refine wa_aload_n (n := 0) rfl ?_
    refine wa_aload_n (n := 0) rfl ?_
    refine wb_gfi 237 rfl (wy_pr rfl) wt_237 wf_15_66 (v := (S 237 66)) rfl (fun r14 => ?_)
    refine wa_iload (n := 4) rfl ?_
    refine wa_iadd ?_
    refine wa_sipush (by omega) ?_
    refine wa_icmpge (w_rg0 (by omega) (by omega)) (w_rg0 (by omega) (by omega)) ⟨_, rfl⟩ (fun c15 => ?_) (fun c15 => ?_)
    · skip
      refine wa_iconst ?_
      refine wa_fall ⟨_, rfl⟩ ?_
      refine wa_cv 237 rfl (wy_pr rfl) wt_237 (M2 := fun _ => False) rfl at_M_room ⟨_, rfl⟩ rfl rfl ⟨(Or.inr ⟨wy_pr rfl, fun q => q⟩), trivial, trivial, trivial, trivial, trivial, trivial, trivial, trivial⟩ trivial (fun _ _ q => False.elim q) ?_ (fun _ _ _ q => q)
      refine wa_iload_n (n := 1) rfl ?_
      refine wa_ifne (w_rg0 (by omega) (by omega)) ⟨_, rfl⟩ (fun c16 => ?_) (fun c16 => ?_)
      · skip
        exact absurd c16 (by omega)
      · skip
        refine wa_aload_n (n := 0) rfl ?_
        refine wb_gf4 237 rfl (wy_pr rfl) wt_237 wf_15_1 (v := 238) wl_237_1 ?_
        refine wa_bipush (w_rg2 (by omega) (by omega)) ?_
        refine wa_iconst ?_
        refine wa_cv 238 rfl (wy_pr rfl) wt_238 (M2 := fun _ => False) rfl at_MH_of ⟨_, rfl⟩ rfl rfl ⟨(Or.inr ⟨wy_pr rfl, fun q => q⟩), trivial, trivial⟩ trivial (fun _ _ q => False.elim q) ?_ (fun _ _ _ q => q)
        refine wa_aload_n (n := 0) rfl ?_
        refine wa_iload_n (n := 1) rfl ?_
        refine wb_pfi 238 rfl (wy_pr rfl) wt_238 wf_11_5 (n := 5) rfl ⟨(by omega), (by omega)⟩ ?_
        refine wa_aload_n (n := 0) rfl ?_
        refine wa_iload_n (n := 2) rfl ?_
        refine wb_pfi 238 rfl (wy_pr rfl) wt_238 wf_11_6 (n := 6) rfl ⟨(by omega), (by omega)⟩ ?_
        refine wa_aload_n (n := 0) rfl ?_
        refine wa_oreturn rfl ?_
        show wJ _ _ _ _ _ _ _ _ _ _
        refine wa_th (j := 238) ?_
        refine ⟨rfl, ?_⟩
        exact Or.inl ⟨by omega, rfl, rfl⟩
    · skip
      refine wa_iconst ?_
      refine wa_goto ⟨_, rfl⟩ ?_
      refine wa_cv 237 rfl (wy_pr rfl) wt_237 (M2 := fun _ => False) rfl at_M_room ⟨_, rfl⟩ rfl rfl ⟨(Or.inr ⟨wy_pr rfl, fun q => q⟩), trivial, trivial, trivial, trivial, trivial, trivial, trivial, trivial⟩ trivial (fun _ _ q => False.elim q) ?_ (fun _ _ _ q => q)
      refine wa_iload_n (n := 1) rfl ?_
      refine wa_ifne (w_rg0 (by omega) (by omega)) ⟨_, rfl⟩ (fun c17 => ?_) (fun c17 => ?_)
      · skip
        refine wa_return rfl ?_
        show wJ _ _ _ _ _ _ _ _ _ _
        refine wa_aload_n (n := 0) rfl ?_
        refine wa_iconst ?_
        refine wa_iload_n (n := 2) rfl ?_
        refine wa_iconst ?_
        refine wa_cv 237 rfl (wy_pr rfl) wt_237 (M2 := fun _ => False) rfl at_M_madeShape ⟨_, rfl⟩ rfl rfl ⟨(Or.inr ⟨wy_pr rfl, fun q => q⟩), trivial, trivial, trivial, trivial, trivial, trivial, trivial, trivial⟩ trivial (fun _ _ q => False.elim q) (r_ms (be := -1) (pr := p) (nm := -1) (r := r0) (u4 := S 237 66) hM h1 hw.1 (fun _ => rfl) ⟨by omega, by omega⟩ hpr (by decide) hr0 rfl ⟨by omega, by omega, by omega⟩) (fun oq18 Sq18 hp19 q18 => ?_)
        rcases q18 with ⟨hq0, rfl, rfl⟩ | ⟨hq0, hq1, -, -⟩ | ⟨hq0, hq1, rfl, rfl⟩
        · skip
          show wJ _ _ _ _ _ _ _ _ _ _
          refine wa_istore (n := 5) rfl ?_
          refine wa_aload_n (n := 0) rfl ?_
          refine wb_gf4 237 rfl (wy_pr rfl) wt_237 wf_15_72 (v := 316) wl_237_72 ?_
          refine wa_iload_n (n := 1) rfl ?_
          refine wb_iald 316 rfl (wy_pr rfl) wt_316 (n := 8000) ((ml_316 hM)) (by omega) (by omega) (v := (S 316 k)) rfl (fun r20 => ?_)
          refine wa_istore (n := 6) rfl ?_
          refine wa_iconst ?_
          refine wa_istore (n := 7) rfl ?_
          refine wa_fall ⟨_, rfl⟩ ?_
          have hrm : S 237 66 + mb ≤ 4000 := by omega
          rw [hmb] at hrm
          obtain ⟨b1, ⟨b2, b3⟩, b4, b5, b6, b7, b8, b9⟩ := aBr_ok hw hp (l := (fS wo (pNs (tO T k)) 0)) (by omega)
          have eb : aBr T H p = (T, H, r0) := aBr_f hw.1 hr0 (by omega)
          unfold rbQ
          rw [eb] at b1 b2 b3 b4 b5 b6 b7 b8 ⊢
          have hcv : rIv p (S 237 66 - (H.length : Int)) sl T H L G S S := ⟨h1, hW, hM, by omega, fun _ _ _ => rfl⟩
          refine wJ_S (qb_l (p := p) (wo := wo) (u4 := S 237 66 - (H.length : Int)) (ms := mb) (l := (pNs (tO T k))) (ls := (sl k.toNat)) hpr hn hwo (pNs (tO T k)) 0 (S 316 k) r0 H S (by omega) (fun j hj => by rw [Nat.zero_add]) (fun q => hn.1.2.1 (by rw [hn.2.1]; exact q)) hxx hds.1 hcv b1 ⟨b2, b3, b4⟩ (fun x _ z => by rw [show aNs H r0 = [] from b5] at z; exact absurd z List.not_mem_nil) ⟨by omega, by have b6x : (H.length : Int) + aMs H p r0 (fS wo (pNs (tO T k)) 0) = (H.length : Int) + aMb H p (fS wo (pNs (tO T k)) 0) := b6; show S 237 66 - (H.length : Int) + (H.length : Int) + aMs H p r0 (fS wo (pNs (tO T k)) 0) ≤ 4000; omega⟩ (fun Zr s7 hcr => ?_)) ⟨rfl, rfl, rfl, rfl, rfl, rfl, rfl, rfl, trivial⟩
          have hrl := aRb_ok (T := T) (fS wo (pNs (tO T k)) 0) H r0 b1 b2 b3 b4 (nDs_f _ _ hds.1) (fun x hx => ⟨(hxx x (fS_m _ _ x hx)).1, fun z => by rw [show aNs H r0 = [] from b5] at z; exact absurd z List.not_mem_nil⟩) (by have b6x : (H.length : Int) + aMs H p r0 (fS wo (pNs (tO T k)) 0) = (H.length : Int) + aMb H p (fS wo (pNs (tO T k)) 0) := b6; omega)
          obtain ⟨-, ⟨q1, q2⟩, -, -, q5, -⟩ := id hrl
          replace hcr : rIv p (S 237 66 - (H.length : Int)) sl T (aRb p (fS wo (pNs (tO T k)) 0) H r0).1 L G S Zr := hcr
          refine wa_iload (n := 5) rfl ?_
          refine wa_ireturn rfl ?_
          obtain ⟨y1, y2, y3, y4, y5⟩ := hcr
          refine Or.inr ⟨by omega, rfl, y1, y2, y3, ?_, y5⟩
          have b6x : (H.length : Int) + aMs H p r0 (fS wo (pNs (tO T k)) 0) = (H.length : Int) + aMb H p (fS wo (pNs (tO T k)) 0) := b6
          omega
        · skip
          exfalso
          rw [hq0, if_pos rfl] at emb
          omega
        · skip
          show wJ _ _ _ _ _ _ _ _ _ _
          refine wa_istore (n := 5) rfl ?_
          refine wa_aload_n (n := 0) rfl ?_
          refine wb_gf4 237 rfl (wy_pr rfl) wt_237 wf_15_72 (v := 316) wl_237_72 ?_
          refine wa_iload_n (n := 1) rfl ?_
          refine wb_iald 316 rfl (wy_pr rfl) wt_316 (n := 8000) (((msZ_e 316 (-1) (by omega) (by decide)).trans ((ml_316 hM)))) (by omega) (by omega) (v := (S 316 k)) ((msZ_e 316 k (by omega) (by decide))) (fun r21 => ?_)
          refine wa_istore (n := 6) rfl ?_
          refine wa_iconst ?_
          refine wa_istore (n := 7) rfl ?_
          refine wa_fall ⟨_, rfl⟩ ?_
          have hrm : S 237 66 + mb ≤ 4000 := by omega
          rw [hmb] at hrm
          obtain ⟨b1, ⟨b2, b3⟩, b4, b5, b6, b7, b8, b9⟩ := aBr_ok hw hp (l := (fS wo (pNs (tO T k)) 0)) (by omega)
          obtain ⟨pne, eb⟩ := aBr_n (T := T) hw.1 hr0 hq0
          unfold rbQ
          rw [eb] at b1 b2 b3 b4 b5 b6 b7 b8 ⊢
          have hp1 := hp.elim (fun z => absurd z pne) id
          obtain ⟨m1, m2, m3, m4⟩ := r_msb (u4 := S 237 66) h1 hW hp1 hw (hr0.symm.trans hq0)
          have lt : (H ++ [((p, -1, -1, 0) : aH)]).length = H.length + 1 := by rw [List.length_append]; rfl
          have hcv : rIv p (S 237 66 - (H.length : Int)) sl (tEp T p 0) (H ++ [(p, -1, -1, 0)]) L G S (msZ (-1) p (-1) (H.length : Int) (S 237 66) S) := ⟨m1, m2, ms_ml hM (by omega) (by omega), by rw [m3, lt]; omega, fun j x j2 => m4 j x (by unfold rMr at j2; omega) (by unfold rMr at j2; omega) (by unfold rMr at j2; omega)⟩
          refine wJ_S (qb_l (p := p) (wo := wo) (u4 := S 237 66 - (H.length : Int)) (ms := mb) (l := (pNs (tO T k))) (ls := (sl k.toNat)) hpr hn hwo (pNs (tO T k)) 0 (S 316 k) (H.length : Int) (H ++ [(p, -1, -1, 0)]) (msZ (-1) p (-1) (H.length : Int) (S 237 66) S) (by omega) (fun j hj => by rw [Nat.zero_add]) (fun q => hn.1.2.1 (by rw [hn.2.1]; exact q)) hxx hds.1 hcv b1 ⟨b2, b3, b4⟩ (fun x _ z => by rw [show aNs (H ++ [(p, -1, -1, 0)]) (H.length : Int) = [] from b5] at z; exact absurd z List.not_mem_nil) ⟨by omega, by have b6x : ((H ++ [(p, -1, -1, 0)]).length : Int) + aMs (H ++ [(p, -1, -1, 0)]) p (H.length : Int) (fS wo (pNs (tO T k)) 0) = (H.length : Int) + aMb H p (fS wo (pNs (tO T k)) 0) := b6; show S 237 66 - (H.length : Int) + ((H ++ [(p, -1, -1, 0)]).length : Int) + aMs (H ++ [(p, -1, -1, 0)]) p (H.length : Int) (fS wo (pNs (tO T k)) 0) ≤ 4000; omega⟩ (fun Zr s7 hcr => ?_)) ⟨rfl, rfl, rfl, rfl, rfl, rfl, rfl, rfl, trivial⟩
          have hrl := aRb_ok (T := (tEp T p 0)) (fS wo (pNs (tO T k)) 0) (H ++ [(p, -1, -1, 0)]) (H.length : Int) b1 b2 b3 b4 (nDs_f _ _ hds.1) (fun x hx => ⟨(hxx x (fS_m _ _ x hx)).1, fun z => by rw [show aNs (H ++ [(p, -1, -1, 0)]) (H.length : Int) = [] from b5] at z; exact absurd z List.not_mem_nil⟩) (by have b6x : ((H ++ [(p, -1, -1, 0)]).length : Int) + aMs (H ++ [(p, -1, -1, 0)]) p (H.length : Int) (fS wo (pNs (tO T k)) 0) = (H.length : Int) + aMb H p (fS wo (pNs (tO T k)) 0) := b6; omega)
          obtain ⟨-, ⟨q1, q2⟩, -, -, q5, -⟩ := id hrl
          replace hcr : rIv p (S 237 66 - (H.length : Int)) sl (tEp T p 0) (aRb p (fS wo (pNs (tO T k)) 0) (H ++ [(p, -1, -1, 0)]) (H.length : Int)).1 L G S Zr := hcr
          refine wa_iload (n := 5) rfl ?_
          refine wa_ireturn rfl ?_
          obtain ⟨y1, y2, y3, y4, y5⟩ := hcr
          refine Or.inr ⟨by omega, rfl, y1, y2, y3, ?_, y5⟩
          have b6x : ((H ++ [(p, -1, -1, 0)]).length : Int) + aMs (H ++ [(p, -1, -1, 0)]) p (H.length : Int) (fS wo (pNs (tO T k)) 0) = (H.length : Int) + aMb H p (fS wo (pNs (tO T k)) 0) := b6
          omega
      · skip
        exact absurd c17 (by omega)
end Wfk
