/-! PART fs: dropSlot and drops of the reference; its world. -/
section Wfs
variable {xs : List (Nat × List Int32)} {M : Nat → Prop} {d : Nat} {S Z A B : wS} {H : List aH} {T T2 : List aO} {L : List aC} {G : Int → aV} {sl : Nat → List Int} {k n nm m sh p e ch q ix th : Int} {l : List Int} {N : List (List Int)} {x : List Int}
theorem slC_dr {ix : Nat} (hs : slC S th l) (hi : ix < l.length) (h17 : Z 317 th = (l.length : Int) - 1) (h16 : Z 316 th = if ix = 0 then S 328 (l.getD 0 0) else S 316 th) (h28 : ∀ i : Nat, i < l.length → i + 1 ≠ ix → Z 328 (l.getD i 0) = S 328 (l.getD i 0)) (h29 : 0 < ix → Z 328 (l.getD (ix - 1) 0) = S 328 (l.getD ix 0)) : slC Z th (lDr ix l) := by
  obtain ⟨s1, s2, s3⟩ := hs
  have hlen := lDr_len ix l hi
  refine ⟨by rw [h17]; omega, fun q => ?_, fun i hi2 => ?_⟩
  · rw [h16]
    by_cases c : ix = 0
    · rw [if_pos c, c, lDr_hi 0 l 0 (Nat.le_refl _)]
      exact (s3 0 (by omega)).2 (by omega)
    · rw [if_neg c, lDr_lo ix l 0 (by omega)]
      exact s2 (by omega)
  · by_cases c : i < ix
    · rw [lDr_lo ix l i c]
      refine ⟨(s3 i (by omega)).1, fun q => ?_⟩
      by_cases c2 : i + 1 = ix
      · subst c2
        have e := h29 (by omega)
        rw [Nat.add_sub_cancel] at e
        rw [lDr_hi (i + 1) l (i + 1) (Nat.le_refl _), e]
        exact (s3 (i + 1) (by omega)).2 (by omega)
      · rw [lDr_lo ix l (i + 1) (by omega), h28 i (by omega) c2]
        exact (s3 i (by omega)).2 (by omega)
    · rw [lDr_hi ix l i (by omega)]
      refine ⟨(s3 (i + 1) (by omega)).1, fun q => ?_⟩
      rw [lDr_hi ix l (i + 1) (by omega), h28 (i + 1) (by omega) (by omega)]
      exact (s3 (i + 1) (by omega)).2 (by omega)
/-- what dropSlot leaves -/
def ds_ag (th ix : Int) (l : List Int) (S Z : wS) : Prop := slC Z th (lDr ix.toNat l) ∧ (0 < (lDr ix.toNat l).length → Z 318 th = (lDr ix.toNat l).getD ((lDr ix.toNat l).length - 1) 0) ∧ (∀ (j : Nat) (x : Int), ((j ≠ 316 ∧ j ≠ 317 ∧ j ≠ 318) ∨ x ≠ th) → (j ≠ 328 ∨ x < 0 ∨ ∀ i : Nat, i < l.length → x ≠ l.getD i 0) → Z j x = S j x) ∧ w_ML Z
/-- the slots of things where one goes -/
def slD (sl : Nat → List Int) (k ix : Int) : Nat → List Int := fun q => if q = k.toNat then lDr ix.toNat (sl q) else sl q
theorem slD_e : slD sl k ix k.toNat = lDr ix.toNat (sl k.toNat) := if_pos rfl
theorem slD_n {q : Nat} (h : q ≠ k.toNat) : slD sl k ix q = sl q := if_neg h
theorem slD_g {q x : Nat} : (slD sl k ix q).getD x 0 = (sl q).getD (if q = k.toNat ∧ ¬ x < ix.toNat then x + 1 else x) 0 := by
  by_cases c : q = k.toNat
  · subst c
    rw [slD_e]
    by_cases c2 : x < ix.toNat
    · rw [lDr_lo _ _ _ c2, if_neg (fun z => z.2 c2)]
    · rw [lDr_hi _ _ _ (by omega), if_pos ⟨rfl, c2⟩]
  · rw [slD_n c, if_neg (fun z => c z.1)]
theorem slD_l {q x : Nat} (hi : ix.toNat < (sl k.toNat).length) (h : x < (slD sl k ix q).length) : (if q = k.toNat ∧ ¬ x < ix.toNat then x + 1 else x) < (sl q).length := by
  by_cases c : q = k.toNat
  · subst c
    rw [slD_e] at h
    have := lDr_len ix.toNat (sl k.toNat) hi
    split <;> omega
  · rw [slD_n c] at h
    rw [if_neg (fun z => c z.1)]
    exact h
theorem rWd_dr (h : rWd S sl T L G) (k0 : 0 ≤ k) (k1 : k < (T.length : Int)) (hix : 0 ≤ ix ∧ ix < ((sl k.toNat).length : Int)) (r : ds_ag k ix (sl k.toNat) S Z) : rWd Z (slD sl k ix) (tDp T k ix) L G := by
  obtain ⟨g1, g2, g3, g4, g5⟩ := h
  obtain ⟨⟨r1, r2, r3⟩, r4, fr, -⟩ := r
  have ek : ((k.toNat : Nat) : Int) = k := by omega
  have hi0 : ix.toNat < (sl k.toNat).length := by omega
  have hll := lDr_len ix.toNat (sl k.toNat) hi0
  have es : ∀ (j : Nat) (x : Int), j ≠ 316 → j ≠ 317 → j ≠ 318 → j ≠ 328 → Z j x = S j x := fun j x j0 j1 j2 j3 => fr j x (Or.inl ⟨j0, j1, j2⟩) (Or.inl j3)
  have e : rTx S Z := rTx_of (es 237 19 (by first | decide | omega) (by first | decide | omega) (by first | decide | omega) (by first | decide | omega)) (es 237 102 (by first | decide | omega) (by first | decide | omega) (by first | decide | omega) (by first | decide | omega)) (fun j x j0 j1 => es j x (by omega) (by omega) (by omega) (by omega))
  have w82 := es 237 82 (by first | decide | omega) (by first | decide | omega) (by first | decide | omega) (by first | decide | omega)
  refine ⟨⟨by rw [tDp_l, es 237 68 (by first | decide | omega) (by first | decide | omega) (by first | decide | omega) (by first | decide | omega)]; exact g1.1, fun i hi => ?_⟩, rCa_mo g2 e (es 237 69 (by first | decide | omega) (by first | decide | omega) (by first | decide | omega) (by first | decide | omega)) (es 237 94 (by first | decide | omega) (by first | decide | omega) (by first | decide | omega) (by first | decide | omega)) (fun j x j0 j1 => es j x (by omega) (by omega) (by omega) (by omega)), fun i q hi hq => ?_, ?_, rGl_mo g5 e (fun j x j0 j1 => es j x (by omega) (by omega) (by omega) (by omega))⟩
  · rw [tDp_l] at hi
    obtain ⟨⟨a1, a2, a3, a4, a5, a6, a7, a8⟩, ⟨b1, b2⟩, c, dd, g⟩ := g1.2 i hi
    have f := tDp_f (ix := ix) k0 k1 (x := (i : Int)) (by omega)
    rw [tO_N, tO_N] at f
    obtain ⟨f1, f2, f3, f4, f5, f6, f7⟩ := f
    rw [f1, f2, f3, f4, f5, f6, f7, es 314 _ (by first | decide | omega) (by first | decide | omega) (by first | decide | omega) (by first | decide | omega), es 315 _ (by first | decide | omega) (by first | decide | omega) (by first | decide | omega) (by first | decide | omega), es 319 _ (by first | decide | omega) (by first | decide | omega) (by first | decide | omega) (by first | decide | omega), es 320 _ (by first | decide | omega) (by first | decide | omega) (by first | decide | omega) (by first | decide | omega), es 321 _ (by first | decide | omega) (by first | decide | omega) (by first | decide | omega) (by first | decide | omega), es 322 _ (by first | decide | omega) (by first | decide | omega) (by first | decide | omega) (by first | decide | omega), es 323 _ (by first | decide | omega) (by first | decide | omega) (by first | decide | omega) (by first | decide | omega), es 324 _ (by first | decide | omega) (by first | decide | omega) (by first | decide | omega) (by first | decide | omega)]
    have gg : ∀ q x y : Nat, q < (tDp T k ix).length → x < (slD sl k ix i).length → y < (slD sl k ix q).length → (slD sl k ix i).getD x 0 = (slD sl k ix q).getD y 0 → i = q ∧ x = y := fun q x y hq hx hy ee => by
      rw [tDp_l] at hq
      rw [slD_g, slD_g] at ee
      obtain ⟨z1, z2⟩ := g q _ _ hq (slD_l hi0 hx) (slD_l hi0 hy) ee
      subst z1
      refine ⟨rfl, ?_⟩
      split at z2 <;> split at z2 <;> omega
    have cells : ∀ j : Nat, j < (sl i).length → (0 ≤ (sl i).getD j 0 ∧ (sl i).getD j 0 < Z 237 82) ∧ Z 327 ((sl i).getD j 0) = ((T.getD i (0, 0, 0, 0, 0, 0, [])).2.2.2.2.2.2.getD j (0, (0, 0, []))).1 ∧ rVl Z (Z 325 ((sl i).getD j 0)) (Z 326 ((sl i).getD j 0)) ((T.getD i (0, 0, 0, 0, 0, 0, [])).2.2.2.2.2.2.getD j (0, (0, 0, []))).2 := fun j hj => by
      obtain ⟨d1, d2, d3, d4⟩ := dd j hj
      rw [w82, es 325 _ (by first | decide | omega) (by first | decide | omega) (by first | decide | omega) (by first | decide | omega), es 326 _ (by first | decide | omega) (by first | decide | omega) (by first | decide | omega) (by first | decide | omega), es 327 _ (by first | decide | omega) (by first | decide | omega) (by first | decide | omega) (by first | decide | omega)]
      exact ⟨d1, d2, rVl_mo d3 e⟩
    refine ⟨⟨a1, a2, a3, a4, a5, a6, a7, a8⟩, ?_⟩
    by_cases ci : (i : Int) = k
    · have ei : i = k.toNat := by omega
      have eT : T.getD i (0, 0, 0, 0, 0, 0, []) = tO T k := by rw [← ci, tO_N]
      rw [eT] at b1 b2 cells
      rw [if_pos ci]
      subst ei
      rw [slD_e] at gg ⊢
      rw [ek]
      have hl2 := lDr_len ix.toNat (tO T k).2.2.2.2.2.2 (by omega)
      refine ⟨⟨by rw [r1]; omega, by omega⟩, fun z => ⟨r2 z, r4 z⟩, fun j hj => ?_, gg⟩
      refine ⟨?_, ?_, ?_, (r3 j hj).2⟩
      · by_cases cj : j < ix.toNat
        · rw [lDr_lo _ _ _ cj]; exact (cells j (by omega)).1
        · rw [lDr_hi _ _ _ (by omega)]; exact (cells (j + 1) (by omega)).1
      · by_cases cj : j < ix.toNat
        · rw [lDr_lo _ _ _ cj, lDr_lo _ _ _ cj]; exact (cells j (by omega)).2.1
        · rw [lDr_hi _ _ _ (by omega), lDr_hi _ _ _ (by omega)]; exact (cells (j + 1) (by omega)).2.1
      · by_cases cj : j < ix.toNat
        · rw [lDr_lo _ _ _ cj, lDr_lo _ _ _ cj]; exact (cells j (by omega)).2.2
        · rw [lDr_hi _ _ _ (by omega), lDr_hi _ _ _ (by omega)]; exact (cells (j + 1) (by omega)).2.2
    · have ni : i ≠ k.toNat := by omega
      rw [if_neg ci]
      rw [slD_n ni] at gg ⊢
      rw [fr 317 _ (Or.inr ci) (Or.inl (by first | decide | omega)), fr 316 _ (Or.inr ci) (Or.inl (by first | decide | omega)), fr 318 _ (Or.inr ci) (Or.inl (by first | decide | omega))]
      refine ⟨⟨b1, b2⟩, c, fun j hj => ?_, gg⟩
      obtain ⟨y1, y2, y3⟩ := cells j hj
      refine ⟨y1, y2, y3, fun z => ?_⟩
      rw [fr 328 _ (Or.inl (by first | decide | omega)) (Or.inr (Or.inr (fun q hq ee => ni (g k.toNat j q (by omega) hj hq ee).1)))]
      exact (dd j hj).2.2.2 z
  · rw [es 334 _ (by first | decide | omega) (by first | decide | omega) (by first | decide | omega) (by first | decide | omega), es 334 _ (by first | decide | omega) (by first | decide | omega) (by first | decide | omega) (by first | decide | omega)]; exact g3 i q hi hq
  · rw [es 237 94 (by first | decide | omega) (by first | decide | omega) (by first | decide | omega) (by first | decide | omega)]; exact g4
set_option maxHeartbeats 4000000 in
theorem r_dp (hM : w_ML S) (ht : rTh S sl T) (hk : 0 ≤ k ∧ k < (T.length : Int)) (hT : (T.length : Int) ≤ 8000) (h82 : S 237 82 ≤ 60000) (h64 : (sl k.toNat).length ≤ 60000) (hix : 0 ≤ ix ∧ ix < ((sl k.toNat).length : Int)) : wJ (pe_GA xs) wY0 M (d + 1) t_M_dropSlot ((pe_at t_M_dropSlot.bl 0).getD (0, [])).2 [(0, (2, 237)), (1, (0, k)), (2, (0, ix))] [] S (fun o Z => o = .inl none ∧ ds_ag k ix (sl k.toNat) S Z) := by
  obtain ⟨hs, -, -⟩ := r_sl ht hk.1 hk.2 h82
  obtain ⟨-, -, hla, -, hdi⟩ := ht.2 k.toNat (by omega)
  rw [show ((k.toNat : Nat) : Int) = k by omega] at hla
  have hdd : ∀ i j : Nat, i < (sl k.toNat).length → j < (sl k.toNat).length → (sl k.toNat).getD i 0 = (sl k.toNat).getD j 0 → i = j := fun i j hi hj ee => (hdi k.toNat i j (by omega) hi hj ee).2
  have s1 := hs.1
  have s3 := hs.2.2
  have hi0 : ix.toNat < (sl k.toNat).length := by omega
  have hll := lDr_len ix.toNat (sl k.toNat) hi0
  have ri := (s3 ix.toNat hi0).1
  refine wa_aload_n (n := 0) rfl ?_
  refine wa_iload_n (n := 1) rfl ?_
  refine wa_iload_n (n := 2) rfl ?_
  refine wa_cv 237 rfl (wy_pr rfl) wt_237 (M2 := fun _ => False) rfl at_M_slotAt ⟨_, rfl⟩ rfl rfl ⟨(Or.inr ⟨wy_pr rfl, fun q => q⟩), trivial, trivial, trivial⟩ trivial (fun _ _ q => False.elim q) (saM_ok (l := (sl k.toNat)) hM ⟨by omega, by omega⟩ hs ⟨by omega, by omega⟩ h64) (fun oq1 Sq1 hp2 q1 => ?_)
  rcases q1 with ⟨rfl, rfl⟩
  show wJ _ _ _ _ _ _ _ _ _ _
  refine wa_istore_n (n := 3) rfl ?_
  refine wa_iload_n (n := 2) rfl ?_
  refine wa_ifne (w_rg0 (by omega) (by omega)) ⟨_, rfl⟩ (fun c3 => ?_) (fun c3 => ?_)
  · skip
    refine wa_aload_n (n := 0) rfl ?_
    refine wb_gf4 237 rfl (wy_pr rfl) wt_237 wf_15_86 (v := 328) wl_237_86 ?_
    refine wa_aload_n (n := 0) rfl ?_
    refine wa_iload_n (n := 1) rfl ?_
    refine wa_iload_n (n := 2) rfl ?_
    refine wa_iconst ?_
    refine wa_isub ?_
    refine wa_cv 237 rfl (wy_pr rfl) wt_237 (M2 := fun _ => False) rfl at_M_slotAt ⟨_, rfl⟩ rfl rfl ⟨trivial, (Or.inr ⟨wy_pr rfl, fun q => q⟩), trivial, trivial, trivial⟩ ⟨(Or.inr ⟨wy_pr rfl, fun q => q⟩), trivial⟩ (fun _ _ q => False.elim q) (saM_ok (l := (sl k.toNat)) hM ⟨by omega, by omega⟩ hs ⟨by omega, by omega⟩ h64) (fun oq4 Sq4 hp5 q4 => ?_)
    rcases q4 with ⟨rfl, rfl⟩
    show wJ _ _ _ _ _ _ _ _ _ _
    have rj := (s3 (ix - 1).toNat (by omega)).1
    refine wa_aload_n (n := 0) rfl ?_
    refine wb_gf4 237 rfl (wy_pr rfl) wt_237 wf_15_86 (v := 328) wl_237_86 ?_
    refine wa_iload_n (n := 3) rfl ?_
    refine wb_iald 328 rfl (wy_pr rfl) wt_328 (n := 60000) ((ml_328 hM)) (by omega) (by omega) (v := (S 328 ((sl k.toNat).getD ix.toNat 0))) rfl (fun r6 => ?_)
    refine wb_iast 328 rfl (wy_pr rfl) wt_328 (n := 60000) ((ml_328 hM)) (by omega) (by omega) ⟨(by omega), (by omega)⟩ ?_
    refine wa_fall ⟨_, rfl⟩ ?_
    refine wa_aload_n (n := 0) rfl ?_
    refine wb_gf4 237 rfl (wy_pr rfl) wt_237 wf_15_73 (v := 317) wl_237_73 ?_
    refine wa_iload_n (n := 1) rfl ?_
    refine wa_dup2 (by decide) (by decide) ?_
    refine wb_iald 317 rfl (wy_pr rfl) wt_317 (n := 8000) ((w_up_slot (by decide)).trans ((ml_317 hM))) (by omega) (by omega) (v := ((sl k.toNat).length : Int)) ((w_up_slot (by decide)).trans (s1)) (fun r7 => ?_)
    refine wa_iconst ?_
    refine wa_isub ?_
    refine wb_iast 317 rfl (wy_pr rfl) wt_317 (n := 8000) ((w_up_slot (by decide)).trans ((ml_317 hM))) (by omega) (by omega) ⟨(by omega), (by omega)⟩ ?_
    refine wa_iload_n (n := 2) rfl ?_
    refine wa_aload_n (n := 0) rfl ?_
    refine wb_gf4 237 rfl (wy_pr rfl) wt_237 wf_15_73 (v := 317) wl_237_73 ?_
    refine wa_iload_n (n := 1) rfl ?_
    refine wb_iald 317 rfl (wy_pr rfl) wt_317 (n := 8000) ((w_up_at (by omega)).trans ((w_up_slot (by decide)).trans ((ml_317 hM)))) (by omega) (by omega) (v := (((sl k.toNat).length : Int) - 1)) (w_up_same _ _ _ _) (fun r8 => ?_)
    refine wa_icmpne (w_rg0 (by omega) (by omega)) (w_rg0 (by omega) (by omega)) ⟨_, rfl⟩ (fun c9 => ?_) (fun c9 => ?_)
    · skip
      refine wa_return rfl ?_
      refine ⟨rfl, ?_, fun z => ?_, fun j x j0 j1 => ?_, ?_⟩
      · refine slC_dr hs hi0 (w_up_same _ _ _ _) ?_ (fun i hi ne => (w_up_slot (by first | decide | omega)).trans (w_up_at (fun ee => ne (by have := hdd i (ix - 1).toNat hi (by omega) ee; omega)))) (fun z => ?_)
        · rw [if_neg (by omega)]; exact (w_up_slot (by first | decide | omega)).trans (w_up_slot (by first | decide | omega))
        · rw [show ix.toNat - 1 = (ix - 1).toNat by omega]; exact (w_up_slot (by first | decide | omega)).trans (w_up_same _ _ _ _)
      · rw [lDr_hi _ _ _ (by omega), show (lDr ix.toNat (sl k.toNat)).length - 1 + 1 = (sl k.toNat).length - 1 by omega]
        exact (w_up_slot (by first | decide | omega)).trans ((w_up_slot (by first | decide | omega)).trans (hla (by omega)).2)
      · have hne : j ≠ 328 ∨ x ≠ (sl k.toNat).getD (ix - 1).toNat 0 := by
          rcases j1 with z | z | z
          · exact Or.inl z
          · exact Or.inr (by omega)
          · exact Or.inr (z (ix - 1).toNat (by omega))
        exact (w_up_no (by omega)).trans (w_up_no (by omega))
      · exact w_ML_up (w_ML_up (hM) (by omega)) (by omega)
    · skip
      refine wa_iload_n (n := 2) rfl ?_
      refine wa_ifle (w_rg0 (by omega) (by omega)) ⟨_, rfl⟩ (fun c10 => ?_) (fun c10 => ?_)
      · skip
        refine wa_return rfl ?_
        refine ⟨rfl, ?_, fun z => ?_, fun j x j0 j1 => ?_, ?_⟩
        · refine slC_dr hs hi0 (w_up_same _ _ _ _) ?_ (fun i hi ne => (w_up_slot (by first | decide | omega)).trans (w_up_at (fun ee => ne (by have := hdd i (ix - 1).toNat hi (by omega) ee; omega)))) (fun z => ?_)
          · rw [if_neg (by omega)]; exact (w_up_slot (by first | decide | omega)).trans (w_up_slot (by first | decide | omega))
          · rw [show ix.toNat - 1 = (ix - 1).toNat by omega]; exact (w_up_slot (by first | decide | omega)).trans (w_up_same _ _ _ _)
        · rw [lDr_hi _ _ _ (by omega), show (lDr ix.toNat (sl k.toNat)).length - 1 + 1 = (sl k.toNat).length - 1 by omega]
          exact (w_up_slot (by first | decide | omega)).trans ((w_up_slot (by first | decide | omega)).trans (hla (by omega)).2)
        · have hne : j ≠ 328 ∨ x ≠ (sl k.toNat).getD (ix - 1).toNat 0 := by
            rcases j1 with z | z | z
            · exact Or.inl z
            · exact Or.inr (by omega)
            · exact Or.inr (z (ix - 1).toNat (by omega))
          exact (w_up_no (by omega)).trans (w_up_no (by omega))
        · exact w_ML_up (w_ML_up (hM) (by omega)) (by omega)
      · skip
        refine wa_aload_n (n := 0) rfl ?_
        refine wb_gf4 237 rfl (wy_pr rfl) wt_237 wf_15_74 (v := 318) wl_237_74 ?_
        refine wa_iload_n (n := 1) rfl ?_
        refine wa_aload_n (n := 0) rfl ?_
        refine wa_iload_n (n := 1) rfl ?_
        refine wa_iload_n (n := 2) rfl ?_
        refine wa_iconst ?_
        refine wa_isub ?_
        have sl2 : slC (w_up (w_up S 328 ((sl k.toNat).getD (ix - 1).toNat 0) (S 328 ((sl k.toNat).getD ix.toNat 0))) 317 k (((sl k.toNat).length : Int) - 1)) k (lDr ix.toNat (sl k.toNat)) := by
          refine slC_dr hs hi0 (w_up_same _ _ _ _) ?_ (fun i hi ne => (w_up_slot (by first | decide | omega)).trans (w_up_at (fun ee => ne (by have := hdd i (ix - 1).toNat hi (by omega) ee; omega)))) (fun z => ?_)
          · rw [if_neg (by omega)]; exact (w_up_slot (by first | decide | omega)).trans (w_up_slot (by first | decide | omega))
          · rw [show ix.toNat - 1 = (ix - 1).toNat by omega]; exact (w_up_slot (by first | decide | omega)).trans (w_up_same _ _ _ _)
        refine wa_cv 237 rfl (wy_pr rfl) wt_237 (M2 := fun _ => False) rfl at_M_slotAt ⟨_, rfl⟩ rfl rfl ⟨trivial, (Or.inr ⟨wy_pr rfl, fun q => q⟩), trivial, trivial, trivial⟩ ⟨trivial, (Or.inr ⟨wy_pr rfl, fun q => q⟩), trivial⟩ (fun _ _ q => False.elim q) (saM_ok (S := (w_up (w_up S 328 ((sl k.toNat).getD (ix - 1).toNat 0) (S 328 ((sl k.toNat).getD ix.toNat 0))) 317 k (((sl k.toNat).length : Int) - 1))) (l := lDr ix.toNat (sl k.toNat)) (w_ML_up (w_ML_up hM (by omega)) (by omega)) ⟨by omega, by omega⟩ sl2 ⟨by omega, by omega⟩ (by omega)) (fun oq11 Sq11 hp12 q11 => ?_)
        rcases q11 with ⟨rfl, rfl⟩
        show wJ _ _ _ _ _ _ _ _ _ _
        have rk := (sl2.2.2 (ix - 1).toNat (by omega)).1
        refine wb_iast 318 rfl (wy_pr rfl) wt_318 (n := 8000) ((w_up_slot (by decide)).trans ((w_up_slot (by decide)).trans ((ml_318 hM)))) (by omega) (by omega) ⟨(by omega), (by omega)⟩ ?_
        refine wa_fall ⟨_, rfl⟩ ?_
        refine wa_return rfl ?_
        refine ⟨rfl, ?_, fun z => ?_, fun j x j0 j1 => ?_, ?_⟩
        · refine slC_dr hs hi0 ((w_up_slot (by first | decide | omega)).trans (w_up_same _ _ _ _)) ?_ (fun i hi ne => (w_up_slot (by first | decide | omega)).trans ((w_up_slot (by first | decide | omega)).trans (w_up_at (fun ee => ne (by have := hdd i (ix - 1).toNat hi (by omega) ee; omega))))) (fun z => ?_)
          · rw [if_neg (by omega)]; exact (w_up_slot (by first | decide | omega)).trans ((w_up_slot (by first | decide | omega)).trans (w_up_slot (by first | decide | omega)))
          · rw [show ix.toNat - 1 = (ix - 1).toNat by omega]; exact (w_up_slot (by first | decide | omega)).trans ((w_up_slot (by first | decide | omega)).trans (w_up_same _ _ _ _))
        · rw [w_up_same, show (lDr ix.toNat (sl k.toNat)).length - 1 = (ix - 1).toNat by omega]
        · have hne : j ≠ 328 ∨ x ≠ (sl k.toNat).getD (ix - 1).toNat 0 := by
            rcases j1 with z | z | z
            · exact Or.inl z
            · exact Or.inr (by omega)
            · exact Or.inr (z (ix - 1).toNat (by omega))
          exact (w_up_no (by omega)).trans ((w_up_no (by omega)).trans (w_up_no (by omega)))
        · exact w_ML_up (w_ML_up (w_ML_up (hM) (by omega)) (by omega)) (by omega)
  · skip
    refine wa_aload_n (n := 0) rfl ?_
    refine wb_gf4 237 rfl (wy_pr rfl) wt_237 wf_15_72 (v := 316) wl_237_72 ?_
    refine wa_iload_n (n := 1) rfl ?_
    refine wa_aload_n (n := 0) rfl ?_
    refine wb_gf4 237 rfl (wy_pr rfl) wt_237 wf_15_86 (v := 328) wl_237_86 ?_
    refine wa_iload_n (n := 3) rfl ?_
    refine wb_iald 328 rfl (wy_pr rfl) wt_328 (n := 60000) ((ml_328 hM)) (by omega) (by omega) (v := (S 328 ((sl k.toNat).getD ix.toNat 0))) rfl (fun r13 => ?_)
    refine wb_iast 316 rfl (wy_pr rfl) wt_316 (n := 8000) ((ml_316 hM)) (by omega) (by omega) ⟨(by omega), (by omega)⟩ ?_
    refine wa_goto ⟨_, rfl⟩ ?_
    refine wa_aload_n (n := 0) rfl ?_
    refine wb_gf4 237 rfl (wy_pr rfl) wt_237 wf_15_73 (v := 317) wl_237_73 ?_
    refine wa_iload_n (n := 1) rfl ?_
    refine wa_dup2 (by decide) (by decide) ?_
    refine wb_iald 317 rfl (wy_pr rfl) wt_317 (n := 8000) ((w_up_slot (by decide)).trans ((ml_317 hM))) (by omega) (by omega) (v := ((sl k.toNat).length : Int)) ((w_up_slot (by decide)).trans (s1)) (fun r14 => ?_)
    refine wa_iconst ?_
    refine wa_isub ?_
    refine wb_iast 317 rfl (wy_pr rfl) wt_317 (n := 8000) ((w_up_slot (by decide)).trans ((ml_317 hM))) (by omega) (by omega) ⟨(by omega), (by omega)⟩ ?_
    refine wa_iload_n (n := 2) rfl ?_
    refine wa_aload_n (n := 0) rfl ?_
    refine wb_gf4 237 rfl (wy_pr rfl) wt_237 wf_15_73 (v := 317) wl_237_73 ?_
    refine wa_iload_n (n := 1) rfl ?_
    refine wb_iald 317 rfl (wy_pr rfl) wt_317 (n := 8000) ((w_up_at (by omega)).trans ((w_up_slot (by decide)).trans ((ml_317 hM)))) (by omega) (by omega) (v := (((sl k.toNat).length : Int) - 1)) (w_up_same _ _ _ _) (fun r15 => ?_)
    refine wa_icmpne (w_rg0 (by omega) (by omega)) (w_rg0 (by omega) (by omega)) ⟨_, rfl⟩ (fun c16 => ?_) (fun c16 => ?_)
    · skip
      refine wa_return rfl ?_
      refine ⟨rfl, ?_, fun z => ?_, fun j x j0 j1 => ?_, ?_⟩
      · refine slC_dr hs hi0 (w_up_same _ _ _ _) ?_ (fun i hi _ => (w_up_slot (by first | decide | omega)).trans (w_up_slot (by first | decide | omega))) (fun z => by omega)
        rw [if_pos (by omega)]
        rw [show ix.toNat = 0 by omega]
        exact (w_up_slot (by first | decide | omega)).trans (w_up_same _ _ _ _)
      · rw [lDr_hi _ _ _ (by omega), show (lDr ix.toNat (sl k.toNat)).length - 1 + 1 = (sl k.toNat).length - 1 by omega]
        exact (w_up_slot (by first | decide | omega)).trans ((w_up_slot (by first | decide | omega)).trans (hla (by omega)).2)
      · exact (w_up_no (by omega)).trans (w_up_no (by omega))
      · exact w_ML_up (w_ML_up (hM) (by omega)) (by omega)
    · skip
      refine wa_iload_n (n := 2) rfl ?_
      refine wa_ifle (w_rg0 (by omega) (by omega)) ⟨_, rfl⟩ (fun c17 => ?_) (fun c17 => ?_)
      · skip
        refine wa_return rfl ?_
        refine ⟨rfl, ?_, fun z => ?_, fun j x j0 j1 => ?_, ?_⟩
        · refine slC_dr hs hi0 (w_up_same _ _ _ _) ?_ (fun i hi _ => (w_up_slot (by first | decide | omega)).trans (w_up_slot (by first | decide | omega))) (fun z => by omega)
          rw [if_pos (by omega)]
          rw [show ix.toNat = 0 by omega]
          exact (w_up_slot (by first | decide | omega)).trans (w_up_same _ _ _ _)
        · rw [lDr_hi _ _ _ (by omega), show (lDr ix.toNat (sl k.toNat)).length - 1 + 1 = (sl k.toNat).length - 1 by omega]
          exact (w_up_slot (by first | decide | omega)).trans ((w_up_slot (by first | decide | omega)).trans (hla (by omega)).2)
        · exact (w_up_no (by omega)).trans (w_up_no (by omega))
        · exact w_ML_up (w_ML_up (hM) (by omega)) (by omega)
      · skip
        exact absurd c17 (by omega)
set_option maxHeartbeats 4000000 in
theorem r_dr {o1 tx nx : Int} (hM : w_ML S) (hW : rWd S sl T L G) (hH : rHs S H) (hw : wSh T H) (hT : (T.length : Int) ≤ 8000) (h82 : S 237 82 ≤ 60000) (hu4 : 0 ≤ S 237 66 ∧ S 237 66 ≤ 4000 ∧ (H.length : Int) ≤ S 237 66 + 1) (hnb : ∀ s : Int, 0 ≤ s → s < (H.length : Int) → qNm H s ≤ 100000) (hch : 0 ≤ S 237 81 ∧ S 237 81 ≤ 9000000) (hep : ∀ k : Int, isO T k → (tO T k).2.2.2.2.1 ≤ S 237 81) (hy0 : 0 ≤ tx ∧ tx < 16000) (hl : S 285 tx = (x.length : Int)) (hf0 : 0 ≤ S 284 tx ∧ S 284 tx + (x.length : Int) ≤ 269632) (he : ∀ i : Nat, i < x.length → S 283 (S 284 tx + (i : Int)) = x.getD i 0) (hN : mN N S) (ho : isO T o1) (hnx : nx = ixL N x) : wJ (pe_GA xs) wY0 M (d + 4) t_M_drops ((pe_at t_M_drops.bl 0).getD (0, [])).2 [(0, (2, 237)), (1, (0, o1)), (2, (0, tx))] [] S (fun o Z => ((nx = -1 ∨ aIx T nx o1 = -1) ∧ S = Z ∧ o = .inl (some (0, 0))) ∨ (nx ≠ -1 ∧ aIx T nx o1 ≠ -1 ∧ 4000 < S 237 66 + aMb H (aPr T H o1) (fS (aIx T nx o1) (aNs H (tO T o1).2.1) 0) ∧ o = .inr 238 ∧ hZ 99 S = Z) ∨ (nx ≠ -1 ∧ aIx T nx o1 ≠ -1 ∧ S 237 66 + aMb H (aPr T H o1) (fS (aIx T nx o1) (aNs H (tO T o1).2.1) 0) ≤ 4000 ∧ o = .inl (some (0, 1)) ∧ ∃ A B : wS, rbQ (aPr T H o1) (aIx T nx o1) o1 sl T H L G S A ∧ ds_ag o1 (aIx T nx o1) (sl o1.toNat) A B ∧ chZ o1 (tO (aBr T H (aPr T H o1)).1 o1).2.2.2.2.1 (S 237 81) (w_up B 315 o1 (aRb (aPr T H o1) (fS (aIx T nx o1) (aNs H (tO T o1).2.1) 0) (aBr T H (aPr T H o1)).2.1 (aBr T H (aPr T H o1)).2.2).2) = Z)) := by
  have hx := sl_x he
  have ht := hW.1
  have ho0 := ho.1
  have hH4 := hw.1.2.1
  have hnr : -1 ≤ nx ∧ nx ≤ 4000 := by have := @ixL_rr N x; have := hN.2.1; omega
  have g4 := hw.2.2.2.1 o1 ho
  obtain ⟨iy, hiy⟩ : ∃ iy : Int, iy = aIx T nx o1 := ⟨_, rfl⟩
  rw [← hiy]
  have hir := aIx_rg (T := T) (nm := nx) (k := o1)
  rw [← hiy] at hir
  have hl64 := g4.2
  have hsl := (r_sl ht ho0.1 ho0.2 h82).2.1
  obtain ⟨pq, hpq⟩ : ∃ pq : Int, pq = (aPr T H o1) := ⟨_, rfl⟩
  have hpr : pq = -1 ∨ isO T pq := by rw [hpq]; exact wSh_pr hw ho
  have hpg : -1 ≤ pq ∧ pq < (T.length : Int) := by rcases hpr with z | z; omega; have := z.1; omega
  rw [← hpq]
  obtain ⟨rr, hrr⟩ : ∃ rr : Int, rr = (aRb pq (fS iy (aNs H (tO T o1).2.1) 0) (aBr T H pq).2.1 (aBr T H pq).2.2).2 := ⟨_, rfl⟩
  rw [← hrr]
  obtain ⟨ep, hepe⟩ : ∃ ep : Int, ep = (tO (aBr T H pq).1 o1).2.2.2.2.1 := ⟨_, rfl⟩
  rw [← hepe]
  have hpe : -1 ≤ ep ∧ ep ≤ 9000001 := by rw [hepe]; exact aBr_ep hw hpr ho hep hch
  have hsh := wSh_sh hw ho
  have e5 := (r_th ht ho0.1 ho0.2).2.1
  have e9 : S 329 (tO T o1).2.1 = pq := by rw [hpq]; exact (rHs_e hH hsh.1 hsh.2).1
  refine wa_aload_n (n := 0) rfl ?_
  refine wa_aload_n (n := 0) rfl ?_
  refine wb_gf4 237 rfl (wy_pr rfl) wt_237 wf_15_21 (v := 283) wl_237_21 ?_
  refine wa_aload_n (n := 0) rfl ?_
  refine wb_gf4 237 rfl (wy_pr rfl) wt_237 wf_15_22 (v := 284) wl_237_22 ?_
  refine wa_iload_n (n := 2) rfl ?_
  refine wb_iald 284 rfl (wy_pr rfl) wt_284 (n := 16000) ((ml_284 hM)) (by omega) (by omega) (v := (S 284 tx)) rfl (fun r1 => ?_)
  refine wa_aload_n (n := 0) rfl ?_
  refine wb_gf4 237 rfl (wy_pr rfl) wt_237 wf_15_23 (v := 285) wl_237_23 ?_
  refine wa_iload_n (n := 2) rfl ?_
  refine wb_iald 285 rfl (wy_pr rfl) wt_285 (n := 16000) ((ml_285 hM)) (by omega) (by omega) (v := (x.length : Int)) (hl) (fun r2 => ?_)
  refine wa_cv 237 rfl (wy_pr rfl) wt_237 (M2 := fun _ => False) rfl at_M_findName ⟨_, rfl⟩ rfl rfl ⟨(Or.inr ⟨wy_pr rfl, fun q => q⟩), trivial, trivial, trivial⟩ trivial (fun _ _ q => False.elim q) (wJ_mono (fn3m (p := S 284 tx) (m := (x.length : Int)) hM hN ⟨by omega, by omega⟩ ⟨by omega, by omega, by omega⟩) (fun o Z hz => (⟨hz.1, by rw [hnx, ← hx]; exact hz.2⟩ : S = Z ∧ o = .inl (some (0, nx))))) (fun oq3 Sq3 hp4 q3 => ?_)
  rcases q3 with ⟨rfl, rfl⟩
  show wJ _ _ _ _ _ _ _ _ _ _
  refine wa_istore_n (n := 3) rfl ?_
  refine wa_iload_n (n := 3) rfl ?_
  refine wa_ifge (w_rg0 (by omega) (by omega)) ⟨_, rfl⟩ (fun c5 => ?_) (fun c5 => ?_)
  · skip
    refine wa_aload_n (n := 0) rfl ?_
    refine wa_iload_n (n := 1) rfl ?_
    refine wa_iload_n (n := 3) rfl ?_
    refine wa_cv 237 rfl (wy_pr rfl) wt_237 (M2 := fun _ => False) rfl at_M_own ⟨_, rfl⟩ rfl rfl ⟨trivial, (Or.inr ⟨wy_pr rfl, fun q => q⟩), trivial, trivial, trivial⟩ trivial (fun _ _ q => False.elim q) (wJ_mono (r_ow (k := o1) (nm := nx) hM ht ⟨ho0.1, ho0.2⟩ hT h82 (wSh_64 hw ho) ⟨by omega, by omega⟩) (fun o Z hz => (⟨hz.1, by rw [hiy]; exact hz.2⟩ : S = Z ∧ o = .inl (some (0, iy))))) (fun oq6 Sq6 hp7 q6 => ?_)
    rcases q6 with ⟨rfl, rfl⟩
    show wJ _ _ _ _ _ _ _ _ _ _
    refine wa_fall ⟨_, rfl⟩ ?_
    refine wa_istore (n := 4) rfl ?_
    refine wa_iload (n := 4) rfl ?_
    refine wa_ifge (w_rg0 (by omega) (by omega)) ⟨_, rfl⟩ (fun c8 => ?_) (fun c8 => ?_)
    · skip
      refine wa_aload_n (n := 0) rfl ?_
      refine wa_iload_n (n := 1) rfl ?_
      refine wa_aload_n (n := 0) rfl ?_
      refine wa_iload_n (n := 1) rfl ?_
      refine wa_cv 237 rfl (wy_pr rfl) wt_237 (M2 := fun _ => False) rfl at_M_protoOf ⟨_, rfl⟩ rfl rfl ⟨trivial, trivial, (Or.inr ⟨wy_pr rfl, fun q => q⟩), trivial, trivial, trivial⟩ ⟨trivial, (Or.inr ⟨wy_pr rfl, fun q => q⟩), trivial⟩ (fun _ _ q => False.elim q) ?_ (fun _ _ _ q => q)
      refine wa_aload_n (n := 0) rfl ?_
      refine wb_gf4 237 rfl (wy_pr rfl) wt_237 wf_15_88 (v := 329) wl_237_88 ?_
      refine wa_aload_n (n := 0) rfl ?_
      refine wb_gf4 237 rfl (wy_pr rfl) wt_237 wf_15_71 (v := 315) wl_237_71 ?_
      refine wa_iload_n (n := 1) rfl ?_
      refine wb_iald 315 rfl (wy_pr rfl) wt_315 (n := 8000) ((ml_315 hM)) (by omega) (by omega) (v := (tO T o1).2.1) (e5) (fun r9 => ?_)
      refine wb_iald 329 rfl (wy_pr rfl) wt_329 (n := 4001) ((ml_329 hM)) (by omega) (by omega) (v := pq) (e9) (fun r10 => ?_)
      refine wa_ireturn rfl ?_
      show wJ _ _ _ _ _ _ _ _ _ _
      refine wa_iload (n := 4) rfl ?_
      refine wa_cv 237 rfl (wy_pr rfl) wt_237 (M2 := fun _ => False) rfl at_M_rebuilt ⟨_, rfl⟩ rfl rfl ⟨trivial, trivial, (Or.inr ⟨wy_pr rfl, fun q => q⟩), trivial, trivial, trivial⟩ trivial (fun _ _ q => False.elim q) (wJ_mono (r_rb (k := o1) (p := pq) (wo := iy) hM hH hW hw ho hT h82 hpr ⟨by omega, by omega⟩ hu4 hnb) (fun o Z hz => (by rw [g4.1] at hz; rw [hrr]; exact hz : (4000 < S 237 66 + aMb H pq (fS iy (aNs H (tO T o1).2.1) 0) ∧ o = .inr 238 ∧ hZ 99 S = Z) ∨ (S 237 66 + aMb H pq (fS iy (aNs H (tO T o1).2.1) 0) ≤ 4000 ∧ o = .inl (some (0, rr)) ∧ rbQ pq iy o1 sl T H L G S Z)))) (fun oq11 Sq11 hp12 q11 => ?_)
      rcases q11 with ⟨hno, rfl, rfl⟩ | ⟨hyes, rfl, hrb⟩
      · skip
        refine ⟨rfl, ?_⟩
        exact Or.inr (Or.inl ⟨by omega, by omega, hno, rfl, rfl⟩)
      · skip
        show wJ _ _ _ _ _ _ _ _ _ _
        obtain ⟨hrb1, hrb2, hrbM, hrb4, hrbF⟩ := id hrb
        have hds0 := nDs_H hw.1 hw.2.1 _ _ hsh.1 hsh.2 rfl
        obtain ⟨rs1, rs2, rs3, rs4, rs5, rs6, rs7, rs8⟩ := rsh_ok (l := (fS iy (aNs H (tO T o1).2.1) 0)) hw hpr (nDs_f _ _ hds0.1) (fun y hy => hds0.2 y (fS_m _ _ y hy)) (by omega)
        have hrr0 : 0 ≤ rr ∧ rr < 1000000 := by
          have hll := rs1.1.2.1
          rw [hrr]; exact ⟨rs2.1, Int.lt_trans rs2.2 (by omega)⟩
        have hlen : (aBr T H pq).1.length = T.length := (aBr_ok (l := (fS iy (aNs H (tO T o1).2.1) 0)) hw hpr (by omega)).2.2.2.2.2.2.2
        have hA3 := r_th hrb2.1 (k := o1) ho0.1 (by rw [hlen]; exact ho0.2)
        have hA22 : Sq11 322 o1 = (if ep = -1 then 0 else 1) := by rw [hepe]; exact hA3.2.2.2.2.2.1
        have hA23 : ep ≠ -1 → Sq11 323 o1 = ep := by rw [hepe]; exact hA3.2.2.2.2.2.2.1
        have hA82 : Sq11 237 82 = S 237 82 := hrbF 237 82 (by unfold rMr; omega)
        refine wa_istore (n := 5) rfl ?_
        refine wa_aload_n (n := 0) rfl ?_
        refine wa_iload_n (n := 1) rfl ?_
        refine wa_iload (n := 4) rfl ?_
        refine wa_cv 237 rfl (wy_pr rfl) wt_237 (M2 := fun _ => False) rfl at_M_dropSlot ⟨_, rfl⟩ rfl rfl ⟨trivial, trivial, trivial, (Or.inr ⟨wy_pr rfl, fun q => q⟩), trivial, trivial, trivial⟩ trivial (fun _ _ q => False.elim q) (r_dp (S := Sq11) (k := o1) (ix := iy) hrbM hrb2.1 ⟨ho0.1, by rw [hlen]; exact ho0.2⟩ (by rw [hlen]; exact hT) (by rw [hA82]; exact h82) (by omega) ⟨by omega, by omega⟩) (fun oq13 Sq13 hp14 q13 => ?_)
        rcases q13 with ⟨rfl, hdsg⟩
        show wJ _ _ _ _ _ _ _ _ _ _
        have hdF := hdsg.2.2.1
        have hdM := hdsg.2.2.2
        refine wa_aload_n (n := 0) rfl ?_
        refine wb_gf4 237 rfl (wy_pr rfl) wt_237 wf_15_71 (v := 315) wl_237_71 ?_
        refine wa_iload_n (n := 1) rfl ?_
        refine wa_iload (n := 5) rfl ?_
        refine wb_iast 315 rfl (wy_pr rfl) wt_315 (n := 8000) ((ml_315 hdM)) (by omega) (by omega) ⟨(by omega), (by omega)⟩ ?_
        refine wa_aload_n (n := 0) rfl ?_
        refine wa_iload_n (n := 1) rfl ?_
        refine wa_cv 237 rfl (wy_pr rfl) wt_237 (M2 := fun _ => False) rfl at_M_changed ⟨_, rfl⟩ rfl rfl ⟨trivial, trivial, trivial, (Or.inr ⟨wy_pr rfl, fun q => q⟩), trivial, trivial, trivial⟩ trivial (fun _ _ q => False.elim q) (r_cg (S := (w_up Sq13 315 o1 rr)) (k := o1) (e := ep) (ch := S 237 81) (w_ML_up hdM (by omega)) ⟨by omega, by omega⟩ ((w_up_slot (by decide)).trans ((hdF 322 o1 (Or.inl (by decide)) (Or.inl (by decide))).trans hA22)) (fun z => (w_up_slot (by decide)).trans ((hdF 323 o1 (Or.inl (by decide)) (Or.inl (by decide))).trans (hA23 z))) hpe ((w_up_slot (by decide)).trans (((hdF 237 81 (Or.inl (by decide)) (Or.inl (by decide))).trans ((hrbF 237 81 (by unfold rMr; omega)))))) hch) (fun oq15 Sq15 hp16 q15 => ?_)
        rcases q15 with ⟨rfl, rfl⟩
        show wJ _ _ _ _ _ _ _ _ _ _
        refine wa_iconst ?_
        refine wa_zreturn rfl (Or.inr rfl) ?_
        exact Or.inr (Or.inr ⟨by omega, by omega, hyes, rfl, Sq11, Sq13, hrb, hdsg, rfl⟩)
    · skip
      refine wa_iconst ?_
      refine wa_zreturn rfl (Or.inl rfl) ?_
      exact Or.inl ⟨by omega, rfl, rfl⟩
  · skip
    refine wa_iconst ?_
    refine wa_goto ⟨_, rfl⟩ ?_
    refine wa_istore (n := 4) rfl ?_
    refine wa_iload (n := 4) rfl ?_
    refine wa_ifge (w_rg0 (by omega) (by omega)) ⟨_, rfl⟩ (fun c17 => ?_) (fun c17 => ?_)
    · skip
      exact absurd c17 (by omega)
    · skip
      refine wa_iconst ?_
      refine wa_zreturn rfl (Or.inl rfl) ?_
      exact Or.inl ⟨by omega, rfl, rfl⟩
end Wfs
