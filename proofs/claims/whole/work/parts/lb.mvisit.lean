/-! PART lb: the reference visits a site; an entry that holds. -/
section Wlb0
variable {Sb : wS} {xs : List (Nat × List Int32)} {M : Nat → Prop} {d : Nat} {S Z A : wS}
theorem hit_lx {s rw h1 w1 t1 : Int} {e : aE} {P : Nat → Int → Prop} {PX : wS → Prop} (hM : w_ML S) (hs : 0 ≤ s ∧ s < 4000) (he : rEc S e rw) (hrw : 0 ≤ rw ∧ rw < 20000) (h108 : 0 ≤ S 237 108 ∧ S 237 108 ≤ 1000000) (hPn : ∀ (j : Nat) (x : Int), P j x → (j < 377 ∨ 385 < j) ∧ (j ≠ 237 ∨ (x ≠ 108 ∧ (x < 166 ∨ 172 < x))) ∧ x ≠ -1) (hlk : wJ (pe_GA xs) wY0 (fun _ => False) (d + 8) t_M_looks ((pe_at t_M_looks.bl 0).getD (0, [])).2 [(0, (2, 237)), (1, (0, s)), (2, (0, 0))] [] S (fun o Z => o = .inl none ∧ (Z 237 169 = h1 ∧ Z 237 170 = w1 ∧ Z 237 171 = t1) ∧ (∀ (j : Nat) (x : Int), (j ≠ 237 ∨ x < 166 ∨ 172 < x) → ¬ P j x → Z j x = S j x) ∧ PX Z)) : wJ (pe_GA xs) wY0 M (d + 9) t_M_hits ((pe_at t_M_hits.bl 0).getD (0, [])).2 [(0, (2, 237)), (1, (0, s)), (2, (0, rw))] [] S (fun o Z => o = .inl none ∧ (Z 237 166 = e.1 ∧ Z 237 169 = e.2.2.2.1 ∧ Z 237 170 = e.2.2.2.2.1 ∧ Z 237 171 = e.2.2.2.2.2.1) ∧ Z 237 108 = S 237 108 + (if h1 = e.2.2.2.1 ∧ w1 = e.2.2.2.2.1 ∧ t1 = e.2.2.2.2.2.1 then 0 else 1) ∧ (∀ (j : Nat) (x : Int), (j ≠ 237 ∨ (x ≠ 108 ∧ (x < 166 ∨ 172 < x))) → ¬ P j x → Z j x = S j x) ∧ w_ML Z ∧ ∃ Z1 : wS, PX Z1 ∧ ∀ (j : Nat) (x : Int), (j ≠ 237 ∨ (x ≠ 108 ∧ (x < 166 ∨ 172 < x))) → Z j x = Z1 j x) := by
  obtain ⟨⟨a1, a2, a3, a4, a5, a6⟩, a7, a8, a9⟩ := id he
  refine wa_iconst ?_
  refine wa_istore_n (n := 3) rfl ?_
  refine wa_aload_n (n := 0) rfl ?_
  refine wa_iload_n (n := 1) rfl ?_
  refine wa_iconst ?_
  refine wa_cx 237 rfl (wy_pr rfl) wt_237 (M2 := fun _ => False) rfl at_M_looks ⟨_, rfl⟩ rfl rfl ⟨trivial, (Or.inr ⟨wy_pr rfl, fun q => q⟩), trivial, trivial, trivial⟩ trivial (fun _ _ q => False.elim q) (hlk) (fun oq1 Sq1 hp2 q1 => ?_)
  rcases q1 with ⟨rfl, ⟨z69, z70, z71⟩, zf, zx⟩
  show wJ _ _ _ _ _ _ _ _ _ _
  have zM : w_ML _ := ML_w (P := fun j x => P j x ∨ (j = 237 ∧ 166 ≤ x ∧ x ≤ 172)) hM (fun j x hj => zf j x (by omega) (fun z => hj (Or.inl z))) (fun j z => z.elim (fun y => (hPn _ _ y).2.2 rfl) (fun y => by omega))
  have hM := zM
  have z77 := (zf 377 rw (by first | decide | omega) (fun z => by have y := (hPn _ _ z).1; omega)).trans a1
  have z80 := (zf 380 rw (by first | decide | omega) (fun z => by have y := (hPn _ _ z).1; omega)).trans a4
  have z81 := (zf 381 rw (by first | decide | omega) (fun z => by have y := (hPn _ _ z).1; omega)).trans a5
  have z82 := (zf 382 rw (by first | decide | omega) (fun z => by have y := (hPn _ _ z).1; omega)).trans a6
  have z108 := zf 237 108 (by first | decide | omega) (fun z => by have y := (hPn _ _ z).2.1; omega)
  refine wa_aload_n (n := 0) rfl ?_
  refine wb_gfi 237 rfl (wy_pr rfl) wt_237 wf_15_169 (v := h1) (z69) (fun r3 => ?_)
  refine wa_aload_n (n := 0) rfl ?_
  refine wb_gf4 237 rfl (wy_pr rfl) wt_237 wf_15_160 (v := 380) wl_237_160 ?_
  refine wa_iload_n (n := 2) rfl ?_
  refine wb_iald 380 rfl (wy_pr rfl) wt_380 (n := 20000) ((ml_380 hM)) (by omega) (by omega) (v := (e.2.2.2.1)) (z80) (fun r4 => ?_)
  refine wa_icmpne (w_rg0 (by omega) (by omega)) (w_rg0 (by omega) (by omega)) ⟨_, rfl⟩ (fun c5 => ?_) (fun c5 => ?_)
  · skip
    refine wa_iconst ?_
    refine wa_fall ⟨_, rfl⟩ ?_
    refine wa_istore_n (n := 3) rfl ?_
    refine wa_goto ⟨_, rfl⟩ ?_
    refine wa_aload_n (n := 0) rfl ?_
    refine wa_dup (by decide) ?_
    refine wb_gfi 237 rfl (wy_pr rfl) wt_237 wf_15_108 (v := (S 237 108)) (z108) (fun r6 => ?_)
    refine wa_iload_n (n := 3) rfl ?_
    refine wa_ifeq (w_rg0 (by omega) (by omega)) ⟨_, rfl⟩ (fun c7 => ?_) (fun c7 => ?_)
    · skip
      refine wa_iconst ?_
      refine wa_fall ⟨_, rfl⟩ ?_
      refine wa_iadd ?_
      refine wb_pfi 237 rfl (wy_pr rfl) wt_237 wf_15_108 (n := 108) rfl ⟨(by omega), (by omega)⟩ ?_
      refine wa_aload_n (n := 0) rfl ?_
      refine wa_aload_n (n := 0) rfl ?_
      refine wb_gf4 237 rfl (wy_pr rfl) wt_237 wf_15_157 (v := 377) wl_237_157 ?_
      refine wa_iload_n (n := 2) rfl ?_
      refine wb_iald 377 rfl (wy_pr rfl) wt_377 (n := 20000) ((w_up_slot (by decide)).trans ((ml_377 hM))) (by omega) (by omega) (v := (e.1)) ((w_up_slot (by decide)).trans (z77)) (fun r8 => ?_)
      refine wb_pfi 237 rfl (wy_pr rfl) wt_237 wf_15_166 (n := 166) rfl ⟨(by omega), (by omega)⟩ ?_
      refine wa_aload_n (n := 0) rfl ?_
      refine wa_aload_n (n := 0) rfl ?_
      refine wb_gf4 237 rfl (wy_pr rfl) wt_237 wf_15_160 (v := 380) wl_237_160 ?_
      refine wa_iload_n (n := 2) rfl ?_
      refine wb_iald 380 rfl (wy_pr rfl) wt_380 (n := 20000) ((w_up_slot (by decide)).trans ((w_up_slot (by decide)).trans ((ml_380 hM)))) (by omega) (by omega) (v := (e.2.2.2.1)) ((w_up_slot (by decide)).trans ((w_up_slot (by decide)).trans (z80))) (fun r9 => ?_)
      refine wb_pfi 237 rfl (wy_pr rfl) wt_237 wf_15_169 (n := 169) rfl ⟨(by omega), (by omega)⟩ ?_
      refine wa_aload_n (n := 0) rfl ?_
      refine wa_aload_n (n := 0) rfl ?_
      refine wb_gf4 237 rfl (wy_pr rfl) wt_237 wf_15_161 (v := 381) wl_237_161 ?_
      refine wa_iload_n (n := 2) rfl ?_
      refine wb_iald 381 rfl (wy_pr rfl) wt_381 (n := 20000) ((w_up_slot (by decide)).trans ((w_up_slot (by decide)).trans ((w_up_slot (by decide)).trans ((ml_381 hM))))) (by omega) (by omega) (v := (e.2.2.2.2.1)) ((w_up_slot (by decide)).trans ((w_up_slot (by decide)).trans ((w_up_slot (by decide)).trans (z81)))) (fun r10 => ?_)
      refine wb_pfi 237 rfl (wy_pr rfl) wt_237 wf_15_170 (n := 170) rfl ⟨(by omega), (by omega)⟩ ?_
      refine wa_aload_n (n := 0) rfl ?_
      refine wa_aload_n (n := 0) rfl ?_
      refine wb_gf4 237 rfl (wy_pr rfl) wt_237 wf_15_162 (v := 382) wl_237_162 ?_
      refine wa_iload_n (n := 2) rfl ?_
      refine wb_iald 382 rfl (wy_pr rfl) wt_382 (n := 20000) ((w_up_slot (by decide)).trans ((w_up_slot (by decide)).trans ((w_up_slot (by decide)).trans ((w_up_slot (by decide)).trans ((ml_382 hM)))))) (by omega) (by omega) (v := (e.2.2.2.2.2.1)) ((w_up_slot (by decide)).trans ((w_up_slot (by decide)).trans ((w_up_slot (by decide)).trans ((w_up_slot (by decide)).trans (z82))))) (fun r11 => ?_)
      refine wb_pfi 237 rfl (wy_pr rfl) wt_237 wf_15_171 (n := 171) rfl ⟨(by omega), (by omega)⟩ ?_
      refine wa_return rfl ?_
      have ea : (if h1 = e.2.2.2.1 ∧ w1 = e.2.2.2.2.1 ∧ t1 = e.2.2.2.2.2.1 then 0 else 1 : Int) = 1 := by first | exact if_pos (by omega) | exact if_neg (by omega)
      rw [ea]
      exact ⟨rfl, ⟨((w_up_at (by first | decide | omega)).trans ((w_up_at (by first | decide | omega)).trans ((w_up_at (by first | decide | omega)).trans (w_up_same _ _ _ _)))), ((w_up_at (by first | decide | omega)).trans ((w_up_at (by first | decide | omega)).trans (w_up_same _ _ _ _))), ((w_up_at (by first | decide | omega)).trans (w_up_same _ _ _ _)), (w_up_same _ _ _ _)⟩, ((w_up_at (by first | decide | omega)).trans ((w_up_at (by first | decide | omega)).trans ((w_up_at (by first | decide | omega)).trans ((w_up_at (by first | decide | omega)).trans (w_up_same _ _ _ _))))), (fun j x hj hk => ((w_up_no (by omega)).trans ((w_up_no (by omega)).trans ((w_up_no (by omega)).trans ((w_up_no (by omega)).trans (w_up_no (by omega)))))).trans (zf j x (by omega) hk)), w_ML_up (w_ML_up (w_ML_up (w_ML_up (w_ML_up (zM) (by first | decide | omega)) (by first | decide | omega)) (by first | decide | omega)) (by first | decide | omega)) (by first | decide | omega), _, zx, fun j x hj => ((w_up_no (by omega)).trans ((w_up_no (by omega)).trans ((w_up_no (by omega)).trans ((w_up_no (by omega)).trans (w_up_no (by omega))))))⟩
    · skip
      exact absurd c7 (by omega)
  · skip
    refine wa_aload_n (n := 0) rfl ?_
    refine wb_gfi 237 rfl (wy_pr rfl) wt_237 wf_15_170 (v := w1) (z70) (fun r12 => ?_)
    refine wa_aload_n (n := 0) rfl ?_
    refine wb_gf4 237 rfl (wy_pr rfl) wt_237 wf_15_161 (v := 381) wl_237_161 ?_
    refine wa_iload_n (n := 2) rfl ?_
    refine wb_iald 381 rfl (wy_pr rfl) wt_381 (n := 20000) ((ml_381 hM)) (by omega) (by omega) (v := (e.2.2.2.2.1)) (z81) (fun r13 => ?_)
    refine wa_icmpne (w_rg0 (by omega) (by omega)) (w_rg0 (by omega) (by omega)) ⟨_, rfl⟩ (fun c14 => ?_) (fun c14 => ?_)
    · skip
      refine wa_iconst ?_
      refine wa_fall ⟨_, rfl⟩ ?_
      refine wa_istore_n (n := 3) rfl ?_
      refine wa_goto ⟨_, rfl⟩ ?_
      refine wa_aload_n (n := 0) rfl ?_
      refine wa_dup (by decide) ?_
      refine wb_gfi 237 rfl (wy_pr rfl) wt_237 wf_15_108 (v := (S 237 108)) (z108) (fun r15 => ?_)
      refine wa_iload_n (n := 3) rfl ?_
      refine wa_ifeq (w_rg0 (by omega) (by omega)) ⟨_, rfl⟩ (fun c16 => ?_) (fun c16 => ?_)
      · skip
        refine wa_iconst ?_
        refine wa_fall ⟨_, rfl⟩ ?_
        refine wa_iadd ?_
        refine wb_pfi 237 rfl (wy_pr rfl) wt_237 wf_15_108 (n := 108) rfl ⟨(by omega), (by omega)⟩ ?_
        refine wa_aload_n (n := 0) rfl ?_
        refine wa_aload_n (n := 0) rfl ?_
        refine wb_gf4 237 rfl (wy_pr rfl) wt_237 wf_15_157 (v := 377) wl_237_157 ?_
        refine wa_iload_n (n := 2) rfl ?_
        refine wb_iald 377 rfl (wy_pr rfl) wt_377 (n := 20000) ((w_up_slot (by decide)).trans ((ml_377 hM))) (by omega) (by omega) (v := (e.1)) ((w_up_slot (by decide)).trans (z77)) (fun r17 => ?_)
        refine wb_pfi 237 rfl (wy_pr rfl) wt_237 wf_15_166 (n := 166) rfl ⟨(by omega), (by omega)⟩ ?_
        refine wa_aload_n (n := 0) rfl ?_
        refine wa_aload_n (n := 0) rfl ?_
        refine wb_gf4 237 rfl (wy_pr rfl) wt_237 wf_15_160 (v := 380) wl_237_160 ?_
        refine wa_iload_n (n := 2) rfl ?_
        refine wb_iald 380 rfl (wy_pr rfl) wt_380 (n := 20000) ((w_up_slot (by decide)).trans ((w_up_slot (by decide)).trans ((ml_380 hM)))) (by omega) (by omega) (v := (e.2.2.2.1)) ((w_up_slot (by decide)).trans ((w_up_slot (by decide)).trans (z80))) (fun r18 => ?_)
        refine wb_pfi 237 rfl (wy_pr rfl) wt_237 wf_15_169 (n := 169) rfl ⟨(by omega), (by omega)⟩ ?_
        refine wa_aload_n (n := 0) rfl ?_
        refine wa_aload_n (n := 0) rfl ?_
        refine wb_gf4 237 rfl (wy_pr rfl) wt_237 wf_15_161 (v := 381) wl_237_161 ?_
        refine wa_iload_n (n := 2) rfl ?_
        refine wb_iald 381 rfl (wy_pr rfl) wt_381 (n := 20000) ((w_up_slot (by decide)).trans ((w_up_slot (by decide)).trans ((w_up_slot (by decide)).trans ((ml_381 hM))))) (by omega) (by omega) (v := (e.2.2.2.2.1)) ((w_up_slot (by decide)).trans ((w_up_slot (by decide)).trans ((w_up_slot (by decide)).trans (z81)))) (fun r19 => ?_)
        refine wb_pfi 237 rfl (wy_pr rfl) wt_237 wf_15_170 (n := 170) rfl ⟨(by omega), (by omega)⟩ ?_
        refine wa_aload_n (n := 0) rfl ?_
        refine wa_aload_n (n := 0) rfl ?_
        refine wb_gf4 237 rfl (wy_pr rfl) wt_237 wf_15_162 (v := 382) wl_237_162 ?_
        refine wa_iload_n (n := 2) rfl ?_
        refine wb_iald 382 rfl (wy_pr rfl) wt_382 (n := 20000) ((w_up_slot (by decide)).trans ((w_up_slot (by decide)).trans ((w_up_slot (by decide)).trans ((w_up_slot (by decide)).trans ((ml_382 hM)))))) (by omega) (by omega) (v := (e.2.2.2.2.2.1)) ((w_up_slot (by decide)).trans ((w_up_slot (by decide)).trans ((w_up_slot (by decide)).trans ((w_up_slot (by decide)).trans (z82))))) (fun r20 => ?_)
        refine wb_pfi 237 rfl (wy_pr rfl) wt_237 wf_15_171 (n := 171) rfl ⟨(by omega), (by omega)⟩ ?_
        refine wa_return rfl ?_
        have ea : (if h1 = e.2.2.2.1 ∧ w1 = e.2.2.2.2.1 ∧ t1 = e.2.2.2.2.2.1 then 0 else 1 : Int) = 1 := by first | exact if_pos (by omega) | exact if_neg (by omega)
        rw [ea]
        exact ⟨rfl, ⟨((w_up_at (by first | decide | omega)).trans ((w_up_at (by first | decide | omega)).trans ((w_up_at (by first | decide | omega)).trans (w_up_same _ _ _ _)))), ((w_up_at (by first | decide | omega)).trans ((w_up_at (by first | decide | omega)).trans (w_up_same _ _ _ _))), ((w_up_at (by first | decide | omega)).trans (w_up_same _ _ _ _)), (w_up_same _ _ _ _)⟩, ((w_up_at (by first | decide | omega)).trans ((w_up_at (by first | decide | omega)).trans ((w_up_at (by first | decide | omega)).trans ((w_up_at (by first | decide | omega)).trans (w_up_same _ _ _ _))))), (fun j x hj hk => ((w_up_no (by omega)).trans ((w_up_no (by omega)).trans ((w_up_no (by omega)).trans ((w_up_no (by omega)).trans (w_up_no (by omega)))))).trans (zf j x (by omega) hk)), w_ML_up (w_ML_up (w_ML_up (w_ML_up (w_ML_up (zM) (by first | decide | omega)) (by first | decide | omega)) (by first | decide | omega)) (by first | decide | omega)) (by first | decide | omega), _, zx, fun j x hj => ((w_up_no (by omega)).trans ((w_up_no (by omega)).trans ((w_up_no (by omega)).trans ((w_up_no (by omega)).trans (w_up_no (by omega))))))⟩
      · skip
        exact absurd c16 (by omega)
    · skip
      refine wa_aload_n (n := 0) rfl ?_
      refine wb_gfi 237 rfl (wy_pr rfl) wt_237 wf_15_171 (v := t1) (z71) (fun r21 => ?_)
      refine wa_aload_n (n := 0) rfl ?_
      refine wb_gf4 237 rfl (wy_pr rfl) wt_237 wf_15_162 (v := 382) wl_237_162 ?_
      refine wa_iload_n (n := 2) rfl ?_
      refine wb_iald 382 rfl (wy_pr rfl) wt_382 (n := 20000) ((ml_382 hM)) (by omega) (by omega) (v := (e.2.2.2.2.2.1)) (z82) (fun r22 => ?_)
      refine wa_icmpne (w_rg0 (by omega) (by omega)) (w_rg0 (by omega) (by omega)) ⟨_, rfl⟩ (fun c23 => ?_) (fun c23 => ?_)
      · skip
        refine wa_iconst ?_
        refine wa_fall ⟨_, rfl⟩ ?_
        refine wa_istore_n (n := 3) rfl ?_
        refine wa_goto ⟨_, rfl⟩ ?_
        refine wa_aload_n (n := 0) rfl ?_
        refine wa_dup (by decide) ?_
        refine wb_gfi 237 rfl (wy_pr rfl) wt_237 wf_15_108 (v := (S 237 108)) (z108) (fun r24 => ?_)
        refine wa_iload_n (n := 3) rfl ?_
        refine wa_ifeq (w_rg0 (by omega) (by omega)) ⟨_, rfl⟩ (fun c25 => ?_) (fun c25 => ?_)
        · skip
          refine wa_iconst ?_
          refine wa_fall ⟨_, rfl⟩ ?_
          refine wa_iadd ?_
          refine wb_pfi 237 rfl (wy_pr rfl) wt_237 wf_15_108 (n := 108) rfl ⟨(by omega), (by omega)⟩ ?_
          refine wa_aload_n (n := 0) rfl ?_
          refine wa_aload_n (n := 0) rfl ?_
          refine wb_gf4 237 rfl (wy_pr rfl) wt_237 wf_15_157 (v := 377) wl_237_157 ?_
          refine wa_iload_n (n := 2) rfl ?_
          refine wb_iald 377 rfl (wy_pr rfl) wt_377 (n := 20000) ((w_up_slot (by decide)).trans ((ml_377 hM))) (by omega) (by omega) (v := (e.1)) ((w_up_slot (by decide)).trans (z77)) (fun r26 => ?_)
          refine wb_pfi 237 rfl (wy_pr rfl) wt_237 wf_15_166 (n := 166) rfl ⟨(by omega), (by omega)⟩ ?_
          refine wa_aload_n (n := 0) rfl ?_
          refine wa_aload_n (n := 0) rfl ?_
          refine wb_gf4 237 rfl (wy_pr rfl) wt_237 wf_15_160 (v := 380) wl_237_160 ?_
          refine wa_iload_n (n := 2) rfl ?_
          refine wb_iald 380 rfl (wy_pr rfl) wt_380 (n := 20000) ((w_up_slot (by decide)).trans ((w_up_slot (by decide)).trans ((ml_380 hM)))) (by omega) (by omega) (v := (e.2.2.2.1)) ((w_up_slot (by decide)).trans ((w_up_slot (by decide)).trans (z80))) (fun r27 => ?_)
          refine wb_pfi 237 rfl (wy_pr rfl) wt_237 wf_15_169 (n := 169) rfl ⟨(by omega), (by omega)⟩ ?_
          refine wa_aload_n (n := 0) rfl ?_
          refine wa_aload_n (n := 0) rfl ?_
          refine wb_gf4 237 rfl (wy_pr rfl) wt_237 wf_15_161 (v := 381) wl_237_161 ?_
          refine wa_iload_n (n := 2) rfl ?_
          refine wb_iald 381 rfl (wy_pr rfl) wt_381 (n := 20000) ((w_up_slot (by decide)).trans ((w_up_slot (by decide)).trans ((w_up_slot (by decide)).trans ((ml_381 hM))))) (by omega) (by omega) (v := (e.2.2.2.2.1)) ((w_up_slot (by decide)).trans ((w_up_slot (by decide)).trans ((w_up_slot (by decide)).trans (z81)))) (fun r28 => ?_)
          refine wb_pfi 237 rfl (wy_pr rfl) wt_237 wf_15_170 (n := 170) rfl ⟨(by omega), (by omega)⟩ ?_
          refine wa_aload_n (n := 0) rfl ?_
          refine wa_aload_n (n := 0) rfl ?_
          refine wb_gf4 237 rfl (wy_pr rfl) wt_237 wf_15_162 (v := 382) wl_237_162 ?_
          refine wa_iload_n (n := 2) rfl ?_
          refine wb_iald 382 rfl (wy_pr rfl) wt_382 (n := 20000) ((w_up_slot (by decide)).trans ((w_up_slot (by decide)).trans ((w_up_slot (by decide)).trans ((w_up_slot (by decide)).trans ((ml_382 hM)))))) (by omega) (by omega) (v := (e.2.2.2.2.2.1)) ((w_up_slot (by decide)).trans ((w_up_slot (by decide)).trans ((w_up_slot (by decide)).trans ((w_up_slot (by decide)).trans (z82))))) (fun r29 => ?_)
          refine wb_pfi 237 rfl (wy_pr rfl) wt_237 wf_15_171 (n := 171) rfl ⟨(by omega), (by omega)⟩ ?_
          refine wa_return rfl ?_
          have ea : (if h1 = e.2.2.2.1 ∧ w1 = e.2.2.2.2.1 ∧ t1 = e.2.2.2.2.2.1 then 0 else 1 : Int) = 1 := by first | exact if_pos (by omega) | exact if_neg (by omega)
          rw [ea]
          exact ⟨rfl, ⟨((w_up_at (by first | decide | omega)).trans ((w_up_at (by first | decide | omega)).trans ((w_up_at (by first | decide | omega)).trans (w_up_same _ _ _ _)))), ((w_up_at (by first | decide | omega)).trans ((w_up_at (by first | decide | omega)).trans (w_up_same _ _ _ _))), ((w_up_at (by first | decide | omega)).trans (w_up_same _ _ _ _)), (w_up_same _ _ _ _)⟩, ((w_up_at (by first | decide | omega)).trans ((w_up_at (by first | decide | omega)).trans ((w_up_at (by first | decide | omega)).trans ((w_up_at (by first | decide | omega)).trans (w_up_same _ _ _ _))))), (fun j x hj hk => ((w_up_no (by omega)).trans ((w_up_no (by omega)).trans ((w_up_no (by omega)).trans ((w_up_no (by omega)).trans (w_up_no (by omega)))))).trans (zf j x (by omega) hk)), w_ML_up (w_ML_up (w_ML_up (w_ML_up (w_ML_up (zM) (by first | decide | omega)) (by first | decide | omega)) (by first | decide | omega)) (by first | decide | omega)) (by first | decide | omega), _, zx, fun j x hj => ((w_up_no (by omega)).trans ((w_up_no (by omega)).trans ((w_up_no (by omega)).trans ((w_up_no (by omega)).trans (w_up_no (by omega))))))⟩
        · skip
          exact absurd c25 (by omega)
      · skip
        refine wa_iconst ?_
        refine wa_goto ⟨_, rfl⟩ ?_
        refine wa_istore_n (n := 3) rfl ?_
        refine wa_goto ⟨_, rfl⟩ ?_
        refine wa_aload_n (n := 0) rfl ?_
        refine wa_dup (by decide) ?_
        refine wb_gfi 237 rfl (wy_pr rfl) wt_237 wf_15_108 (v := (S 237 108)) (z108) (fun r30 => ?_)
        refine wa_iload_n (n := 3) rfl ?_
        refine wa_ifeq (w_rg0 (by omega) (by omega)) ⟨_, rfl⟩ (fun c31 => ?_) (fun c31 => ?_)
        · skip
          exact absurd c31 (by omega)
        · skip
          refine wa_iconst ?_
          refine wa_goto ⟨_, rfl⟩ ?_
          refine wa_iadd ?_
          refine wb_pfi 237 rfl (wy_pr rfl) wt_237 wf_15_108 (n := 108) rfl ⟨(by omega), (by omega)⟩ ?_
          refine wa_aload_n (n := 0) rfl ?_
          refine wa_aload_n (n := 0) rfl ?_
          refine wb_gf4 237 rfl (wy_pr rfl) wt_237 wf_15_157 (v := 377) wl_237_157 ?_
          refine wa_iload_n (n := 2) rfl ?_
          refine wb_iald 377 rfl (wy_pr rfl) wt_377 (n := 20000) ((w_up_slot (by decide)).trans ((ml_377 hM))) (by omega) (by omega) (v := (e.1)) ((w_up_slot (by decide)).trans (z77)) (fun r32 => ?_)
          refine wb_pfi 237 rfl (wy_pr rfl) wt_237 wf_15_166 (n := 166) rfl ⟨(by omega), (by omega)⟩ ?_
          refine wa_aload_n (n := 0) rfl ?_
          refine wa_aload_n (n := 0) rfl ?_
          refine wb_gf4 237 rfl (wy_pr rfl) wt_237 wf_15_160 (v := 380) wl_237_160 ?_
          refine wa_iload_n (n := 2) rfl ?_
          refine wb_iald 380 rfl (wy_pr rfl) wt_380 (n := 20000) ((w_up_slot (by decide)).trans ((w_up_slot (by decide)).trans ((ml_380 hM)))) (by omega) (by omega) (v := (e.2.2.2.1)) ((w_up_slot (by decide)).trans ((w_up_slot (by decide)).trans (z80))) (fun r33 => ?_)
          refine wb_pfi 237 rfl (wy_pr rfl) wt_237 wf_15_169 (n := 169) rfl ⟨(by omega), (by omega)⟩ ?_
          refine wa_aload_n (n := 0) rfl ?_
          refine wa_aload_n (n := 0) rfl ?_
          refine wb_gf4 237 rfl (wy_pr rfl) wt_237 wf_15_161 (v := 381) wl_237_161 ?_
          refine wa_iload_n (n := 2) rfl ?_
          refine wb_iald 381 rfl (wy_pr rfl) wt_381 (n := 20000) ((w_up_slot (by decide)).trans ((w_up_slot (by decide)).trans ((w_up_slot (by decide)).trans ((ml_381 hM))))) (by omega) (by omega) (v := (e.2.2.2.2.1)) ((w_up_slot (by decide)).trans ((w_up_slot (by decide)).trans ((w_up_slot (by decide)).trans (z81)))) (fun r34 => ?_)
          refine wb_pfi 237 rfl (wy_pr rfl) wt_237 wf_15_170 (n := 170) rfl ⟨(by omega), (by omega)⟩ ?_
          refine wa_aload_n (n := 0) rfl ?_
          refine wa_aload_n (n := 0) rfl ?_
          refine wb_gf4 237 rfl (wy_pr rfl) wt_237 wf_15_162 (v := 382) wl_237_162 ?_
          refine wa_iload_n (n := 2) rfl ?_
          refine wb_iald 382 rfl (wy_pr rfl) wt_382 (n := 20000) ((w_up_slot (by decide)).trans ((w_up_slot (by decide)).trans ((w_up_slot (by decide)).trans ((w_up_slot (by decide)).trans ((ml_382 hM)))))) (by omega) (by omega) (v := (e.2.2.2.2.2.1)) ((w_up_slot (by decide)).trans ((w_up_slot (by decide)).trans ((w_up_slot (by decide)).trans ((w_up_slot (by decide)).trans (z82))))) (fun r35 => ?_)
          refine wb_pfi 237 rfl (wy_pr rfl) wt_237 wf_15_171 (n := 171) rfl ⟨(by omega), (by omega)⟩ ?_
          refine wa_return rfl ?_
          have ea : (if h1 = e.2.2.2.1 ∧ w1 = e.2.2.2.2.1 ∧ t1 = e.2.2.2.2.2.1 then 0 else 1 : Int) = 0 := by first | exact if_pos (by omega) | exact if_neg (by omega)
          rw [ea]
          exact ⟨rfl, ⟨((w_up_at (by first | decide | omega)).trans ((w_up_at (by first | decide | omega)).trans ((w_up_at (by first | decide | omega)).trans (w_up_same _ _ _ _)))), ((w_up_at (by first | decide | omega)).trans ((w_up_at (by first | decide | omega)).trans (w_up_same _ _ _ _))), ((w_up_at (by first | decide | omega)).trans (w_up_same _ _ _ _)), (w_up_same _ _ _ _)⟩, ((w_up_at (by first | decide | omega)).trans ((w_up_at (by first | decide | omega)).trans ((w_up_at (by first | decide | omega)).trans ((w_up_at (by first | decide | omega)).trans (w_up_same _ _ _ _))))), (fun j x hj hk => ((w_up_no (by omega)).trans ((w_up_no (by omega)).trans ((w_up_no (by omega)).trans ((w_up_no (by omega)).trans (w_up_no (by omega)))))).trans (zf j x (by omega) hk)), w_ML_up (w_ML_up (w_ML_up (w_ML_up (w_ML_up (zM) (by first | decide | omega)) (by first | decide | omega)) (by first | decide | omega)) (by first | decide | omega)) (by first | decide | omega), _, zx, fun j x hj => ((w_up_no (by omega)).trans ((w_up_no (by omega)).trans ((w_up_no (by omega)).trans ((w_up_no (by omega)).trans (w_up_no (by omega))))))⟩
end Wlb0
section Wlb
variable {Sb : wS} {xs : List (Nat × List Int32)} {d : Nat} {S0 S Z : wS} {p w m : Nat} {HT : Int → Int} {cs : List hCR} {ms : List hMR} {os : Int → List Int} {X : List (List Int)} {mo t n B B2 oq : Int} {fa : Int → Int} {WE : aA → Prop} {A A2 : aA} {K2 : aK} {ml : List Nat} {k c s kd nms ne ec bh nm en : Int} {b ba : Nat} {ar : List aV} {e : aE} {V Z2 Y : wS} {o : wO} {dn : Int} {H2 : List aH} {N2 : List (List Int)} {E2 : Int → List aE} {C2 : List aQ} {W2 : Int} {c2 : Int → Int} {k2 : Int → Int → Int} {mk rk : Nat → Int → Prop} {K : aK} {T : List aO} {H : List aH} {E : Int → List aE} {gk gb es lo hi a : Int} {r : List aE × Int × Option aE} {A1 : aA} {tl cl : List Int} {sl : Nat → List Int} {L : List aC} {G : Int → aV} {u : aV}
theorem kHl_c {k : Int → Int → Int} {a pr : Int} : kHl (kHl k s 0 pr) s a 0 = kHl k s a pr := by
  funext q i
  unfold kHl fUp
  by_cases e : q = s
  · subst e
    by_cases e2 : i = 2
    · subst e2
      simp
    · by_cases e1 : i = 1
      · subst e1
        simp
      · simp [e1, e2]
  · simp [e]
theorem kHl_d {k : Int → Int → Int} {a pr : Int} : kHl (kHl k s a pr) s 0 0 = kHl k s a pr := by
  funext q i
  unfold kHl fUp
  by_cases e : q = s
  · subst e
    by_cases e2 : i = 2
    · subst e2
      simp
    · by_cases e1 : i = 1
      · subst e1
        simp
      · simp [e1, e2]
  · simp [e]
theorem u_H_c : u_H (u_H A s 0 r) s a ((fUp (a_E A) s r.1) s, 0, none) = u_H A s a r := by
  unfold u_H
  show (A.1, (a_T A, a_L A, a_G A, a_H A), (a_N A, fUp (fUp (a_E A) s r.1) s ((fUp (a_E A) s r.1) s)), A.2.2.2.1, (a_C A, a_W A), a_c A, kHl (kHl (a_k A) s 0 r.2.1) s a 0) = (A.1, (a_T A, a_L A, a_G A, a_H A), (a_N A, fUp (a_E A) s r.1), A.2.2.2.1, (a_C A, a_W A), a_c A, kHl (a_k A) s a r.2.1)
  rw [fUp_id, kHl_c]
/-- acting at a site: the reference -/
def rAct (xs : List (Nat × List Int32)) (d : Nat) (S0 : wS) (HT : Int → Int) (cs : List hCR) (ms : List hMR) (os : Int → List Int) (X : List (List Int)) (mo : Int) (t : Int) (A : aA) (K : aK) (s : Int) (ba : Nat) (bh en : Int) (e : aE) (c : Int) (A2 : aA) : Prop := ∀ {Sb : wS} (Y : wS), rRun S0 Sb HT cs ms os X mo t A Y → rAim t K ba bh en Y → (Y 237 166 = e.1 ∧ Y 237 169 = e.2.2.2.1 ∧ Y 237 170 = e.2.2.2.2.1 ∧ Y 237 171 = e.2.2.2.2.2.1) → wJ (pe_GA xs) wY0 (fun _ => False) (d + 90) t_M_acts ((pe_at t_M_acts.bl 0).getD (0, [])).2 [(0, (2, 237)), (1, (0, s))] [] Y (rOc S0 Sb HT cs ms os X mo t c A2)
/-- what looking again may change -/
def lhP (j : Nat) (x : Int) : Prop := ((352 ≤ j ∧ j ≤ 355) ∧ 0 ≤ x) ∨ (j = 237 ∧ (x = 122 ∨ x = 124 ∨ x = 126 ∨ x = 128)) ∨ (j = 238 ∧ (x = 5 ∨ x = 6)) ∨ chM j x
/-- an entry that holds: its lookup is done again, then it acts -/
theorem rh_of (ht : t = 0 ∨ t = 1) (hl : kLn (a_K A 0) ∧ kLn (a_K A 1)) (hK : a_K A t = K) (hs : 0 ≤ s ∧ s < 4000 ∧ s < S0 237 47) (hct : 0 ≤ a_k A s 1 ∧ a_k A s 1 ≤ 1000000) (hc19 : 0 ≤ a_c A 19 ∧ a_c A 19 ≤ 1000000) (hZ : rRun S0 Sb HT cs ms os X mo t (u_H A s 0 r) Z) (ha : rAim t K ba bh en Z) {hit : Int} (hh : 0 ≤ hit ∧ hit < 20000) (hec : rEc Z e hit) (hlk : ∀ {Sb : wS} (Y : wS), rRun S0 Sb HT cs ms os X mo t (u_H A s 1 r) Y → rAim t K ba bh en Y → wJ (pe_GA xs) wY0 (fun _ => False) (d + 89) t_M_looks ((pe_at t_M_looks.bl 0).getD (0, [])).2 [(0, (2, 237)), (1, (0, s)), (2, (0, 0))] [] Y (fun o Z => o = .inl none ∧ (Z 237 169 = e.2.2.2.1 ∧ Z 237 170 = e.2.2.2.2.1 ∧ Z 237 171 = e.2.2.2.2.2.1) ∧ (∀ (j : Nat) (x : Int), (j ≠ 237 ∨ x < 166 ∨ 172 < x) → ¬ lhP j x → Z j x = Y j x) ∧ rCh HT cs ms os (a_N A) (a_C A) (a_W A) mo Z)) (hact : rAct xs d S0 HT cs ms os X mo t (u_H A s 1 r) K s ba bh en e c A2) : rI15 xs d S0 Sb HT cs ms os X mo t s kd hit c A2 Z := fun el kk => by
  obtain ⟨c1, c2, c3, c4, c5, c6⟩ := hZ.1.2.2.2.2.2.2.2.1
  have s47 : Z 237 47 = S0 237 47 := (hZ.1.2.2.2.2.2.2.2.2 237 47 (by unfold rSta; omega)).trans (rBs_i (by omega))
  have k1 : Z 311 s = a_k A s 1 := by
    have z := (c5 s hs.1 (by omega)).2.1
    have q : a_k (u_H A s 0 r) s 1 = a_k A s 1 + 0 := kHl_1
    omega
  have c19 : Z 237 108 = a_c A 19 := c3
  have hM := hZ.1.1
  have e1 : ∀ (j : Nat) (x : Int), (j ≠ 311 ∨ x ≠ s) → (w_up Z 311 s (Z 311 s + 1)) j x = Z j x := fun j x h => w_up_no (by omega)
  have hMu : w_ML (w_up Z 311 s (Z 311 s + 1)) := w_ML_up hM (by omega)
  have hEs : rSe (w_up Z 311 s (Z 311 s + 1)) (fUp (a_E (u_H A s 0 r)) s ((fUp (a_E A) s r.1) s)) := by
    have z : rSe (w_up Z 311 s (Z 311 s + 1)) (a_E (u_H A s 0 r)) := rSe_ag hZ.1.2.2.2.2.1 (fun j x hj => e1 j x (by omega))
    have q : fUp (a_E (u_H A s 0 r)) s ((fUp (a_E A) s r.1) s) = a_E (u_H A s 0 r) := by
      show fUp (fUp (a_E A) s r.1) s ((fUp (a_E A) s r.1) s) = fUp (a_E A) s r.1
      rw [fUp_id]
    rw [q]
    exact z
  have hU : rRun S0 Sb HT cs ms os X mo t (u_H A s 1 r) (w_up Z 311 s (Z 311 s + 1)) := by
    have z := hl_R (s := s) (a := 1) (r := ((fUp (a_E A) s r.1) s, 0, none)) hZ ht hl hs.1 hMu (fun j x _ hm => e1 j x (by have : ¬ ((j = 311 ∨ j = 312) ∧ x = s) := fun q => hm (Or.inr (Or.inl q)); omega)) (rTk_e (rT_of hZ.1 ht) (fun j x hj => e1 j x (by omega))) hEs (rCh_ag hZ.1.2.2.2.2.2.2.1.1 (fun j x hj => e1 j x (by unfold chM at hj; omega))) (by rw [e1 312 s (by omega)]; show Z 312 s = Z 312 s + 0; omega) (w_up_same _ _ _ _)
    rw [u_H_c] at z
    exact z
  have haU : rAim t K ba bh en (w_up Z 311 s (Z 311 s + 1)) := by
    obtain ⟨⟨a1, a2⟩, a3, a4, a5, a6, a7⟩ := ha
    exact ⟨⟨(e1 237 154 (by omega)).trans a1, (e1 237 155 (by omega)).trans a2⟩, (e1 237 173 (by omega)).trans a3, (e1 237 174 (by omega)).trans a4, by rw [e1 237 175 (by omega), e1 364 _ (by omega)]; exact a5, (e1 237 176 (by omega)).trans a6, (e1 237 177 (by omega)).trans a7⟩
  refine ivh_ok (d := d + 81) hM ⟨hs.1, hs.2.1⟩ hh (by rw [k1]; exact hct) (fun o Z hz => by rcases hz with z | z; exact Or.inl z.1; exact Or.inr z.1) ?_
  refine wJ_mono (hit_lx (d := d + 81) (P := lhP) (PX := fun Z => rCh HT cs ms os (a_N A) (a_C A) (a_W A) mo Z) hMu ⟨hs.1, hs.2.1⟩ (e := e) (rw := hit) (h1 := e.2.2.2.1) (w1 := e.2.2.2.2.1) (t1 := e.2.2.2.2.2.1) ?_ hh (by rw [e1 237 108 (by omega), c19]; exact hc19) (fun j x hm => by unfold lhP chM at hm; omega) (hlk _ hU haU)) (fun o V hv => ?_)
  · obtain ⟨⟨x1, x2, x3, x4, x5, x6⟩, x7, x8, x9⟩ := hec
    exact ⟨⟨(e1 377 _ (by omega)).trans x1, (e1 378 _ (by omega)).trans x2, (e1 379 _ (by omega)).trans x3, (e1 380 _ (by omega)).trans x4, (e1 381 _ (by omega)).trans x5, (e1 382 _ (by omega)).trans x6⟩, (e1 383 _ (by omega)).trans x7, (e1 384 _ (by omega)).trans x8, (e1 385 _ (by omega)).trans x9⟩
  · obtain ⟨v1, v2, v3, v4, v5, Z1, v6, v7⟩ := hv
    rw [if_pos ⟨rfl, rfl, rfl⟩] at v3
    refine ⟨v1, hact V ?_ ?_ v2⟩
    · have vf : ∀ (j : Nat) (x : Int), (j ≠ 237 ∨ x < 166 ∨ 172 < x) → ¬ lhP j x → V j x = (w_up Z 311 s (Z 311 s + 1)) j x := fun j x h1 h2 => by
        by_cases q : j = 237 ∧ x = 108
        · rw [q.1, q.2]
          omega
        · exact v4 j x (by omega) h2
      have hF : rTm t (fun j x => (376 ≤ j ∧ j ≤ 385) ∨ ((j = 311 ∨ j = 312) ∧ x = s) ∨ chM j x) (w_up Z 311 s (Z 311 s + 1)) V := fun j x o hm => vf j x (by have := o.1; omega) (fun z => by have o1 := o.1; have o2 := o.2.1; have o4 := o.2.2.2.1; unfold lhP at z; rcases z with z | z | z | z; omega; omega; omega; exact hm (Or.inr (Or.inr z)))
      have nl : ∀ (j : Nat) (x : Int), (357 ≤ j ∧ j ≤ 375) ∨ (376 ≤ j ∧ j ≤ 385) ∨ (283 ≤ j ∧ j ≤ 285) ∨ (310 ≤ j ∧ j ≤ 313) ∨ (j = 237 ∧ (x = 19 ∨ x = 102 ∨ x = 47)) → V j x = (w_up Z 311 s (Z 311 s + 1)) j x := fun j x hj => vf j x (by omega) (fun z => by unfold lhP chM at z; omega)
      have hE2 : rSe V (fUp (a_E (u_H A s 1 r)) s ((fUp (a_E A) s r.1) s)) := by
        have z : rSe V (a_E (u_H A s 1 r)) := rSe_ag hU.1.2.2.2.2.1 (fun j x hj => nl j x (by omega))
        have q : fUp (a_E (u_H A s 1 r)) s ((fUp (a_E A) s r.1) s) = a_E (u_H A s 1 r) := by
          show fUp (fUp (a_E A) s r.1) s ((fUp (a_E A) s r.1) s) = fUp (a_E A) s r.1
          rw [fUp_id]
        rw [q]
        exact z
      have z := hl_R (s := s) (a := 0) (r := ((fUp (a_E A) s r.1) s, 0, none)) hU ht hl hs.1 v5 hF (rTk_e (rT_of hU.1 ht) (fun j x hj => nl j x (by omega))) hE2 (rCh_ag v6 (fun j x hj => v7 j x (by unfold chM at hj; omega))) (by rw [nl 312 s (by omega)]; show _ = _ + (0 : Int); omega) (by rw [nl 311 s (by omega)]; omega)
      have q : u_H (u_H A s 1 r) s 0 ((fUp (a_E A) s r.1) s, 0, none) = u_H A s 1 r := by
        unfold u_H
        show (A.1, (a_T A, a_L A, a_G A, a_H A), (a_N A, fUp (fUp (a_E A) s r.1) s ((fUp (a_E A) s r.1) s)), A.2.2.2.1, (a_C A, a_W A), a_c A, kHl (kHl (a_k A) s 1 r.2.1) s 0 0) = (A.1, (a_T A, a_L A, a_G A, a_H A), (a_N A, fUp (a_E A) s r.1), A.2.2.2.1, (a_C A, a_W A), a_c A, kHl (a_k A) s 1 r.2.1)
        rw [fUp_id, kHl_d]
      rw [q] at z
      exact z
    · obtain ⟨⟨a1, a2⟩, a3, a4, a5, a6, a7⟩ := haU
      have g : ∀ (j : Nat) (x : Int), (j = 237 ∧ ((154 ≤ x ∧ x ≤ 155) ∨ (173 ≤ x ∧ x ≤ 177))) ∨ j = 364 → V j x = (w_up Z 311 s (Z 311 s + 1)) j x := fun j x hj => v4 j x (by omega) (fun z => by unfold lhP chM at z; omega)
      exact ⟨⟨(g 237 154 (by omega)).trans a1, (g 237 155 (by omega)).trans a2⟩, (g 237 173 (by omega)).trans a3, (g 237 174 (by omega)).trans a4, by rw [g 237 175 (by omega), g 364 _ (by omega)]; exact a5, (g 237 176 (by omega)).trans a6, (g 237 177 (by omega)).trans a7⟩

end Wlb
