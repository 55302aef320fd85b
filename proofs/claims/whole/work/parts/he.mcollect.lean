/-! PART he: the reference: collects, collectsMakers, field. -/
section Whe
variable {xs : List (Nat × List Int32)} {M : Nat → Prop} {d : Nat} {S Z A : wS} {T : Int → Int} {n : Int} {cs : List hCR} {ms : List hMR} {os : Int → List Int} {Q : wO → wS → Prop}
def cdM (j : Nat) (x : Int) : Prop := (j = 355 ∧ 0 ≤ x) ∨ (j = 237 ∧ x = 128)
/-- the candidates -/
def cdI (acc : List Int) (S : wS) : Prop := S 237 128 = (acc.length : Int) ∧ (∀ i : Nat, i < acc.length → S 355 (i : Int) = acc.getD i 0) ∧ acc.length ≤ 400
theorem cdI_n {acc : List Int} {m : Int} (h : cdI acc A) (hl : acc.length < 400) : cdI (acc ++ [m]) (w_up (w_up A 355 (acc.length : Int) m) 237 128 ((acc.length : Int) + 1)) := by
  refine ⟨(w_up_same _ _ _ _).trans (by rw [List.length_append, List.length_singleton]; omega), fun i hi => ?_, by rw [List.length_append, List.length_singleton]; omega⟩
  rw [List.length_append, List.length_singleton] at hi
  by_cases c : i = acc.length
  · rw [c, getD_last]; exact (w_up_slot (by first | decide | omega)).trans (w_up_same _ _ _ _)
  · rw [getD_app (by omega)]; exact (w_up_slot (by first | decide | omega)).trans ((w_up_at (by omega)).trans (h.2.1 i (by omega)))
theorem cdI_ag {acc : List Int} (h : cdI acc S) (f : ∀ (j : Nat) (x : Int), cdM j x → Z j x = S j x) : cdI acc Z := ⟨(f 237 128 (Or.inr ⟨rfl, rfl⟩)).trans h.1, fun i hi => (f 355 (i : Int) (Or.inl ⟨rfl, by omega⟩)).trans (h.2.1 i hi), h.2.2⟩
theorem any_ts {l : List Int} {pb : Int → Bool} {q : Nat} (hq : q < l.length) (h : (l.take q).any pb = false) : (l.take (q + 1)).any pb = pb (l.getD q 0) := by
  rw [List.take_succ, List.any_append, h, Bool.false_or, List.getElem?_eq_getElem hq, List.getD_eq_getElem?_getD, List.getElem?_eq_getElem hq]
  exact Bool.or_false _
theorem any_tk {l : List Int} {pb : Int → Bool} {q : Nat} (h : (l.take q).any pb = true) : l.any pb = true := by
  obtain ⟨x, hx, hp⟩ := List.any_eq_true.mp h
  exact List.any_eq_true.mpr ⟨x, List.mem_of_mem_take hx, hp⟩
theorem rch_241 {c st pc o m : Int} {k : Nat} {acc : List Int} {is0 : Bool} (hMA : w_ML A) (hKA : KR 241 T n cs ms A) (hw : wHo cs ms os) (hm : 0 ≤ m ∧ m < (ms.length : Int)) (hac : cdI acc A) (hax : ∀ x ∈ acc, 0 ≤ x ∧ x < (ms.length : Int)) (hk9 : wJ (pe_GA xs) wY0 M (d + 2) t_M_collects ((pe_at t_M_collects.bl 9).getD (0, [])).2 [(0, (2, 237)), (1, (0, c)), (2, (0, st)), (3, (0, pc)), (4, (0, (k : Int))), (5, (0, o)), (6, (0, m)), (7, (0, bI (is0 && !(hidM ms acc m))))] [] A Q) : ∀ (f q : Nat) (v : Bool), acc.length - q < f → q ≤ acc.length → v = (is0 && !((acc.take q).any (fun q => decide ((hmR ms q).2.2.2.2.1 = (hmR ms m).2.2.2.2.1)))) → wJ (pe_GA xs) wY0 M (d + 2) t_M_collects ((pe_at t_M_collects.bl 6).getD (0, [])).2 [(0, (2, 237)), (1, (0, c)), (2, (0, st)), (3, (0, pc)), (4, (0, (k : Int))), (5, (0, o)), (6, (0, m)), (7, (0, bI v)), (8, (0, (q : Int)))] [] A Q := by
  have h13 : A 237 13 = 241 := hKA.1
  have h128 : A 237 128 = (acc.length : Int) := hac.1
  have hal := hac.2.2
  have h400 := hw.1.2
  intro f
  induction f with
  | zero => intro q v h; exact absurd h (Nat.not_lt_zero _)
  | succ f ih =>
    intro q v hf hq hv
    have hbv := bI_rg v
    refine wa_iload (n := 8) rfl ?_
    refine wa_aload_n (n := 0) rfl ?_
    refine wb_gfi 237 rfl (wy_pr rfl) wt_237 wf_15_128 (v := (acc.length : Int)) (h128) (fun r1 => ?_)
    refine wa_icmpge (w_rg0 (by omega) (by omega)) (w_rg0 (by omega) (by omega)) ⟨_, rfl⟩ (fun c2 => ?_) (fun c2 => ?_)
    · skip
      have he : (is0 && !(hidM ms acc m)) = v := by
        unfold hidM
        first | (rw [List.take_of_length_le (by omega)] at hv; exact hv.symm) | (have hv0 := bI_0 (b := v) (by omega); rw [hv0] at hv ⊢; revert hv; cases is0 with | false => intro _; rfl | true => intro hv; have z := any_tk (l := acc) (q := q) (pb := fun q => decide ((hmR ms q).2.2.2.2.1 = (hmR ms m).2.2.2.2.1)) (by revert hv; cases (acc.take q).any (fun q => decide ((hmR ms q).2.2.2.2.1 = (hmR ms m).2.2.2.2.1)) <;> intro hv; exact absurd hv (by first | decide | omega); rfl); rw [z]; rfl)
      rw [he] at hk9
      exact wJ_S hk9 ⟨rfl, rfl, rfl, rfl, rfl, rfl, rfl, rfl, trivial⟩
    · skip
      refine wa_iload (n := 7) rfl ?_
      refine wa_ifeq (w_rg0 (by omega) (by omega)) ⟨_, rfl⟩ (fun c3 => ?_) (fun c3 => ?_)
      · skip
        have he : (is0 && !(hidM ms acc m)) = v := by
          unfold hidM
          first | (rw [List.take_of_length_le (by omega)] at hv; exact hv.symm) | (have hv0 := bI_0 (b := v) (by omega); rw [hv0] at hv ⊢; revert hv; cases is0 with | false => intro _; rfl | true => intro hv; have z := any_tk (l := acc) (q := q) (pb := fun q => decide ((hmR ms q).2.2.2.2.1 = (hmR ms m).2.2.2.2.1)) (by revert hv; cases (acc.take q).any (fun q => decide ((hmR ms q).2.2.2.2.1 = (hmR ms m).2.2.2.2.1)) <;> intro hv; exact absurd hv (by first | decide | omega); rfl); rw [z]; rfl)
        rw [he] at hk9
        exact wJ_S hk9 ⟨rfl, rfl, rfl, rfl, rfl, rfl, rfl, rfl, trivial⟩
      · skip
        have h55 := hac.2.1 q (by omega)
        have hqm : acc.getD q 0 ∈ acc := by rw [List.getD_eq_getElem?_getD, List.getElem?_eq_getElem (show q < acc.length by omega)]; exact List.getElem_mem _
        have hqr := hax _ hqm
        have hv1 := bI_1 (b := v) (by omega)
        rw [hv1] at hv
        have hv2 := (Bool.and_eq_true _ _).mp hv.symm
        have hv3 : (acc.take q).any (fun q => decide ((hmR ms q).2.2.2.2.1 = (hmR ms m).2.2.2.2.1)) = false := by have z := hv2.2; revert z; cases (acc.take q).any (fun q => decide ((hmR ms q).2.2.2.2.1 = (hmR ms m).2.2.2.2.1)) <;> intro z; rfl; exact absurd z (by first | decide | omega)
        refine wa_aload_n (n := 0) rfl ?_
        refine wb_gf5 237 rfl (wy_pr rfl) wt_237 wf_15_13 (v := 241) (h13) (fun r4 => ?_)
        refine wa_aload_n (n := 0) rfl ?_
        refine wb_gf4 237 rfl (wy_pr rfl) wt_237 wf_15_129 (v := 355) wl_237_129 ?_
        refine wa_iload (n := 8) rfl ?_
        refine wb_iald 355 rfl (wy_pr rfl) wt_355 (n := 400) ((ml_355 hMA)) (by omega) (by omega) (v := (acc.getD q 0)) (h55) (fun r5 => ?_)
        refine wa_iload (n := 6) rfl ?_
        refine wa_cv 241 rfl (wy_pr rfl) wt_241 (M2 := fun _ => False) rfl at_MO_haveSameTypes ⟨_, rfl⟩ rfl rfl ⟨(Or.inr ⟨wy_pr rfl, fun q => q⟩), trivial, trivial, trivial, trivial, trivial, trivial, trivial, trivial, trivial⟩ trivial (fun _ _ q => False.elim q) (rhs_241 (S := A) (x := acc.getD q 0) (y := m) hMA hKA hw hqr hm) (fun oq6 Sq6 hp7 q6 => ?_)
        rcases q6 with ⟨rfl, rfl⟩
        show wJ _ _ _ _ _ _ _ _ _ _
        have hbs := bI_rg (decide ((hmR ms (acc.getD q 0)).2.2.2.2.1 = (hmR ms m).2.2.2.2.1))
        refine wa_ifne (w_rg0 (by omega) (by omega)) ⟨_, rfl⟩ (fun c8 => ?_) (fun c8 => ?_)
        · skip
          refine wa_iconst ?_
          refine wa_fall ⟨_, rfl⟩ ?_
          refine wa_istore (n := 7) rfl ?_
          refine wa_iinc rfl rfl ?_
          refine wa_goto ⟨_, rfl⟩ ?_
          have hdt := bI_1 (b := (decide ((hmR ms (acc.getD q 0)).2.2.2.2.1 = (hmR ms m).2.2.2.2.1))) (by omega)
          refine wJ_S (ih (q + 1) false (by omega) (by omega) (by rw [any_ts (by omega) hv3, hdt, Bool.not_true, Bool.and_false])) ⟨rfl, rfl, rfl, rfl, rfl, rfl, rfl, rfl, rfl, trivial⟩
        · skip
          refine wa_iconst ?_
          refine wa_goto ⟨_, rfl⟩ ?_
          refine wa_istore (n := 7) rfl ?_
          refine wa_iinc rfl rfl ?_
          refine wa_goto ⟨_, rfl⟩ ?_
          have hdt := bI_0 (b := (decide ((hmR ms (acc.getD q 0)).2.2.2.2.1 = (hmR ms m).2.2.2.2.1))) (by omega)
          refine wJ_S (ih (q + 1) true (by omega) (by omega) (by rw [any_ts (by omega) hv3, hdt, hv2.1]; rfl)) ⟨rfl, rfl, rfl, rfl, rfl, rfl, rfl, rfl, rfl, trivial⟩
theorem rci_241 {c st pc o e : Int} {k : Nat} {WW r F : List Int} (hM : w_ML S) (hK : KR 241 T n cs ms S) (hw : wHo cs ms os) (hst : st = 0 ∨ st = 1) (hpc : -1 ≤ pc ∧ pc ≤ 8) (hW : wtI WW S) (ho : 0 ≤ o ∧ o < (cs.length : Int)) (he : e = (hcR cs o).2.2.2.2.2.2.1 + (hcR cs o).2.2.2.2.2.2.2) (hk : k < 60) (hF : F.length ≤ 400) (hnx : ∀ (acc : List Int) (A : wS), cdI acc A → (∀ x ∈ acc, 0 ≤ x ∧ x < (ms.length : Int)) → (∀ (j : Nat) (x : Int), ¬ cdM j x → A j x = S j x) → cdA ms (okM T ms 1 st pc WW) acc r = F → wJ (pe_GA xs) wY0 M (d + 3) t_M_collects ((pe_at t_M_collects.bl 1).getD (0, [])).2 [(0, (2, 237)), (1, (0, c)), (2, (0, st)), (3, (0, pc)), (4, (0, ((k + 1 : Nat) : Int)))] [] A (fun o Z => o = .inl none ∧ cdI F Z ∧ ∀ (j : Nat) (x : Int), ¬ cdM j x → Z j x = S j x)) : ∀ (nn : Nat) (m : Int) (acc : List Int) (A : wS), cdI acc A → (∀ x ∈ acc, 0 ≤ x ∧ x < (ms.length : Int)) → (∀ (j : Nat) (x : Int), ¬ cdM j x → A j x = S j x) → m + (nn : Int) = e → 0 ≤ m → cdA ms (okM T ms 1 st pc WW) acc (ivl m nn ++ r) = F → wJ (pe_GA xs) wY0 M (d + 3) t_M_collects ((pe_at t_M_collects.bl 2).getD (0, [])).2 [(0, (2, 237)), (1, (0, c)), (2, (0, st)), (3, (0, pc)), (4, (0, (k : Int))), (5, (0, o)), (6, (0, m))] [] A (fun o Z => o = .inl none ∧ cdI F Z ∧ ∀ (j : Nat) (x : Int), ¬ cdM j x → Z j x = S j x) := by
  have h400 := hw.1
  have hco := hw.2.1 o ho.1 ho.2
  have hco1 := hco.2.1
  intro nn
  induction nn with
  | zero =>
    intro m acc A hac hax hfr hme hm0 hcF
    have hMA : w_ML A := ML_w hM hfr (fun j z => by unfold cdM at z; omega)
    have hKA : KR 241 T n cs ms A := KR_ag hK (fun j x hj => hfr j x (by unfold cdM; omega))
    have h13 : A 237 13 = 241 := hKA.1
    have hcc := KR_c hKA ho.1 ho.2
    have h7 : A 248 o = (hcR cs o).2.2.2.2.2.2.1 := hcc.2.2.2.2.1
    have h8 : A 249 o = (hcR cs o).2.2.2.2.2.2.2 := hcc.2.2.2.2.2
    refine wa_iload (n := 6) rfl ?_
    refine wa_aload_n (n := 0) rfl ?_
    refine wb_gf5 237 rfl (wy_pr rfl) wt_237 wf_15_13 (v := 241) (h13) (fun r1 => ?_)
    refine wb_gf4 241 rfl (wy_pr rfl) wt_241 wf_12_7 (v := 248) wl_241_7 ?_
    refine wa_iload (n := 5) rfl ?_
    refine wb_iald 248 rfl (wy_pr rfl) wt_248 (n := 60) ((ml_248 hMA)) (by omega) (by omega) (v := (hcR cs o).2.2.2.2.2.2.1) (h7) (fun r2 => ?_)
    refine wa_aload_n (n := 0) rfl ?_
    refine wb_gf5 237 rfl (wy_pr rfl) wt_237 wf_15_13 (v := 241) (h13) (fun r3 => ?_)
    refine wb_gf4 241 rfl (wy_pr rfl) wt_241 wf_12_8 (v := 249) wl_241_8 ?_
    refine wa_iload (n := 5) rfl ?_
    refine wb_iald 249 rfl (wy_pr rfl) wt_249 (n := 60) ((ml_249 hMA)) (by omega) (by omega) (v := (hcR cs o).2.2.2.2.2.2.2) (h8) (fun r4 => ?_)
    refine wa_iadd ?_
    refine wa_icmpge (w_rg0 (by omega) (by omega)) (w_rg0 (by omega) (by omega)) ⟨_, rfl⟩ (fun c5 => ?_) (fun c5 => ?_)
    · skip
      refine wa_iinc rfl rfl ?_
      refine wa_goto ⟨_, rfl⟩ ?_
      exact wJ_S (hnx acc A hac hax hfr hcF) ⟨rfl, rfl, rfl, rfl, rfl, trivial⟩
    · skip
      exfalso; omega
  | succ nn ih =>
    intro m acc A hac hax hfr hme hm0 hcF
    rw [ivl_s, List.cons_append] at hcF
    have hMA : w_ML A := ML_w hM hfr (fun j z => by unfold cdM at z; omega)
    have hKA : KR 241 T n cs ms A := KR_ag hK (fun j x hj => hfr j x (by unfold cdM; omega))
    have h13 : A 237 13 = 241 := hKA.1
    have hcc := KR_c hKA ho.1 ho.2
    have h7 : A 248 o = (hcR cs o).2.2.2.2.2.2.1 := hcc.2.2.2.2.1
    have h8 : A 249 o = (hcR cs o).2.2.2.2.2.2.2 := hcc.2.2.2.2.2
    have hmv : 0 ≤ m ∧ m < (ms.length : Int) := ⟨hm0, by omega⟩
    have eM := KR_m hKA (m := m) (by omega) (by omega)
    have eW := hw.2.2.2 m (by omega) (by omega)
    have e1 : A 253 m = (hmR ms m).2.1 := eM.1.2.1
    have e2 : A 254 m = (hmR ms m).2.2.1 := eM.1.2.2.1
    have e3 : A 255 m = (hmR ms m).2.2.2.1 := eM.1.2.2.2.1
    have e4 : A 256 m = ((hmR ms m).2.2.2.2.1.length : Int) := eM.2.1.1
    have e5 : A 257 m = (hmR ms m).2.2.2.2.2.1 := eM.2.1.2.1
    have ef : A 259 m = (hmR ms m).2.2.2.2.2.2.1 := eM.1.2.2.2.2.1
    have et : A 260 m = (hmR ms m).2.2.2.2.2.2.2 := eM.1.2.2.2.2.2
    have eq := eW.1.2.1
    have es := eW.1.2.2.1
    have ey := eW.1.2.2.2
    have ev := eW.2.1
    have el := eW.2.2.1
    have eft := hKA.2.2.2.2.2.2.1 m (by omega) (by omega)
    have hWA : wtI WW A := wtI_ag hW (fun j x hj => hfr j x (by unfold cdM; unfold wtM at hj; omega))
    have h128 : A 237 128 = (acc.length : Int) := hac.1
    obtain ⟨t9, ht9⟩ := cdA_pr (ms := ms) (okM T ms 1 st pc WW) (m :: (ivl (m + 1) nn ++ r)) acc
    rw [hcF] at ht9
    have hF9 : F.length = acc.length + t9.length := by rw [ht9, List.length_append]
    refine wa_iload (n := 6) rfl ?_
    refine wa_aload_n (n := 0) rfl ?_
    refine wb_gf5 237 rfl (wy_pr rfl) wt_237 wf_15_13 (v := 241) (h13) (fun r51 => ?_)
    refine wb_gf4 241 rfl (wy_pr rfl) wt_241 wf_12_7 (v := 248) wl_241_7 ?_
    refine wa_iload (n := 5) rfl ?_
    refine wb_iald 248 rfl (wy_pr rfl) wt_248 (n := 60) ((ml_248 hMA)) (by omega) (by omega) (v := (hcR cs o).2.2.2.2.2.2.1) (h7) (fun r52 => ?_)
    refine wa_aload_n (n := 0) rfl ?_
    refine wb_gf5 237 rfl (wy_pr rfl) wt_237 wf_15_13 (v := 241) (h13) (fun r53 => ?_)
    refine wb_gf4 241 rfl (wy_pr rfl) wt_241 wf_12_8 (v := 249) wl_241_8 ?_
    refine wa_iload (n := 5) rfl ?_
    refine wb_iald 249 rfl (wy_pr rfl) wt_249 (n := 60) ((ml_249 hMA)) (by omega) (by omega) (v := (hcR cs o).2.2.2.2.2.2.2) (h8) (fun r54 => ?_)
    refine wa_iadd ?_
    refine wa_icmpge (w_rg0 (by omega) (by omega)) (w_rg0 (by omega) (by omega)) ⟨_, rfl⟩ (fun c55 => ?_) (fun c55 => ?_)
    · skip
      exfalso; omega
    · skip
      refine wa_aload_n (n := 0) rfl ?_
      refine wb_gf5 237 rfl (wy_pr rfl) wt_237 wf_15_13 (v := 241) (h13) (fun r56 => ?_)
      refine wb_gf4 241 rfl (wy_pr rfl) wt_241 wf_12_13 (v := 253) wl_241_13 ?_
      refine wa_iload (n := 6) rfl ?_
      refine wb_iald 253 rfl (wy_pr rfl) wt_253 (n := 400) ((ml_253 hMA)) (by omega) (by omega) (v := (hmR ms m).2.1) (e1) (fun r57 => ?_)
      refine wa_iconst ?_
      refine wa_icmpne (w_rg0 (by omega) (by omega)) (w_rg0 (by omega) (by omega)) ⟨_, rfl⟩ (fun c58 => ?_) (fun c58 => ?_)
      · skip
        refine wa_iconst ?_
        refine wa_fall ⟨_, rfl⟩ ?_
        refine wa_istore (n := 7) rfl ?_
        refine wa_iconst ?_
        refine wa_istore (n := 8) rfl ?_
        refine wa_fall ⟨_, rfl⟩ ?_
        have his : (okM T ms 1 st pc WW) m = false := decide_eq_false (fun z => by have z1 := z.1; have z2 := z.2.1; have z3 := z.2.2.1; first | omega | (have z4 := bI_t (decide_eq_true z.2.2.2); omega))
        refine wJ_S (rch_241 (d := d + 1) (is0 := false) hMA hKA hw hmv hac hax ?_ (acc.length + 1) 0 false (by omega) (by omega) rfl) ⟨rfl, rfl, rfl, rfl, rfl, rfl, rfl, rfl, rfl, trivial⟩
        obtain ⟨bv, hbv⟩ : ∃ x : Bool, x = (false && !(hidM ms acc m)) := ⟨_, rfl⟩
        rw [← hbv]
        have hbr := bI_rg bv
        refine wa_iload (n := 7) rfl ?_
        refine wa_ifeq (w_rg0 (by omega) (by omega)) ⟨_, rfl⟩ (fun c159 => ?_) (fun c159 => ?_)
        · skip
          refine wa_iinc rfl rfl ?_
          refine wa_goto ⟨_, rfl⟩ ?_
          have hb0 := bI_0 (b := bv) (by omega)
          rw [hb0] at hbv
          have hno : ¬ ((okM T ms 1 st pc WW) m = true ∧ hidM ms acc m = false) := fun z => by rw [his] at z; exact absurd z.1 (by first | decide | omega)
          rw [cdA_q hno] at hcF
          exact wJ_S (ih (m + 1) acc A hac hax hfr (by omega) (by omega) hcF) ⟨rfl, rfl, rfl, rfl, rfl, rfl, rfl, trivial⟩
        · skip
          have hacl : acc.length < 400 := by have hb1 := bI_1 (b := bv) (by omega); rw [hb1, Bool.false_and] at hbv; exact absurd hbv (by first | decide | omega)
          refine wa_aload_n (n := 0) rfl ?_
          refine wb_gf4 237 rfl (wy_pr rfl) wt_237 wf_15_129 (v := 355) wl_237_129 ?_
          refine wa_aload_n (n := 0) rfl ?_
          refine wb_gfi 237 rfl (wy_pr rfl) wt_237 wf_15_128 (v := (acc.length : Int)) (h128) (fun r160 => ?_)
          refine wa_iload (n := 6) rfl ?_
          refine wb_iast 355 rfl (wy_pr rfl) wt_355 (n := 400) ((ml_355 hMA)) (by omega) (by omega) ⟨(by omega), (by omega)⟩ ?_
          refine wa_aload_n (n := 0) rfl ?_
          refine wa_dup (by decide) ?_
          refine wb_gfi 237 rfl (wy_pr rfl) wt_237 wf_15_128 (v := (acc.length : Int)) ((w_up_slot (by decide)).trans (h128)) (fun r161 => ?_)
          refine wa_iconst ?_
          refine wa_iadd ?_
          refine wb_pfi 237 rfl (wy_pr rfl) wt_237 wf_15_128 (n := 128) rfl ⟨(by omega), (by omega)⟩ ?_
          refine wa_fall ⟨_, rfl⟩ ?_
          refine wa_iinc rfl rfl ?_
          refine wa_goto ⟨_, rfl⟩ ?_
          have hb1 := bI_1 (b := bv) (by omega)
          rw [hb1] at hbv
          rw [Bool.false_and] at hbv; exact absurd hbv (by first | decide | omega)
      · skip
        refine wa_aload_n (n := 0) rfl ?_
        refine wb_gf5 237 rfl (wy_pr rfl) wt_237 wf_15_13 (v := 241) (h13) (fun r59 => ?_)
        refine wb_gf4 241 rfl (wy_pr rfl) wt_241 wf_12_14 (v := 254) wl_241_14 ?_
        refine wa_iload (n := 6) rfl ?_
        refine wb_zald 254 rfl (wy_pr rfl) wt_254 (n := 400) ((ml_254 hMA)) (by omega) (by omega) (v := (hmR ms m).2.2.1) (e2) (fun r60 => ?_)
        refine wa_iload_n (n := 2) rfl ?_
        refine wa_icmpne (w_rg0 (by omega) (by omega)) (w_rg0 (by omega) (by omega)) ⟨_, rfl⟩ (fun c61 => ?_) (fun c61 => ?_)
        · skip
          refine wa_iconst ?_
          refine wa_fall ⟨_, rfl⟩ ?_
          refine wa_istore (n := 7) rfl ?_
          refine wa_iconst ?_
          refine wa_istore (n := 8) rfl ?_
          refine wa_fall ⟨_, rfl⟩ ?_
          have his : (okM T ms 1 st pc WW) m = false := decide_eq_false (fun z => by have z1 := z.1; have z2 := z.2.1; have z3 := z.2.2.1; first | omega | (have z4 := bI_t (decide_eq_true z.2.2.2); omega))
          refine wJ_S (rch_241 (d := d + 1) (is0 := false) hMA hKA hw hmv hac hax ?_ (acc.length + 1) 0 false (by omega) (by omega) rfl) ⟨rfl, rfl, rfl, rfl, rfl, rfl, rfl, rfl, rfl, trivial⟩
          obtain ⟨bv, hbv⟩ : ∃ x : Bool, x = (false && !(hidM ms acc m)) := ⟨_, rfl⟩
          rw [← hbv]
          have hbr := bI_rg bv
          refine wa_iload (n := 7) rfl ?_
          refine wa_ifeq (w_rg0 (by omega) (by omega)) ⟨_, rfl⟩ (fun c162 => ?_) (fun c162 => ?_)
          · skip
            refine wa_iinc rfl rfl ?_
            refine wa_goto ⟨_, rfl⟩ ?_
            have hb0 := bI_0 (b := bv) (by omega)
            rw [hb0] at hbv
            have hno : ¬ ((okM T ms 1 st pc WW) m = true ∧ hidM ms acc m = false) := fun z => by rw [his] at z; exact absurd z.1 (by first | decide | omega)
            rw [cdA_q hno] at hcF
            exact wJ_S (ih (m + 1) acc A hac hax hfr (by omega) (by omega) hcF) ⟨rfl, rfl, rfl, rfl, rfl, rfl, rfl, trivial⟩
          · skip
            have hacl : acc.length < 400 := by have hb1 := bI_1 (b := bv) (by omega); rw [hb1, Bool.false_and] at hbv; exact absurd hbv (by first | decide | omega)
            refine wa_aload_n (n := 0) rfl ?_
            refine wb_gf4 237 rfl (wy_pr rfl) wt_237 wf_15_129 (v := 355) wl_237_129 ?_
            refine wa_aload_n (n := 0) rfl ?_
            refine wb_gfi 237 rfl (wy_pr rfl) wt_237 wf_15_128 (v := (acc.length : Int)) (h128) (fun r163 => ?_)
            refine wa_iload (n := 6) rfl ?_
            refine wb_iast 355 rfl (wy_pr rfl) wt_355 (n := 400) ((ml_355 hMA)) (by omega) (by omega) ⟨(by omega), (by omega)⟩ ?_
            refine wa_aload_n (n := 0) rfl ?_
            refine wa_dup (by decide) ?_
            refine wb_gfi 237 rfl (wy_pr rfl) wt_237 wf_15_128 (v := (acc.length : Int)) ((w_up_slot (by decide)).trans (h128)) (fun r164 => ?_)
            refine wa_iconst ?_
            refine wa_iadd ?_
            refine wb_pfi 237 rfl (wy_pr rfl) wt_237 wf_15_128 (n := 128) rfl ⟨(by omega), (by omega)⟩ ?_
            refine wa_fall ⟨_, rfl⟩ ?_
            refine wa_iinc rfl rfl ?_
            refine wa_goto ⟨_, rfl⟩ ?_
            have hb1 := bI_1 (b := bv) (by omega)
            rw [hb1] at hbv
            rw [Bool.false_and] at hbv; exact absurd hbv (by first | decide | omega)
        · skip
          refine wa_iload_n (n := 3) rfl ?_
          refine wa_iflt (w_rg0 (by omega) (by omega)) ⟨_, rfl⟩ (fun c62 => ?_) (fun c62 => ?_)
          · skip
            refine wa_aload_n (n := 0) rfl ?_
            refine wa_iload (n := 6) rfl ?_
            refine wa_cv 237 rfl (wy_pr rfl) wt_237 (M2 := fun _ => False) rfl at_M_isWanted ⟨_, rfl⟩ rfl rfl ⟨(Or.inr ⟨wy_pr rfl, fun q => q⟩), trivial, trivial, trivial, trivial, trivial, trivial, trivial⟩ trivial (fun _ _ q => False.elim q) (riw_241 (S := A) (m := m) (WW := WW) hMA hKA hw hmv hWA) (fun oq63 Sq63 hp64 q63 => ?_)
            rcases q63 with ⟨rfl, rfl⟩
            show wJ _ _ _ _ _ _ _ _ _ _
            have hbw := bI_rg (decide (nmR T (hmR ms m) = WW))
            refine wa_ifeq (w_rg0 (by omega) (by omega)) ⟨_, rfl⟩ (fun c65 => ?_) (fun c65 => ?_)
            · skip
              refine wa_iconst ?_
              refine wa_fall ⟨_, rfl⟩ ?_
              refine wa_istore (n := 7) rfl ?_
              refine wa_iconst ?_
              refine wa_istore (n := 8) rfl ?_
              refine wa_fall ⟨_, rfl⟩ ?_
              have his : (okM T ms 1 st pc WW) m = false := decide_eq_false (fun z => by have z1 := z.1; have z2 := z.2.1; have z3 := z.2.2.1; first | omega | (have z4 := bI_t (decide_eq_true z.2.2.2); omega))
              refine wJ_S (rch_241 (d := d + 1) (is0 := false) hMA hKA hw hmv hac hax ?_ (acc.length + 1) 0 false (by omega) (by omega) rfl) ⟨rfl, rfl, rfl, rfl, rfl, rfl, rfl, rfl, rfl, trivial⟩
              obtain ⟨bv, hbv⟩ : ∃ x : Bool, x = (false && !(hidM ms acc m)) := ⟨_, rfl⟩
              rw [← hbv]
              have hbr := bI_rg bv
              refine wa_iload (n := 7) rfl ?_
              refine wa_ifeq (w_rg0 (by omega) (by omega)) ⟨_, rfl⟩ (fun c166 => ?_) (fun c166 => ?_)
              · skip
                refine wa_iinc rfl rfl ?_
                refine wa_goto ⟨_, rfl⟩ ?_
                have hb0 := bI_0 (b := bv) (by omega)
                rw [hb0] at hbv
                have hno : ¬ ((okM T ms 1 st pc WW) m = true ∧ hidM ms acc m = false) := fun z => by rw [his] at z; exact absurd z.1 (by first | decide | omega)
                rw [cdA_q hno] at hcF
                exact wJ_S (ih (m + 1) acc A hac hax hfr (by omega) (by omega) hcF) ⟨rfl, rfl, rfl, rfl, rfl, rfl, rfl, trivial⟩
              · skip
                have hacl : acc.length < 400 := by have hb1 := bI_1 (b := bv) (by omega); rw [hb1, Bool.false_and] at hbv; exact absurd hbv (by first | decide | omega)
                refine wa_aload_n (n := 0) rfl ?_
                refine wb_gf4 237 rfl (wy_pr rfl) wt_237 wf_15_129 (v := 355) wl_237_129 ?_
                refine wa_aload_n (n := 0) rfl ?_
                refine wb_gfi 237 rfl (wy_pr rfl) wt_237 wf_15_128 (v := (acc.length : Int)) (h128) (fun r167 => ?_)
                refine wa_iload (n := 6) rfl ?_
                refine wb_iast 355 rfl (wy_pr rfl) wt_355 (n := 400) ((ml_355 hMA)) (by omega) (by omega) ⟨(by omega), (by omega)⟩ ?_
                refine wa_aload_n (n := 0) rfl ?_
                refine wa_dup (by decide) ?_
                refine wb_gfi 237 rfl (wy_pr rfl) wt_237 wf_15_128 (v := (acc.length : Int)) ((w_up_slot (by decide)).trans (h128)) (fun r168 => ?_)
                refine wa_iconst ?_
                refine wa_iadd ?_
                refine wb_pfi 237 rfl (wy_pr rfl) wt_237 wf_15_128 (n := 128) rfl ⟨(by omega), (by omega)⟩ ?_
                refine wa_fall ⟨_, rfl⟩ ?_
                refine wa_iinc rfl rfl ?_
                refine wa_goto ⟨_, rfl⟩ ?_
                have hb1 := bI_1 (b := bv) (by omega)
                rw [hb1] at hbv
                rw [Bool.false_and] at hbv; exact absurd hbv (by first | decide | omega)
            · skip
              refine wa_iconst ?_
              refine wa_goto ⟨_, rfl⟩ ?_
              refine wa_istore (n := 7) rfl ?_
              refine wa_iconst ?_
              refine wa_istore (n := 8) rfl ?_
              refine wa_fall ⟨_, rfl⟩ ?_
              have his : (okM T ms 1 st pc WW) m = true := decide_eq_true ⟨by omega, by omega, by omega, of_decide_eq_true (bI_1 (by omega))⟩
              refine wJ_S (rch_241 (d := d + 1) (is0 := true) hMA hKA hw hmv hac hax ?_ (acc.length + 1) 0 true (by omega) (by omega) rfl) ⟨rfl, rfl, rfl, rfl, rfl, rfl, rfl, rfl, rfl, trivial⟩
              obtain ⟨bv, hbv⟩ : ∃ x : Bool, x = (true && !(hidM ms acc m)) := ⟨_, rfl⟩
              rw [← hbv]
              have hbr := bI_rg bv
              refine wa_iload (n := 7) rfl ?_
              refine wa_ifeq (w_rg0 (by omega) (by omega)) ⟨_, rfl⟩ (fun c166 => ?_) (fun c166 => ?_)
              · skip
                refine wa_iinc rfl rfl ?_
                refine wa_goto ⟨_, rfl⟩ ?_
                have hb0 := bI_0 (b := bv) (by omega)
                rw [hb0] at hbv
                have hno : ¬ ((okM T ms 1 st pc WW) m = true ∧ hidM ms acc m = false) := fun z => by rw [z.2] at hbv; exact absurd hbv (by first | decide | omega)
                rw [cdA_q hno] at hcF
                exact wJ_S (ih (m + 1) acc A hac hax hfr (by omega) (by omega) hcF) ⟨rfl, rfl, rfl, rfl, rfl, rfl, rfl, trivial⟩
              · skip
                have hacl : acc.length < 400 := by have hb1 := bI_1 (b := bv) (by omega); rw [hb1] at hbv; have hhd : hidM ms acc m = false := (by revert hbv; cases hidM ms acc m <;> intro hbv; rfl; exact absurd hbv (by first | decide | omega)); rw [cdA_p his hhd] at hcF; obtain ⟨t8, ht8⟩ := cdA_pr (ms := ms) (okM T ms 1 st pc WW) (ivl (m + 1) nn ++ r) (acc ++ [m]); rw [hcF] at ht8; have z := congrArg List.length ht8; rw [List.length_append, List.length_append, List.length_singleton] at z; omega
                refine wa_aload_n (n := 0) rfl ?_
                refine wb_gf4 237 rfl (wy_pr rfl) wt_237 wf_15_129 (v := 355) wl_237_129 ?_
                refine wa_aload_n (n := 0) rfl ?_
                refine wb_gfi 237 rfl (wy_pr rfl) wt_237 wf_15_128 (v := (acc.length : Int)) (h128) (fun r167 => ?_)
                refine wa_iload (n := 6) rfl ?_
                refine wb_iast 355 rfl (wy_pr rfl) wt_355 (n := 400) ((ml_355 hMA)) (by omega) (by omega) ⟨(by omega), (by omega)⟩ ?_
                refine wa_aload_n (n := 0) rfl ?_
                refine wa_dup (by decide) ?_
                refine wb_gfi 237 rfl (wy_pr rfl) wt_237 wf_15_128 (v := (acc.length : Int)) ((w_up_slot (by decide)).trans (h128)) (fun r168 => ?_)
                refine wa_iconst ?_
                refine wa_iadd ?_
                refine wb_pfi 237 rfl (wy_pr rfl) wt_237 wf_15_128 (n := 128) rfl ⟨(by omega), (by omega)⟩ ?_
                refine wa_fall ⟨_, rfl⟩ ?_
                refine wa_iinc rfl rfl ?_
                refine wa_goto ⟨_, rfl⟩ ?_
                have hb1 := bI_1 (b := bv) (by omega)
                rw [hb1] at hbv
                have hhd : hidM ms acc m = false := by revert hbv; cases hidM ms acc m <;> intro hbv; rfl; exact absurd hbv (by first | decide | omega)
                rw [cdA_p his hhd] at hcF
                exact wJ_S (ih (m + 1) (acc ++ [m]) _ (cdI_n (m := m) hac (by omega)) (fun x hx => by rcases List.mem_append.mp hx with y | y; exact hax x y; rw [List.mem_singleton.mp y]; exact hmv) (fun j x hj => (w_up_no (by unfold cdM at hj; omega)).trans ((w_up_no (by unfold cdM at hj; omega)).trans (hfr j x hj))) (by omega) (by omega) hcF) ⟨rfl, rfl, rfl, rfl, rfl, rfl, rfl, trivial⟩
          · skip
            refine wa_aload_n (n := 0) rfl ?_
            refine wb_gf5 237 rfl (wy_pr rfl) wt_237 wf_15_13 (v := 241) (h13) (fun r66 => ?_)
            refine wb_gf4 241 rfl (wy_pr rfl) wt_241 wf_12_16 (v := 256) wl_241_16 ?_
            refine wa_iload (n := 6) rfl ?_
            refine wb_iald 256 rfl (wy_pr rfl) wt_256 (n := 400) ((ml_256 hMA)) (by omega) (by omega) (v := ((hmR ms m).2.2.2.2.1.length : Int)) (e4) (fun r67 => ?_)
            refine wa_iload_n (n := 3) rfl ?_
            refine wa_icmpne (w_rg0 (by omega) (by omega)) (w_rg0 (by omega) (by omega)) ⟨_, rfl⟩ (fun c68 => ?_) (fun c68 => ?_)
            · skip
              refine wa_iconst ?_
              refine wa_fall ⟨_, rfl⟩ ?_
              refine wa_istore (n := 7) rfl ?_
              refine wa_iconst ?_
              refine wa_istore (n := 8) rfl ?_
              refine wa_fall ⟨_, rfl⟩ ?_
              have his : (okM T ms 1 st pc WW) m = false := decide_eq_false (fun z => by have z1 := z.1; have z2 := z.2.1; have z3 := z.2.2.1; first | omega | (have z4 := bI_t (decide_eq_true z.2.2.2); omega))
              refine wJ_S (rch_241 (d := d + 1) (is0 := false) hMA hKA hw hmv hac hax ?_ (acc.length + 1) 0 false (by omega) (by omega) rfl) ⟨rfl, rfl, rfl, rfl, rfl, rfl, rfl, rfl, rfl, trivial⟩
              obtain ⟨bv, hbv⟩ : ∃ x : Bool, x = (false && !(hidM ms acc m)) := ⟨_, rfl⟩
              rw [← hbv]
              have hbr := bI_rg bv
              refine wa_iload (n := 7) rfl ?_
              refine wa_ifeq (w_rg0 (by omega) (by omega)) ⟨_, rfl⟩ (fun c169 => ?_) (fun c169 => ?_)
              · skip
                refine wa_iinc rfl rfl ?_
                refine wa_goto ⟨_, rfl⟩ ?_
                have hb0 := bI_0 (b := bv) (by omega)
                rw [hb0] at hbv
                have hno : ¬ ((okM T ms 1 st pc WW) m = true ∧ hidM ms acc m = false) := fun z => by rw [his] at z; exact absurd z.1 (by first | decide | omega)
                rw [cdA_q hno] at hcF
                exact wJ_S (ih (m + 1) acc A hac hax hfr (by omega) (by omega) hcF) ⟨rfl, rfl, rfl, rfl, rfl, rfl, rfl, trivial⟩
              · skip
                have hacl : acc.length < 400 := by have hb1 := bI_1 (b := bv) (by omega); rw [hb1, Bool.false_and] at hbv; exact absurd hbv (by first | decide | omega)
                refine wa_aload_n (n := 0) rfl ?_
                refine wb_gf4 237 rfl (wy_pr rfl) wt_237 wf_15_129 (v := 355) wl_237_129 ?_
                refine wa_aload_n (n := 0) rfl ?_
                refine wb_gfi 237 rfl (wy_pr rfl) wt_237 wf_15_128 (v := (acc.length : Int)) (h128) (fun r170 => ?_)
                refine wa_iload (n := 6) rfl ?_
                refine wb_iast 355 rfl (wy_pr rfl) wt_355 (n := 400) ((ml_355 hMA)) (by omega) (by omega) ⟨(by omega), (by omega)⟩ ?_
                refine wa_aload_n (n := 0) rfl ?_
                refine wa_dup (by decide) ?_
                refine wb_gfi 237 rfl (wy_pr rfl) wt_237 wf_15_128 (v := (acc.length : Int)) ((w_up_slot (by decide)).trans (h128)) (fun r171 => ?_)
                refine wa_iconst ?_
                refine wa_iadd ?_
                refine wb_pfi 237 rfl (wy_pr rfl) wt_237 wf_15_128 (n := 128) rfl ⟨(by omega), (by omega)⟩ ?_
                refine wa_fall ⟨_, rfl⟩ ?_
                refine wa_iinc rfl rfl ?_
                refine wa_goto ⟨_, rfl⟩ ?_
                have hb1 := bI_1 (b := bv) (by omega)
                rw [hb1] at hbv
                rw [Bool.false_and] at hbv; exact absurd hbv (by first | decide | omega)
            · skip
              refine wa_fall ⟨_, rfl⟩ ?_
              refine wa_aload_n (n := 0) rfl ?_
              refine wa_iload (n := 6) rfl ?_
              refine wa_cv 237 rfl (wy_pr rfl) wt_237 (M2 := fun _ => False) rfl at_M_isWanted ⟨_, rfl⟩ rfl rfl ⟨(Or.inr ⟨wy_pr rfl, fun q => q⟩), trivial, trivial, trivial, trivial, trivial, trivial, trivial⟩ trivial (fun _ _ q => False.elim q) (riw_241 (S := A) (m := m) (WW := WW) hMA hKA hw hmv hWA) (fun oq69 Sq69 hp70 q69 => ?_)
              rcases q69 with ⟨rfl, rfl⟩
              show wJ _ _ _ _ _ _ _ _ _ _
              have hbw := bI_rg (decide (nmR T (hmR ms m) = WW))
              refine wa_ifeq (w_rg0 (by omega) (by omega)) ⟨_, rfl⟩ (fun c71 => ?_) (fun c71 => ?_)
              · skip
                refine wa_iconst ?_
                refine wa_fall ⟨_, rfl⟩ ?_
                refine wa_istore (n := 7) rfl ?_
                refine wa_iconst ?_
                refine wa_istore (n := 8) rfl ?_
                refine wa_fall ⟨_, rfl⟩ ?_
                have his : (okM T ms 1 st pc WW) m = false := decide_eq_false (fun z => by have z1 := z.1; have z2 := z.2.1; have z3 := z.2.2.1; first | omega | (have z4 := bI_t (decide_eq_true z.2.2.2); omega))
                refine wJ_S (rch_241 (d := d + 1) (is0 := false) hMA hKA hw hmv hac hax ?_ (acc.length + 1) 0 false (by omega) (by omega) rfl) ⟨rfl, rfl, rfl, rfl, rfl, rfl, rfl, rfl, rfl, trivial⟩
                obtain ⟨bv, hbv⟩ : ∃ x : Bool, x = (false && !(hidM ms acc m)) := ⟨_, rfl⟩
                rw [← hbv]
                have hbr := bI_rg bv
                refine wa_iload (n := 7) rfl ?_
                refine wa_ifeq (w_rg0 (by omega) (by omega)) ⟨_, rfl⟩ (fun c172 => ?_) (fun c172 => ?_)
                · skip
                  refine wa_iinc rfl rfl ?_
                  refine wa_goto ⟨_, rfl⟩ ?_
                  have hb0 := bI_0 (b := bv) (by omega)
                  rw [hb0] at hbv
                  have hno : ¬ ((okM T ms 1 st pc WW) m = true ∧ hidM ms acc m = false) := fun z => by rw [his] at z; exact absurd z.1 (by first | decide | omega)
                  rw [cdA_q hno] at hcF
                  exact wJ_S (ih (m + 1) acc A hac hax hfr (by omega) (by omega) hcF) ⟨rfl, rfl, rfl, rfl, rfl, rfl, rfl, trivial⟩
                · skip
                  have hacl : acc.length < 400 := by have hb1 := bI_1 (b := bv) (by omega); rw [hb1, Bool.false_and] at hbv; exact absurd hbv (by first | decide | omega)
                  refine wa_aload_n (n := 0) rfl ?_
                  refine wb_gf4 237 rfl (wy_pr rfl) wt_237 wf_15_129 (v := 355) wl_237_129 ?_
                  refine wa_aload_n (n := 0) rfl ?_
                  refine wb_gfi 237 rfl (wy_pr rfl) wt_237 wf_15_128 (v := (acc.length : Int)) (h128) (fun r173 => ?_)
                  refine wa_iload (n := 6) rfl ?_
                  refine wb_iast 355 rfl (wy_pr rfl) wt_355 (n := 400) ((ml_355 hMA)) (by omega) (by omega) ⟨(by omega), (by omega)⟩ ?_
                  refine wa_aload_n (n := 0) rfl ?_
                  refine wa_dup (by decide) ?_
                  refine wb_gfi 237 rfl (wy_pr rfl) wt_237 wf_15_128 (v := (acc.length : Int)) ((w_up_slot (by decide)).trans (h128)) (fun r174 => ?_)
                  refine wa_iconst ?_
                  refine wa_iadd ?_
                  refine wb_pfi 237 rfl (wy_pr rfl) wt_237 wf_15_128 (n := 128) rfl ⟨(by omega), (by omega)⟩ ?_
                  refine wa_fall ⟨_, rfl⟩ ?_
                  refine wa_iinc rfl rfl ?_
                  refine wa_goto ⟨_, rfl⟩ ?_
                  have hb1 := bI_1 (b := bv) (by omega)
                  rw [hb1] at hbv
                  rw [Bool.false_and] at hbv; exact absurd hbv (by first | decide | omega)
              · skip
                refine wa_iconst ?_
                refine wa_goto ⟨_, rfl⟩ ?_
                refine wa_istore (n := 7) rfl ?_
                refine wa_iconst ?_
                refine wa_istore (n := 8) rfl ?_
                refine wa_fall ⟨_, rfl⟩ ?_
                have his : (okM T ms 1 st pc WW) m = true := decide_eq_true ⟨by omega, by omega, by omega, of_decide_eq_true (bI_1 (by omega))⟩
                refine wJ_S (rch_241 (d := d + 1) (is0 := true) hMA hKA hw hmv hac hax ?_ (acc.length + 1) 0 true (by omega) (by omega) rfl) ⟨rfl, rfl, rfl, rfl, rfl, rfl, rfl, rfl, rfl, trivial⟩
                obtain ⟨bv, hbv⟩ : ∃ x : Bool, x = (true && !(hidM ms acc m)) := ⟨_, rfl⟩
                rw [← hbv]
                have hbr := bI_rg bv
                refine wa_iload (n := 7) rfl ?_
                refine wa_ifeq (w_rg0 (by omega) (by omega)) ⟨_, rfl⟩ (fun c172 => ?_) (fun c172 => ?_)
                · skip
                  refine wa_iinc rfl rfl ?_
                  refine wa_goto ⟨_, rfl⟩ ?_
                  have hb0 := bI_0 (b := bv) (by omega)
                  rw [hb0] at hbv
                  have hno : ¬ ((okM T ms 1 st pc WW) m = true ∧ hidM ms acc m = false) := fun z => by rw [z.2] at hbv; exact absurd hbv (by first | decide | omega)
                  rw [cdA_q hno] at hcF
                  exact wJ_S (ih (m + 1) acc A hac hax hfr (by omega) (by omega) hcF) ⟨rfl, rfl, rfl, rfl, rfl, rfl, rfl, trivial⟩
                · skip
                  have hacl : acc.length < 400 := by have hb1 := bI_1 (b := bv) (by omega); rw [hb1] at hbv; have hhd : hidM ms acc m = false := (by revert hbv; cases hidM ms acc m <;> intro hbv; rfl; exact absurd hbv (by first | decide | omega)); rw [cdA_p his hhd] at hcF; obtain ⟨t8, ht8⟩ := cdA_pr (ms := ms) (okM T ms 1 st pc WW) (ivl (m + 1) nn ++ r) (acc ++ [m]); rw [hcF] at ht8; have z := congrArg List.length ht8; rw [List.length_append, List.length_append, List.length_singleton] at z; omega
                  refine wa_aload_n (n := 0) rfl ?_
                  refine wb_gf4 237 rfl (wy_pr rfl) wt_237 wf_15_129 (v := 355) wl_237_129 ?_
                  refine wa_aload_n (n := 0) rfl ?_
                  refine wb_gfi 237 rfl (wy_pr rfl) wt_237 wf_15_128 (v := (acc.length : Int)) (h128) (fun r173 => ?_)
                  refine wa_iload (n := 6) rfl ?_
                  refine wb_iast 355 rfl (wy_pr rfl) wt_355 (n := 400) ((ml_355 hMA)) (by omega) (by omega) ⟨(by omega), (by omega)⟩ ?_
                  refine wa_aload_n (n := 0) rfl ?_
                  refine wa_dup (by decide) ?_
                  refine wb_gfi 237 rfl (wy_pr rfl) wt_237 wf_15_128 (v := (acc.length : Int)) ((w_up_slot (by decide)).trans (h128)) (fun r174 => ?_)
                  refine wa_iconst ?_
                  refine wa_iadd ?_
                  refine wb_pfi 237 rfl (wy_pr rfl) wt_237 wf_15_128 (n := 128) rfl ⟨(by omega), (by omega)⟩ ?_
                  refine wa_fall ⟨_, rfl⟩ ?_
                  refine wa_iinc rfl rfl ?_
                  refine wa_goto ⟨_, rfl⟩ ?_
                  have hb1 := bI_1 (b := bv) (by omega)
                  rw [hb1] at hbv
                  have hhd : hidM ms acc m = false := by revert hbv; cases hidM ms acc m <;> intro hbv; rfl; exact absurd hbv (by first | decide | omega)
                  rw [cdA_p his hhd] at hcF
                  exact wJ_S (ih (m + 1) (acc ++ [m]) _ (cdI_n (m := m) hac (by omega)) (fun x hx => by rcases List.mem_append.mp hx with y | y; exact hax x y; rw [List.mem_singleton.mp y]; exact hmv) (fun j x hj => (w_up_no (by unfold cdM at hj; omega)).trans ((w_up_no (by unfold cdM at hj; omega)).trans (hfr j x hj))) (by omega) (by omega) hcF) ⟨rfl, rfl, rfl, rfl, rfl, rfl, rfl, trivial⟩
theorem rcu_241 {c st pc : Int} {WW F lo : List Int} (hM : w_ML S) (hK : KR 241 T n cs ms S) (hw : wHo cs ms os) (hst : st = 0 ∨ st = 1) (hpc : -1 ≤ pc ∧ pc ≤ 8) (hW : wtI WW S) (hlo : odI lo S) (hlr : ∀ o ∈ lo, 0 ≤ o ∧ o < (cs.length : Int)) (hF : F.length ≤ 400) : ∀ (r : List Int) (k : Nat) (acc : List Int) (A : wS), r = lo.drop k → k ≤ lo.length → cdI acc A → (∀ x ∈ acc, 0 ≤ x ∧ x < (ms.length : Int)) → (∀ (j : Nat) (x : Int), ¬ cdM j x → A j x = S j x) → cdA ms (okM T ms 1 st pc WW) acc (mOr cs r) = F → wJ (pe_GA xs) wY0 M (d + 3) t_M_collects ((pe_at t_M_collects.bl 1).getD (0, [])).2 [(0, (2, 237)), (1, (0, c)), (2, (0, st)), (3, (0, pc)), (4, (0, (k : Int)))] [] A (fun o Z => o = .inl none ∧ cdI F Z ∧ ∀ (j : Nat) (x : Int), ¬ cdM j x → Z j x = S j x) := by
  have h400 := hw.1
  have hll : (lo.length : Int) ≤ 60 := su_nd_len (by first | decide | omega) hlo.2.2
  intro r
  induction r with
  | nil =>
    intro k acc A hr hkl hac hax hfr hcF
    have hk : lo.length ≤ k := by
      have z := congrArg List.length hr
      rw [List.length_drop] at z
      have z2 : 0 = lo.length - k := z
      omega
    have h124 : A 237 124 = (lo.length : Int) := (hfr 237 124 (by unfold cdM; omega)).trans hlo.1
    refine wa_iload (n := 4) rfl ?_
    refine wa_aload_n (n := 0) rfl ?_
    refine wb_gfi 237 rfl (wy_pr rfl) wt_237 wf_15_124 (v := (lo.length : Int)) (h124) (fun r1 => ?_)
    refine wa_icmpge (w_rg0 (by omega) (by omega)) (w_rg0 (by omega) (by omega)) ⟨_, rfl⟩ (fun c2 => ?_) (fun c2 => ?_)
    · skip
      refine wa_return rfl ?_
      exact ⟨rfl, by rw [← hcF]; exact hac, hfr⟩
    · skip
      exfalso; omega
  | cons s r ih =>
    intro k acc A hr hkl hac hax hfr hcF
    have hk : k < lo.length := by
      have z := congrArg List.length hr
      rw [List.length_drop, List.length_cons] at z
      omega
    have hMA : w_ML A := ML_w hM hfr (fun j z => by unfold cdM at z; omega)
    have hKA : KR 241 T n cs ms A := KR_ag hK (fun j x hj => hfr j x (by unfold cdM; omega))
    have h13 : A 237 13 = 241 := hKA.1
    have h124 : A 237 124 = (lo.length : Int) := (hfr 237 124 (by unfold cdM; omega)).trans hlo.1
    have hdr := List.drop_eq_getElem_cons hk
    rw [← hr] at hdr
    have hs1 : lo[k] = s := (List.cons.inj hdr).1.symm
    have hr2 : r = lo.drop (k + 1) := (List.cons.inj hdr).2
    have hsr := hlr s (by rw [← hs1]; exact List.getElem_mem hk)
    have h53 : A 353 (k : Int) = s := (hfr 353 _ (by unfold cdM; omega)).trans ((hlo.2.1 k hk).trans (by rw [List.getD_eq_getElem?_getD, List.getElem?_eq_getElem hk]; exact hs1))
    have hcc := KR_c hKA hsr.1 hsr.2
    have h7 : A 248 s = (hcR cs s).2.2.2.2.2.2.1 := hcc.2.2.2.2.1
    have hcs := (hw.2.1 s hsr.1 hsr.2).2.1
    rw [mOr_c] at hcF
    refine wa_iload (n := 4) rfl ?_
    refine wa_aload_n (n := 0) rfl ?_
    refine wb_gfi 237 rfl (wy_pr rfl) wt_237 wf_15_124 (v := (lo.length : Int)) (h124) (fun r51 => ?_)
    refine wa_icmpge (w_rg0 (by omega) (by omega)) (w_rg0 (by omega) (by omega)) ⟨_, rfl⟩ (fun c52 => ?_) (fun c52 => ?_)
    · skip
      exfalso; omega
    · skip
      refine wa_aload_n (n := 0) rfl ?_
      refine wb_gf4 237 rfl (wy_pr rfl) wt_237 wf_15_125 (v := 353) wl_237_125 ?_
      refine wa_iload (n := 4) rfl ?_
      refine wb_iald 353 rfl (wy_pr rfl) wt_353 (n := 60) ((ml_353 hMA)) (by omega) (by omega) (v := s) (h53) (fun r53 => ?_)
      refine wa_istore (n := 5) rfl ?_
      refine wa_aload_n (n := 0) rfl ?_
      refine wb_gf5 237 rfl (wy_pr rfl) wt_237 wf_15_13 (v := 241) (h13) (fun r54 => ?_)
      refine wb_gf4 241 rfl (wy_pr rfl) wt_241 wf_12_7 (v := 248) wl_241_7 ?_
      refine wa_iload (n := 5) rfl ?_
      refine wb_iald 248 rfl (wy_pr rfl) wt_248 (n := 60) ((ml_248 hMA)) (by omega) (by omega) (v := (hcR cs s).2.2.2.2.2.2.1) (h7) (fun r55 => ?_)
      refine wa_istore (n := 6) rfl ?_
      refine wa_fall ⟨_, rfl⟩ ?_
      exact wJ_S (rci_241 (k := k) hM hK hw hst hpc hW hsr rfl (by omega) hF (fun acc2 A2 a1 a2 a3 a4 => ih (k + 1) acc2 A2 hr2 (by omega) a1 a2 a3 a4) ((hcR cs s).2.2.2.2.2.2.2.toNat) ((hcR cs s).2.2.2.2.2.2.1) acc A hac hax hfr (by omega) hcs.1 hcF) ⟨rfl, rfl, rfl, rfl, rfl, rfl, rfl, trivial⟩
theorem rco_241 {c st pc : Int} {WW : List Int} (hM : w_ML S) (hK : KR 241 T n cs ms S) (hw : wHo cs ms os) (hO : wOs cs os) (hA : wAb cs) (hst : st = 0 ∨ st = 1) (hpc : -1 ≤ pc ∧ pc ≤ 8) (hW : wtI WW S) (hc : 0 ≤ c ∧ c < (cs.length : Int)) : wJ (pe_GA xs) wY0 M (d + 64) t_M_collects ((pe_at t_M_collects.bl 0).getD (0, [])).2 [(0, (2, 237)), (1, (0, c)), (2, (0, st)), (3, (0, pc))] [] S (fun o Z => o = .inl none ∧ cdI (cdA ms (okM T ms 1 st pc WW) [] (mOr cs (os c))) Z ∧ ∀ (j : Nat) (x : Int), ¬ cdM j x → ¬ odM j x → Z j x = S j x) := by
  have hon := (hw.2.2.1 c hc.1 hc.2).2.2
  have hF5 := cdA_400 (ok := (okM T ms 1 st pc WW)) hw (fun x hx => mOr_rg hw hon hx)
  refine wa_aload_n (n := 0) rfl ?_
  refine wa_iload_n (n := 1) rfl ?_
  refine wa_cv 237 rfl (wy_pr rfl) wt_237 (M2 := fun _ => False) rfl at_M_orders ⟨_, rfl⟩ rfl rfl ⟨(Or.inr ⟨wy_pr rfl, fun q => q⟩), trivial, trivial, trivial, trivial⟩ trivial (fun _ _ q => False.elim q) (ror_241 (S := S) (c := c) hM hK hw hO hA hc) (fun oq1 Sq1 hp2 q1 => ?_)
  rcases q1 with ⟨rfl, ho1, hf1⟩
  show wJ _ _ _ _ _ _ _ _ _ _
  refine wa_aload_n (n := 0) rfl ?_
  refine wa_iconst ?_
  refine wb_pfi 237 rfl (wy_pr rfl) wt_237 wf_15_128 (n := 128) rfl ⟨(by omega), (by omega)⟩ ?_
  refine wa_iconst ?_
  refine wa_istore (n := 4) rfl ?_
  refine wa_fall ⟨_, rfl⟩ ?_
  have fA : ∀ (j : Nat) (x : Int), ¬ (j = 237 ∧ x = 128) → (w_up Sq1 237 128 0) j x = Sq1 j x := fun j x hj => w_up_no (by omega)
  have fS : ∀ (j : Nat) (x : Int), ¬ cdM j x → ¬ odM j x → (w_up Sq1 237 128 0) j x = S j x := fun j x h1 h2 => (fA j x (by unfold cdM at h1; omega)).trans (hf1 j x h2)
  have hM1 : w_ML (w_up Sq1 237 128 0) := fun q hq => (fS q.1 (-1) (by unfold cdM; omega) (by unfold odM; omega)).trans (hM q hq)
  have hK1 : KR 241 T n cs ms (w_up Sq1 237 128 0) := KR_ag hK (fun j x hj => fS j x (by unfold cdM; omega) (by unfold odM; omega))
  have hW1 : wtI WW (w_up Sq1 237 128 0) := wtI_ag hW (fun j x hj => fS j x (by unfold cdM; unfold wtM at hj; omega) (by unfold odM; unfold wtM at hj; omega))
  have hO1 : odI (os c) (w_up Sq1 237 128 0) := odI_ag ho1 (fun j x hj => fA j x (by unfold odM at hj; omega))
  refine wJ_S (wJ_mono (rcu_241 (d := d + 61) (S := (w_up Sq1 237 128 0)) hM1 hK1 hw hst hpc hW1 hO1 hon hF5.1 (os c) 0 [] (w_up Sq1 237 128 0) (List.drop_zero).symm (by omega) ⟨w_up_same _ _ _ _, fun i hi => absurd hi (Nat.not_lt_zero _), Nat.zero_le _⟩ (fun x hx => absurd hx List.not_mem_nil) (fun j x _ => rfl) rfl) (fun o Z hz => ⟨hz.1, hz.2.1, fun j x h1 h2 => (hz.2.2 j x h1).trans (fS j x h1 h2)⟩)) ⟨rfl, rfl, rfl, rfl, rfl, trivial⟩
theorem rcml_241 {c e : Int} {F : List Int} (hM : w_ML S) (hK : KR 241 T n cs ms S) (hw : wHo cs ms os) (hc : 0 ≤ c ∧ c < (cs.length : Int)) (he : e = (hcR cs c).2.2.2.2.2.2.1 + (hcR cs c).2.2.2.2.2.2.2) (hND : ∀ m q : Int, m ∈ mIx cs c → q ∈ mIx cs c → (hmR ms m).2.1 = 2 → (hmR ms q).2.1 = 2 → (hmR ms m).2.2.2.2.1 = (hmR ms q).2.2.2.2.1 → m = q) (hF : F.length ≤ 400) : ∀ (nn : Nat) (m : Int) (acc : List Int) (A : wS), cdI acc A → (∀ x ∈ acc, (x ∈ mIx cs c ∧ (hmR ms x).2.1 = 2) ∧ x < m) → (∀ (j : Nat) (x : Int), ¬ cdM j x → A j x = S j x) → m + (nn : Int) = e → (hcR cs c).2.2.2.2.2.2.1 ≤ m → cdA ms (okM T ms 2 0 (-1) []) acc (ivl m nn) = F → wJ (pe_GA xs) wY0 M (d + 3) t_M_collectsMakers ((pe_at t_M_collectsMakers.bl 1).getD (0, [])).2 [(0, (2, 237)), (1, (0, c)), (2, (0, m))] [] A (fun o Z => o = .inl none ∧ cdI F Z ∧ ∀ (j : Nat) (x : Int), ¬ cdM j x → Z j x = S j x) := by
  have h400 := hw.1
  have hco1 := (hw.2.1 c hc.1 hc.2).2.1
  intro nn
  induction nn with
  | zero =>
    intro m acc A hac hax hfr hme hm0 hcF
    have hMA : w_ML A := ML_w hM hfr (fun j z => by unfold cdM at z; omega)
    have hKA : KR 241 T n cs ms A := KR_ag hK (fun j x hj => hfr j x (by unfold cdM; omega))
    have h13 : A 237 13 = 241 := hKA.1
    have hcc := KR_c hKA hc.1 hc.2
    have h7 : A 248 c = (hcR cs c).2.2.2.2.2.2.1 := hcc.2.2.2.2.1
    have h8 : A 249 c = (hcR cs c).2.2.2.2.2.2.2 := hcc.2.2.2.2.2
    refine wa_iload_n (n := 2) rfl ?_
    refine wa_aload_n (n := 0) rfl ?_
    refine wb_gf5 237 rfl (wy_pr rfl) wt_237 wf_15_13 (v := 241) (h13) (fun r1 => ?_)
    refine wb_gf4 241 rfl (wy_pr rfl) wt_241 wf_12_7 (v := 248) wl_241_7 ?_
    refine wa_iload_n (n := 1) rfl ?_
    refine wb_iald 248 rfl (wy_pr rfl) wt_248 (n := 60) ((ml_248 hMA)) (by omega) (by omega) (v := (hcR cs c).2.2.2.2.2.2.1) (h7) (fun r2 => ?_)
    refine wa_aload_n (n := 0) rfl ?_
    refine wb_gf5 237 rfl (wy_pr rfl) wt_237 wf_15_13 (v := 241) (h13) (fun r3 => ?_)
    refine wb_gf4 241 rfl (wy_pr rfl) wt_241 wf_12_8 (v := 249) wl_241_8 ?_
    refine wa_iload_n (n := 1) rfl ?_
    refine wb_iald 249 rfl (wy_pr rfl) wt_249 (n := 60) ((ml_249 hMA)) (by omega) (by omega) (v := (hcR cs c).2.2.2.2.2.2.2) (h8) (fun r4 => ?_)
    refine wa_iadd ?_
    refine wa_icmpge (w_rg0 (by omega) (by omega)) (w_rg0 (by omega) (by omega)) ⟨_, rfl⟩ (fun c5 => ?_) (fun c5 => ?_)
    · skip
      refine wa_return rfl ?_
      exact ⟨rfl, by rw [← hcF]; exact hac, hfr⟩
    · skip
      exfalso; omega
  | succ nn ih =>
    intro m acc A hac hax hfr hme hm0 hcF
    rw [ivl_s] at hcF
    have hMA : w_ML A := ML_w hM hfr (fun j z => by unfold cdM at z; omega)
    have hKA : KR 241 T n cs ms A := KR_ag hK (fun j x hj => hfr j x (by unfold cdM; omega))
    have h13 : A 237 13 = 241 := hKA.1
    have hcc := KR_c hKA hc.1 hc.2
    have h7 : A 248 c = (hcR cs c).2.2.2.2.2.2.1 := hcc.2.2.2.2.1
    have h8 : A 249 c = (hcR cs c).2.2.2.2.2.2.2 := hcc.2.2.2.2.2
    have hmv : 0 ≤ m ∧ m < (ms.length : Int) := ⟨by omega, by omega⟩
    have hmi : m ∈ mIx cs c := (ivl_m _ _ _).mpr ⟨hm0, by omega⟩
    have eM := KR_m hKA (m := m) (by omega) (by omega)
    have eW := hw.2.2.2 m (by omega) (by omega)
    have e1 : A 253 m = (hmR ms m).2.1 := eM.1.2.1
    have e2 : A 254 m = (hmR ms m).2.2.1 := eM.1.2.2.1
    have e3 : A 255 m = (hmR ms m).2.2.2.1 := eM.1.2.2.2.1
    have e4 : A 256 m = ((hmR ms m).2.2.2.2.1.length : Int) := eM.2.1.1
    have e5 : A 257 m = (hmR ms m).2.2.2.2.2.1 := eM.2.1.2.1
    have ef : A 259 m = (hmR ms m).2.2.2.2.2.2.1 := eM.1.2.2.2.2.1
    have et : A 260 m = (hmR ms m).2.2.2.2.2.2.2 := eM.1.2.2.2.2.2
    have eq := eW.1.2.1
    have es := eW.1.2.2.1
    have ey := eW.1.2.2.2
    have ev := eW.2.1
    have el := eW.2.2.1
    have eft := hKA.2.2.2.2.2.2.1 m (by omega) (by omega)
    have h128 : A 237 128 = (acc.length : Int) := hac.1
    have hcon := eW.2.2.2.2
    have hmk : (hmR ms m).2.1 = 2 → (okM T ms 2 0 (-1) []) m = true ∧ hidM ms acc m = false := fun h2 => by
      refine ⟨decide_eq_true ⟨h2, (hcon h2).1, Or.inl rfl, ?_⟩, ?_⟩
      · unfold nmR; rw [(hcon h2).2, Int.sub_self]; rfl
      · unfold hidM
        rw [List.any_eq_false]
        intro x hx z
        have y := hax x hx
        have y2 := hND x m y.1.1 hmi y.1.2 h2 (of_decide_eq_true z)
        omega
    have hacl : (hmR ms m).2.1 = 2 → acc.length < 400 := fun h2 => by
      have z := hcF
      rw [cdA_p (hmk h2).1 (hmk h2).2] at z
      obtain ⟨t8, ht8⟩ := cdA_pr (ms := ms) (okM T ms 2 0 (-1) []) (ivl (m + 1) nn) (acc ++ [m])
      rw [z] at ht8
      have y := congrArg List.length ht8
      rw [List.length_append, List.length_append, List.length_singleton] at y
      omega
    refine wa_iload_n (n := 2) rfl ?_
    refine wa_aload_n (n := 0) rfl ?_
    refine wb_gf5 237 rfl (wy_pr rfl) wt_237 wf_15_13 (v := 241) (h13) (fun r51 => ?_)
    refine wb_gf4 241 rfl (wy_pr rfl) wt_241 wf_12_7 (v := 248) wl_241_7 ?_
    refine wa_iload_n (n := 1) rfl ?_
    refine wb_iald 248 rfl (wy_pr rfl) wt_248 (n := 60) ((ml_248 hMA)) (by omega) (by omega) (v := (hcR cs c).2.2.2.2.2.2.1) (h7) (fun r52 => ?_)
    refine wa_aload_n (n := 0) rfl ?_
    refine wb_gf5 237 rfl (wy_pr rfl) wt_237 wf_15_13 (v := 241) (h13) (fun r53 => ?_)
    refine wb_gf4 241 rfl (wy_pr rfl) wt_241 wf_12_8 (v := 249) wl_241_8 ?_
    refine wa_iload_n (n := 1) rfl ?_
    refine wb_iald 249 rfl (wy_pr rfl) wt_249 (n := 60) ((ml_249 hMA)) (by omega) (by omega) (v := (hcR cs c).2.2.2.2.2.2.2) (h8) (fun r54 => ?_)
    refine wa_iadd ?_
    refine wa_icmpge (w_rg0 (by omega) (by omega)) (w_rg0 (by omega) (by omega)) ⟨_, rfl⟩ (fun c55 => ?_) (fun c55 => ?_)
    · skip
      exfalso; omega
    · skip
      refine wa_aload_n (n := 0) rfl ?_
      refine wb_gf5 237 rfl (wy_pr rfl) wt_237 wf_15_13 (v := 241) (h13) (fun r56 => ?_)
      refine wb_gf4 241 rfl (wy_pr rfl) wt_241 wf_12_13 (v := 253) wl_241_13 ?_
      refine wa_iload_n (n := 2) rfl ?_
      refine wb_iald 253 rfl (wy_pr rfl) wt_253 (n := 400) ((ml_253 hMA)) (by omega) (by omega) (v := (hmR ms m).2.1) (e1) (fun r57 => ?_)
      refine wa_iconst ?_
      refine wa_icmpne (w_rg0 (by omega) (by omega)) (w_rg0 (by omega) (by omega)) ⟨_, rfl⟩ (fun c58 => ?_) (fun c58 => ?_)
      · skip
        refine wa_iinc rfl rfl ?_
        refine wa_goto ⟨_, rfl⟩ ?_
        rw [cdA_q (fun z => by have z1 := (of_decide_eq_true z.1).1; omega)] at hcF
        exact wJ_S (ih (m + 1) acc A hac (fun x hx => ⟨(hax x hx).1, by have := (hax x hx).2; omega⟩) hfr (by omega) (by omega) hcF) ⟨rfl, rfl, rfl, trivial⟩
      · skip
        have hq2 : (hmR ms m).2.1 = 2 := by omega
        have hql := hacl hq2
        refine wa_aload_n (n := 0) rfl ?_
        refine wb_gf4 237 rfl (wy_pr rfl) wt_237 wf_15_129 (v := 355) wl_237_129 ?_
        refine wa_aload_n (n := 0) rfl ?_
        refine wb_gfi 237 rfl (wy_pr rfl) wt_237 wf_15_128 (v := (acc.length : Int)) (h128) (fun r59 => ?_)
        refine wa_iload_n (n := 2) rfl ?_
        refine wb_iast 355 rfl (wy_pr rfl) wt_355 (n := 400) ((ml_355 hMA)) (by omega) (by omega) ⟨(by omega), (by omega)⟩ ?_
        refine wa_aload_n (n := 0) rfl ?_
        refine wa_dup (by decide) ?_
        refine wb_gfi 237 rfl (wy_pr rfl) wt_237 wf_15_128 (v := (acc.length : Int)) ((w_up_slot (by decide)).trans (h128)) (fun r60 => ?_)
        refine wa_iconst ?_
        refine wa_iadd ?_
        refine wb_pfi 237 rfl (wy_pr rfl) wt_237 wf_15_128 (n := 128) rfl ⟨(by omega), (by omega)⟩ ?_
        refine wa_fall ⟨_, rfl⟩ ?_
        refine wa_iinc rfl rfl ?_
        refine wa_goto ⟨_, rfl⟩ ?_
        rw [cdA_p (hmk hq2).1 (hmk hq2).2] at hcF
        exact wJ_S (ih (m + 1) (acc ++ [m]) _ (cdI_n (m := m) hac (by omega)) (fun x hx => by rcases List.mem_append.mp hx with y | y; exact ⟨(hax x y).1, by have := (hax x y).2; omega⟩; rw [List.mem_singleton.mp y]; exact ⟨⟨hmi, hq2⟩, by omega⟩) (fun j x hj => (w_up_no (by unfold cdM at hj; omega)).trans ((w_up_no (by unfold cdM at hj; omega)).trans (hfr j x hj))) (by omega) (by omega) hcF) ⟨rfl, rfl, rfl, trivial⟩
theorem rcm_241 {c : Int} (hM : w_ML S) (hK : KR 241 T n cs ms S) (hw : wHo cs ms os) (hc : 0 ≤ c ∧ c < (cs.length : Int)) (hND : ∀ m q : Int, m ∈ mIx cs c → q ∈ mIx cs c → (hmR ms m).2.1 = 2 → (hmR ms q).2.1 = 2 → (hmR ms m).2.2.2.2.1 = (hmR ms q).2.2.2.2.1 → m = q) : wJ (pe_GA xs) wY0 M (d + 3) t_M_collectsMakers ((pe_at t_M_collectsMakers.bl 0).getD (0, [])).2 [(0, (2, 237)), (1, (0, c))] [] S (fun o Z => o = .inl none ∧ cdI (cdA ms (okM T ms 2 0 (-1) []) [] (mOr cs [c])) Z ∧ ∀ (j : Nat) (x : Int), ¬ cdM j x → Z j x = S j x) := by
  have h13 : S 237 13 = 241 := hK.1
  have hcc := KR_c hK hc.1 hc.2
  have h7 : S 248 c = (hcR cs c).2.2.2.2.2.2.1 := hcc.2.2.2.2.1
  have hco1 := (hw.2.1 c hc.1 hc.2).2.1
  have h60 := hw.1
  have hF5 := cdA_400 (ok := (okM T ms 2 0 (-1) [])) (l := mOr cs [c]) hw (fun x hx => mOr_rg hw (fun o ho => by rw [List.mem_singleton.mp ho]; exact hc) hx)
  have he : mOr cs [c] = mIx cs c := by rw [mOr_c, mOr_n, List.append_nil]
  rw [he] at hF5 ⊢
  refine wa_aload_n (n := 0) rfl ?_
  refine wa_iconst ?_
  refine wb_pfi 237 rfl (wy_pr rfl) wt_237 wf_15_128 (n := 128) rfl ⟨(by omega), (by omega)⟩ ?_
  refine wa_aload_n (n := 0) rfl ?_
  refine wb_gf5 237 rfl (wy_pr rfl) wt_237 wf_15_13 (v := 241) ((w_up_at (by decide)).trans (h13)) (fun r1 => ?_)
  refine wb_gf4 241 rfl (wy_pr rfl) wt_241 wf_12_7 (v := 248) wl_241_7 ?_
  refine wa_iload_n (n := 1) rfl ?_
  refine wb_iald 248 rfl (wy_pr rfl) wt_248 (n := 60) ((w_up_slot (by decide)).trans ((ml_248 hM))) (by omega) (by omega) (v := (hcR cs c).2.2.2.2.2.2.1) ((w_up_slot (by decide)).trans (h7)) (fun r2 => ?_)
  refine wa_istore_n (n := 2) rfl ?_
  refine wa_fall ⟨_, rfl⟩ ?_
  have fA : ∀ (j : Nat) (x : Int), ¬ cdM j x → (w_up S 237 128 0) j x = S j x := fun j x hj => w_up_no (by unfold cdM at hj; omega)
  refine wJ_S (wJ_mono (rcml_241 (S := S) hM hK hw hc rfl hND hF5.1 ((hcR cs c).2.2.2.2.2.2.2.toNat) ((hcR cs c).2.2.2.2.2.2.1) [] (w_up S 237 128 0) ⟨w_up_same _ _ _ _, fun i hi => absurd hi (Nat.not_lt_zero _), Nat.zero_le _⟩ (fun x hx => absurd hx List.not_mem_nil) fA (by omega) (by omega) rfl) (fun o Z hz => hz)) ⟨rfl, rfl, rfl, trivial⟩
theorem rfdi_241 {c o st e : Int} {WW r : List Int} (hM : w_ML S) (hK : KR 241 T n cs ms S) (hw : wHo cs ms os) (hst : -1 ≤ st ∧ st ≤ 1) (hW : wtI WW S) (ho : 0 ≤ o ∧ o < (cs.length : Int)) (he : e = (hcR cs o).2.2.2.2.2.2.1 + (hcR cs o).2.2.2.2.2.2.2) (hnx : wJ (pe_GA xs) wY0 M (d + 1) t_M_field ((pe_at t_M_field.bl 7).getD (0, [])).2 [(0, (2, 237)), (1, (0, c)), (2, (0, st)), (3, (0, o))] [] S (fun oo Z => S = Z ∧ oo = .inl (some (0, fsA (okF T ms st WW) r)))) : ∀ (nn : Nat) (m : Int), m + (nn : Int) = e → 0 ≤ m → wJ (pe_GA xs) wY0 M (d + 1) t_M_field ((pe_at t_M_field.bl 2).getD (0, [])).2 [(0, (2, 237)), (1, (0, c)), (2, (0, st)), (3, (0, o)), (4, (0, m))] [] S (fun oo Z => S = Z ∧ oo = .inl (some (0, fsA (okF T ms st WW) (ivl m nn ++ r)))) := by
  have h400 := hw.1
  have h13 : S 237 13 = 241 := hK.1
  have hco1 := (hw.2.1 o ho.1 ho.2).2.1
  have hcc := KR_c hK ho.1 ho.2
  have h7 : S 248 o = (hcR cs o).2.2.2.2.2.2.1 := hcc.2.2.2.2.1
  have h8 : S 249 o = (hcR cs o).2.2.2.2.2.2.2 := hcc.2.2.2.2.2
  intro nn
  induction nn with
  | zero =>
    intro m hme hm0
    refine wa_iload (n := 4) rfl ?_
    refine wa_aload_n (n := 0) rfl ?_
    refine wb_gf5 237 rfl (wy_pr rfl) wt_237 wf_15_13 (v := 241) (h13) (fun r1 => ?_)
    refine wb_gf4 241 rfl (wy_pr rfl) wt_241 wf_12_7 (v := 248) wl_241_7 ?_
    refine wa_iload_n (n := 3) rfl ?_
    refine wb_iald 248 rfl (wy_pr rfl) wt_248 (n := 60) ((ml_248 hM)) (by omega) (by omega) (v := (hcR cs o).2.2.2.2.2.2.1) (h7) (fun r2 => ?_)
    refine wa_aload_n (n := 0) rfl ?_
    refine wb_gf5 237 rfl (wy_pr rfl) wt_237 wf_15_13 (v := 241) (h13) (fun r3 => ?_)
    refine wb_gf4 241 rfl (wy_pr rfl) wt_241 wf_12_8 (v := 249) wl_241_8 ?_
    refine wa_iload_n (n := 3) rfl ?_
    refine wb_iald 249 rfl (wy_pr rfl) wt_249 (n := 60) ((ml_249 hM)) (by omega) (by omega) (v := (hcR cs o).2.2.2.2.2.2.2) (h8) (fun r4 => ?_)
    refine wa_iadd ?_
    refine wa_icmpge (w_rg0 (by omega) (by omega)) (w_rg0 (by omega) (by omega)) ⟨_, rfl⟩ (fun c5 => ?_) (fun c5 => ?_)
    · skip
      exact wJ_S hnx ⟨rfl, rfl, rfl, rfl, trivial⟩
    · skip
      exfalso; omega
  | succ nn ih =>
    intro m hme hm0
    rw [ivl_s, List.cons_append]
    have eM := KR_m hK (m := m) (by omega) (by omega)
    have eW := hw.2.2.2 m (by omega) (by omega)
    have e1 : S 253 m = (hmR ms m).2.1 := eM.1.2.1
    have e2 : S 254 m = (hmR ms m).2.2.1 := eM.1.2.2.1
    have e3 : S 255 m = (hmR ms m).2.2.2.1 := eM.1.2.2.2.1
    have e4 : S 256 m = ((hmR ms m).2.2.2.2.1.length : Int) := eM.2.1.1
    have e5 : S 257 m = (hmR ms m).2.2.2.2.2.1 := eM.2.1.2.1
    have ef : S 259 m = (hmR ms m).2.2.2.2.2.2.1 := eM.1.2.2.2.2.1
    have et : S 260 m = (hmR ms m).2.2.2.2.2.2.2 := eM.1.2.2.2.2.2
    have eq := eW.1.2.1
    have es := eW.1.2.2.1
    have ey := eW.1.2.2.2
    have ev := eW.2.1
    have el := eW.2.2.1
    have eft := hK.2.2.2.2.2.2.1 m (by omega) (by omega)
    refine wa_iload (n := 4) rfl ?_
    refine wa_aload_n (n := 0) rfl ?_
    refine wb_gf5 237 rfl (wy_pr rfl) wt_237 wf_15_13 (v := 241) (h13) (fun r51 => ?_)
    refine wb_gf4 241 rfl (wy_pr rfl) wt_241 wf_12_7 (v := 248) wl_241_7 ?_
    refine wa_iload_n (n := 3) rfl ?_
    refine wb_iald 248 rfl (wy_pr rfl) wt_248 (n := 60) ((ml_248 hM)) (by omega) (by omega) (v := (hcR cs o).2.2.2.2.2.2.1) (h7) (fun r52 => ?_)
    refine wa_aload_n (n := 0) rfl ?_
    refine wb_gf5 237 rfl (wy_pr rfl) wt_237 wf_15_13 (v := 241) (h13) (fun r53 => ?_)
    refine wb_gf4 241 rfl (wy_pr rfl) wt_241 wf_12_8 (v := 249) wl_241_8 ?_
    refine wa_iload_n (n := 3) rfl ?_
    refine wb_iald 249 rfl (wy_pr rfl) wt_249 (n := 60) ((ml_249 hM)) (by omega) (by omega) (v := (hcR cs o).2.2.2.2.2.2.2) (h8) (fun r54 => ?_)
    refine wa_iadd ?_
    refine wa_icmpge (w_rg0 (by omega) (by omega)) (w_rg0 (by omega) (by omega)) ⟨_, rfl⟩ (fun c55 => ?_) (fun c55 => ?_)
    · skip
      exfalso; omega
    · skip
      refine wa_aload_n (n := 0) rfl ?_
      refine wb_gf5 237 rfl (wy_pr rfl) wt_237 wf_15_13 (v := 241) (h13) (fun r56 => ?_)
      refine wb_gf4 241 rfl (wy_pr rfl) wt_241 wf_12_13 (v := 253) wl_241_13 ?_
      refine wa_iload (n := 4) rfl ?_
      refine wb_iald 253 rfl (wy_pr rfl) wt_253 (n := 400) ((ml_253 hM)) (by omega) (by omega) (v := (hmR ms m).2.1) (e1) (fun r57 => ?_)
      refine wa_ifne (w_rg0 (by omega) (by omega)) ⟨_, rfl⟩ (fun c58 => ?_) (fun c58 => ?_)
      · skip
        refine wa_iinc rfl rfl ?_
        refine wa_goto ⟨_, rfl⟩ ?_
        have hno : okF T ms st WW m = false := decide_eq_false (fun z => by have z1 := z.1; have z2 := z.2.1; first | omega | (have z4 := bI_t (decide_eq_true z.2.2); omega))
        rw [fsA_q hno]
        exact wJ_S (ih (m + 1) (by omega) (by omega)) ⟨rfl, rfl, rfl, rfl, rfl, trivial⟩
      · skip
        refine wa_iload_n (n := 2) rfl ?_
        refine wa_iflt (w_rg0 (by omega) (by omega)) ⟨_, rfl⟩ (fun c59 => ?_) (fun c59 => ?_)
        · skip
          refine wa_aload_n (n := 0) rfl ?_
          refine wa_iload (n := 4) rfl ?_
          refine wa_cv 237 rfl (wy_pr rfl) wt_237 (M2 := fun _ => False) rfl at_M_isWanted ⟨_, rfl⟩ rfl rfl ⟨(Or.inr ⟨wy_pr rfl, fun q => q⟩), trivial, trivial, trivial, trivial, trivial⟩ trivial (fun _ _ q => False.elim q) (riw_241 (S := S) (m := m) (WW := WW) hM hK hw ⟨by omega, by omega⟩ hW) (fun oq60 Sq60 hp61 q60 => ?_)
          rcases q60 with ⟨rfl, rfl⟩
          show wJ _ _ _ _ _ _ _ _ _ _
          have hbw := bI_rg (decide (nmR T (hmR ms m) = WW))
          refine wa_ifeq (w_rg0 (by omega) (by omega)) ⟨_, rfl⟩ (fun c62 => ?_) (fun c62 => ?_)
          · skip
            refine wa_iinc rfl rfl ?_
            refine wa_goto ⟨_, rfl⟩ ?_
            have hno : okF T ms st WW m = false := decide_eq_false (fun z => by have z1 := z.1; have z2 := z.2.1; first | omega | (have z4 := bI_t (decide_eq_true z.2.2); omega))
            rw [fsA_q hno]
            exact wJ_S (ih (m + 1) (by omega) (by omega)) ⟨rfl, rfl, rfl, rfl, rfl, trivial⟩
          · skip
            refine wa_iload (n := 4) rfl ?_
            refine wa_ireturn rfl ?_
            have hyes : okF T ms st WW m = true := decide_eq_true ⟨by omega, by omega, of_decide_eq_true (bI_1 (by omega))⟩
            rw [fsA_p hyes]
            exact ⟨rfl, rfl⟩
        · skip
          refine wa_aload_n (n := 0) rfl ?_
          refine wb_gf5 237 rfl (wy_pr rfl) wt_237 wf_15_13 (v := 241) (h13) (fun r63 => ?_)
          refine wb_gf4 241 rfl (wy_pr rfl) wt_241 wf_12_14 (v := 254) wl_241_14 ?_
          refine wa_iload (n := 4) rfl ?_
          refine wb_zald 254 rfl (wy_pr rfl) wt_254 (n := 400) ((ml_254 hM)) (by omega) (by omega) (v := (hmR ms m).2.2.1) (e2) (fun r64 => ?_)
          refine wa_iload_n (n := 2) rfl ?_
          refine wa_iconst ?_
          refine wa_icmpne (w_rg0 (by omega) (by omega)) (w_rg0 (by omega) (by omega)) ⟨_, rfl⟩ (fun c65 => ?_) (fun c65 => ?_)
          · skip
            refine wa_iconst ?_
            refine wa_fall ⟨_, rfl⟩ ?_
            refine wa_icmpne (w_rg0 (by omega) (by omega)) (w_rg0 (by omega) (by omega)) ⟨_, rfl⟩ (fun c66 => ?_) (fun c66 => ?_)
            · skip
              refine wa_iinc rfl rfl ?_
              refine wa_goto ⟨_, rfl⟩ ?_
              have hno : okF T ms st WW m = false := decide_eq_false (fun z => by have z1 := z.1; have z2 := z.2.1; first | omega | (have z4 := bI_t (decide_eq_true z.2.2); omega))
              rw [fsA_q hno]
              exact wJ_S (ih (m + 1) (by omega) (by omega)) ⟨rfl, rfl, rfl, rfl, rfl, trivial⟩
            · skip
              refine wa_fall ⟨_, rfl⟩ ?_
              refine wa_aload_n (n := 0) rfl ?_
              refine wa_iload (n := 4) rfl ?_
              refine wa_cv 237 rfl (wy_pr rfl) wt_237 (M2 := fun _ => False) rfl at_M_isWanted ⟨_, rfl⟩ rfl rfl ⟨(Or.inr ⟨wy_pr rfl, fun q => q⟩), trivial, trivial, trivial, trivial, trivial⟩ trivial (fun _ _ q => False.elim q) (riw_241 (S := S) (m := m) (WW := WW) hM hK hw ⟨by omega, by omega⟩ hW) (fun oq67 Sq67 hp68 q67 => ?_)
              rcases q67 with ⟨rfl, rfl⟩
              show wJ _ _ _ _ _ _ _ _ _ _
              have hbw := bI_rg (decide (nmR T (hmR ms m) = WW))
              refine wa_ifeq (w_rg0 (by omega) (by omega)) ⟨_, rfl⟩ (fun c69 => ?_) (fun c69 => ?_)
              · skip
                refine wa_iinc rfl rfl ?_
                refine wa_goto ⟨_, rfl⟩ ?_
                have hno : okF T ms st WW m = false := decide_eq_false (fun z => by have z1 := z.1; have z2 := z.2.1; first | omega | (have z4 := bI_t (decide_eq_true z.2.2); omega))
                rw [fsA_q hno]
                exact wJ_S (ih (m + 1) (by omega) (by omega)) ⟨rfl, rfl, rfl, rfl, rfl, trivial⟩
              · skip
                refine wa_iload (n := 4) rfl ?_
                refine wa_ireturn rfl ?_
                have hyes : okF T ms st WW m = true := decide_eq_true ⟨by omega, by omega, of_decide_eq_true (bI_1 (by omega))⟩
                rw [fsA_p hyes]
                exact ⟨rfl, rfl⟩
          · skip
            refine wa_iconst ?_
            refine wa_goto ⟨_, rfl⟩ ?_
            refine wa_icmpne (w_rg0 (by omega) (by omega)) (w_rg0 (by omega) (by omega)) ⟨_, rfl⟩ (fun c70 => ?_) (fun c70 => ?_)
            · skip
              refine wa_iinc rfl rfl ?_
              refine wa_goto ⟨_, rfl⟩ ?_
              have hno : okF T ms st WW m = false := decide_eq_false (fun z => by have z1 := z.1; have z2 := z.2.1; first | omega | (have z4 := bI_t (decide_eq_true z.2.2); omega))
              rw [fsA_q hno]
              exact wJ_S (ih (m + 1) (by omega) (by omega)) ⟨rfl, rfl, rfl, rfl, rfl, trivial⟩
            · skip
              refine wa_fall ⟨_, rfl⟩ ?_
              refine wa_aload_n (n := 0) rfl ?_
              refine wa_iload (n := 4) rfl ?_
              refine wa_cv 237 rfl (wy_pr rfl) wt_237 (M2 := fun _ => False) rfl at_M_isWanted ⟨_, rfl⟩ rfl rfl ⟨(Or.inr ⟨wy_pr rfl, fun q => q⟩), trivial, trivial, trivial, trivial, trivial⟩ trivial (fun _ _ q => False.elim q) (riw_241 (S := S) (m := m) (WW := WW) hM hK hw ⟨by omega, by omega⟩ hW) (fun oq71 Sq71 hp72 q71 => ?_)
              rcases q71 with ⟨rfl, rfl⟩
              show wJ _ _ _ _ _ _ _ _ _ _
              have hbw := bI_rg (decide (nmR T (hmR ms m) = WW))
              refine wa_ifeq (w_rg0 (by omega) (by omega)) ⟨_, rfl⟩ (fun c73 => ?_) (fun c73 => ?_)
              · skip
                refine wa_iinc rfl rfl ?_
                refine wa_goto ⟨_, rfl⟩ ?_
                have hno : okF T ms st WW m = false := decide_eq_false (fun z => by have z1 := z.1; have z2 := z.2.1; first | omega | (have z4 := bI_t (decide_eq_true z.2.2); omega))
                rw [fsA_q hno]
                exact wJ_S (ih (m + 1) (by omega) (by omega)) ⟨rfl, rfl, rfl, rfl, rfl, trivial⟩
              · skip
                refine wa_iload (n := 4) rfl ?_
                refine wa_ireturn rfl ?_
                have hyes : okF T ms st WW m = true := decide_eq_true ⟨by omega, by omega, of_decide_eq_true (bI_1 (by omega))⟩
                rw [fsA_p hyes]
                exact ⟨rfl, rfl⟩
theorem rfdo_241 {c st : Int} {WW : List Int} (hM : w_ML S) (hK : KR 241 T n cs ms S) (hw : wHo cs ms os) (hst : -1 ≤ st ∧ st ≤ 1) (hW : wtI WW S) : ∀ (f : Nat) (o : Int), (o + 1).toNat ≤ f → -1 ≤ o → o < (cs.length : Int) → wJ (pe_GA xs) wY0 M (d + 1) t_M_field ((pe_at t_M_field.bl 1).getD (0, [])).2 [(0, (2, 237)), (1, (0, c)), (2, (0, st)), (3, (0, o))] [] S (fun oo Z => S = Z ∧ oo = .inl (some (0, fsA (okF T ms st WW) (mOr cs (ch_l (Ab cs) f o))))) := by
  have h13 : S 237 13 = 241 := hK.1
  have h60 := hw.1
  intro f
  induction f with
  | zero =>
    intro o hf o0 o1
    have hoe : o = -1 := by omega
    refine wa_iload_n (n := 3) rfl ?_
    refine wa_iflt (w_rg0 (by omega) (by omega)) ⟨_, rfl⟩ (fun c1 => ?_) (fun c1 => ?_)
    · skip
      refine wa_iconst ?_
      refine wa_ireturn rfl ?_
      exact ⟨rfl, rfl⟩
    · skip
      exfalso; omega
  | succ f ih =>
    intro o hf o0 o1
    refine wa_iload_n (n := 3) rfl ?_
    refine wa_iflt (w_rg0 (by omega) (by omega)) ⟨_, rfl⟩ (fun c51 => ?_) (fun c51 => ?_)
    · skip
      refine wa_iconst ?_
      refine wa_ireturn rfl ?_
      exact ⟨rfl, by rw [show ch_l (Ab cs) (f + 1) o = [] from if_pos (by omega)]; rfl⟩
    · skip
      have hon : o ≠ -1 := by omega
      have hov : 0 ≤ o ∧ o < (cs.length : Int) := ⟨by omega, o1⟩
      have hco := hw.2.1 o hov.1 hov.2
      have hcoa := hco.1
      have hco1 := hco.2.1
      have hcc := KR_c hK hov.1 hov.2
      have h7 : S 248 o = (hcR cs o).2.2.2.2.2.2.1 := hcc.2.2.2.2.1
      have h3 : S 244 o = (hcR cs o).2.2.2.1 := hcc.2.2.2.1.2.1
      rw [chl_c hon, mOr_c]
      refine wa_aload_n (n := 0) rfl ?_
      refine wb_gf5 237 rfl (wy_pr rfl) wt_237 wf_15_13 (v := 241) (h13) (fun r52 => ?_)
      refine wb_gf4 241 rfl (wy_pr rfl) wt_241 wf_12_7 (v := 248) wl_241_7 ?_
      refine wa_iload_n (n := 3) rfl ?_
      refine wb_iald 248 rfl (wy_pr rfl) wt_248 (n := 60) ((ml_248 hM)) (by omega) (by omega) (v := (hcR cs o).2.2.2.2.2.2.1) (h7) (fun r53 => ?_)
      refine wa_istore (n := 4) rfl ?_
      refine wa_fall ⟨_, rfl⟩ ?_
      refine wJ_S (rfdi_241 hM hK hw hst hW hov rfl ?_ ((hcR cs o).2.2.2.2.2.2.2.toNat) ((hcR cs o).2.2.2.2.2.2.1) (by omega) hco1.1) ⟨rfl, rfl, rfl, rfl, rfl, trivial⟩
      refine wa_aload_n (n := 0) rfl ?_
      refine wb_gf5 237 rfl (wy_pr rfl) wt_237 wf_15_13 (v := 241) (h13) (fun r201 => ?_)
      refine wb_gf4 241 rfl (wy_pr rfl) wt_241 wf_12_3 (v := 244) wl_241_3 ?_
      refine wa_iload_n (n := 3) rfl ?_
      refine wb_iald 244 rfl (wy_pr rfl) wt_244 (n := 60) ((ml_244 hM)) (by omega) (by omega) (v := (hcR cs o).2.2.2.1) (h3) (fun r202 => ?_)
      refine wa_istore_n (n := 3) rfl ?_
      refine wa_goto ⟨_, rfl⟩ ?_
      exact wJ_S (ih (Ab cs o) (by show ((hcR cs o).2.2.2.1 + 1).toNat ≤ f; omega) hcoa.1 (by show (hcR cs o).2.2.2.1 < _; omega)) ⟨rfl, rfl, rfl, rfl, trivial⟩
theorem rfd_241 {c st : Int} {WW : List Int} (hM : w_ML S) (hK : KR 241 T n cs ms S) (hw : wHo cs ms os) (hst : -1 ≤ st ∧ st ≤ 1) (hW : wtI WW S) (hc : 0 ≤ c ∧ c < (cs.length : Int)) : wJ (pe_GA xs) wY0 M (d + 1) t_M_field ((pe_at t_M_field.bl 0).getD (0, [])).2 [(0, (2, 237)), (1, (0, c)), (2, (0, st))] [] S (fun o Z => S = Z ∧ o = .inl (some (0, fdA T cs ms st WW c))) := by
  refine wa_iload_n (n := 1) rfl ?_
  refine wa_istore_n (n := 3) rfl ?_
  refine wa_fall ⟨_, rfl⟩ ?_
  exact wJ_S (rfdo_241 hM hK hw hst hW (c.toNat + 1) c (by omega) (by omega) hc.2) ⟨rfl, rfl, rfl, rfl, trivial⟩
theorem rch_261 {c st pc o m : Int} {k : Nat} {acc : List Int} {is0 : Bool} (hMA : w_ML A) (hKA : KR 261 T n cs ms A) (hw : wHo cs ms os) (hm : 0 ≤ m ∧ m < (ms.length : Int)) (hac : cdI acc A) (hax : ∀ x ∈ acc, 0 ≤ x ∧ x < (ms.length : Int)) (hk9 : wJ (pe_GA xs) wY0 M (d + 2) t_M_collects ((pe_at t_M_collects.bl 9).getD (0, [])).2 [(0, (2, 237)), (1, (0, c)), (2, (0, st)), (3, (0, pc)), (4, (0, (k : Int))), (5, (0, o)), (6, (0, m)), (7, (0, bI (is0 && !(hidM ms acc m))))] [] A Q) : ∀ (f q : Nat) (v : Bool), acc.length - q < f → q ≤ acc.length → v = (is0 && !((acc.take q).any (fun q => decide ((hmR ms q).2.2.2.2.1 = (hmR ms m).2.2.2.2.1)))) → wJ (pe_GA xs) wY0 M (d + 2) t_M_collects ((pe_at t_M_collects.bl 6).getD (0, [])).2 [(0, (2, 237)), (1, (0, c)), (2, (0, st)), (3, (0, pc)), (4, (0, (k : Int))), (5, (0, o)), (6, (0, m)), (7, (0, bI v)), (8, (0, (q : Int)))] [] A Q := by
  have h13 : A 237 13 = 261 := hKA.1
  have h128 : A 237 128 = (acc.length : Int) := hac.1
  have hal := hac.2.2
  have h400 := hw.1.2
  intro f
  induction f with
  | zero => intro q v h; exact absurd h (Nat.not_lt_zero _)
  | succ f ih =>
    intro q v hf hq hv
    have hbv := bI_rg v
    refine wa_iload (n := 8) rfl ?_
    refine wa_aload_n (n := 0) rfl ?_
    refine wb_gfi 237 rfl (wy_pr rfl) wt_237 wf_15_128 (v := (acc.length : Int)) (h128) (fun r1 => ?_)
    refine wa_icmpge (w_rg0 (by omega) (by omega)) (w_rg0 (by omega) (by omega)) ⟨_, rfl⟩ (fun c2 => ?_) (fun c2 => ?_)
    · skip
      have he : (is0 && !(hidM ms acc m)) = v := by
        unfold hidM
        first | (rw [List.take_of_length_le (by omega)] at hv; exact hv.symm) | (have hv0 := bI_0 (b := v) (by omega); rw [hv0] at hv ⊢; revert hv; cases is0 with | false => intro _; rfl | true => intro hv; have z := any_tk (l := acc) (q := q) (pb := fun q => decide ((hmR ms q).2.2.2.2.1 = (hmR ms m).2.2.2.2.1)) (by revert hv; cases (acc.take q).any (fun q => decide ((hmR ms q).2.2.2.2.1 = (hmR ms m).2.2.2.2.1)) <;> intro hv; exact absurd hv (by first | decide | omega); rfl); rw [z]; rfl)
      rw [he] at hk9
      exact wJ_S hk9 ⟨rfl, rfl, rfl, rfl, rfl, rfl, rfl, rfl, trivial⟩
    · skip
      refine wa_iload (n := 7) rfl ?_
      refine wa_ifeq (w_rg0 (by omega) (by omega)) ⟨_, rfl⟩ (fun c3 => ?_) (fun c3 => ?_)
      · skip
        have he : (is0 && !(hidM ms acc m)) = v := by
          unfold hidM
          first | (rw [List.take_of_length_le (by omega)] at hv; exact hv.symm) | (have hv0 := bI_0 (b := v) (by omega); rw [hv0] at hv ⊢; revert hv; cases is0 with | false => intro _; rfl | true => intro hv; have z := any_tk (l := acc) (q := q) (pb := fun q => decide ((hmR ms q).2.2.2.2.1 = (hmR ms m).2.2.2.2.1)) (by revert hv; cases (acc.take q).any (fun q => decide ((hmR ms q).2.2.2.2.1 = (hmR ms m).2.2.2.2.1)) <;> intro hv; exact absurd hv (by first | decide | omega); rfl); rw [z]; rfl)
        rw [he] at hk9
        exact wJ_S hk9 ⟨rfl, rfl, rfl, rfl, rfl, rfl, rfl, rfl, trivial⟩
      · skip
        have h55 := hac.2.1 q (by omega)
        have hqm : acc.getD q 0 ∈ acc := by rw [List.getD_eq_getElem?_getD, List.getElem?_eq_getElem (show q < acc.length by omega)]; exact List.getElem_mem _
        have hqr := hax _ hqm
        have hv1 := bI_1 (b := v) (by omega)
        rw [hv1] at hv
        have hv2 := (Bool.and_eq_true _ _).mp hv.symm
        have hv3 : (acc.take q).any (fun q => decide ((hmR ms q).2.2.2.2.1 = (hmR ms m).2.2.2.2.1)) = false := by have z := hv2.2; revert z; cases (acc.take q).any (fun q => decide ((hmR ms q).2.2.2.2.1 = (hmR ms m).2.2.2.2.1)) <;> intro z; rfl; exact absurd z (by first | decide | omega)
        refine wa_aload_n (n := 0) rfl ?_
        refine wb_gf5 237 rfl (wy_pr rfl) wt_237 wf_15_13 (v := 261) (h13) (fun r4 => ?_)
        refine wa_aload_n (n := 0) rfl ?_
        refine wb_gf4 237 rfl (wy_pr rfl) wt_237 wf_15_129 (v := 355) wl_237_129 ?_
        refine wa_iload (n := 8) rfl ?_
        refine wb_iald 355 rfl (wy_pr rfl) wt_355 (n := 400) ((ml_355 hMA)) (by omega) (by omega) (v := (acc.getD q 0)) (h55) (fun r5 => ?_)
        refine wa_iload (n := 6) rfl ?_
        refine wa_cv 261 rfl (wy_pr rfl) wt_261 (M2 := fun _ => False) rfl at_MO_haveSameTypes ⟨_, rfl⟩ rfl rfl ⟨(Or.inr ⟨wy_pr rfl, fun q => q⟩), trivial, trivial, trivial, trivial, trivial, trivial, trivial, trivial, trivial⟩ trivial (fun _ _ q => False.elim q) (rhs_261 (S := A) (x := acc.getD q 0) (y := m) hMA hKA hw hqr hm) (fun oq6 Sq6 hp7 q6 => ?_)
        rcases q6 with ⟨rfl, rfl⟩
        show wJ _ _ _ _ _ _ _ _ _ _
        have hbs := bI_rg (decide ((hmR ms (acc.getD q 0)).2.2.2.2.1 = (hmR ms m).2.2.2.2.1))
        refine wa_ifne (w_rg0 (by omega) (by omega)) ⟨_, rfl⟩ (fun c8 => ?_) (fun c8 => ?_)
        · skip
          refine wa_iconst ?_
          refine wa_fall ⟨_, rfl⟩ ?_
          refine wa_istore (n := 7) rfl ?_
          refine wa_iinc rfl rfl ?_
          refine wa_goto ⟨_, rfl⟩ ?_
          have hdt := bI_1 (b := (decide ((hmR ms (acc.getD q 0)).2.2.2.2.1 = (hmR ms m).2.2.2.2.1))) (by omega)
          refine wJ_S (ih (q + 1) false (by omega) (by omega) (by rw [any_ts (by omega) hv3, hdt, Bool.not_true, Bool.and_false])) ⟨rfl, rfl, rfl, rfl, rfl, rfl, rfl, rfl, rfl, trivial⟩
        · skip
          refine wa_iconst ?_
          refine wa_goto ⟨_, rfl⟩ ?_
          refine wa_istore (n := 7) rfl ?_
          refine wa_iinc rfl rfl ?_
          refine wa_goto ⟨_, rfl⟩ ?_
          have hdt := bI_0 (b := (decide ((hmR ms (acc.getD q 0)).2.2.2.2.1 = (hmR ms m).2.2.2.2.1))) (by omega)
          refine wJ_S (ih (q + 1) true (by omega) (by omega) (by rw [any_ts (by omega) hv3, hdt, hv2.1]; rfl)) ⟨rfl, rfl, rfl, rfl, rfl, rfl, rfl, rfl, rfl, trivial⟩
theorem rci_261 {c st pc o e : Int} {k : Nat} {WW r F : List Int} (hM : w_ML S) (hK : KR 261 T n cs ms S) (hw : wHo cs ms os) (hst : st = 0 ∨ st = 1) (hpc : -1 ≤ pc ∧ pc ≤ 8) (hW : wtI WW S) (ho : 0 ≤ o ∧ o < (cs.length : Int)) (he : e = (hcR cs o).2.2.2.2.2.2.1 + (hcR cs o).2.2.2.2.2.2.2) (hk : k < 60) (hF : F.length ≤ 400) (hnx : ∀ (acc : List Int) (A : wS), cdI acc A → (∀ x ∈ acc, 0 ≤ x ∧ x < (ms.length : Int)) → (∀ (j : Nat) (x : Int), ¬ cdM j x → A j x = S j x) → cdA ms (okM T ms 1 st pc WW) acc r = F → wJ (pe_GA xs) wY0 M (d + 3) t_M_collects ((pe_at t_M_collects.bl 1).getD (0, [])).2 [(0, (2, 237)), (1, (0, c)), (2, (0, st)), (3, (0, pc)), (4, (0, ((k + 1 : Nat) : Int)))] [] A (fun o Z => o = .inl none ∧ cdI F Z ∧ ∀ (j : Nat) (x : Int), ¬ cdM j x → Z j x = S j x)) : ∀ (nn : Nat) (m : Int) (acc : List Int) (A : wS), cdI acc A → (∀ x ∈ acc, 0 ≤ x ∧ x < (ms.length : Int)) → (∀ (j : Nat) (x : Int), ¬ cdM j x → A j x = S j x) → m + (nn : Int) = e → 0 ≤ m → cdA ms (okM T ms 1 st pc WW) acc (ivl m nn ++ r) = F → wJ (pe_GA xs) wY0 M (d + 3) t_M_collects ((pe_at t_M_collects.bl 2).getD (0, [])).2 [(0, (2, 237)), (1, (0, c)), (2, (0, st)), (3, (0, pc)), (4, (0, (k : Int))), (5, (0, o)), (6, (0, m))] [] A (fun o Z => o = .inl none ∧ cdI F Z ∧ ∀ (j : Nat) (x : Int), ¬ cdM j x → Z j x = S j x) := by
  have h400 := hw.1
  have hco := hw.2.1 o ho.1 ho.2
  have hco1 := hco.2.1
  intro nn
  induction nn with
  | zero =>
    intro m acc A hac hax hfr hme hm0 hcF
    have hMA : w_ML A := ML_w hM hfr (fun j z => by unfold cdM at z; omega)
    have hKA : KR 261 T n cs ms A := KR_ag hK (fun j x hj => hfr j x (by unfold cdM; omega))
    have h13 : A 237 13 = 261 := hKA.1
    have hcc := KR_c hKA ho.1 ho.2
    have h7 : A 268 o = (hcR cs o).2.2.2.2.2.2.1 := hcc.2.2.2.2.1
    have h8 : A 269 o = (hcR cs o).2.2.2.2.2.2.2 := hcc.2.2.2.2.2
    refine wa_iload (n := 6) rfl ?_
    refine wa_aload_n (n := 0) rfl ?_
    refine wb_gf5 237 rfl (wy_pr rfl) wt_237 wf_15_13 (v := 261) (h13) (fun r1 => ?_)
    refine wb_gf4 261 rfl (wy_pr rfl) wt_261 wf_12_7 (v := 268) wl_261_7 ?_
    refine wa_iload (n := 5) rfl ?_
    refine wb_iald 268 rfl (wy_pr rfl) wt_268 (n := 60) ((ml_268 hMA)) (by omega) (by omega) (v := (hcR cs o).2.2.2.2.2.2.1) (h7) (fun r2 => ?_)
    refine wa_aload_n (n := 0) rfl ?_
    refine wb_gf5 237 rfl (wy_pr rfl) wt_237 wf_15_13 (v := 261) (h13) (fun r3 => ?_)
    refine wb_gf4 261 rfl (wy_pr rfl) wt_261 wf_12_8 (v := 269) wl_261_8 ?_
    refine wa_iload (n := 5) rfl ?_
    refine wb_iald 269 rfl (wy_pr rfl) wt_269 (n := 60) ((ml_269 hMA)) (by omega) (by omega) (v := (hcR cs o).2.2.2.2.2.2.2) (h8) (fun r4 => ?_)
    refine wa_iadd ?_
    refine wa_icmpge (w_rg0 (by omega) (by omega)) (w_rg0 (by omega) (by omega)) ⟨_, rfl⟩ (fun c5 => ?_) (fun c5 => ?_)
    · skip
      refine wa_iinc rfl rfl ?_
      refine wa_goto ⟨_, rfl⟩ ?_
      exact wJ_S (hnx acc A hac hax hfr hcF) ⟨rfl, rfl, rfl, rfl, rfl, trivial⟩
    · skip
      exfalso; omega
  | succ nn ih =>
    intro m acc A hac hax hfr hme hm0 hcF
    rw [ivl_s, List.cons_append] at hcF
    have hMA : w_ML A := ML_w hM hfr (fun j z => by unfold cdM at z; omega)
    have hKA : KR 261 T n cs ms A := KR_ag hK (fun j x hj => hfr j x (by unfold cdM; omega))
    have h13 : A 237 13 = 261 := hKA.1
    have hcc := KR_c hKA ho.1 ho.2
    have h7 : A 268 o = (hcR cs o).2.2.2.2.2.2.1 := hcc.2.2.2.2.1
    have h8 : A 269 o = (hcR cs o).2.2.2.2.2.2.2 := hcc.2.2.2.2.2
    have hmv : 0 ≤ m ∧ m < (ms.length : Int) := ⟨hm0, by omega⟩
    have eM := KR_m hKA (m := m) (by omega) (by omega)
    have eW := hw.2.2.2 m (by omega) (by omega)
    have e1 : A 273 m = (hmR ms m).2.1 := eM.1.2.1
    have e2 : A 274 m = (hmR ms m).2.2.1 := eM.1.2.2.1
    have e3 : A 275 m = (hmR ms m).2.2.2.1 := eM.1.2.2.2.1
    have e4 : A 276 m = ((hmR ms m).2.2.2.2.1.length : Int) := eM.2.1.1
    have e5 : A 277 m = (hmR ms m).2.2.2.2.2.1 := eM.2.1.2.1
    have ef : A 279 m = (hmR ms m).2.2.2.2.2.2.1 := eM.1.2.2.2.2.1
    have et : A 280 m = (hmR ms m).2.2.2.2.2.2.2 := eM.1.2.2.2.2.2
    have eq := eW.1.2.1
    have es := eW.1.2.2.1
    have ey := eW.1.2.2.2
    have ev := eW.2.1
    have el := eW.2.2.1
    have eft := hKA.2.2.2.2.2.2.1 m (by omega) (by omega)
    have hWA : wtI WW A := wtI_ag hW (fun j x hj => hfr j x (by unfold cdM; unfold wtM at hj; omega))
    have h128 : A 237 128 = (acc.length : Int) := hac.1
    obtain ⟨t9, ht9⟩ := cdA_pr (ms := ms) (okM T ms 1 st pc WW) (m :: (ivl (m + 1) nn ++ r)) acc
    rw [hcF] at ht9
    have hF9 : F.length = acc.length + t9.length := by rw [ht9, List.length_append]
    refine wa_iload (n := 6) rfl ?_
    refine wa_aload_n (n := 0) rfl ?_
    refine wb_gf5 237 rfl (wy_pr rfl) wt_237 wf_15_13 (v := 261) (h13) (fun r51 => ?_)
    refine wb_gf4 261 rfl (wy_pr rfl) wt_261 wf_12_7 (v := 268) wl_261_7 ?_
    refine wa_iload (n := 5) rfl ?_
    refine wb_iald 268 rfl (wy_pr rfl) wt_268 (n := 60) ((ml_268 hMA)) (by omega) (by omega) (v := (hcR cs o).2.2.2.2.2.2.1) (h7) (fun r52 => ?_)
    refine wa_aload_n (n := 0) rfl ?_
    refine wb_gf5 237 rfl (wy_pr rfl) wt_237 wf_15_13 (v := 261) (h13) (fun r53 => ?_)
    refine wb_gf4 261 rfl (wy_pr rfl) wt_261 wf_12_8 (v := 269) wl_261_8 ?_
    refine wa_iload (n := 5) rfl ?_
    refine wb_iald 269 rfl (wy_pr rfl) wt_269 (n := 60) ((ml_269 hMA)) (by omega) (by omega) (v := (hcR cs o).2.2.2.2.2.2.2) (h8) (fun r54 => ?_)
    refine wa_iadd ?_
    refine wa_icmpge (w_rg0 (by omega) (by omega)) (w_rg0 (by omega) (by omega)) ⟨_, rfl⟩ (fun c55 => ?_) (fun c55 => ?_)
    · skip
      exfalso; omega
    · skip
      refine wa_aload_n (n := 0) rfl ?_
      refine wb_gf5 237 rfl (wy_pr rfl) wt_237 wf_15_13 (v := 261) (h13) (fun r56 => ?_)
      refine wb_gf4 261 rfl (wy_pr rfl) wt_261 wf_12_13 (v := 273) wl_261_13 ?_
      refine wa_iload (n := 6) rfl ?_
      refine wb_iald 273 rfl (wy_pr rfl) wt_273 (n := 400) ((ml_273 hMA)) (by omega) (by omega) (v := (hmR ms m).2.1) (e1) (fun r57 => ?_)
      refine wa_iconst ?_
      refine wa_icmpne (w_rg0 (by omega) (by omega)) (w_rg0 (by omega) (by omega)) ⟨_, rfl⟩ (fun c58 => ?_) (fun c58 => ?_)
      · skip
        refine wa_iconst ?_
        refine wa_fall ⟨_, rfl⟩ ?_
        refine wa_istore (n := 7) rfl ?_
        refine wa_iconst ?_
        refine wa_istore (n := 8) rfl ?_
        refine wa_fall ⟨_, rfl⟩ ?_
        have his : (okM T ms 1 st pc WW) m = false := decide_eq_false (fun z => by have z1 := z.1; have z2 := z.2.1; have z3 := z.2.2.1; first | omega | (have z4 := bI_t (decide_eq_true z.2.2.2); omega))
        refine wJ_S (rch_261 (d := d + 1) (is0 := false) hMA hKA hw hmv hac hax ?_ (acc.length + 1) 0 false (by omega) (by omega) rfl) ⟨rfl, rfl, rfl, rfl, rfl, rfl, rfl, rfl, rfl, trivial⟩
        obtain ⟨bv, hbv⟩ : ∃ x : Bool, x = (false && !(hidM ms acc m)) := ⟨_, rfl⟩
        rw [← hbv]
        have hbr := bI_rg bv
        refine wa_iload (n := 7) rfl ?_
        refine wa_ifeq (w_rg0 (by omega) (by omega)) ⟨_, rfl⟩ (fun c159 => ?_) (fun c159 => ?_)
        · skip
          refine wa_iinc rfl rfl ?_
          refine wa_goto ⟨_, rfl⟩ ?_
          have hb0 := bI_0 (b := bv) (by omega)
          rw [hb0] at hbv
          have hno : ¬ ((okM T ms 1 st pc WW) m = true ∧ hidM ms acc m = false) := fun z => by rw [his] at z; exact absurd z.1 (by first | decide | omega)
          rw [cdA_q hno] at hcF
          exact wJ_S (ih (m + 1) acc A hac hax hfr (by omega) (by omega) hcF) ⟨rfl, rfl, rfl, rfl, rfl, rfl, rfl, trivial⟩
        · skip
          have hacl : acc.length < 400 := by have hb1 := bI_1 (b := bv) (by omega); rw [hb1, Bool.false_and] at hbv; exact absurd hbv (by first | decide | omega)
          refine wa_aload_n (n := 0) rfl ?_
          refine wb_gf4 237 rfl (wy_pr rfl) wt_237 wf_15_129 (v := 355) wl_237_129 ?_
          refine wa_aload_n (n := 0) rfl ?_
          refine wb_gfi 237 rfl (wy_pr rfl) wt_237 wf_15_128 (v := (acc.length : Int)) (h128) (fun r160 => ?_)
          refine wa_iload (n := 6) rfl ?_
          refine wb_iast 355 rfl (wy_pr rfl) wt_355 (n := 400) ((ml_355 hMA)) (by omega) (by omega) ⟨(by omega), (by omega)⟩ ?_
          refine wa_aload_n (n := 0) rfl ?_
          refine wa_dup (by decide) ?_
          refine wb_gfi 237 rfl (wy_pr rfl) wt_237 wf_15_128 (v := (acc.length : Int)) ((w_up_slot (by decide)).trans (h128)) (fun r161 => ?_)
          refine wa_iconst ?_
          refine wa_iadd ?_
          refine wb_pfi 237 rfl (wy_pr rfl) wt_237 wf_15_128 (n := 128) rfl ⟨(by omega), (by omega)⟩ ?_
          refine wa_fall ⟨_, rfl⟩ ?_
          refine wa_iinc rfl rfl ?_
          refine wa_goto ⟨_, rfl⟩ ?_
          have hb1 := bI_1 (b := bv) (by omega)
          rw [hb1] at hbv
          rw [Bool.false_and] at hbv; exact absurd hbv (by first | decide | omega)
      · skip
        refine wa_aload_n (n := 0) rfl ?_
        refine wb_gf5 237 rfl (wy_pr rfl) wt_237 wf_15_13 (v := 261) (h13) (fun r59 => ?_)
        refine wb_gf4 261 rfl (wy_pr rfl) wt_261 wf_12_14 (v := 274) wl_261_14 ?_
        refine wa_iload (n := 6) rfl ?_
        refine wb_zald 274 rfl (wy_pr rfl) wt_274 (n := 400) ((ml_274 hMA)) (by omega) (by omega) (v := (hmR ms m).2.2.1) (e2) (fun r60 => ?_)
        refine wa_iload_n (n := 2) rfl ?_
        refine wa_icmpne (w_rg0 (by omega) (by omega)) (w_rg0 (by omega) (by omega)) ⟨_, rfl⟩ (fun c61 => ?_) (fun c61 => ?_)
        · skip
          refine wa_iconst ?_
          refine wa_fall ⟨_, rfl⟩ ?_
          refine wa_istore (n := 7) rfl ?_
          refine wa_iconst ?_
          refine wa_istore (n := 8) rfl ?_
          refine wa_fall ⟨_, rfl⟩ ?_
          have his : (okM T ms 1 st pc WW) m = false := decide_eq_false (fun z => by have z1 := z.1; have z2 := z.2.1; have z3 := z.2.2.1; first | omega | (have z4 := bI_t (decide_eq_true z.2.2.2); omega))
          refine wJ_S (rch_261 (d := d + 1) (is0 := false) hMA hKA hw hmv hac hax ?_ (acc.length + 1) 0 false (by omega) (by omega) rfl) ⟨rfl, rfl, rfl, rfl, rfl, rfl, rfl, rfl, rfl, trivial⟩
          obtain ⟨bv, hbv⟩ : ∃ x : Bool, x = (false && !(hidM ms acc m)) := ⟨_, rfl⟩
          rw [← hbv]
          have hbr := bI_rg bv
          refine wa_iload (n := 7) rfl ?_
          refine wa_ifeq (w_rg0 (by omega) (by omega)) ⟨_, rfl⟩ (fun c162 => ?_) (fun c162 => ?_)
          · skip
            refine wa_iinc rfl rfl ?_
            refine wa_goto ⟨_, rfl⟩ ?_
            have hb0 := bI_0 (b := bv) (by omega)
            rw [hb0] at hbv
            have hno : ¬ ((okM T ms 1 st pc WW) m = true ∧ hidM ms acc m = false) := fun z => by rw [his] at z; exact absurd z.1 (by first | decide | omega)
            rw [cdA_q hno] at hcF
            exact wJ_S (ih (m + 1) acc A hac hax hfr (by omega) (by omega) hcF) ⟨rfl, rfl, rfl, rfl, rfl, rfl, rfl, trivial⟩
          · skip
            have hacl : acc.length < 400 := by have hb1 := bI_1 (b := bv) (by omega); rw [hb1, Bool.false_and] at hbv; exact absurd hbv (by first | decide | omega)
            refine wa_aload_n (n := 0) rfl ?_
            refine wb_gf4 237 rfl (wy_pr rfl) wt_237 wf_15_129 (v := 355) wl_237_129 ?_
            refine wa_aload_n (n := 0) rfl ?_
            refine wb_gfi 237 rfl (wy_pr rfl) wt_237 wf_15_128 (v := (acc.length : Int)) (h128) (fun r163 => ?_)
            refine wa_iload (n := 6) rfl ?_
            refine wb_iast 355 rfl (wy_pr rfl) wt_355 (n := 400) ((ml_355 hMA)) (by omega) (by omega) ⟨(by omega), (by omega)⟩ ?_
            refine wa_aload_n (n := 0) rfl ?_
            refine wa_dup (by decide) ?_
            refine wb_gfi 237 rfl (wy_pr rfl) wt_237 wf_15_128 (v := (acc.length : Int)) ((w_up_slot (by decide)).trans (h128)) (fun r164 => ?_)
            refine wa_iconst ?_
            refine wa_iadd ?_
            refine wb_pfi 237 rfl (wy_pr rfl) wt_237 wf_15_128 (n := 128) rfl ⟨(by omega), (by omega)⟩ ?_
            refine wa_fall ⟨_, rfl⟩ ?_
            refine wa_iinc rfl rfl ?_
            refine wa_goto ⟨_, rfl⟩ ?_
            have hb1 := bI_1 (b := bv) (by omega)
            rw [hb1] at hbv
            rw [Bool.false_and] at hbv; exact absurd hbv (by first | decide | omega)
        · skip
          refine wa_iload_n (n := 3) rfl ?_
          refine wa_iflt (w_rg0 (by omega) (by omega)) ⟨_, rfl⟩ (fun c62 => ?_) (fun c62 => ?_)
          · skip
            refine wa_aload_n (n := 0) rfl ?_
            refine wa_iload (n := 6) rfl ?_
            refine wa_cv 237 rfl (wy_pr rfl) wt_237 (M2 := fun _ => False) rfl at_M_isWanted ⟨_, rfl⟩ rfl rfl ⟨(Or.inr ⟨wy_pr rfl, fun q => q⟩), trivial, trivial, trivial, trivial, trivial, trivial, trivial⟩ trivial (fun _ _ q => False.elim q) (riw_261 (S := A) (m := m) (WW := WW) hMA hKA hw hmv hWA) (fun oq63 Sq63 hp64 q63 => ?_)
            rcases q63 with ⟨rfl, rfl⟩
            show wJ _ _ _ _ _ _ _ _ _ _
            have hbw := bI_rg (decide (nmR T (hmR ms m) = WW))
            refine wa_ifeq (w_rg0 (by omega) (by omega)) ⟨_, rfl⟩ (fun c65 => ?_) (fun c65 => ?_)
            · skip
              refine wa_iconst ?_
              refine wa_fall ⟨_, rfl⟩ ?_
              refine wa_istore (n := 7) rfl ?_
              refine wa_iconst ?_
              refine wa_istore (n := 8) rfl ?_
              refine wa_fall ⟨_, rfl⟩ ?_
              have his : (okM T ms 1 st pc WW) m = false := decide_eq_false (fun z => by have z1 := z.1; have z2 := z.2.1; have z3 := z.2.2.1; first | omega | (have z4 := bI_t (decide_eq_true z.2.2.2); omega))
              refine wJ_S (rch_261 (d := d + 1) (is0 := false) hMA hKA hw hmv hac hax ?_ (acc.length + 1) 0 false (by omega) (by omega) rfl) ⟨rfl, rfl, rfl, rfl, rfl, rfl, rfl, rfl, rfl, trivial⟩
              obtain ⟨bv, hbv⟩ : ∃ x : Bool, x = (false && !(hidM ms acc m)) := ⟨_, rfl⟩
              rw [← hbv]
              have hbr := bI_rg bv
              refine wa_iload (n := 7) rfl ?_
              refine wa_ifeq (w_rg0 (by omega) (by omega)) ⟨_, rfl⟩ (fun c166 => ?_) (fun c166 => ?_)
              · skip
                refine wa_iinc rfl rfl ?_
                refine wa_goto ⟨_, rfl⟩ ?_
                have hb0 := bI_0 (b := bv) (by omega)
                rw [hb0] at hbv
                have hno : ¬ ((okM T ms 1 st pc WW) m = true ∧ hidM ms acc m = false) := fun z => by rw [his] at z; exact absurd z.1 (by first | decide | omega)
                rw [cdA_q hno] at hcF
                exact wJ_S (ih (m + 1) acc A hac hax hfr (by omega) (by omega) hcF) ⟨rfl, rfl, rfl, rfl, rfl, rfl, rfl, trivial⟩
              · skip
                have hacl : acc.length < 400 := by have hb1 := bI_1 (b := bv) (by omega); rw [hb1, Bool.false_and] at hbv; exact absurd hbv (by first | decide | omega)
                refine wa_aload_n (n := 0) rfl ?_
                refine wb_gf4 237 rfl (wy_pr rfl) wt_237 wf_15_129 (v := 355) wl_237_129 ?_
                refine wa_aload_n (n := 0) rfl ?_
                refine wb_gfi 237 rfl (wy_pr rfl) wt_237 wf_15_128 (v := (acc.length : Int)) (h128) (fun r167 => ?_)
                refine wa_iload (n := 6) rfl ?_
                refine wb_iast 355 rfl (wy_pr rfl) wt_355 (n := 400) ((ml_355 hMA)) (by omega) (by omega) ⟨(by omega), (by omega)⟩ ?_
                refine wa_aload_n (n := 0) rfl ?_
                refine wa_dup (by decide) ?_
                refine wb_gfi 237 rfl (wy_pr rfl) wt_237 wf_15_128 (v := (acc.length : Int)) ((w_up_slot (by decide)).trans (h128)) (fun r168 => ?_)
                refine wa_iconst ?_
                refine wa_iadd ?_
                refine wb_pfi 237 rfl (wy_pr rfl) wt_237 wf_15_128 (n := 128) rfl ⟨(by omega), (by omega)⟩ ?_
                refine wa_fall ⟨_, rfl⟩ ?_
                refine wa_iinc rfl rfl ?_
                refine wa_goto ⟨_, rfl⟩ ?_
                have hb1 := bI_1 (b := bv) (by omega)
                rw [hb1] at hbv
                rw [Bool.false_and] at hbv; exact absurd hbv (by first | decide | omega)
            · skip
              refine wa_iconst ?_
              refine wa_goto ⟨_, rfl⟩ ?_
              refine wa_istore (n := 7) rfl ?_
              refine wa_iconst ?_
              refine wa_istore (n := 8) rfl ?_
              refine wa_fall ⟨_, rfl⟩ ?_
              have his : (okM T ms 1 st pc WW) m = true := decide_eq_true ⟨by omega, by omega, by omega, of_decide_eq_true (bI_1 (by omega))⟩
              refine wJ_S (rch_261 (d := d + 1) (is0 := true) hMA hKA hw hmv hac hax ?_ (acc.length + 1) 0 true (by omega) (by omega) rfl) ⟨rfl, rfl, rfl, rfl, rfl, rfl, rfl, rfl, rfl, trivial⟩
              obtain ⟨bv, hbv⟩ : ∃ x : Bool, x = (true && !(hidM ms acc m)) := ⟨_, rfl⟩
              rw [← hbv]
              have hbr := bI_rg bv
              refine wa_iload (n := 7) rfl ?_
              refine wa_ifeq (w_rg0 (by omega) (by omega)) ⟨_, rfl⟩ (fun c166 => ?_) (fun c166 => ?_)
              · skip
                refine wa_iinc rfl rfl ?_
                refine wa_goto ⟨_, rfl⟩ ?_
                have hb0 := bI_0 (b := bv) (by omega)
                rw [hb0] at hbv
                have hno : ¬ ((okM T ms 1 st pc WW) m = true ∧ hidM ms acc m = false) := fun z => by rw [z.2] at hbv; exact absurd hbv (by first | decide | omega)
                rw [cdA_q hno] at hcF
                exact wJ_S (ih (m + 1) acc A hac hax hfr (by omega) (by omega) hcF) ⟨rfl, rfl, rfl, rfl, rfl, rfl, rfl, trivial⟩
              · skip
                have hacl : acc.length < 400 := by have hb1 := bI_1 (b := bv) (by omega); rw [hb1] at hbv; have hhd : hidM ms acc m = false := (by revert hbv; cases hidM ms acc m <;> intro hbv; rfl; exact absurd hbv (by first | decide | omega)); rw [cdA_p his hhd] at hcF; obtain ⟨t8, ht8⟩ := cdA_pr (ms := ms) (okM T ms 1 st pc WW) (ivl (m + 1) nn ++ r) (acc ++ [m]); rw [hcF] at ht8; have z := congrArg List.length ht8; rw [List.length_append, List.length_append, List.length_singleton] at z; omega
                refine wa_aload_n (n := 0) rfl ?_
                refine wb_gf4 237 rfl (wy_pr rfl) wt_237 wf_15_129 (v := 355) wl_237_129 ?_
                refine wa_aload_n (n := 0) rfl ?_
                refine wb_gfi 237 rfl (wy_pr rfl) wt_237 wf_15_128 (v := (acc.length : Int)) (h128) (fun r167 => ?_)
                refine wa_iload (n := 6) rfl ?_
                refine wb_iast 355 rfl (wy_pr rfl) wt_355 (n := 400) ((ml_355 hMA)) (by omega) (by omega) ⟨(by omega), (by omega)⟩ ?_
                refine wa_aload_n (n := 0) rfl ?_
                refine wa_dup (by decide) ?_
                refine wb_gfi 237 rfl (wy_pr rfl) wt_237 wf_15_128 (v := (acc.length : Int)) ((w_up_slot (by decide)).trans (h128)) (fun r168 => ?_)
                refine wa_iconst ?_
                refine wa_iadd ?_
                refine wb_pfi 237 rfl (wy_pr rfl) wt_237 wf_15_128 (n := 128) rfl ⟨(by omega), (by omega)⟩ ?_
                refine wa_fall ⟨_, rfl⟩ ?_
                refine wa_iinc rfl rfl ?_
                refine wa_goto ⟨_, rfl⟩ ?_
                have hb1 := bI_1 (b := bv) (by omega)
                rw [hb1] at hbv
                have hhd : hidM ms acc m = false := by revert hbv; cases hidM ms acc m <;> intro hbv; rfl; exact absurd hbv (by first | decide | omega)
                rw [cdA_p his hhd] at hcF
                exact wJ_S (ih (m + 1) (acc ++ [m]) _ (cdI_n (m := m) hac (by omega)) (fun x hx => by rcases List.mem_append.mp hx with y | y; exact hax x y; rw [List.mem_singleton.mp y]; exact hmv) (fun j x hj => (w_up_no (by unfold cdM at hj; omega)).trans ((w_up_no (by unfold cdM at hj; omega)).trans (hfr j x hj))) (by omega) (by omega) hcF) ⟨rfl, rfl, rfl, rfl, rfl, rfl, rfl, trivial⟩
          · skip
            refine wa_aload_n (n := 0) rfl ?_
            refine wb_gf5 237 rfl (wy_pr rfl) wt_237 wf_15_13 (v := 261) (h13) (fun r66 => ?_)
            refine wb_gf4 261 rfl (wy_pr rfl) wt_261 wf_12_16 (v := 276) wl_261_16 ?_
            refine wa_iload (n := 6) rfl ?_
            refine wb_iald 276 rfl (wy_pr rfl) wt_276 (n := 400) ((ml_276 hMA)) (by omega) (by omega) (v := ((hmR ms m).2.2.2.2.1.length : Int)) (e4) (fun r67 => ?_)
            refine wa_iload_n (n := 3) rfl ?_
            refine wa_icmpne (w_rg0 (by omega) (by omega)) (w_rg0 (by omega) (by omega)) ⟨_, rfl⟩ (fun c68 => ?_) (fun c68 => ?_)
            · skip
              refine wa_iconst ?_
              refine wa_fall ⟨_, rfl⟩ ?_
              refine wa_istore (n := 7) rfl ?_
              refine wa_iconst ?_
              refine wa_istore (n := 8) rfl ?_
              refine wa_fall ⟨_, rfl⟩ ?_
              have his : (okM T ms 1 st pc WW) m = false := decide_eq_false (fun z => by have z1 := z.1; have z2 := z.2.1; have z3 := z.2.2.1; first | omega | (have z4 := bI_t (decide_eq_true z.2.2.2); omega))
              refine wJ_S (rch_261 (d := d + 1) (is0 := false) hMA hKA hw hmv hac hax ?_ (acc.length + 1) 0 false (by omega) (by omega) rfl) ⟨rfl, rfl, rfl, rfl, rfl, rfl, rfl, rfl, rfl, trivial⟩
              obtain ⟨bv, hbv⟩ : ∃ x : Bool, x = (false && !(hidM ms acc m)) := ⟨_, rfl⟩
              rw [← hbv]
              have hbr := bI_rg bv
              refine wa_iload (n := 7) rfl ?_
              refine wa_ifeq (w_rg0 (by omega) (by omega)) ⟨_, rfl⟩ (fun c169 => ?_) (fun c169 => ?_)
              · skip
                refine wa_iinc rfl rfl ?_
                refine wa_goto ⟨_, rfl⟩ ?_
                have hb0 := bI_0 (b := bv) (by omega)
                rw [hb0] at hbv
                have hno : ¬ ((okM T ms 1 st pc WW) m = true ∧ hidM ms acc m = false) := fun z => by rw [his] at z; exact absurd z.1 (by first | decide | omega)
                rw [cdA_q hno] at hcF
                exact wJ_S (ih (m + 1) acc A hac hax hfr (by omega) (by omega) hcF) ⟨rfl, rfl, rfl, rfl, rfl, rfl, rfl, trivial⟩
              · skip
                have hacl : acc.length < 400 := by have hb1 := bI_1 (b := bv) (by omega); rw [hb1, Bool.false_and] at hbv; exact absurd hbv (by first | decide | omega)
                refine wa_aload_n (n := 0) rfl ?_
                refine wb_gf4 237 rfl (wy_pr rfl) wt_237 wf_15_129 (v := 355) wl_237_129 ?_
                refine wa_aload_n (n := 0) rfl ?_
                refine wb_gfi 237 rfl (wy_pr rfl) wt_237 wf_15_128 (v := (acc.length : Int)) (h128) (fun r170 => ?_)
                refine wa_iload (n := 6) rfl ?_
                refine wb_iast 355 rfl (wy_pr rfl) wt_355 (n := 400) ((ml_355 hMA)) (by omega) (by omega) ⟨(by omega), (by omega)⟩ ?_
                refine wa_aload_n (n := 0) rfl ?_
                refine wa_dup (by decide) ?_
                refine wb_gfi 237 rfl (wy_pr rfl) wt_237 wf_15_128 (v := (acc.length : Int)) ((w_up_slot (by decide)).trans (h128)) (fun r171 => ?_)
                refine wa_iconst ?_
                refine wa_iadd ?_
                refine wb_pfi 237 rfl (wy_pr rfl) wt_237 wf_15_128 (n := 128) rfl ⟨(by omega), (by omega)⟩ ?_
                refine wa_fall ⟨_, rfl⟩ ?_
                refine wa_iinc rfl rfl ?_
                refine wa_goto ⟨_, rfl⟩ ?_
                have hb1 := bI_1 (b := bv) (by omega)
                rw [hb1] at hbv
                rw [Bool.false_and] at hbv; exact absurd hbv (by first | decide | omega)
            · skip
              refine wa_fall ⟨_, rfl⟩ ?_
              refine wa_aload_n (n := 0) rfl ?_
              refine wa_iload (n := 6) rfl ?_
              refine wa_cv 237 rfl (wy_pr rfl) wt_237 (M2 := fun _ => False) rfl at_M_isWanted ⟨_, rfl⟩ rfl rfl ⟨(Or.inr ⟨wy_pr rfl, fun q => q⟩), trivial, trivial, trivial, trivial, trivial, trivial, trivial⟩ trivial (fun _ _ q => False.elim q) (riw_261 (S := A) (m := m) (WW := WW) hMA hKA hw hmv hWA) (fun oq69 Sq69 hp70 q69 => ?_)
              rcases q69 with ⟨rfl, rfl⟩
              show wJ _ _ _ _ _ _ _ _ _ _
              have hbw := bI_rg (decide (nmR T (hmR ms m) = WW))
              refine wa_ifeq (w_rg0 (by omega) (by omega)) ⟨_, rfl⟩ (fun c71 => ?_) (fun c71 => ?_)
              · skip
                refine wa_iconst ?_
                refine wa_fall ⟨_, rfl⟩ ?_
                refine wa_istore (n := 7) rfl ?_
                refine wa_iconst ?_
                refine wa_istore (n := 8) rfl ?_
                refine wa_fall ⟨_, rfl⟩ ?_
                have his : (okM T ms 1 st pc WW) m = false := decide_eq_false (fun z => by have z1 := z.1; have z2 := z.2.1; have z3 := z.2.2.1; first | omega | (have z4 := bI_t (decide_eq_true z.2.2.2); omega))
                refine wJ_S (rch_261 (d := d + 1) (is0 := false) hMA hKA hw hmv hac hax ?_ (acc.length + 1) 0 false (by omega) (by omega) rfl) ⟨rfl, rfl, rfl, rfl, rfl, rfl, rfl, rfl, rfl, trivial⟩
                obtain ⟨bv, hbv⟩ : ∃ x : Bool, x = (false && !(hidM ms acc m)) := ⟨_, rfl⟩
                rw [← hbv]
                have hbr := bI_rg bv
                refine wa_iload (n := 7) rfl ?_
                refine wa_ifeq (w_rg0 (by omega) (by omega)) ⟨_, rfl⟩ (fun c172 => ?_) (fun c172 => ?_)
                · skip
                  refine wa_iinc rfl rfl ?_
                  refine wa_goto ⟨_, rfl⟩ ?_
                  have hb0 := bI_0 (b := bv) (by omega)
                  rw [hb0] at hbv
                  have hno : ¬ ((okM T ms 1 st pc WW) m = true ∧ hidM ms acc m = false) := fun z => by rw [his] at z; exact absurd z.1 (by first | decide | omega)
                  rw [cdA_q hno] at hcF
                  exact wJ_S (ih (m + 1) acc A hac hax hfr (by omega) (by omega) hcF) ⟨rfl, rfl, rfl, rfl, rfl, rfl, rfl, trivial⟩
                · skip
                  have hacl : acc.length < 400 := by have hb1 := bI_1 (b := bv) (by omega); rw [hb1, Bool.false_and] at hbv; exact absurd hbv (by first | decide | omega)
                  refine wa_aload_n (n := 0) rfl ?_
                  refine wb_gf4 237 rfl (wy_pr rfl) wt_237 wf_15_129 (v := 355) wl_237_129 ?_
                  refine wa_aload_n (n := 0) rfl ?_
                  refine wb_gfi 237 rfl (wy_pr rfl) wt_237 wf_15_128 (v := (acc.length : Int)) (h128) (fun r173 => ?_)
                  refine wa_iload (n := 6) rfl ?_
                  refine wb_iast 355 rfl (wy_pr rfl) wt_355 (n := 400) ((ml_355 hMA)) (by omega) (by omega) ⟨(by omega), (by omega)⟩ ?_
                  refine wa_aload_n (n := 0) rfl ?_
                  refine wa_dup (by decide) ?_
                  refine wb_gfi 237 rfl (wy_pr rfl) wt_237 wf_15_128 (v := (acc.length : Int)) ((w_up_slot (by decide)).trans (h128)) (fun r174 => ?_)
                  refine wa_iconst ?_
                  refine wa_iadd ?_
                  refine wb_pfi 237 rfl (wy_pr rfl) wt_237 wf_15_128 (n := 128) rfl ⟨(by omega), (by omega)⟩ ?_
                  refine wa_fall ⟨_, rfl⟩ ?_
                  refine wa_iinc rfl rfl ?_
                  refine wa_goto ⟨_, rfl⟩ ?_
                  have hb1 := bI_1 (b := bv) (by omega)
                  rw [hb1] at hbv
                  rw [Bool.false_and] at hbv; exact absurd hbv (by first | decide | omega)
              · skip
                refine wa_iconst ?_
                refine wa_goto ⟨_, rfl⟩ ?_
                refine wa_istore (n := 7) rfl ?_
                refine wa_iconst ?_
                refine wa_istore (n := 8) rfl ?_
                refine wa_fall ⟨_, rfl⟩ ?_
                have his : (okM T ms 1 st pc WW) m = true := decide_eq_true ⟨by omega, by omega, by omega, of_decide_eq_true (bI_1 (by omega))⟩
                refine wJ_S (rch_261 (d := d + 1) (is0 := true) hMA hKA hw hmv hac hax ?_ (acc.length + 1) 0 true (by omega) (by omega) rfl) ⟨rfl, rfl, rfl, rfl, rfl, rfl, rfl, rfl, rfl, trivial⟩
                obtain ⟨bv, hbv⟩ : ∃ x : Bool, x = (true && !(hidM ms acc m)) := ⟨_, rfl⟩
                rw [← hbv]
                have hbr := bI_rg bv
                refine wa_iload (n := 7) rfl ?_
                refine wa_ifeq (w_rg0 (by omega) (by omega)) ⟨_, rfl⟩ (fun c172 => ?_) (fun c172 => ?_)
                · skip
                  refine wa_iinc rfl rfl ?_
                  refine wa_goto ⟨_, rfl⟩ ?_
                  have hb0 := bI_0 (b := bv) (by omega)
                  rw [hb0] at hbv
                  have hno : ¬ ((okM T ms 1 st pc WW) m = true ∧ hidM ms acc m = false) := fun z => by rw [z.2] at hbv; exact absurd hbv (by first | decide | omega)
                  rw [cdA_q hno] at hcF
                  exact wJ_S (ih (m + 1) acc A hac hax hfr (by omega) (by omega) hcF) ⟨rfl, rfl, rfl, rfl, rfl, rfl, rfl, trivial⟩
                · skip
                  have hacl : acc.length < 400 := by have hb1 := bI_1 (b := bv) (by omega); rw [hb1] at hbv; have hhd : hidM ms acc m = false := (by revert hbv; cases hidM ms acc m <;> intro hbv; rfl; exact absurd hbv (by first | decide | omega)); rw [cdA_p his hhd] at hcF; obtain ⟨t8, ht8⟩ := cdA_pr (ms := ms) (okM T ms 1 st pc WW) (ivl (m + 1) nn ++ r) (acc ++ [m]); rw [hcF] at ht8; have z := congrArg List.length ht8; rw [List.length_append, List.length_append, List.length_singleton] at z; omega
                  refine wa_aload_n (n := 0) rfl ?_
                  refine wb_gf4 237 rfl (wy_pr rfl) wt_237 wf_15_129 (v := 355) wl_237_129 ?_
                  refine wa_aload_n (n := 0) rfl ?_
                  refine wb_gfi 237 rfl (wy_pr rfl) wt_237 wf_15_128 (v := (acc.length : Int)) (h128) (fun r173 => ?_)
                  refine wa_iload (n := 6) rfl ?_
                  refine wb_iast 355 rfl (wy_pr rfl) wt_355 (n := 400) ((ml_355 hMA)) (by omega) (by omega) ⟨(by omega), (by omega)⟩ ?_
                  refine wa_aload_n (n := 0) rfl ?_
                  refine wa_dup (by decide) ?_
                  refine wb_gfi 237 rfl (wy_pr rfl) wt_237 wf_15_128 (v := (acc.length : Int)) ((w_up_slot (by decide)).trans (h128)) (fun r174 => ?_)
                  refine wa_iconst ?_
                  refine wa_iadd ?_
                  refine wb_pfi 237 rfl (wy_pr rfl) wt_237 wf_15_128 (n := 128) rfl ⟨(by omega), (by omega)⟩ ?_
                  refine wa_fall ⟨_, rfl⟩ ?_
                  refine wa_iinc rfl rfl ?_
                  refine wa_goto ⟨_, rfl⟩ ?_
                  have hb1 := bI_1 (b := bv) (by omega)
                  rw [hb1] at hbv
                  have hhd : hidM ms acc m = false := by revert hbv; cases hidM ms acc m <;> intro hbv; rfl; exact absurd hbv (by first | decide | omega)
                  rw [cdA_p his hhd] at hcF
                  exact wJ_S (ih (m + 1) (acc ++ [m]) _ (cdI_n (m := m) hac (by omega)) (fun x hx => by rcases List.mem_append.mp hx with y | y; exact hax x y; rw [List.mem_singleton.mp y]; exact hmv) (fun j x hj => (w_up_no (by unfold cdM at hj; omega)).trans ((w_up_no (by unfold cdM at hj; omega)).trans (hfr j x hj))) (by omega) (by omega) hcF) ⟨rfl, rfl, rfl, rfl, rfl, rfl, rfl, trivial⟩
theorem rcu_261 {c st pc : Int} {WW F lo : List Int} (hM : w_ML S) (hK : KR 261 T n cs ms S) (hw : wHo cs ms os) (hst : st = 0 ∨ st = 1) (hpc : -1 ≤ pc ∧ pc ≤ 8) (hW : wtI WW S) (hlo : odI lo S) (hlr : ∀ o ∈ lo, 0 ≤ o ∧ o < (cs.length : Int)) (hF : F.length ≤ 400) : ∀ (r : List Int) (k : Nat) (acc : List Int) (A : wS), r = lo.drop k → k ≤ lo.length → cdI acc A → (∀ x ∈ acc, 0 ≤ x ∧ x < (ms.length : Int)) → (∀ (j : Nat) (x : Int), ¬ cdM j x → A j x = S j x) → cdA ms (okM T ms 1 st pc WW) acc (mOr cs r) = F → wJ (pe_GA xs) wY0 M (d + 3) t_M_collects ((pe_at t_M_collects.bl 1).getD (0, [])).2 [(0, (2, 237)), (1, (0, c)), (2, (0, st)), (3, (0, pc)), (4, (0, (k : Int)))] [] A (fun o Z => o = .inl none ∧ cdI F Z ∧ ∀ (j : Nat) (x : Int), ¬ cdM j x → Z j x = S j x) := by
  have h400 := hw.1
  have hll : (lo.length : Int) ≤ 60 := su_nd_len (by first | decide | omega) hlo.2.2
  intro r
  induction r with
  | nil =>
    intro k acc A hr hkl hac hax hfr hcF
    have hk : lo.length ≤ k := by
      have z := congrArg List.length hr
      rw [List.length_drop] at z
      have z2 : 0 = lo.length - k := z
      omega
    have h124 : A 237 124 = (lo.length : Int) := (hfr 237 124 (by unfold cdM; omega)).trans hlo.1
    refine wa_iload (n := 4) rfl ?_
    refine wa_aload_n (n := 0) rfl ?_
    refine wb_gfi 237 rfl (wy_pr rfl) wt_237 wf_15_124 (v := (lo.length : Int)) (h124) (fun r1 => ?_)
    refine wa_icmpge (w_rg0 (by omega) (by omega)) (w_rg0 (by omega) (by omega)) ⟨_, rfl⟩ (fun c2 => ?_) (fun c2 => ?_)
    · skip
      refine wa_return rfl ?_
      exact ⟨rfl, by rw [← hcF]; exact hac, hfr⟩
    · skip
      exfalso; omega
  | cons s r ih =>
    intro k acc A hr hkl hac hax hfr hcF
    have hk : k < lo.length := by
      have z := congrArg List.length hr
      rw [List.length_drop, List.length_cons] at z
      omega
    have hMA : w_ML A := ML_w hM hfr (fun j z => by unfold cdM at z; omega)
    have hKA : KR 261 T n cs ms A := KR_ag hK (fun j x hj => hfr j x (by unfold cdM; omega))
    have h13 : A 237 13 = 261 := hKA.1
    have h124 : A 237 124 = (lo.length : Int) := (hfr 237 124 (by unfold cdM; omega)).trans hlo.1
    have hdr := List.drop_eq_getElem_cons hk
    rw [← hr] at hdr
    have hs1 : lo[k] = s := (List.cons.inj hdr).1.symm
    have hr2 : r = lo.drop (k + 1) := (List.cons.inj hdr).2
    have hsr := hlr s (by rw [← hs1]; exact List.getElem_mem hk)
    have h53 : A 353 (k : Int) = s := (hfr 353 _ (by unfold cdM; omega)).trans ((hlo.2.1 k hk).trans (by rw [List.getD_eq_getElem?_getD, List.getElem?_eq_getElem hk]; exact hs1))
    have hcc := KR_c hKA hsr.1 hsr.2
    have h7 : A 268 s = (hcR cs s).2.2.2.2.2.2.1 := hcc.2.2.2.2.1
    have hcs := (hw.2.1 s hsr.1 hsr.2).2.1
    rw [mOr_c] at hcF
    refine wa_iload (n := 4) rfl ?_
    refine wa_aload_n (n := 0) rfl ?_
    refine wb_gfi 237 rfl (wy_pr rfl) wt_237 wf_15_124 (v := (lo.length : Int)) (h124) (fun r51 => ?_)
    refine wa_icmpge (w_rg0 (by omega) (by omega)) (w_rg0 (by omega) (by omega)) ⟨_, rfl⟩ (fun c52 => ?_) (fun c52 => ?_)
    · skip
      exfalso; omega
    · skip
      refine wa_aload_n (n := 0) rfl ?_
      refine wb_gf4 237 rfl (wy_pr rfl) wt_237 wf_15_125 (v := 353) wl_237_125 ?_
      refine wa_iload (n := 4) rfl ?_
      refine wb_iald 353 rfl (wy_pr rfl) wt_353 (n := 60) ((ml_353 hMA)) (by omega) (by omega) (v := s) (h53) (fun r53 => ?_)
      refine wa_istore (n := 5) rfl ?_
      refine wa_aload_n (n := 0) rfl ?_
      refine wb_gf5 237 rfl (wy_pr rfl) wt_237 wf_15_13 (v := 261) (h13) (fun r54 => ?_)
      refine wb_gf4 261 rfl (wy_pr rfl) wt_261 wf_12_7 (v := 268) wl_261_7 ?_
      refine wa_iload (n := 5) rfl ?_
      refine wb_iald 268 rfl (wy_pr rfl) wt_268 (n := 60) ((ml_268 hMA)) (by omega) (by omega) (v := (hcR cs s).2.2.2.2.2.2.1) (h7) (fun r55 => ?_)
      refine wa_istore (n := 6) rfl ?_
      refine wa_fall ⟨_, rfl⟩ ?_
      exact wJ_S (rci_261 (k := k) hM hK hw hst hpc hW hsr rfl (by omega) hF (fun acc2 A2 a1 a2 a3 a4 => ih (k + 1) acc2 A2 hr2 (by omega) a1 a2 a3 a4) ((hcR cs s).2.2.2.2.2.2.2.toNat) ((hcR cs s).2.2.2.2.2.2.1) acc A hac hax hfr (by omega) hcs.1 hcF) ⟨rfl, rfl, rfl, rfl, rfl, rfl, rfl, trivial⟩
theorem rco_261 {c st pc : Int} {WW : List Int} (hM : w_ML S) (hK : KR 261 T n cs ms S) (hw : wHo cs ms os) (hO : wOs cs os) (hA : wAb cs) (hst : st = 0 ∨ st = 1) (hpc : -1 ≤ pc ∧ pc ≤ 8) (hW : wtI WW S) (hc : 0 ≤ c ∧ c < (cs.length : Int)) : wJ (pe_GA xs) wY0 M (d + 64) t_M_collects ((pe_at t_M_collects.bl 0).getD (0, [])).2 [(0, (2, 237)), (1, (0, c)), (2, (0, st)), (3, (0, pc))] [] S (fun o Z => o = .inl none ∧ cdI (cdA ms (okM T ms 1 st pc WW) [] (mOr cs (os c))) Z ∧ ∀ (j : Nat) (x : Int), ¬ cdM j x → ¬ odM j x → Z j x = S j x) := by
  have hon := (hw.2.2.1 c hc.1 hc.2).2.2
  have hF5 := cdA_400 (ok := (okM T ms 1 st pc WW)) hw (fun x hx => mOr_rg hw hon hx)
  refine wa_aload_n (n := 0) rfl ?_
  refine wa_iload_n (n := 1) rfl ?_
  refine wa_cv 237 rfl (wy_pr rfl) wt_237 (M2 := fun _ => False) rfl at_M_orders ⟨_, rfl⟩ rfl rfl ⟨(Or.inr ⟨wy_pr rfl, fun q => q⟩), trivial, trivial, trivial, trivial⟩ trivial (fun _ _ q => False.elim q) (ror_261 (S := S) (c := c) hM hK hw hO hA hc) (fun oq1 Sq1 hp2 q1 => ?_)
  rcases q1 with ⟨rfl, ho1, hf1⟩
  show wJ _ _ _ _ _ _ _ _ _ _
  refine wa_aload_n (n := 0) rfl ?_
  refine wa_iconst ?_
  refine wb_pfi 237 rfl (wy_pr rfl) wt_237 wf_15_128 (n := 128) rfl ⟨(by omega), (by omega)⟩ ?_
  refine wa_iconst ?_
  refine wa_istore (n := 4) rfl ?_
  refine wa_fall ⟨_, rfl⟩ ?_
  have fA : ∀ (j : Nat) (x : Int), ¬ (j = 237 ∧ x = 128) → (w_up Sq1 237 128 0) j x = Sq1 j x := fun j x hj => w_up_no (by omega)
  have fS : ∀ (j : Nat) (x : Int), ¬ cdM j x → ¬ odM j x → (w_up Sq1 237 128 0) j x = S j x := fun j x h1 h2 => (fA j x (by unfold cdM at h1; omega)).trans (hf1 j x h2)
  have hM1 : w_ML (w_up Sq1 237 128 0) := fun q hq => (fS q.1 (-1) (by unfold cdM; omega) (by unfold odM; omega)).trans (hM q hq)
  have hK1 : KR 261 T n cs ms (w_up Sq1 237 128 0) := KR_ag hK (fun j x hj => fS j x (by unfold cdM; omega) (by unfold odM; omega))
  have hW1 : wtI WW (w_up Sq1 237 128 0) := wtI_ag hW (fun j x hj => fS j x (by unfold cdM; unfold wtM at hj; omega) (by unfold odM; unfold wtM at hj; omega))
  have hO1 : odI (os c) (w_up Sq1 237 128 0) := odI_ag ho1 (fun j x hj => fA j x (by unfold odM at hj; omega))
  refine wJ_S (wJ_mono (rcu_261 (d := d + 61) (S := (w_up Sq1 237 128 0)) hM1 hK1 hw hst hpc hW1 hO1 hon hF5.1 (os c) 0 [] (w_up Sq1 237 128 0) (List.drop_zero).symm (by omega) ⟨w_up_same _ _ _ _, fun i hi => absurd hi (Nat.not_lt_zero _), Nat.zero_le _⟩ (fun x hx => absurd hx List.not_mem_nil) (fun j x _ => rfl) rfl) (fun o Z hz => ⟨hz.1, hz.2.1, fun j x h1 h2 => (hz.2.2 j x h1).trans (fS j x h1 h2)⟩)) ⟨rfl, rfl, rfl, rfl, rfl, trivial⟩
theorem rcml_261 {c e : Int} {F : List Int} (hM : w_ML S) (hK : KR 261 T n cs ms S) (hw : wHo cs ms os) (hc : 0 ≤ c ∧ c < (cs.length : Int)) (he : e = (hcR cs c).2.2.2.2.2.2.1 + (hcR cs c).2.2.2.2.2.2.2) (hND : ∀ m q : Int, m ∈ mIx cs c → q ∈ mIx cs c → (hmR ms m).2.1 = 2 → (hmR ms q).2.1 = 2 → (hmR ms m).2.2.2.2.1 = (hmR ms q).2.2.2.2.1 → m = q) (hF : F.length ≤ 400) : ∀ (nn : Nat) (m : Int) (acc : List Int) (A : wS), cdI acc A → (∀ x ∈ acc, (x ∈ mIx cs c ∧ (hmR ms x).2.1 = 2) ∧ x < m) → (∀ (j : Nat) (x : Int), ¬ cdM j x → A j x = S j x) → m + (nn : Int) = e → (hcR cs c).2.2.2.2.2.2.1 ≤ m → cdA ms (okM T ms 2 0 (-1) []) acc (ivl m nn) = F → wJ (pe_GA xs) wY0 M (d + 3) t_M_collectsMakers ((pe_at t_M_collectsMakers.bl 1).getD (0, [])).2 [(0, (2, 237)), (1, (0, c)), (2, (0, m))] [] A (fun o Z => o = .inl none ∧ cdI F Z ∧ ∀ (j : Nat) (x : Int), ¬ cdM j x → Z j x = S j x) := by
  have h400 := hw.1
  have hco1 := (hw.2.1 c hc.1 hc.2).2.1
  intro nn
  induction nn with
  | zero =>
    intro m acc A hac hax hfr hme hm0 hcF
    have hMA : w_ML A := ML_w hM hfr (fun j z => by unfold cdM at z; omega)
    have hKA : KR 261 T n cs ms A := KR_ag hK (fun j x hj => hfr j x (by unfold cdM; omega))
    have h13 : A 237 13 = 261 := hKA.1
    have hcc := KR_c hKA hc.1 hc.2
    have h7 : A 268 c = (hcR cs c).2.2.2.2.2.2.1 := hcc.2.2.2.2.1
    have h8 : A 269 c = (hcR cs c).2.2.2.2.2.2.2 := hcc.2.2.2.2.2
    refine wa_iload_n (n := 2) rfl ?_
    refine wa_aload_n (n := 0) rfl ?_
    refine wb_gf5 237 rfl (wy_pr rfl) wt_237 wf_15_13 (v := 261) (h13) (fun r1 => ?_)
    refine wb_gf4 261 rfl (wy_pr rfl) wt_261 wf_12_7 (v := 268) wl_261_7 ?_
    refine wa_iload_n (n := 1) rfl ?_
    refine wb_iald 268 rfl (wy_pr rfl) wt_268 (n := 60) ((ml_268 hMA)) (by omega) (by omega) (v := (hcR cs c).2.2.2.2.2.2.1) (h7) (fun r2 => ?_)
    refine wa_aload_n (n := 0) rfl ?_
    refine wb_gf5 237 rfl (wy_pr rfl) wt_237 wf_15_13 (v := 261) (h13) (fun r3 => ?_)
    refine wb_gf4 261 rfl (wy_pr rfl) wt_261 wf_12_8 (v := 269) wl_261_8 ?_
    refine wa_iload_n (n := 1) rfl ?_
    refine wb_iald 269 rfl (wy_pr rfl) wt_269 (n := 60) ((ml_269 hMA)) (by omega) (by omega) (v := (hcR cs c).2.2.2.2.2.2.2) (h8) (fun r4 => ?_)
    refine wa_iadd ?_
    refine wa_icmpge (w_rg0 (by omega) (by omega)) (w_rg0 (by omega) (by omega)) ⟨_, rfl⟩ (fun c5 => ?_) (fun c5 => ?_)
    · skip
      refine wa_return rfl ?_
      exact ⟨rfl, by rw [← hcF]; exact hac, hfr⟩
    · skip
      exfalso; omega
  | succ nn ih =>
    intro m acc A hac hax hfr hme hm0 hcF
    rw [ivl_s] at hcF
    have hMA : w_ML A := ML_w hM hfr (fun j z => by unfold cdM at z; omega)
    have hKA : KR 261 T n cs ms A := KR_ag hK (fun j x hj => hfr j x (by unfold cdM; omega))
    have h13 : A 237 13 = 261 := hKA.1
    have hcc := KR_c hKA hc.1 hc.2
    have h7 : A 268 c = (hcR cs c).2.2.2.2.2.2.1 := hcc.2.2.2.2.1
    have h8 : A 269 c = (hcR cs c).2.2.2.2.2.2.2 := hcc.2.2.2.2.2
    have hmv : 0 ≤ m ∧ m < (ms.length : Int) := ⟨by omega, by omega⟩
    have hmi : m ∈ mIx cs c := (ivl_m _ _ _).mpr ⟨hm0, by omega⟩
    have eM := KR_m hKA (m := m) (by omega) (by omega)
    have eW := hw.2.2.2 m (by omega) (by omega)
    have e1 : A 273 m = (hmR ms m).2.1 := eM.1.2.1
    have e2 : A 274 m = (hmR ms m).2.2.1 := eM.1.2.2.1
    have e3 : A 275 m = (hmR ms m).2.2.2.1 := eM.1.2.2.2.1
    have e4 : A 276 m = ((hmR ms m).2.2.2.2.1.length : Int) := eM.2.1.1
    have e5 : A 277 m = (hmR ms m).2.2.2.2.2.1 := eM.2.1.2.1
    have ef : A 279 m = (hmR ms m).2.2.2.2.2.2.1 := eM.1.2.2.2.2.1
    have et : A 280 m = (hmR ms m).2.2.2.2.2.2.2 := eM.1.2.2.2.2.2
    have eq := eW.1.2.1
    have es := eW.1.2.2.1
    have ey := eW.1.2.2.2
    have ev := eW.2.1
    have el := eW.2.2.1
    have eft := hKA.2.2.2.2.2.2.1 m (by omega) (by omega)
    have h128 : A 237 128 = (acc.length : Int) := hac.1
    have hcon := eW.2.2.2.2
    have hmk : (hmR ms m).2.1 = 2 → (okM T ms 2 0 (-1) []) m = true ∧ hidM ms acc m = false := fun h2 => by
      refine ⟨decide_eq_true ⟨h2, (hcon h2).1, Or.inl rfl, ?_⟩, ?_⟩
      · unfold nmR; rw [(hcon h2).2, Int.sub_self]; rfl
      · unfold hidM
        rw [List.any_eq_false]
        intro x hx z
        have y := hax x hx
        have y2 := hND x m y.1.1 hmi y.1.2 h2 (of_decide_eq_true z)
        omega
    have hacl : (hmR ms m).2.1 = 2 → acc.length < 400 := fun h2 => by
      have z := hcF
      rw [cdA_p (hmk h2).1 (hmk h2).2] at z
      obtain ⟨t8, ht8⟩ := cdA_pr (ms := ms) (okM T ms 2 0 (-1) []) (ivl (m + 1) nn) (acc ++ [m])
      rw [z] at ht8
      have y := congrArg List.length ht8
      rw [List.length_append, List.length_append, List.length_singleton] at y
      omega
    refine wa_iload_n (n := 2) rfl ?_
    refine wa_aload_n (n := 0) rfl ?_
    refine wb_gf5 237 rfl (wy_pr rfl) wt_237 wf_15_13 (v := 261) (h13) (fun r51 => ?_)
    refine wb_gf4 261 rfl (wy_pr rfl) wt_261 wf_12_7 (v := 268) wl_261_7 ?_
    refine wa_iload_n (n := 1) rfl ?_
    refine wb_iald 268 rfl (wy_pr rfl) wt_268 (n := 60) ((ml_268 hMA)) (by omega) (by omega) (v := (hcR cs c).2.2.2.2.2.2.1) (h7) (fun r52 => ?_)
    refine wa_aload_n (n := 0) rfl ?_
    refine wb_gf5 237 rfl (wy_pr rfl) wt_237 wf_15_13 (v := 261) (h13) (fun r53 => ?_)
    refine wb_gf4 261 rfl (wy_pr rfl) wt_261 wf_12_8 (v := 269) wl_261_8 ?_
    refine wa_iload_n (n := 1) rfl ?_
    refine wb_iald 269 rfl (wy_pr rfl) wt_269 (n := 60) ((ml_269 hMA)) (by omega) (by omega) (v := (hcR cs c).2.2.2.2.2.2.2) (h8) (fun r54 => ?_)
    refine wa_iadd ?_
    refine wa_icmpge (w_rg0 (by omega) (by omega)) (w_rg0 (by omega) (by omega)) ⟨_, rfl⟩ (fun c55 => ?_) (fun c55 => ?_)
    · skip
      exfalso; omega
    · skip
      refine wa_aload_n (n := 0) rfl ?_
      refine wb_gf5 237 rfl (wy_pr rfl) wt_237 wf_15_13 (v := 261) (h13) (fun r56 => ?_)
      refine wb_gf4 261 rfl (wy_pr rfl) wt_261 wf_12_13 (v := 273) wl_261_13 ?_
      refine wa_iload_n (n := 2) rfl ?_
      refine wb_iald 273 rfl (wy_pr rfl) wt_273 (n := 400) ((ml_273 hMA)) (by omega) (by omega) (v := (hmR ms m).2.1) (e1) (fun r57 => ?_)
      refine wa_iconst ?_
      refine wa_icmpne (w_rg0 (by omega) (by omega)) (w_rg0 (by omega) (by omega)) ⟨_, rfl⟩ (fun c58 => ?_) (fun c58 => ?_)
      · skip
        refine wa_iinc rfl rfl ?_
        refine wa_goto ⟨_, rfl⟩ ?_
        rw [cdA_q (fun z => by have z1 := (of_decide_eq_true z.1).1; omega)] at hcF
        exact wJ_S (ih (m + 1) acc A hac (fun x hx => ⟨(hax x hx).1, by have := (hax x hx).2; omega⟩) hfr (by omega) (by omega) hcF) ⟨rfl, rfl, rfl, trivial⟩
      · skip
        have hq2 : (hmR ms m).2.1 = 2 := by omega
        have hql := hacl hq2
        refine wa_aload_n (n := 0) rfl ?_
        refine wb_gf4 237 rfl (wy_pr rfl) wt_237 wf_15_129 (v := 355) wl_237_129 ?_
        refine wa_aload_n (n := 0) rfl ?_
        refine wb_gfi 237 rfl (wy_pr rfl) wt_237 wf_15_128 (v := (acc.length : Int)) (h128) (fun r59 => ?_)
        refine wa_iload_n (n := 2) rfl ?_
        refine wb_iast 355 rfl (wy_pr rfl) wt_355 (n := 400) ((ml_355 hMA)) (by omega) (by omega) ⟨(by omega), (by omega)⟩ ?_
        refine wa_aload_n (n := 0) rfl ?_
        refine wa_dup (by decide) ?_
        refine wb_gfi 237 rfl (wy_pr rfl) wt_237 wf_15_128 (v := (acc.length : Int)) ((w_up_slot (by decide)).trans (h128)) (fun r60 => ?_)
        refine wa_iconst ?_
        refine wa_iadd ?_
        refine wb_pfi 237 rfl (wy_pr rfl) wt_237 wf_15_128 (n := 128) rfl ⟨(by omega), (by omega)⟩ ?_
        refine wa_fall ⟨_, rfl⟩ ?_
        refine wa_iinc rfl rfl ?_
        refine wa_goto ⟨_, rfl⟩ ?_
        rw [cdA_p (hmk hq2).1 (hmk hq2).2] at hcF
        exact wJ_S (ih (m + 1) (acc ++ [m]) _ (cdI_n (m := m) hac (by omega)) (fun x hx => by rcases List.mem_append.mp hx with y | y; exact ⟨(hax x y).1, by have := (hax x y).2; omega⟩; rw [List.mem_singleton.mp y]; exact ⟨⟨hmi, hq2⟩, by omega⟩) (fun j x hj => (w_up_no (by unfold cdM at hj; omega)).trans ((w_up_no (by unfold cdM at hj; omega)).trans (hfr j x hj))) (by omega) (by omega) hcF) ⟨rfl, rfl, rfl, trivial⟩
theorem rcm_261 {c : Int} (hM : w_ML S) (hK : KR 261 T n cs ms S) (hw : wHo cs ms os) (hc : 0 ≤ c ∧ c < (cs.length : Int)) (hND : ∀ m q : Int, m ∈ mIx cs c → q ∈ mIx cs c → (hmR ms m).2.1 = 2 → (hmR ms q).2.1 = 2 → (hmR ms m).2.2.2.2.1 = (hmR ms q).2.2.2.2.1 → m = q) : wJ (pe_GA xs) wY0 M (d + 3) t_M_collectsMakers ((pe_at t_M_collectsMakers.bl 0).getD (0, [])).2 [(0, (2, 237)), (1, (0, c))] [] S (fun o Z => o = .inl none ∧ cdI (cdA ms (okM T ms 2 0 (-1) []) [] (mOr cs [c])) Z ∧ ∀ (j : Nat) (x : Int), ¬ cdM j x → Z j x = S j x) := by
  have h13 : S 237 13 = 261 := hK.1
  have hcc := KR_c hK hc.1 hc.2
  have h7 : S 268 c = (hcR cs c).2.2.2.2.2.2.1 := hcc.2.2.2.2.1
  have hco1 := (hw.2.1 c hc.1 hc.2).2.1
  have h60 := hw.1
  have hF5 := cdA_400 (ok := (okM T ms 2 0 (-1) [])) (l := mOr cs [c]) hw (fun x hx => mOr_rg hw (fun o ho => by rw [List.mem_singleton.mp ho]; exact hc) hx)
  have he : mOr cs [c] = mIx cs c := by rw [mOr_c, mOr_n, List.append_nil]
  rw [he] at hF5 ⊢
  refine wa_aload_n (n := 0) rfl ?_
  refine wa_iconst ?_
  refine wb_pfi 237 rfl (wy_pr rfl) wt_237 wf_15_128 (n := 128) rfl ⟨(by omega), (by omega)⟩ ?_
  refine wa_aload_n (n := 0) rfl ?_
  refine wb_gf5 237 rfl (wy_pr rfl) wt_237 wf_15_13 (v := 261) ((w_up_at (by decide)).trans (h13)) (fun r1 => ?_)
  refine wb_gf4 261 rfl (wy_pr rfl) wt_261 wf_12_7 (v := 268) wl_261_7 ?_
  refine wa_iload_n (n := 1) rfl ?_
  refine wb_iald 268 rfl (wy_pr rfl) wt_268 (n := 60) ((w_up_slot (by decide)).trans ((ml_268 hM))) (by omega) (by omega) (v := (hcR cs c).2.2.2.2.2.2.1) ((w_up_slot (by decide)).trans (h7)) (fun r2 => ?_)
  refine wa_istore_n (n := 2) rfl ?_
  refine wa_fall ⟨_, rfl⟩ ?_
  have fA : ∀ (j : Nat) (x : Int), ¬ cdM j x → (w_up S 237 128 0) j x = S j x := fun j x hj => w_up_no (by unfold cdM at hj; omega)
  refine wJ_S (wJ_mono (rcml_261 (S := S) hM hK hw hc rfl hND hF5.1 ((hcR cs c).2.2.2.2.2.2.2.toNat) ((hcR cs c).2.2.2.2.2.2.1) [] (w_up S 237 128 0) ⟨w_up_same _ _ _ _, fun i hi => absurd hi (Nat.not_lt_zero _), Nat.zero_le _⟩ (fun x hx => absurd hx List.not_mem_nil) fA (by omega) (by omega) rfl) (fun o Z hz => hz)) ⟨rfl, rfl, rfl, trivial⟩
theorem rfdi_261 {c o st e : Int} {WW r : List Int} (hM : w_ML S) (hK : KR 261 T n cs ms S) (hw : wHo cs ms os) (hst : -1 ≤ st ∧ st ≤ 1) (hW : wtI WW S) (ho : 0 ≤ o ∧ o < (cs.length : Int)) (he : e = (hcR cs o).2.2.2.2.2.2.1 + (hcR cs o).2.2.2.2.2.2.2) (hnx : wJ (pe_GA xs) wY0 M (d + 1) t_M_field ((pe_at t_M_field.bl 7).getD (0, [])).2 [(0, (2, 237)), (1, (0, c)), (2, (0, st)), (3, (0, o))] [] S (fun oo Z => S = Z ∧ oo = .inl (some (0, fsA (okF T ms st WW) r)))) : ∀ (nn : Nat) (m : Int), m + (nn : Int) = e → 0 ≤ m → wJ (pe_GA xs) wY0 M (d + 1) t_M_field ((pe_at t_M_field.bl 2).getD (0, [])).2 [(0, (2, 237)), (1, (0, c)), (2, (0, st)), (3, (0, o)), (4, (0, m))] [] S (fun oo Z => S = Z ∧ oo = .inl (some (0, fsA (okF T ms st WW) (ivl m nn ++ r)))) := by
  have h400 := hw.1
  have h13 : S 237 13 = 261 := hK.1
  have hco1 := (hw.2.1 o ho.1 ho.2).2.1
  have hcc := KR_c hK ho.1 ho.2
  have h7 : S 268 o = (hcR cs o).2.2.2.2.2.2.1 := hcc.2.2.2.2.1
  have h8 : S 269 o = (hcR cs o).2.2.2.2.2.2.2 := hcc.2.2.2.2.2
  intro nn
  induction nn with
  | zero =>
    intro m hme hm0
    refine wa_iload (n := 4) rfl ?_
    refine wa_aload_n (n := 0) rfl ?_
    refine wb_gf5 237 rfl (wy_pr rfl) wt_237 wf_15_13 (v := 261) (h13) (fun r1 => ?_)
    refine wb_gf4 261 rfl (wy_pr rfl) wt_261 wf_12_7 (v := 268) wl_261_7 ?_
    refine wa_iload_n (n := 3) rfl ?_
    refine wb_iald 268 rfl (wy_pr rfl) wt_268 (n := 60) ((ml_268 hM)) (by omega) (by omega) (v := (hcR cs o).2.2.2.2.2.2.1) (h7) (fun r2 => ?_)
    refine wa_aload_n (n := 0) rfl ?_
    refine wb_gf5 237 rfl (wy_pr rfl) wt_237 wf_15_13 (v := 261) (h13) (fun r3 => ?_)
    refine wb_gf4 261 rfl (wy_pr rfl) wt_261 wf_12_8 (v := 269) wl_261_8 ?_
    refine wa_iload_n (n := 3) rfl ?_
    refine wb_iald 269 rfl (wy_pr rfl) wt_269 (n := 60) ((ml_269 hM)) (by omega) (by omega) (v := (hcR cs o).2.2.2.2.2.2.2) (h8) (fun r4 => ?_)
    refine wa_iadd ?_
    refine wa_icmpge (w_rg0 (by omega) (by omega)) (w_rg0 (by omega) (by omega)) ⟨_, rfl⟩ (fun c5 => ?_) (fun c5 => ?_)
    · skip
      exact wJ_S hnx ⟨rfl, rfl, rfl, rfl, trivial⟩
    · skip
      exfalso; omega
  | succ nn ih =>
    intro m hme hm0
    rw [ivl_s, List.cons_append]
    have eM := KR_m hK (m := m) (by omega) (by omega)
    have eW := hw.2.2.2 m (by omega) (by omega)
    have e1 : S 273 m = (hmR ms m).2.1 := eM.1.2.1
    have e2 : S 274 m = (hmR ms m).2.2.1 := eM.1.2.2.1
    have e3 : S 275 m = (hmR ms m).2.2.2.1 := eM.1.2.2.2.1
    have e4 : S 276 m = ((hmR ms m).2.2.2.2.1.length : Int) := eM.2.1.1
    have e5 : S 277 m = (hmR ms m).2.2.2.2.2.1 := eM.2.1.2.1
    have ef : S 279 m = (hmR ms m).2.2.2.2.2.2.1 := eM.1.2.2.2.2.1
    have et : S 280 m = (hmR ms m).2.2.2.2.2.2.2 := eM.1.2.2.2.2.2
    have eq := eW.1.2.1
    have es := eW.1.2.2.1
    have ey := eW.1.2.2.2
    have ev := eW.2.1
    have el := eW.2.2.1
    have eft := hK.2.2.2.2.2.2.1 m (by omega) (by omega)
    refine wa_iload (n := 4) rfl ?_
    refine wa_aload_n (n := 0) rfl ?_
    refine wb_gf5 237 rfl (wy_pr rfl) wt_237 wf_15_13 (v := 261) (h13) (fun r51 => ?_)
    refine wb_gf4 261 rfl (wy_pr rfl) wt_261 wf_12_7 (v := 268) wl_261_7 ?_
    refine wa_iload_n (n := 3) rfl ?_
    refine wb_iald 268 rfl (wy_pr rfl) wt_268 (n := 60) ((ml_268 hM)) (by omega) (by omega) (v := (hcR cs o).2.2.2.2.2.2.1) (h7) (fun r52 => ?_)
    refine wa_aload_n (n := 0) rfl ?_
    refine wb_gf5 237 rfl (wy_pr rfl) wt_237 wf_15_13 (v := 261) (h13) (fun r53 => ?_)
    refine wb_gf4 261 rfl (wy_pr rfl) wt_261 wf_12_8 (v := 269) wl_261_8 ?_
    refine wa_iload_n (n := 3) rfl ?_
    refine wb_iald 269 rfl (wy_pr rfl) wt_269 (n := 60) ((ml_269 hM)) (by omega) (by omega) (v := (hcR cs o).2.2.2.2.2.2.2) (h8) (fun r54 => ?_)
    refine wa_iadd ?_
    refine wa_icmpge (w_rg0 (by omega) (by omega)) (w_rg0 (by omega) (by omega)) ⟨_, rfl⟩ (fun c55 => ?_) (fun c55 => ?_)
    · skip
      exfalso; omega
    · skip
      refine wa_aload_n (n := 0) rfl ?_
      refine wb_gf5 237 rfl (wy_pr rfl) wt_237 wf_15_13 (v := 261) (h13) (fun r56 => ?_)
      refine wb_gf4 261 rfl (wy_pr rfl) wt_261 wf_12_13 (v := 273) wl_261_13 ?_
      refine wa_iload (n := 4) rfl ?_
      refine wb_iald 273 rfl (wy_pr rfl) wt_273 (n := 400) ((ml_273 hM)) (by omega) (by omega) (v := (hmR ms m).2.1) (e1) (fun r57 => ?_)
      refine wa_ifne (w_rg0 (by omega) (by omega)) ⟨_, rfl⟩ (fun c58 => ?_) (fun c58 => ?_)
      · skip
        refine wa_iinc rfl rfl ?_
        refine wa_goto ⟨_, rfl⟩ ?_
        have hno : okF T ms st WW m = false := decide_eq_false (fun z => by have z1 := z.1; have z2 := z.2.1; first | omega | (have z4 := bI_t (decide_eq_true z.2.2); omega))
        rw [fsA_q hno]
        exact wJ_S (ih (m + 1) (by omega) (by omega)) ⟨rfl, rfl, rfl, rfl, rfl, trivial⟩
      · skip
        refine wa_iload_n (n := 2) rfl ?_
        refine wa_iflt (w_rg0 (by omega) (by omega)) ⟨_, rfl⟩ (fun c59 => ?_) (fun c59 => ?_)
        · skip
          refine wa_aload_n (n := 0) rfl ?_
          refine wa_iload (n := 4) rfl ?_
          refine wa_cv 237 rfl (wy_pr rfl) wt_237 (M2 := fun _ => False) rfl at_M_isWanted ⟨_, rfl⟩ rfl rfl ⟨(Or.inr ⟨wy_pr rfl, fun q => q⟩), trivial, trivial, trivial, trivial, trivial⟩ trivial (fun _ _ q => False.elim q) (riw_261 (S := S) (m := m) (WW := WW) hM hK hw ⟨by omega, by omega⟩ hW) (fun oq60 Sq60 hp61 q60 => ?_)
          rcases q60 with ⟨rfl, rfl⟩
          show wJ _ _ _ _ _ _ _ _ _ _
          have hbw := bI_rg (decide (nmR T (hmR ms m) = WW))
          refine wa_ifeq (w_rg0 (by omega) (by omega)) ⟨_, rfl⟩ (fun c62 => ?_) (fun c62 => ?_)
          · skip
            refine wa_iinc rfl rfl ?_
            refine wa_goto ⟨_, rfl⟩ ?_
            have hno : okF T ms st WW m = false := decide_eq_false (fun z => by have z1 := z.1; have z2 := z.2.1; first | omega | (have z4 := bI_t (decide_eq_true z.2.2); omega))
            rw [fsA_q hno]
            exact wJ_S (ih (m + 1) (by omega) (by omega)) ⟨rfl, rfl, rfl, rfl, rfl, trivial⟩
          · skip
            refine wa_iload (n := 4) rfl ?_
            refine wa_ireturn rfl ?_
            have hyes : okF T ms st WW m = true := decide_eq_true ⟨by omega, by omega, of_decide_eq_true (bI_1 (by omega))⟩
            rw [fsA_p hyes]
            exact ⟨rfl, rfl⟩
        · skip
          refine wa_aload_n (n := 0) rfl ?_
          refine wb_gf5 237 rfl (wy_pr rfl) wt_237 wf_15_13 (v := 261) (h13) (fun r63 => ?_)
          refine wb_gf4 261 rfl (wy_pr rfl) wt_261 wf_12_14 (v := 274) wl_261_14 ?_
          refine wa_iload (n := 4) rfl ?_
          refine wb_zald 274 rfl (wy_pr rfl) wt_274 (n := 400) ((ml_274 hM)) (by omega) (by omega) (v := (hmR ms m).2.2.1) (e2) (fun r64 => ?_)
          refine wa_iload_n (n := 2) rfl ?_
          refine wa_iconst ?_
          refine wa_icmpne (w_rg0 (by omega) (by omega)) (w_rg0 (by omega) (by omega)) ⟨_, rfl⟩ (fun c65 => ?_) (fun c65 => ?_)
          · skip
            refine wa_iconst ?_
            refine wa_fall ⟨_, rfl⟩ ?_
            refine wa_icmpne (w_rg0 (by omega) (by omega)) (w_rg0 (by omega) (by omega)) ⟨_, rfl⟩ (fun c66 => ?_) (fun c66 => ?_)
            · skip
              refine wa_iinc rfl rfl ?_
              refine wa_goto ⟨_, rfl⟩ ?_
              have hno : okF T ms st WW m = false := decide_eq_false (fun z => by have z1 := z.1; have z2 := z.2.1; first | omega | (have z4 := bI_t (decide_eq_true z.2.2); omega))
              rw [fsA_q hno]
              exact wJ_S (ih (m + 1) (by omega) (by omega)) ⟨rfl, rfl, rfl, rfl, rfl, trivial⟩
            · skip
              refine wa_fall ⟨_, rfl⟩ ?_
              refine wa_aload_n (n := 0) rfl ?_
              refine wa_iload (n := 4) rfl ?_
              refine wa_cv 237 rfl (wy_pr rfl) wt_237 (M2 := fun _ => False) rfl at_M_isWanted ⟨_, rfl⟩ rfl rfl ⟨(Or.inr ⟨wy_pr rfl, fun q => q⟩), trivial, trivial, trivial, trivial, trivial⟩ trivial (fun _ _ q => False.elim q) (riw_261 (S := S) (m := m) (WW := WW) hM hK hw ⟨by omega, by omega⟩ hW) (fun oq67 Sq67 hp68 q67 => ?_)
              rcases q67 with ⟨rfl, rfl⟩
              show wJ _ _ _ _ _ _ _ _ _ _
              have hbw := bI_rg (decide (nmR T (hmR ms m) = WW))
              refine wa_ifeq (w_rg0 (by omega) (by omega)) ⟨_, rfl⟩ (fun c69 => ?_) (fun c69 => ?_)
              · skip
                refine wa_iinc rfl rfl ?_
                refine wa_goto ⟨_, rfl⟩ ?_
                have hno : okF T ms st WW m = false := decide_eq_false (fun z => by have z1 := z.1; have z2 := z.2.1; first | omega | (have z4 := bI_t (decide_eq_true z.2.2); omega))
                rw [fsA_q hno]
                exact wJ_S (ih (m + 1) (by omega) (by omega)) ⟨rfl, rfl, rfl, rfl, rfl, trivial⟩
              · skip
                refine wa_iload (n := 4) rfl ?_
                refine wa_ireturn rfl ?_
                have hyes : okF T ms st WW m = true := decide_eq_true ⟨by omega, by omega, of_decide_eq_true (bI_1 (by omega))⟩
                rw [fsA_p hyes]
                exact ⟨rfl, rfl⟩
          · skip
            refine wa_iconst ?_
            refine wa_goto ⟨_, rfl⟩ ?_
            refine wa_icmpne (w_rg0 (by omega) (by omega)) (w_rg0 (by omega) (by omega)) ⟨_, rfl⟩ (fun c70 => ?_) (fun c70 => ?_)
            · skip
              refine wa_iinc rfl rfl ?_
              refine wa_goto ⟨_, rfl⟩ ?_
              have hno : okF T ms st WW m = false := decide_eq_false (fun z => by have z1 := z.1; have z2 := z.2.1; first | omega | (have z4 := bI_t (decide_eq_true z.2.2); omega))
              rw [fsA_q hno]
              exact wJ_S (ih (m + 1) (by omega) (by omega)) ⟨rfl, rfl, rfl, rfl, rfl, trivial⟩
            · skip
              refine wa_fall ⟨_, rfl⟩ ?_
              refine wa_aload_n (n := 0) rfl ?_
              refine wa_iload (n := 4) rfl ?_
              refine wa_cv 237 rfl (wy_pr rfl) wt_237 (M2 := fun _ => False) rfl at_M_isWanted ⟨_, rfl⟩ rfl rfl ⟨(Or.inr ⟨wy_pr rfl, fun q => q⟩), trivial, trivial, trivial, trivial, trivial⟩ trivial (fun _ _ q => False.elim q) (riw_261 (S := S) (m := m) (WW := WW) hM hK hw ⟨by omega, by omega⟩ hW) (fun oq71 Sq71 hp72 q71 => ?_)
              rcases q71 with ⟨rfl, rfl⟩
              show wJ _ _ _ _ _ _ _ _ _ _
              have hbw := bI_rg (decide (nmR T (hmR ms m) = WW))
              refine wa_ifeq (w_rg0 (by omega) (by omega)) ⟨_, rfl⟩ (fun c73 => ?_) (fun c73 => ?_)
              · skip
                refine wa_iinc rfl rfl ?_
                refine wa_goto ⟨_, rfl⟩ ?_
                have hno : okF T ms st WW m = false := decide_eq_false (fun z => by have z1 := z.1; have z2 := z.2.1; first | omega | (have z4 := bI_t (decide_eq_true z.2.2); omega))
                rw [fsA_q hno]
                exact wJ_S (ih (m + 1) (by omega) (by omega)) ⟨rfl, rfl, rfl, rfl, rfl, trivial⟩
              · skip
                refine wa_iload (n := 4) rfl ?_
                refine wa_ireturn rfl ?_
                have hyes : okF T ms st WW m = true := decide_eq_true ⟨by omega, by omega, of_decide_eq_true (bI_1 (by omega))⟩
                rw [fsA_p hyes]
                exact ⟨rfl, rfl⟩
theorem rfdo_261 {c st : Int} {WW : List Int} (hM : w_ML S) (hK : KR 261 T n cs ms S) (hw : wHo cs ms os) (hst : -1 ≤ st ∧ st ≤ 1) (hW : wtI WW S) : ∀ (f : Nat) (o : Int), (o + 1).toNat ≤ f → -1 ≤ o → o < (cs.length : Int) → wJ (pe_GA xs) wY0 M (d + 1) t_M_field ((pe_at t_M_field.bl 1).getD (0, [])).2 [(0, (2, 237)), (1, (0, c)), (2, (0, st)), (3, (0, o))] [] S (fun oo Z => S = Z ∧ oo = .inl (some (0, fsA (okF T ms st WW) (mOr cs (ch_l (Ab cs) f o))))) := by
  have h13 : S 237 13 = 261 := hK.1
  have h60 := hw.1
  intro f
  induction f with
  | zero =>
    intro o hf o0 o1
    have hoe : o = -1 := by omega
    refine wa_iload_n (n := 3) rfl ?_
    refine wa_iflt (w_rg0 (by omega) (by omega)) ⟨_, rfl⟩ (fun c1 => ?_) (fun c1 => ?_)
    · skip
      refine wa_iconst ?_
      refine wa_ireturn rfl ?_
      exact ⟨rfl, rfl⟩
    · skip
      exfalso; omega
  | succ f ih =>
    intro o hf o0 o1
    refine wa_iload_n (n := 3) rfl ?_
    refine wa_iflt (w_rg0 (by omega) (by omega)) ⟨_, rfl⟩ (fun c51 => ?_) (fun c51 => ?_)
    · skip
      refine wa_iconst ?_
      refine wa_ireturn rfl ?_
      exact ⟨rfl, by rw [show ch_l (Ab cs) (f + 1) o = [] from if_pos (by omega)]; rfl⟩
    · skip
      have hon : o ≠ -1 := by omega
      have hov : 0 ≤ o ∧ o < (cs.length : Int) := ⟨by omega, o1⟩
      have hco := hw.2.1 o hov.1 hov.2
      have hcoa := hco.1
      have hco1 := hco.2.1
      have hcc := KR_c hK hov.1 hov.2
      have h7 : S 268 o = (hcR cs o).2.2.2.2.2.2.1 := hcc.2.2.2.2.1
      have h3 : S 264 o = (hcR cs o).2.2.2.1 := hcc.2.2.2.1.2.1
      rw [chl_c hon, mOr_c]
      refine wa_aload_n (n := 0) rfl ?_
      refine wb_gf5 237 rfl (wy_pr rfl) wt_237 wf_15_13 (v := 261) (h13) (fun r52 => ?_)
      refine wb_gf4 261 rfl (wy_pr rfl) wt_261 wf_12_7 (v := 268) wl_261_7 ?_
      refine wa_iload_n (n := 3) rfl ?_
      refine wb_iald 268 rfl (wy_pr rfl) wt_268 (n := 60) ((ml_268 hM)) (by omega) (by omega) (v := (hcR cs o).2.2.2.2.2.2.1) (h7) (fun r53 => ?_)
      refine wa_istore (n := 4) rfl ?_
      refine wa_fall ⟨_, rfl⟩ ?_
      refine wJ_S (rfdi_261 hM hK hw hst hW hov rfl ?_ ((hcR cs o).2.2.2.2.2.2.2.toNat) ((hcR cs o).2.2.2.2.2.2.1) (by omega) hco1.1) ⟨rfl, rfl, rfl, rfl, rfl, trivial⟩
      refine wa_aload_n (n := 0) rfl ?_
      refine wb_gf5 237 rfl (wy_pr rfl) wt_237 wf_15_13 (v := 261) (h13) (fun r201 => ?_)
      refine wb_gf4 261 rfl (wy_pr rfl) wt_261 wf_12_3 (v := 264) wl_261_3 ?_
      refine wa_iload_n (n := 3) rfl ?_
      refine wb_iald 264 rfl (wy_pr rfl) wt_264 (n := 60) ((ml_264 hM)) (by omega) (by omega) (v := (hcR cs o).2.2.2.1) (h3) (fun r202 => ?_)
      refine wa_istore_n (n := 3) rfl ?_
      refine wa_goto ⟨_, rfl⟩ ?_
      exact wJ_S (ih (Ab cs o) (by show ((hcR cs o).2.2.2.1 + 1).toNat ≤ f; omega) hcoa.1 (by show (hcR cs o).2.2.2.1 < _; omega)) ⟨rfl, rfl, rfl, rfl, trivial⟩
theorem rfd_261 {c st : Int} {WW : List Int} (hM : w_ML S) (hK : KR 261 T n cs ms S) (hw : wHo cs ms os) (hst : -1 ≤ st ∧ st ≤ 1) (hW : wtI WW S) (hc : 0 ≤ c ∧ c < (cs.length : Int)) : wJ (pe_GA xs) wY0 M (d + 1) t_M_field ((pe_at t_M_field.bl 0).getD (0, [])).2 [(0, (2, 237)), (1, (0, c)), (2, (0, st))] [] S (fun o Z => S = Z ∧ o = .inl (some (0, fdA T cs ms st WW c))) := by
  refine wa_iload_n (n := 1) rfl ?_
  refine wa_istore_n (n := 3) rfl ?_
  refine wa_fall ⟨_, rfl⟩ ?_
  exact wJ_S (rfdo_261 hM hK hw hst hW (c.toNat + 1) c (by omega) (by omega) hc.2) ⟨rfl, rfl, rfl, rfl, trivial⟩
end Whe
