/-! PART h5: the class's host: addCandidate, gather, mostSpecific. -/
section Wh5
variable {xs : List (Nat × List Int32)} {M : Nat → Prop} {d : Nat} {S Z A : wS} {T : Int → Int} {cs : List hCR} {ms : List hMR} {os : Int → List Int} {Q : wO → wS → Prop}
/-- the candidates are these, and nothing else has changed -/
def gaR (p cd : Nat) (acc : List Int) (S Z : wS) : Prop := Z p 10 = (acc.length : Int) ∧ (∀ i : Nat, i < acc.length → Z cd (i : Int) = acc.getD i 0) ∧ (64 ≤ Z cd (-1) ∧ Z cd (-1) ≤ 1023 ∧ (acc.length : Int) ≤ Z cd (-1)) ∧ (∀ (j : Nat) (i : Int), j < 4000000 → j ≠ wG → j ≠ cd → (j ≠ p ∨ i ≠ 10) → Z j i = S j i) ∧ gI Z ∧ rmR S Z
/-- one candidate more -/
def adR (p cd : Nat) (m : Int) (S Z : wS) : Prop := Z p 10 = S p 10 + 1 ∧ Z cd (S p 10) = m ∧ (∀ i : Int, 0 ≤ i → i < S p 10 → Z cd i = S cd i) ∧ (∀ (j : Nat) (i : Int), j < 4000000 → j ≠ wG → j ≠ cd → (j ≠ p ∨ i ≠ 10) → Z j i = S j i) ∧ (64 ≤ Z cd (-1) ∧ Z cd (-1) ≤ 1023 ∧ S p 10 + 1 ≤ Z cd (-1)) ∧ gI Z ∧ rmR S Z
theorem wz_nc : ∀ q ∈ wz_n, q.1 ≠ 120 ∧ q.1 ≠ 209 ∧ (q.1 < 121 ∨ 124 < q.1) ∧ (q.1 < 210 ∨ 213 < q.1) := by decide
theorem gaR_C {p cd : Nat} {acc : List Int} (hcd : cd = 120 ∨ cd = 209) (hC : w_CL S) (h : gaR p cd acc S Z) : w_CL Z := fun q hq => (h.2.2.2.1 q.1 (-1) (by have := (wz_lt q hq).1; omega) (by have := (wz_lt q hq).1; unfold wG; omega) (by have := wz_nc q hq; omega) (Or.inr (by decide))).trans (hC q hq)
theorem getD_app {l : List Int} {x : Int} {i : Nat} (h : i < l.length) : (l ++ [x]).getD i 0 = l.getD i 0 := by
  rw [List.getD_eq_getElem?_getD, List.getD_eq_getElem?_getD, List.getElem?_append_left h]
theorem getD_last {l : List Int} {x : Int} : (l ++ [x]).getD l.length 0 = x := by
  rw [List.getD_eq_getElem?_getD, List.getElem?_append_right (Nat.le_refl _), Nat.sub_self]; rfl
theorem gaR_ad {p cd : Nat} {acc : List Int} {m : Int} (h : gaR p cd acc S A) (g : adR p cd m A Z) : gaR p cd (acc ++ [m]) S Z := by
  obtain ⟨h1, h2, h3, h4, h5, h6⟩ := h
  obtain ⟨g1, g2, g3, g4, g5, g6, g7⟩ := g
  rw [h1] at g1 g2 g3 g5
  refine ⟨by rw [g1, List.length_append, List.length_singleton]; omega, fun i hi => ?_, ⟨g5.1, g5.2.1, by rw [List.length_append, List.length_singleton]; omega⟩, fun j i a b c e => (g4 j i a b c e).trans (h4 j i a b c e), g6, rmR_tr h6 g7⟩
  rw [List.length_append, List.length_singleton] at hi
  by_cases c : i = acc.length
  · rw [c, getD_last]; exact g2
  · rw [getD_app (by omega), g3 (i : Int) (by omega) (by omega)]; exact h2 i (by omega)
/-- going through those that fit: the last one that is best, and how many are -/
def msF (bs : Int → Bool) : List Int → Int → Int → Int
  | [], ch, se => if se = 1 then ch else -8
  | m :: l, ch, se => if bs m = true then msF bs l m (se + 1) else msF bs l ch se
theorem msF_e (bs : Int → Bool) : ∀ (l : List Int) (ch se : Int), 0 ≤ se → msF bs l ch se = if se + ((l.filter bs).length : Int) = 1 then (if se = 1 then ch else (l.filter bs).getD 0 0) else -8 := by
  intro l
  induction l with
  | nil =>
    intro ch se h
    show (if se = 1 then ch else -8) = _
    by_cases c : se = 1
    · rw [if_pos c, if_pos (by rw [c]; rfl), if_pos c]
    · rw [if_neg c, if_neg (by show ¬ se + ((0 : Nat) : Int) = 1; omega)]
  | cons m l ih =>
    intro ch se h
    show (if bs m = true then msF bs l m (se + 1) else msF bs l ch se) = _
    by_cases c : bs m = true
    · rw [if_pos c, ih m (se + 1) (by omega), List.filter_cons_of_pos c, List.length_cons]
      by_cases c2 : se + 1 + ((l.filter bs).length : Int) = 1
      · rw [if_pos c2, if_pos (by omega), if_pos (by omega), if_neg (by omega)]; rfl
      · rw [if_neg c2, if_neg (by omega)]
    · rw [if_neg c, ih ch se h, List.filter_cons_of_neg c]
theorem all_tk {f : List Int} {pb : Int → Bool} {j : Nat} (h : (f.take j).all pb = false) : f.all pb = false := by
  rw [Bool.eq_false_iff] at h ⊢
  exact fun z => h (List.all_eq_true.mpr (fun x hx => List.all_eq_true.mp z x (List.mem_of_mem_take hx)))
theorem all_ts {f : List Int} {pb : Int → Bool} {j : Nat} (hj : j < f.length) (h : (f.take j).all pb = true) : (f.take (j + 1)).all pb = pb (f.getD j 0) := by
  rw [List.take_succ, List.all_append, h, Bool.true_and, List.getElem?_eq_getElem hj, List.getD_eq_getElem?_getD, List.getElem?_eq_getElem hj]
  exact Bool.and_true _
theorem adc1_73 {m : Int} (hI : gI S) (hm : -2147483648 ≤ m ∧ m ≤ 2147483647) (h0 : 0 ≤ (S 73 10) ∧ (S 73 10) < S 120 (-1)) (h9 : 64 ≤ S 120 (-1) ∧ S 120 (-1) ≤ 1023) : wJ (pe_GA xs) wY0 (mS [120]) (d + 3) t_XO_addCandidate ((pe_at t_XO_addCandidate.bl 1).getD (0, [])).2 [(0, (2, 73)), (1, (0, m))] [] S (fun o Z => o = .inl none ∧ adR 73 120 m S Z) := by
  have hR := rmR_rfl S
  refine wa_aload_n (n := 0) rfl ?_
  refine wb_gf4 73 rfl (wy_pr rfl) wt_73 wf_3_9 (v := 120) wl_73_9 ?_
  refine wa_aload_n (n := 0) rfl ?_
  refine wb_gfi 73 rfl (wy_pr rfl) wt_73 wf_3_10 (v := (S 73 10)) rfl (fun r1 => ?_)
  refine wa_iload_n (n := 1) rfl ?_
  refine wb_iast 120 rfl (wy_pr rfl) wt_120 (n := (S 120 (-1))) rfl (by omega) (by omega) ⟨(by omega), (by omega)⟩ ?_
  refine wa_aload_n (n := 0) rfl ?_
  refine wa_dup (by decide) ?_
  refine wb_gfi 73 rfl (wy_pr rfl) wt_73 wf_3_10 (v := (S 73 10)) (w_up_slot (by decide)) (fun r2 => ?_)
  refine wa_iconst ?_
  refine wa_iadd ?_
  refine wb_pfi 73 rfl (wy_pr rfl) wt_73 wf_3_10 (n := 10) rfl ⟨(by omega), (by omega)⟩ ?_
  refine wa_return rfl ?_
  refine ⟨rfl, (w_up_same _ _ _ _), ((w_up_slot (by decide)).trans (w_up_same _ _ _ _)), fun i i0 i1 => ((w_up_slot (by decide)).trans (w_up_at (by omega))), fun j i j0 j1 j2 j3 => (w_up_no (by omega)).trans ((w_up_no (by omega)).trans (rfl)), ?_, (gI_up (gI_up hI (by omega) (by omega) (by omega)) (by omega) (by omega) (by omega)), (rmR_up (rmR_up hR (by omega) (by decide)) (by omega) (by decide))⟩
  rw [show (w_up (w_up S 120 (S 73 10) m) 73 10 ((S 73 10) + 1)) 120 (-1) = S 120 (-1) from ((w_up_slot (by decide)).trans (w_up_at (by omega)))]
  exact ⟨h9.1, h9.2, by omega⟩
theorem adc_73 {m : Int} (hI : gI S) (hm : -2147483648 ≤ m ∧ m ≤ 2147483647) (h0 : 0 ≤ (S 73 10) ∧ (S 73 10) ≤ S 120 (-1) ∧ (S 73 10) ≤ 500) (h9 : 64 ≤ S 120 (-1) ∧ S 120 (-1) ≤ 1023) : wJ (pe_GA xs) wY0 (mS [120]) (d + 3) t_XO_addCandidate ((pe_at t_XO_addCandidate.bl 0).getD (0, [])).2 [(0, (2, 73)), (1, (0, m))] [] S (fun o Z => o = .inl none ∧ adR 73 120 m S Z) := by
  have hR := rmR_rfl S
  refine wa_aload_n (n := 0) rfl ?_
  refine wb_gfi 73 rfl (wy_pr rfl) wt_73 wf_3_10 (v := (S 73 10)) rfl (fun r1 => ?_)
  refine wa_aload_n (n := 0) rfl ?_
  refine wb_gf4 73 rfl (wy_pr rfl) wt_73 wf_3_9 (v := 120) wl_73_9 ?_
  refine wb_alen 120 rfl (wy_pr rfl) (by rw [wt_120]; rfl) (v := (S 120 (-1))) rfl (fun r2 => ?_)
  refine wa_icmpne (w_rg0 (by omega) (by omega)) (w_rg0 (by omega) (by omega)) ⟨_, rfl⟩ (fun c3 => ?_) (fun c3 => ?_)
  · skip
    exact adc1_73 hI hm ⟨by omega, by omega⟩ h9
  · skip
    refine wa_aload_n (n := 0) rfl ?_
    refine wa_aload_n (n := 0) rfl ?_
    refine wb_gf4 73 rfl (wy_pr rfl) wt_73 wf_3_9 (v := 120) wl_73_9 ?_
    refine wa_aload_n (n := 0) rfl ?_
    refine wb_gfi 73 rfl (wy_pr rfl) wt_73 wf_3_10 (v := (S 73 10)) rfl (fun r4 => ?_)
    refine wa_iconst ?_
    refine wa_imul ?_
    refine wa_cs (M2 := fun _ => False) rfl at_JA_copyOf_2 ⟨_, rfl⟩ rfl rfl ⟨(Or.inr ⟨wy_pr rfl, fun q => q⟩), trivial, trivial⟩ ⟨(Or.inr ⟨wy_pr rfl, fun q => q⟩), trivial⟩ (fun _ _ q => False.elim q) (cp_I (S := S) (a := 120) (n := ((S 73 10) * 2)) (len := (S 120 (-1))) (wy_pr rfl) wt_120 rfl ⟨by omega, by omega, by omega⟩) (fun oq5 Sq5 _ q5 => ?_)
    rcases q5 with ⟨rfl, rfl⟩
    show wJ _ _ _ _ _ _ _ _ _ _
    refine wg_pf (S := S) (len := (S 120 (-1))) 0 73 120 rfl rfl rfl wt_73 wf_3_9 wl_73_9 (by decide +kernel) wt_120 (by decide) (by decide +kernel) hI (fun q => absurd q (by decide)) (by decide) ⟨by omega, by omega⟩ rfl (fun _ => ⟨Or.inr (by decide), Or.inl (nN_ge _)⟩) ⟨(Or.inr ⟨wy_pr rfl, mS_no rfl⟩), trivial, trivial⟩ trivial (fun Z6 g7 gi8 => ?_)
    have rm9 := rmR_gr hR g7 (by decide +kernel) (len := (S 120 (-1))) rfl ⟨by omega, by omega⟩ ⟨fun q => by first | omega | exact absurd q (by decide), by show _ ≤ (100000000 : Int); omega⟩
    refine wa_fall ⟨_, rfl⟩ ?_
    have zz : ∀ (j : Nat) (i : Int), j < 4000000 → j ≠ wG → j ≠ 120 → Z6 j i = S j i := fun j i j0 j1 j2 => congrFun (g7.2.2.1 j (by omega) j0 j1) i
    have y1 : ∀ i : Int, 0 ≤ i → i < (S 73 10) → Z6 120 i = S 120 i := fun i i0 i1 => g7.2.1 i i0 (by omega)
    have n1 : Z6 120 (-1) = (S 73 10) * 2 := (g7.1)
    have e3 : Z6 73 10 = (S 73 10) := zz 73 10 (by decide) (by decide) (by decide)
    refine wJ_mono (adc1_73 (S := Z6) gi8 hm ⟨by omega, by omega⟩ ⟨by omega, by omega⟩) (fun o Z hz => ⟨hz.1, ?_⟩)
    obtain ⟨-, a1, a2, a3, a4, a5, a6, a7⟩ := hz
    rw [e3] at a1 a2 a3 a5
    exact ⟨a1, a2, fun i i0 i1 => (a3 i i0 i1).trans (y1 i i0 i1), fun j i j0 j1 j2 j3 => (a4 j i j0 j1 j2 j3).trans (zz j i j0 j1 j2), a5, a6, rmR_tr rm9 a7⟩
theorem gaK_73 {acc : List Int} (hK : KC 87 97 93 114 115 74 73 T cs ms os S) (h : gaR 73 120 acc S Z) : KC 87 97 93 114 115 74 73 T cs ms os Z := by
  have f := h.2.2.2.1
  refine KC_ag hK (f 73 2 (by decide) (by decide) (by decide) (Or.inr (by decide))) (f 73 4 (by decide) (by decide) (by decide) (Or.inr (by decide))) (fun j hj => ?_)
  funext x
  exact f j x (by omega) (by unfold wG; omega) (by omega) (Or.inl (by omega))
theorem gai_73 {k word st so fs pc am nl up e : Int} {i : Nat} {W r F : List Int} (hC : w_CL S) (hK : KC 87 97 93 114 115 74 73 T cs ms os S) (hw : wHo cs ms os) (hk : 0 ≤ k ∧ k < (cs.length : Int)) (hwd : wdM 97 T ms S so word W) (hwr : -1 ≤ word ∧ word ≤ 1000000) (hso : so = 1 ∨ so = 2) (hst : st = 0 ∨ st = 1) (hfs : (fs = 0 ∧ pc = -1) ∨ (fs = 1 ∧ pc = 1)) (he : e ≤ (ms.length : Int)) (hi : i < 60) (hF : F.length ≤ 400) (hnx : ∀ (acc : List Int) (A : wS), gaR 73 120 acc S A → (∀ x ∈ acc, 0 ≤ x ∧ x < (ms.length : Int)) → cdA ms (okM T ms so st pc W) acc r = F → wJ (pe_GA xs) wY0 (mS [120]) (d + 4) t_XO_gather ((pe_at t_XO_gather.bl 7).getD (0, [])).2 [(0, (2, 73)), (1, (0, k)), (2, (0, am)), (3, (0, word)), (4, (0, fs)), (5, (0, nl)), (6, (0, so)), (7, (0, st)), (8, (0, ((i + 1 : Nat) : Int)))] [] A (fun o Z => o = .inl none ∧ gaR 73 120 F S Z)) : ∀ (n : Nat) (m : Int) (acc : List Int) (A : wS), gaR 73 120 acc S A → (∀ x ∈ acc, 0 ≤ x ∧ x < (ms.length : Int)) → m + (n : Int) = e → 0 ≤ m → cdA ms (okM T ms so st pc W) acc (ivl m n ++ r) = F → wJ (pe_GA xs) wY0 (mS [120]) (d + 4) t_XO_gather ((pe_at t_XO_gather.bl 8).getD (0, [])).2 [(0, (2, 73)), (1, (0, k)), (2, (0, am)), (3, (0, word)), (4, (0, fs)), (5, (0, nl)), (6, (0, so)), (7, (0, st)), (8, (0, (i : Int))), (9, (0, up)), (10, (0, e)), (11, (0, m))] [] A (fun o Z => o = .inl none ∧ gaR 73 120 F S Z) := by
  have hn := KC_n hK
  have hn2 := hn.2.2
  intro n
  induction n with
  | zero =>
    intro m acc A hg hax hme hm0 hcF
    refine wa_iload (n := 11) rfl ?_
    refine wa_iload (n := 10) rfl ?_
    refine wa_icmpge (w_rg0 (by omega) (by omega)) (w_rg0 (by omega) (by omega)) ⟨_, rfl⟩ (fun c1 => ?_) (fun c1 => ?_)
    · skip
      refine wa_iinc rfl rfl ?_
      refine wa_goto ⟨_, rfl⟩ ?_
      exact wJ_S (hnx acc A hg hax hcF) ⟨rfl, rfl, rfl, rfl, rfl, rfl, rfl, rfl, rfl, trivial⟩
    · skip
      exfalso; omega
  | succ n ih =>
    intro m acc A hg hax hme hm0 hcF
    rw [ivl_s, List.cons_append] at hcF
    have eM := KC_m hK (m := m) (by omega) (by omega)
    have eW := hw.2.2.2 m (by omega) (by omega)
    have e1 : S 98 m = (hmR ms m).2.1 := eM.1.2.1
    have e2 : S 99 m = (hmR ms m).2.2.1 := eM.1.2.2.1
    have e3 : S 100 m = (hmR ms m).2.2.2.1 := eM.1.2.2.2
    have e4 : S 101 m = ((hmR ms m).2.2.2.2.1.length : Int) := eM.2.1.1
    have e5 : S 102 m = (hmR ms m).2.2.2.2.2.1 := eM.2.1.2.1
    have eq := eW.1.2.1
    have es := eW.1.2.2.1
    have ey := eW.1.2.2.2
    have ev := eW.2.1
    have el := eW.2.2.1
    have ewd : (hmR ms m).2.1 = so → (S 111 m = word ↔ nmR T (hmR ms m) = W) := hwd m hm0 (by omega)
    have hga := hg.2.2.2.1
    have hCA : w_CL A := gaR_C (by decide) hC hg
    have f1 : A 98 m = (hmR ms m).2.1 := (hga 98 m (by decide) (by decide) (by decide) (Or.inl (by decide))).trans e1
    have f2 : A 99 m = (hmR ms m).2.2.1 := (hga 99 m (by decide) (by decide) (by decide) (Or.inl (by decide))).trans e2
    have f4 : A 101 m = ((hmR ms m).2.2.2.2.1.length : Int) := (hga 101 m (by decide) (by decide) (by decide) (Or.inl (by decide))).trans e4
    have f14 : A 111 m = S 111 m := hga 111 m (by decide) (by decide) (by decide) (Or.inl (by decide))
    have hal : acc.length ≤ 400 := by
      have z := cdA_pr (ms := ms) (okM T ms so st pc W) (m :: (ivl (m + 1) n ++ r)) acc
      obtain ⟨t, ht⟩ := z
      rw [hcF] at ht
      have z2 : F.length = acc.length + t.length := by rw [ht, List.length_append]
      omega
    have hno : ¬ ((okM T ms so st pc W) m = true ∧ hidM ms acc m = false) → cdA ms (okM T ms so st pc W) acc (ivl (m + 1) n ++ r) = F := fun z => by rw [← hcF, cdA_q z]
    refine wa_iload (n := 11) rfl ?_
    refine wa_iload (n := 10) rfl ?_
    refine wa_icmpge (w_rg0 (by omega) (by omega)) (w_rg0 (by omega) (by omega)) ⟨_, rfl⟩ (fun c51 => ?_) (fun c51 => ?_)
    · skip
      exfalso; omega
    · skip
      refine wa_aload_n (n := 0) rfl ?_
      refine wb_gf4 73 rfl (wy_pr rfl) wt_73 wf_3_3 (v := 96) wl_73_3 ?_
      refine wa_iconst ?_
      refine wb_aald5 96 1 rfl rfl (wy_pr rfl) wt_96 (by rw [show _ = _ from ((cl_96 hCA))]; omega) wl_96_1 ?_
      refine wa_iload (n := 11) rfl ?_
      refine wb_iald 98 rfl (wy_pr rfl) wt_98 (n := 400) ((cl_98 hCA)) (by omega) (by omega) (v := (hmR ms m).2.1) (f1) (fun r52 => ?_)
      refine wa_iload (n := 6) rfl ?_
      refine wa_icmpne (w_rg0 (by omega) (by omega)) (w_rg0 (by omega) (by omega)) ⟨_, rfl⟩ (fun c53 => ?_) (fun c53 => ?_)
      · skip
        refine wa_iinc rfl rfl ?_
        refine wa_goto ⟨_, rfl⟩ ?_
        refine wJ_S (ih (m + 1) acc A hg hax (by omega) (by omega) (hno ?_)) ⟨rfl, rfl, rfl, rfl, rfl, rfl, rfl, rfl, rfl, rfl, rfl, rfl, trivial⟩
        rintro ⟨z, z9⟩
        replace z := of_decide_eq_true z
        have z1 := z.1; have z2 := z.2.1; have z3 := z.2.2.1; have z4 := (ewd z1).mpr z.2.2.2
        first | omega | (rw [bI_f z9] at hbh; omega) | (have := bI_f z9; omega)
      · skip
        refine wa_aload_n (n := 0) rfl ?_
        refine wb_gf4 73 rfl (wy_pr rfl) wt_73 wf_3_3 (v := 96) wl_73_3 ?_
        refine wa_iconst ?_
        refine wb_aald5 96 2 rfl rfl (wy_pr rfl) wt_96 (by rw [show _ = _ from ((cl_96 hCA))]; omega) wl_96_2 ?_
        refine wa_iload (n := 11) rfl ?_
        refine wb_iald 99 rfl (wy_pr rfl) wt_99 (n := 400) ((cl_99 hCA)) (by omega) (by omega) (v := (hmR ms m).2.2.1) (f2) (fun r54 => ?_)
        refine wa_iload (n := 7) rfl ?_
        refine wa_icmpne (w_rg0 (by omega) (by omega)) (w_rg0 (by omega) (by omega)) ⟨_, rfl⟩ (fun c55 => ?_) (fun c55 => ?_)
        · skip
          refine wa_iinc rfl rfl ?_
          refine wa_goto ⟨_, rfl⟩ ?_
          refine wJ_S (ih (m + 1) acc A hg hax (by omega) (by omega) (hno ?_)) ⟨rfl, rfl, rfl, rfl, rfl, rfl, rfl, rfl, rfl, rfl, rfl, rfl, trivial⟩
          rintro ⟨z, z9⟩
          replace z := of_decide_eq_true z
          have z1 := z.1; have z2 := z.2.1; have z3 := z.2.2.1; have z4 := (ewd z1).mpr z.2.2.2
          first | omega | (rw [bI_f z9] at hbh; omega) | (have := bI_f z9; omega)
        · skip
          refine wa_aload_n (n := 0) rfl ?_
          refine wb_gf4 73 rfl (wy_pr rfl) wt_73 wf_3_3 (v := 96) wl_73_3 ?_
          refine wa_bipush (w_rg2 (by omega) (by omega)) ?_
          refine wb_aald5 96 14 rfl rfl (wy_pr rfl) wt_96 (by rw [show _ = _ from ((cl_96 hCA))]; omega) wl_96_14 ?_
          refine wa_iload (n := 11) rfl ?_
          refine wb_iald 111 rfl (wy_pr rfl) wt_111 (n := 400) ((cl_111 hCA)) (by omega) (by omega) (v := (S 111 m)) (f14) (fun r56 => ?_)
          refine wa_iload_n (n := 3) rfl ?_
          refine wa_icmpne (w_rg0 (by omega) (by omega)) (w_rg0 (by omega) (by omega)) ⟨_, rfl⟩ (fun c57 => ?_) (fun c57 => ?_)
          · skip
            refine wa_iinc rfl rfl ?_
            refine wa_goto ⟨_, rfl⟩ ?_
            refine wJ_S (ih (m + 1) acc A hg hax (by omega) (by omega) (hno ?_)) ⟨rfl, rfl, rfl, rfl, rfl, rfl, rfl, rfl, rfl, rfl, rfl, rfl, trivial⟩
            rintro ⟨z, z9⟩
            replace z := of_decide_eq_true z
            have z1 := z.1; have z2 := z.2.1; have z3 := z.2.2.1; have z4 := (ewd z1).mpr z.2.2.2
            first | omega | (rw [bI_f z9] at hbh; omega) | (have := bI_f z9; omega)
          · skip
            refine wa_iload (n := 4) rfl ?_
            refine wa_ifeq (w_rg0 (by omega) (by omega)) ⟨_, rfl⟩ (fun c58 => ?_) (fun c58 => ?_)
            · skip
              refine wa_aload_n (n := 0) rfl ?_
              refine wa_iload (n := 11) rfl ?_
              refine wa_cv 73 rfl (wy_pr rfl) wt_73 (M2 := fun _ => False) rfl at_XO_isHidden ⟨_, rfl⟩ rfl rfl ⟨(Or.inr ⟨wy_pr rfl, fun q => q⟩), trivial, trivial, trivial, trivial, trivial, trivial, trivial, trivial, trivial, trivial, trivial, trivial⟩ trivial (fun _ _ q => False.elim q) (hid_73 (S := A) (acc := acc) (m := m) hCA (gaK_73 hK hg) hw ⟨by omega, by omega⟩ hg.1 ⟨by have := hg.2.2.1; omega, by have := hg.2.2.1; omega⟩ (fun i hi => ⟨hg.2.1 i hi, hax _ (by rw [List.getD_eq_getElem?_getD, List.getElem?_eq_getElem hi]; exact List.getElem_mem hi)⟩)) (fun oq59 Sq59 hp60 q59 => ?_)
              rcases q59 with ⟨rfl, rfl⟩
              show wJ _ _ _ _ _ _ _ _ _ _
              have hbh := bI_rg (hidM ms acc m)
              refine wa_ifne (w_rg0 (by omega) (by omega)) ⟨_, rfl⟩ (fun c61 => ?_) (fun c61 => ?_)
              · skip
                refine wa_iinc rfl rfl ?_
                refine wa_goto ⟨_, rfl⟩ ?_
                refine wJ_S (ih (m + 1) acc A hg hax (by omega) (by omega) (hno ?_)) ⟨rfl, rfl, rfl, rfl, rfl, rfl, rfl, rfl, rfl, rfl, rfl, rfl, trivial⟩
                rintro ⟨z, z9⟩
                replace z := of_decide_eq_true z
                have z1 := z.1; have z2 := z.2.1; have z3 := z.2.2.1; have z4 := (ewd z1).mpr z.2.2.2
                first | omega | (rw [bI_f z9] at hbh; omega) | (have := bI_f z9; omega)
              · skip
                refine wa_aload_n (n := 0) rfl ?_
                refine wa_iload (n := 11) rfl ?_
                refine wa_cv 73 rfl (wy_pr rfl) wt_73 (M2 := mS [120]) rfl at_XO_addCandidate ⟨_, rfl⟩ rfl rfl ⟨(Or.inr ⟨wy_pr rfl, mS_no rfl⟩), trivial, trivial, trivial, trivial, trivial, trivial, trivial, trivial, trivial, trivial, trivial, trivial⟩ trivial (fun _ _ q => q) (adc_73 (S := A) (m := m) hg.2.2.2.2.1 ⟨by omega, by omega⟩ ⟨by have := hg.1; omega, by have := hg.1; have := hg.2.2.1; omega, by have := hg.1; omega⟩ ⟨hg.2.2.1.1, hg.2.2.1.2.1⟩) (fun oq62 Sq62 hp63 q62 => ?_)
                rcases q62 with ⟨rfl, hadr⟩
                show wJ _ _ _ _ _ _ _ _ _ _
                refine wa_fall ⟨_, rfl⟩ ?_
                refine wa_iinc rfl rfl ?_
                refine wa_goto ⟨_, rfl⟩ ?_
                have hyes : (okM T ms so st pc W) m = true := decide_eq_true ⟨by omega, by omega, by omega, (ewd (by omega)).mp (by omega)⟩
                have hhid : hidM ms acc m = false := bI_0 (by omega)
                refine wJ_S (ih (m + 1) (acc ++ [m]) Sq62 (gaR_ad hg hadr) (fun x hx => ?_) (by omega) (by omega) (by rw [← hcF, cdA_p hyes hhid])) ⟨rfl, rfl, rfl, rfl, rfl, rfl, rfl, rfl, rfl, rfl, rfl, rfl, trivial⟩
                rcases List.mem_append.mp hx with y | y
                · exact hax x y
                · rw [List.mem_singleton.mp y]; omega
            · skip
              refine wa_aload_n (n := 0) rfl ?_
              refine wb_gf4 73 rfl (wy_pr rfl) wt_73 wf_3_3 (v := 96) wl_73_3 ?_
              refine wa_iconst ?_
              refine wb_aald5 96 4 rfl rfl (wy_pr rfl) wt_96 (by rw [show _ = _ from ((cl_96 hCA))]; omega) wl_96_4 ?_
              refine wa_iload (n := 11) rfl ?_
              refine wb_iald 101 rfl (wy_pr rfl) wt_101 (n := 400) ((cl_101 hCA)) (by omega) (by omega) (v := ((hmR ms m).2.2.2.2.1.length : Int)) (f4) (fun r64 => ?_)
              refine wa_iconst ?_
              refine wa_icmpne (w_rg0 (by omega) (by omega)) (w_rg0 (by omega) (by omega)) ⟨_, rfl⟩ (fun c65 => ?_) (fun c65 => ?_)
              · skip
                refine wa_iinc rfl rfl ?_
                refine wa_goto ⟨_, rfl⟩ ?_
                refine wJ_S (ih (m + 1) acc A hg hax (by omega) (by omega) (hno ?_)) ⟨rfl, rfl, rfl, rfl, rfl, rfl, rfl, rfl, rfl, rfl, rfl, rfl, trivial⟩
                rintro ⟨z, z9⟩
                replace z := of_decide_eq_true z
                have z1 := z.1; have z2 := z.2.1; have z3 := z.2.2.1; have z4 := (ewd z1).mpr z.2.2.2
                first | omega | (rw [bI_f z9] at hbh; omega) | (have := bI_f z9; omega)
              · skip
                refine wa_fall ⟨_, rfl⟩ ?_
                refine wa_aload_n (n := 0) rfl ?_
                refine wa_iload (n := 11) rfl ?_
                refine wa_cv 73 rfl (wy_pr rfl) wt_73 (M2 := fun _ => False) rfl at_XO_isHidden ⟨_, rfl⟩ rfl rfl ⟨(Or.inr ⟨wy_pr rfl, fun q => q⟩), trivial, trivial, trivial, trivial, trivial, trivial, trivial, trivial, trivial, trivial, trivial, trivial⟩ trivial (fun _ _ q => False.elim q) (hid_73 (S := A) (acc := acc) (m := m) hCA (gaK_73 hK hg) hw ⟨by omega, by omega⟩ hg.1 ⟨by have := hg.2.2.1; omega, by have := hg.2.2.1; omega⟩ (fun i hi => ⟨hg.2.1 i hi, hax _ (by rw [List.getD_eq_getElem?_getD, List.getElem?_eq_getElem hi]; exact List.getElem_mem hi)⟩)) (fun oq66 Sq66 hp67 q66 => ?_)
                rcases q66 with ⟨rfl, rfl⟩
                show wJ _ _ _ _ _ _ _ _ _ _
                have hbh := bI_rg (hidM ms acc m)
                refine wa_ifne (w_rg0 (by omega) (by omega)) ⟨_, rfl⟩ (fun c68 => ?_) (fun c68 => ?_)
                · skip
                  refine wa_iinc rfl rfl ?_
                  refine wa_goto ⟨_, rfl⟩ ?_
                  refine wJ_S (ih (m + 1) acc A hg hax (by omega) (by omega) (hno ?_)) ⟨rfl, rfl, rfl, rfl, rfl, rfl, rfl, rfl, rfl, rfl, rfl, rfl, trivial⟩
                  rintro ⟨z, z9⟩
                  replace z := of_decide_eq_true z
                  have z1 := z.1; have z2 := z.2.1; have z3 := z.2.2.1; have z4 := (ewd z1).mpr z.2.2.2
                  first | omega | (rw [bI_f z9] at hbh; omega) | (have := bI_f z9; omega)
                · skip
                  refine wa_aload_n (n := 0) rfl ?_
                  refine wa_iload (n := 11) rfl ?_
                  refine wa_cv 73 rfl (wy_pr rfl) wt_73 (M2 := mS [120]) rfl at_XO_addCandidate ⟨_, rfl⟩ rfl rfl ⟨(Or.inr ⟨wy_pr rfl, mS_no rfl⟩), trivial, trivial, trivial, trivial, trivial, trivial, trivial, trivial, trivial, trivial, trivial, trivial⟩ trivial (fun _ _ q => q) (adc_73 (S := A) (m := m) hg.2.2.2.2.1 ⟨by omega, by omega⟩ ⟨by have := hg.1; omega, by have := hg.1; have := hg.2.2.1; omega, by have := hg.1; omega⟩ ⟨hg.2.2.1.1, hg.2.2.1.2.1⟩) (fun oq69 Sq69 hp70 q69 => ?_)
                  rcases q69 with ⟨rfl, hadr⟩
                  show wJ _ _ _ _ _ _ _ _ _ _
                  refine wa_fall ⟨_, rfl⟩ ?_
                  refine wa_iinc rfl rfl ?_
                  refine wa_goto ⟨_, rfl⟩ ?_
                  have hyes : (okM T ms so st pc W) m = true := decide_eq_true ⟨by omega, by omega, by omega, (ewd (by omega)).mp (by omega)⟩
                  have hhid : hidM ms acc m = false := bI_0 (by omega)
                  refine wJ_S (ih (m + 1) (acc ++ [m]) Sq69 (gaR_ad hg hadr) (fun x hx => ?_) (by omega) (by omega) (by rw [← hcF, cdA_p hyes hhid])) ⟨rfl, rfl, rfl, rfl, rfl, rfl, rfl, rfl, rfl, rfl, rfl, rfl, trivial⟩
                  rcases List.mem_append.mp hx with y | y
                  · exact hax x y
                  · rw [List.mem_singleton.mp y]; omega
theorem gao_73 {k word st so fs pc am nl : Int} {W F lo : List Int} (hC : w_CL S) (hK : KC 87 97 93 114 115 74 73 T cs ms os S) (hw : wHo cs ms os) (hk : 0 ≤ k ∧ k < (cs.length : Int)) (hwd : wdM 97 T ms S so word W) (hwr : -1 ≤ word ∧ word ≤ 1000000) (hso : so = 1 ∨ so = 2) (hst : st = 0 ∨ st = 1) (hfs : (fs = 0 ∧ pc = -1) ∨ (fs = 1 ∧ pc = 1)) (hlo : lo = (os k).take lo.length) (hnl : nl = (lo.length : Int)) (hF : F.length ≤ 400) : ∀ (n i : Nat) (acc : List Int) (A : wS), i + n = lo.length → gaR 73 120 acc S A → (∀ x ∈ acc, 0 ≤ x ∧ x < (ms.length : Int)) → cdA ms (okM T ms so st pc W) acc (mOr cs (lo.drop i)) = F → wJ (pe_GA xs) wY0 (mS [120]) (d + 4) t_XO_gather ((pe_at t_XO_gather.bl 7).getD (0, [])).2 [(0, (2, 73)), (1, (0, k)), (2, (0, am)), (3, (0, word)), (4, (0, fs)), (5, (0, nl)), (6, (0, so)), (7, (0, st)), (8, (0, (i : Int)))] [] A (fun o Z => o = .inl none ∧ gaR 73 120 F S Z) := by
  have hn := KC_n hK
  have hn2 := hn.2.2
  have hO := KC_o hK hk.1 hk.2
  have hon := hw.2.2.1 k hk.1 hk.2
  have hol : (os k).length ≤ 60 := by have := su_nd_len (by decide) hO.2.1; omega
  have hll : lo.length ≤ (os k).length := by have z : lo.length = ((os k).take lo.length).length := by rw [← hlo]; 
                                             rw [List.length_take] at z; omega
  intro n
  induction n with
  | zero =>
    intro i acc A hin hg hax hcF
    rw [List.drop_of_length_le (by omega), mOr_n, cdA_n] at hcF
    refine wa_iload (n := 8) rfl ?_
    refine wa_iload (n := 5) rfl ?_
    refine wa_icmpge (w_rg0 (by omega) (by omega)) (w_rg0 (by omega) (by omega)) ⟨_, rfl⟩ (fun c1 => ?_) (fun c1 => ?_)
    · skip
      refine wa_return rfl ?_
      exact ⟨rfl, by rw [← hcF]; exact hg⟩
    · skip
      exfalso; omega
  | succ n ih =>
    intro i acc A hin hg hax hcF
    obtain ⟨u, hu⟩ : ∃ u : Int, u = (os k).getD i 0 := ⟨_, rfl⟩
    have hil : i < (os k).length := by omega
    have hiL : i < lo.length := by omega
    have hu2 : (os k)[i] = u := by rw [hu, List.getD_eq_getElem?_getD, List.getElem?_eq_getElem hil]; rfl
    have hu3 : lo[i] = u := by
      have z : lo[i]? = ((os k).take lo.length)[i]? := by rw [← hlo]
      rw [List.getElem?_take_of_lt hiL, List.getElem?_eq_getElem hil, List.getElem?_eq_getElem hiL, hu2] at z
      exact Option.some.inj z
    have hum := hon.2.2 u (by rw [← hu2]; exact List.getElem_mem hil)
    have hga := hg.2.2.2.1
    have hCA : w_CL A := gaR_C (by decide) hC hg
    have huo : A 114 ((k * 60) + (i : Int)) = u := (hga 114 _ (by decide) (by decide) (by decide) (Or.inl (by decide))).trans (by rw [hu, ← hO.2.2.1 i hil, show k * 60 + (i : Int) = 60 * k + (i : Int) by omega])
    have hcu := hw.2.1 u hum.1 hum.2
    have htr := KC_c hK hum.1 hum.2
    have ht3 : A 90 u = (hcR cs u).2.2.2.2.2.2.2 := (hga 90 _ (by decide) (by decide) (by decide) (Or.inl (by decide))).trans htr.2.2.2.1
    have ht4 : A 91 u = (hcR cs u).2.2.2.2.2.2.1 := (hga 91 _ (by decide) (by decide) (by decide) (Or.inl (by decide))).trans htr.2.2.2.2
    have hcu1 := hcu.2.1
    rw [List.drop_eq_getElem_cons hiL, hu3, mOr_c] at hcF
    have hnx := fun (acc2 : List Int) (A2 : wS) (z1 : gaR 73 120 acc2 S A2) (z2 : ∀ x ∈ acc2, 0 ≤ x ∧ x < (ms.length : Int)) (z3 : cdA ms (okM T ms so st pc W) acc2 (mOr cs (lo.drop (i + 1))) = F) => ih (i + 1) acc2 A2 (by omega) z1 z2 z3
    refine wa_iload (n := 8) rfl ?_
    refine wa_iload (n := 5) rfl ?_
    refine wa_icmpge (w_rg0 (by omega) (by omega)) (w_rg0 (by omega) (by omega)) ⟨_, rfl⟩ (fun c51 => ?_) (fun c51 => ?_)
    · skip
      exfalso; omega
    · skip
      refine wa_aload_n (n := 0) rfl ?_
      refine wb_gf4 73 rfl (wy_pr rfl) wt_73 wf_3_5 (v := 114) wl_73_5 ?_
      refine wa_iload_n (n := 1) rfl ?_
      refine wa_bipush (w_rg2 (by omega) (by omega)) ?_
      refine wa_imul ?_
      refine wa_iload (n := 8) rfl ?_
      refine wa_iadd ?_
      refine wb_iald 114 rfl (wy_pr rfl) wt_114 (n := 3600) ((cl_114 hCA)) (by omega) (by omega) (v := u) (huo) (fun r52 => ?_)
      refine wa_istore (n := 9) rfl ?_
      refine wa_aload_n (n := 0) rfl ?_
      refine wb_gf4 73 rfl (wy_pr rfl) wt_73 wf_3_1 (v := 86) wl_73_1 ?_
      refine wa_iconst ?_
      refine wb_aald5 86 4 rfl rfl (wy_pr rfl) wt_86 (by rw [show _ = _ from ((cl_86 hCA))]; omega) wl_86_4 ?_
      refine wa_iload (n := 9) rfl ?_
      refine wb_iald 91 rfl (wy_pr rfl) wt_91 (n := 60) ((cl_91 hCA)) (by omega) (by omega) (v := (hcR cs u).2.2.2.2.2.2.1) (ht4) (fun r53 => ?_)
      refine wa_aload_n (n := 0) rfl ?_
      refine wb_gf4 73 rfl (wy_pr rfl) wt_73 wf_3_1 (v := 86) wl_73_1 ?_
      refine wa_iconst ?_
      refine wb_aald5 86 3 rfl rfl (wy_pr rfl) wt_86 (by rw [show _ = _ from ((cl_86 hCA))]; omega) wl_86_3 ?_
      refine wa_iload (n := 9) rfl ?_
      refine wb_iald 90 rfl (wy_pr rfl) wt_90 (n := 60) ((cl_90 hCA)) (by omega) (by omega) (v := (hcR cs u).2.2.2.2.2.2.2) (ht3) (fun r54 => ?_)
      refine wa_iadd ?_
      refine wa_istore (n := 10) rfl ?_
      refine wa_aload_n (n := 0) rfl ?_
      refine wb_gf4 73 rfl (wy_pr rfl) wt_73 wf_3_1 (v := 86) wl_73_1 ?_
      refine wa_iconst ?_
      refine wb_aald5 86 4 rfl rfl (wy_pr rfl) wt_86 (by rw [show _ = _ from ((cl_86 hCA))]; omega) wl_86_4 ?_
      refine wa_iload (n := 9) rfl ?_
      refine wb_iald 91 rfl (wy_pr rfl) wt_91 (n := 60) ((cl_91 hCA)) (by omega) (by omega) (v := (hcR cs u).2.2.2.2.2.2.1) (ht4) (fun r55 => ?_)
      refine wa_istore (n := 11) rfl ?_
      refine wa_fall ⟨_, rfl⟩ ?_
      exact wJ_S (gai_73 (up := u) hC hK hw hk hwd hwr hso hst hfs (by omega) (by omega) hF hnx ((hcR cs u).2.2.2.2.2.2.2.toNat) ((hcR cs u).2.2.2.2.2.2.1) acc A hg hax (by omega) (by omega) hcF) ⟨rfl, rfl, rfl, rfl, rfl, rfl, rfl, rfl, rfl, rfl, rfl, rfl, trivial⟩
theorem gat_73 {k word am fs pc : Int} {W F : List Int} (hC : w_CL S) (hK : KC 87 97 93 114 115 74 73 T cs ms os S) (hw : wHo cs ms os) (hI : gI S) (hcd : 64 ≤ S 120 (-1) ∧ S 120 (-1) ≤ 1023) (hk : 0 ≤ k ∧ k < (cs.length : Int)) (ham : 0 ≤ am ∧ am ≤ 2) (hwd : wdM 97 T ms S (if am = 2 then 2 else 1) word W) (hwr : -1 ≤ word ∧ word ≤ 1000000) (hfs : (fs = 0 ∧ pc = -1) ∨ (fs = 1 ∧ pc = 1)) (hF : F = cdA ms (okM T ms (if am = 2 then 2 else 1) (if am = 1 then 1 else 0) pc W) [] (mOr cs (if am = 2 then [k] else os k))) (hF4 : F.length ≤ 400) : wJ (pe_GA xs) wY0 (mS [120]) (d + 4) t_XO_gather ((pe_at t_XO_gather.bl 0).getD (0, [])).2 [(0, (2, 73)), (1, (0, k)), (2, (0, am)), (3, (0, word)), (4, (0, fs))] [] S (fun o Z => o = .inl none ∧ gaR 73 120 F S Z) := by
  have hn := KC_n hK
  have hn2 := hn.2.2
  have hO := KC_o hK hk.1 hk.2
  have hO6 : S 93 k = ((os k).length : Int) := hO.1
  obtain ⟨⟨tl, htl⟩, hon⟩ := hw.2.2.1 k hk.1 hk.2
  have hol : (os k).length ≤ 60 := by have := su_nd_len (by decide) hO.2.1; omega
  have hg : gaR 73 120 [] S (w_up S 73 10 0) := ⟨w_up_same _ _ _ _, fun i hi => absurd hi (Nat.not_lt_zero _), by rw [w_up_slot (by decide)]; exact ⟨hcd.1, hcd.2, by show (0 : Int) ≤ _; omega⟩, fun j i _ _ _ z => w_up_no (by omega), gI_up hI (by decide) (by decide) (by decide), rmR_up (rmR_rfl S) (by decide) (by decide)⟩
  refine wa_aload_n (n := 0) rfl ?_
  refine wa_iconst ?_
  refine wb_pfi 73 rfl (wy_pr rfl) wt_73 wf_3_10 (n := 10) rfl ⟨(by omega), (by omega)⟩ ?_
  refine wa_iload_n (n := 2) rfl ?_
  refine wa_iconst ?_
  refine wa_icmpne (w_rg0 (by omega) (by omega)) (w_rg0 (by omega) (by omega)) ⟨_, rfl⟩ (fun c1 => ?_) (fun c1 => ?_)
  · skip
    refine wa_aload_n (n := 0) rfl ?_
    refine wb_gf4 73 rfl (wy_pr rfl) wt_73 wf_3_1 (v := 86) wl_73_1 ?_
    refine wa_bipush (w_rg2 (by omega) (by omega)) ?_
    refine wb_aald5 86 6 rfl rfl (wy_pr rfl) wt_86 (by rw [show _ = _ from ((w_up_slot (by decide)).trans ((cl_86 hC)))]; omega) wl_86_6 ?_
    refine wa_iload_n (n := 1) rfl ?_
    refine wb_iald 93 rfl (wy_pr rfl) wt_93 (n := 60) ((w_up_slot (by decide)).trans ((cl_93 hC))) (by omega) (by omega) (v := ((os k).length : Int)) ((w_up_slot (by decide)).trans (hO6)) (fun r2 => ?_)
    refine wa_fall ⟨_, rfl⟩ ?_
    refine wa_istore (n := 5) rfl ?_
    refine wa_iload_n (n := 2) rfl ?_
    refine wa_iconst ?_
    refine wa_icmpne (w_rg0 (by omega) (by omega)) (w_rg0 (by omega) (by omega)) ⟨_, rfl⟩ (fun c3 => ?_) (fun c3 => ?_)
    · skip
      refine wa_iconst ?_
      refine wa_fall ⟨_, rfl⟩ ?_
      refine wa_istore (n := 6) rfl ?_
      refine wa_iload_n (n := 2) rfl ?_
      refine wa_iconst ?_
      refine wa_icmpne (w_rg0 (by omega) (by omega)) (w_rg0 (by omega) (by omega)) ⟨_, rfl⟩ (fun c4 => ?_) (fun c4 => ?_)
      · skip
        refine wa_iconst ?_
        refine wa_fall ⟨_, rfl⟩ ?_
        refine wa_istore (n := 7) rfl ?_
        refine wa_iconst ?_
        refine wa_istore (n := 8) rfl ?_
        refine wa_fall ⟨_, rfl⟩ ?_
        have ea2 : (if am = 2 then 2 else 1 : Int) = 1 := by first | exact if_pos (by omega) | exact if_neg (by omega)
        have ea1 : (if am = 1 then 1 else 0 : Int) = 0 := by first | exact if_pos (by omega) | exact if_neg (by omega)
        have eal : (if am = 2 then [k] else os k) = (os k) := by first | exact if_pos (by omega) | exact if_neg (by omega)
        rw [ea2, ea1, eal] at hF
        rw [ea2] at hwd
        exact wJ_S (gao_73 (lo := (os k)) hC hK hw hk hwd hwr (by omega) (by omega) hfs (List.take_length).symm rfl hF4 ((os k).length) 0 [] _ (by omega) hg (fun x hx => absurd hx List.not_mem_nil) hF.symm) ⟨rfl, rfl, rfl, rfl, rfl, rfl, rfl, rfl, rfl, trivial⟩
      · skip
        refine wa_iconst ?_
        refine wa_goto ⟨_, rfl⟩ ?_
        refine wa_istore (n := 7) rfl ?_
        refine wa_iconst ?_
        refine wa_istore (n := 8) rfl ?_
        refine wa_fall ⟨_, rfl⟩ ?_
        have ea2 : (if am = 2 then 2 else 1 : Int) = 1 := by first | exact if_pos (by omega) | exact if_neg (by omega)
        have ea1 : (if am = 1 then 1 else 0 : Int) = 1 := by first | exact if_pos (by omega) | exact if_neg (by omega)
        have eal : (if am = 2 then [k] else os k) = (os k) := by first | exact if_pos (by omega) | exact if_neg (by omega)
        rw [ea2, ea1, eal] at hF
        rw [ea2] at hwd
        exact wJ_S (gao_73 (lo := (os k)) hC hK hw hk hwd hwr (by omega) (by omega) hfs (List.take_length).symm rfl hF4 ((os k).length) 0 [] _ (by omega) hg (fun x hx => absurd hx List.not_mem_nil) hF.symm) ⟨rfl, rfl, rfl, rfl, rfl, rfl, rfl, rfl, rfl, trivial⟩
    · skip
      exact absurd c3 (by omega)
  · skip
    refine wa_iconst ?_
    refine wa_goto ⟨_, rfl⟩ ?_
    refine wa_istore (n := 5) rfl ?_
    refine wa_iload_n (n := 2) rfl ?_
    refine wa_iconst ?_
    refine wa_icmpne (w_rg0 (by omega) (by omega)) (w_rg0 (by omega) (by omega)) ⟨_, rfl⟩ (fun c5 => ?_) (fun c5 => ?_)
    · skip
      exact absurd c5 (by omega)
    · skip
      refine wa_iconst ?_
      refine wa_goto ⟨_, rfl⟩ ?_
      refine wa_istore (n := 6) rfl ?_
      refine wa_iload_n (n := 2) rfl ?_
      refine wa_iconst ?_
      refine wa_icmpne (w_rg0 (by omega) (by omega)) (w_rg0 (by omega) (by omega)) ⟨_, rfl⟩ (fun c6 => ?_) (fun c6 => ?_)
      · skip
        refine wa_iconst ?_
        refine wa_fall ⟨_, rfl⟩ ?_
        refine wa_istore (n := 7) rfl ?_
        refine wa_iconst ?_
        refine wa_istore (n := 8) rfl ?_
        refine wa_fall ⟨_, rfl⟩ ?_
        have ea2 : (if am = 2 then 2 else 1 : Int) = 2 := by first | exact if_pos (by omega) | exact if_neg (by omega)
        have ea1 : (if am = 1 then 1 else 0 : Int) = 0 := by first | exact if_pos (by omega) | exact if_neg (by omega)
        have eal : (if am = 2 then [k] else os k) = [k] := by first | exact if_pos (by omega) | exact if_neg (by omega)
        rw [ea2, ea1, eal] at hF
        rw [ea2] at hwd
        exact wJ_S (gao_73 (lo := [k]) hC hK hw hk hwd hwr (by omega) (by omega) hfs (by rw [htl]; rfl) rfl hF4 ([k].length) 0 [] _ (by omega) hg (fun x hx => absurd hx List.not_mem_nil) hF.symm) ⟨rfl, rfl, rfl, rfl, rfl, rfl, rfl, rfl, rfl, trivial⟩
      · skip
        exact absurd c6 (by omega)
theorem msj_73 {ph ch se : Int} {n i : Nat} {f : List Int} (hC : w_CL S) (hK : KC 87 97 93 114 115 74 73 T cs ms os S) (hw : wHo cs ms os) (hph : 1 ≤ ph ∧ ph ≤ 3) (hfl : f.length ≤ 400 ∧ (f.length : Int) ≤ S 120 (-1) ∧ S 120 (-1) ≤ 1023) (hfa : ∀ i : Nat, i < f.length → S 120 (i : Int) = f.getD i 0) (hfm : ∀ x ∈ f, (0 ≤ x ∧ x < (ms.length : Int)) ∧ (ph ≠ 3 → (hmR ms x).2.2.2.2.1.length = n) ∧ (ph = 3 → 1 ≤ (hmR ms x).2.2.2.2.1.length)) (hi : i < f.length) (hk : wJ (pe_GA xs) wY0 M (d + 3) t_XO_mostSpecific ((pe_at t_XO_mostSpecific.bl 3).getD (0, [])).2 [(0, (2, 73)), (1, (0, (f.length : Int))), (2, (0, ph)), (3, (0, ch)), (4, (0, se)), (5, (0, (i : Int))), (6, (0, bI (f.all (fun q => moA cs ms ph n (f.getD i 0) q))))] [] S Q) : ∀ (u j : Nat) (v : Bool), f.length - j < u → j ≤ f.length → (f.take j).all (fun q => moA cs ms ph n (f.getD i 0) q) = v → wJ (pe_GA xs) wY0 M (d + 3) t_XO_mostSpecific ((pe_at t_XO_mostSpecific.bl 2).getD (0, [])).2 [(0, (2, 73)), (1, (0, (f.length : Int))), (2, (0, ph)), (3, (0, ch)), (4, (0, se)), (5, (0, (i : Int))), (6, (0, bI v)), (7, (0, (j : Int)))] [] S Q := by
  have hn := KC_n hK
  have hn2 := hn.2.2
  have him : f.getD i 0 ∈ f := by rw [List.getD_eq_getElem?_getD, List.getElem?_eq_getElem hi]; exact List.getElem_mem hi
  have hi1 := hfm _ him
  have hi2 := hfa i hi
  intro u
  induction u with
  | zero => intro j v h; exact absurd h (Nat.not_lt_zero _)
  | succ u ih =>
    intro j v hu hj hv
    have hvr := bI_rg v
    refine wa_iload (n := 7) rfl ?_
    refine wa_iload_n (n := 1) rfl ?_
    refine wa_icmpge (w_rg0 (by omega) (by omega)) (w_rg0 (by omega) (by omega)) ⟨_, rfl⟩ (fun c1 => ?_) (fun c1 => ?_)
    · skip
      have hall : f.all (fun q => moA cs ms ph n (f.getD i 0) q) = v := by
        first | (rw [List.take_of_length_le (by omega)] at hv; exact hv) | (have hv0 := bI_0 (b := v) (by omega); rw [hv0] at hv ⊢; exact all_tk hv)
      rw [hall] at hk
      exact wJ_S hk ⟨rfl, rfl, rfl, rfl, rfl, rfl, rfl, trivial⟩
    · skip
      refine wa_iload (n := 6) rfl ?_
      refine wa_ifeq (w_rg0 (by omega) (by omega)) ⟨_, rfl⟩ (fun c2 => ?_) (fun c2 => ?_)
      · skip
        have hall : f.all (fun q => moA cs ms ph n (f.getD i 0) q) = v := by
          first | (rw [List.take_of_length_le (by omega)] at hv; exact hv) | (have hv0 := bI_0 (b := v) (by omega); rw [hv0] at hv ⊢; exact all_tk hv)
        rw [hall] at hk
        exact wJ_S hk ⟨rfl, rfl, rfl, rfl, rfl, rfl, rfl, trivial⟩
      · skip
        have hjm : f.getD j 0 ∈ f := by rw [List.getD_eq_getElem?_getD, List.getElem?_eq_getElem (show j < f.length by omega)]; exact List.getElem_mem _
        have hj1 := hfm _ hjm
        have hj2 := hfa j (by omega)
        refine wa_aload_n (n := 0) rfl ?_
        refine wa_aload_n (n := 0) rfl ?_
        refine wb_gf4 73 rfl (wy_pr rfl) wt_73 wf_3_9 (v := 120) wl_73_9 ?_
        refine wa_iload (n := 5) rfl ?_
        refine wb_iald 120 rfl (wy_pr rfl) wt_120 (n := (S 120 (-1))) (rfl) (by omega) (by omega) (v := (f.getD i 0)) (hi2) (fun r3 => ?_)
        refine wa_aload_n (n := 0) rfl ?_
        refine wb_gf4 73 rfl (wy_pr rfl) wt_73 wf_3_9 (v := 120) wl_73_9 ?_
        refine wa_iload (n := 7) rfl ?_
        refine wb_iald 120 rfl (wy_pr rfl) wt_120 (n := (S 120 (-1))) (rfl) (by omega) (by omega) (v := (f.getD j 0)) (hj2) (fun r4 => ?_)
        refine wa_iload_n (n := 2) rfl ?_
        refine wa_cv 73 rfl (wy_pr rfl) wt_73 (M2 := fun _ => False) rfl at_XO_isMoreSpecific ⟨_, rfl⟩ rfl rfl ⟨(Or.inr ⟨wy_pr rfl, fun q => q⟩), trivial, trivial, trivial, trivial, trivial, trivial, trivial, trivial⟩ trivial (fun _ _ q => False.elim q) (mor_73 (S := S) (m := f.getD i 0) (q := f.getD j 0) (n := n) hC hK hw hi1.1 hj1.1 hph (fun z => ⟨hi1.2.1 z, hj1.2.1 z⟩) (fun z => ⟨hi1.2.2 z, hj1.2.2 z⟩)) (fun oq5 Sq5 hp6 q5 => ?_)
        rcases q5 with ⟨rfl, rfl⟩
        show wJ _ _ _ _ _ _ _ _ _ _
        refine wa_istore (n := 6) rfl ?_
        refine wa_iinc rfl rfl ?_
        refine wa_goto ⟨_, rfl⟩ ?_
        have hv1 := bI_1 (b := v) (by omega)
        rw [hv1] at hv
        exact wJ_S (ih (j + 1) (moA cs ms ph n (f.getD i 0) (f.getD j 0)) (by omega) (by omega) (all_ts (by omega) hv)) ⟨rfl, rfl, rfl, rfl, rfl, rfl, rfl, rfl, trivial⟩
theorem msi_73 {ph : Int} {n : Nat} {f : List Int} (hC : w_CL S) (hK : KC 87 97 93 114 115 74 73 T cs ms os S) (hw : wHo cs ms os) (hph : 1 ≤ ph ∧ ph ≤ 3) (hfl : f.length ≤ 400 ∧ (f.length : Int) ≤ S 120 (-1) ∧ S 120 (-1) ≤ 1023) (hfa : ∀ i : Nat, i < f.length → S 120 (i : Int) = f.getD i 0) (hfm : ∀ x ∈ f, (0 ≤ x ∧ x < (ms.length : Int)) ∧ (ph ≠ 3 → (hmR ms x).2.2.2.2.1.length = n) ∧ (ph = 3 → 1 ≤ (hmR ms x).2.2.2.2.1.length)) : ∀ (u i : Nat) (ch se : Int), i + u = f.length → (-2147483648 ≤ ch ∧ ch ≤ 2147483647) → (0 ≤ se ∧ se ≤ (i : Int)) → wJ (pe_GA xs) wY0 M (d + 3) t_XO_mostSpecific ((pe_at t_XO_mostSpecific.bl 1).getD (0, [])).2 [(0, (2, 73)), (1, (0, (f.length : Int))), (2, (0, ph)), (3, (0, ch)), (4, (0, se)), (5, (0, (i : Int)))] [] S (fun o Z => S = Z ∧ o = .inl (some (0, msF (fun m => f.all (fun q => moA cs ms ph n m q)) (f.drop i) ch se))) := by
  have hn := KC_n hK
  have hn2 := hn.2.2
  intro u
  induction u with
  | zero =>
    intro i ch se hu hch hse
    rw [List.drop_of_length_le (by omega)]
    refine wa_iload (n := 5) rfl ?_
    refine wa_iload_n (n := 1) rfl ?_
    refine wa_icmpge (w_rg0 (by omega) (by omega)) (w_rg0 (by omega) (by omega)) ⟨_, rfl⟩ (fun c1 => ?_) (fun c1 => ?_)
    · skip
      refine wa_iload (n := 4) rfl ?_
      refine wa_iconst ?_
      refine wa_icmpne (w_rg0 (by omega) (by omega)) (w_rg0 (by omega) (by omega)) ⟨_, rfl⟩ (fun c2 => ?_) (fun c2 => ?_)
      · skip
        refine wa_bipush (w_rg2 (by omega) (by omega)) ?_
        refine wa_fall ⟨_, rfl⟩ ?_
        refine wa_ireturn rfl ?_
        refine ⟨rfl, congrArg (fun z => Sum.inl (some (0, z))) ?_⟩
        exact (if_neg (by omega)).symm
      · skip
        refine wa_iload_n (n := 3) rfl ?_
        refine wa_goto ⟨_, rfl⟩ ?_
        refine wa_ireturn rfl ?_
        refine ⟨rfl, congrArg (fun z => Sum.inl (some (0, z))) ?_⟩
        exact (if_pos (by omega)).symm
    · skip
      exfalso; omega
  | succ u ih =>
    intro i ch se hu hch hse
    have hil : i < f.length := by omega
    have him : f.getD i 0 ∈ f := by rw [List.getD_eq_getElem?_getD, List.getElem?_eq_getElem hil]; exact List.getElem_mem hil
    have hi1 := (hfm _ him).1
    have hi2 := hfa i hil
    have hdr : f.drop i = f.getD i 0 :: f.drop (i + 1) := by rw [List.drop_eq_getElem_cons hil, List.getD_eq_getElem?_getD, List.getElem?_eq_getElem hil]; rfl
    rw [hdr]
    refine wa_iload (n := 5) rfl ?_
    refine wa_iload_n (n := 1) rfl ?_
    refine wa_icmpge (w_rg0 (by omega) (by omega)) (w_rg0 (by omega) (by omega)) ⟨_, rfl⟩ (fun c51 => ?_) (fun c51 => ?_)
    · skip
      exfalso; omega
    · skip
      refine wa_iconst ?_
      refine wa_istore (n := 6) rfl ?_
      refine wa_iconst ?_
      refine wa_istore (n := 7) rfl ?_
      refine wa_fall ⟨_, rfl⟩ ?_
      refine wJ_S (msj_73 (n := n) hC hK hw hph hfl hfa hfm hil ?_ (f.length + 1) 0 true (by omega) (by omega) rfl) ⟨rfl, rfl, rfl, rfl, rfl, rfl, rfl, rfl, trivial⟩
      obtain ⟨bv, hbv⟩ : ∃ b : Bool, b = f.all (fun q => moA cs ms ph n (f.getD i 0) q) := ⟨_, rfl⟩
      rw [← hbv]
      have hbr := bI_rg bv
      refine wa_iload (n := 6) rfl ?_
      refine wa_ifeq (w_rg0 (by omega) (by omega)) ⟨_, rfl⟩ (fun c201 => ?_) (fun c201 => ?_)
      · skip
        refine wa_iinc rfl rfl ?_
        refine wa_goto ⟨_, rfl⟩ ?_
        have hb0 := bI_0 (b := bv) (by omega)
        rw [hb0] at hbv
        have he : msF (fun m => f.all (fun q => moA cs ms ph n m q)) (f.getD i 0 :: f.drop (i + 1)) ch se = msF (fun m => f.all (fun q => moA cs ms ph n m q)) (f.drop (i + 1)) ch se := if_neg (fun z => absurd (hbv.trans z) (by decide))
        rw [he]
        exact wJ_S (ih (i + 1) ch se (by omega) ⟨by omega, by omega⟩ ⟨by omega, by omega⟩) ⟨rfl, rfl, rfl, rfl, rfl, rfl, trivial⟩
      · skip
        refine wa_aload_n (n := 0) rfl ?_
        refine wb_gf4 73 rfl (wy_pr rfl) wt_73 wf_3_9 (v := 120) wl_73_9 ?_
        refine wa_iload (n := 5) rfl ?_
        refine wb_iald 120 rfl (wy_pr rfl) wt_120 (n := (S 120 (-1))) (rfl) (by omega) (by omega) (v := (f.getD i 0)) (hi2) (fun r202 => ?_)
        refine wa_istore_n (n := 3) rfl ?_
        refine wa_iinc rfl rfl ?_
        refine wa_fall ⟨_, rfl⟩ ?_
        refine wa_iinc rfl rfl ?_
        refine wa_goto ⟨_, rfl⟩ ?_
        have hb0 := bI_1 (b := bv) (by omega)
        rw [hb0] at hbv
        have he : msF (fun m => f.all (fun q => moA cs ms ph n m q)) (f.getD i 0 :: f.drop (i + 1)) ch se = msF (fun m => f.all (fun q => moA cs ms ph n m q)) (f.drop (i + 1)) (f.getD i 0) (se + 1) := if_pos hbv.symm
        rw [he]
        exact wJ_S (ih (i + 1) (f.getD i 0) (se + 1) (by omega) ⟨by omega, by omega⟩ ⟨by omega, by omega⟩) ⟨rfl, rfl, rfl, rfl, rfl, rfl, trivial⟩
theorem mos_73 {ph : Int} {n : Nat} {f : List Int} (hC : w_CL S) (hK : KC 87 97 93 114 115 74 73 T cs ms os S) (hw : wHo cs ms os) (hph : 1 ≤ ph ∧ ph ≤ 3) (hfl : f.length ≤ 400 ∧ (f.length : Int) ≤ S 120 (-1) ∧ S 120 (-1) ≤ 1023) (hfa : ∀ i : Nat, i < f.length → S 120 (i : Int) = f.getD i 0) (hfm : ∀ x ∈ f, (0 ≤ x ∧ x < (ms.length : Int)) ∧ (ph ≠ 3 → (hmR ms x).2.2.2.2.1.length = n) ∧ (ph = 3 → 1 ≤ (hmR ms x).2.2.2.2.1.length)) : wJ (pe_GA xs) wY0 M (d + 3) t_XO_mostSpecific ((pe_at t_XO_mostSpecific.bl 0).getD (0, [])).2 [(0, (2, 73)), (1, (0, (f.length : Int))), (2, (0, ph))] [] S (fun o Z => S = Z ∧ o = .inl (some (0, sgP cs ms ph n f))) := by
  have he : sgP cs ms ph n f = msF (fun m => f.all (fun q => moA cs ms ph n m q)) (f.drop 0) (-8) 0 := by
    rw [msF_e _ _ _ _ (by decide), List.drop_zero]
    unfold sgP bsA
    by_cases c : (f.filter (fun m => f.all (fun q => moA cs ms ph n m q))).length = 1
    · rw [if_pos c, if_pos (by omega), if_neg (by decide)]
    · rw [if_neg c, if_neg (by omega)]
  rw [he]
  refine wa_bipush (w_rg2 (by omega) (by omega)) ?_
  refine wa_istore_n (n := 3) rfl ?_
  refine wa_iconst ?_
  refine wa_istore (n := 4) rfl ?_
  refine wa_iconst ?_
  refine wa_istore (n := 5) rfl ?_
  refine wa_fall ⟨_, rfl⟩ ?_
  exact wJ_S (msi_73 (n := n) hC hK hw hph hfl hfa hfm f.length 0 (-8) 0 (by omega) ⟨by omega, by omega⟩ ⟨by omega, by omega⟩) ⟨rfl, rfl, rfl, rfl, rfl, rfl, trivial⟩
theorem adc1_162 {m : Int} (hI : gI S) (hm : -2147483648 ≤ m ∧ m ≤ 2147483647) (h0 : 0 ≤ (S 162 10) ∧ (S 162 10) < S 209 (-1)) (h9 : 64 ≤ S 209 (-1) ∧ S 209 (-1) ≤ 1023) : wJ (pe_GA xs) wY0 (mS [209]) (d + 3) t_XO_addCandidate ((pe_at t_XO_addCandidate.bl 1).getD (0, [])).2 [(0, (2, 162)), (1, (0, m))] [] S (fun o Z => o = .inl none ∧ adR 162 209 m S Z) := by
  have hR := rmR_rfl S
  refine wa_aload_n (n := 0) rfl ?_
  refine wb_gf4 162 rfl (wy_pr rfl) wt_162 wf_3_9 (v := 209) wl_162_9 ?_
  refine wa_aload_n (n := 0) rfl ?_
  refine wb_gfi 162 rfl (wy_pr rfl) wt_162 wf_3_10 (v := (S 162 10)) rfl (fun r1 => ?_)
  refine wa_iload_n (n := 1) rfl ?_
  refine wb_iast 209 rfl (wy_pr rfl) wt_209 (n := (S 209 (-1))) rfl (by omega) (by omega) ⟨(by omega), (by omega)⟩ ?_
  refine wa_aload_n (n := 0) rfl ?_
  refine wa_dup (by decide) ?_
  refine wb_gfi 162 rfl (wy_pr rfl) wt_162 wf_3_10 (v := (S 162 10)) (w_up_slot (by decide)) (fun r2 => ?_)
  refine wa_iconst ?_
  refine wa_iadd ?_
  refine wb_pfi 162 rfl (wy_pr rfl) wt_162 wf_3_10 (n := 10) rfl ⟨(by omega), (by omega)⟩ ?_
  refine wa_return rfl ?_
  refine ⟨rfl, (w_up_same _ _ _ _), ((w_up_slot (by decide)).trans (w_up_same _ _ _ _)), fun i i0 i1 => ((w_up_slot (by decide)).trans (w_up_at (by omega))), fun j i j0 j1 j2 j3 => (w_up_no (by omega)).trans ((w_up_no (by omega)).trans (rfl)), ?_, (gI_up (gI_up hI (by omega) (by omega) (by omega)) (by omega) (by omega) (by omega)), (rmR_up (rmR_up hR (by omega) (by decide)) (by omega) (by decide))⟩
  rw [show (w_up (w_up S 209 (S 162 10) m) 162 10 ((S 162 10) + 1)) 209 (-1) = S 209 (-1) from ((w_up_slot (by decide)).trans (w_up_at (by omega)))]
  exact ⟨h9.1, h9.2, by omega⟩
theorem adc_162 {m : Int} (hI : gI S) (hm : -2147483648 ≤ m ∧ m ≤ 2147483647) (h0 : 0 ≤ (S 162 10) ∧ (S 162 10) ≤ S 209 (-1) ∧ (S 162 10) ≤ 500) (h9 : 64 ≤ S 209 (-1) ∧ S 209 (-1) ≤ 1023) : wJ (pe_GA xs) wY0 (mS [209]) (d + 3) t_XO_addCandidate ((pe_at t_XO_addCandidate.bl 0).getD (0, [])).2 [(0, (2, 162)), (1, (0, m))] [] S (fun o Z => o = .inl none ∧ adR 162 209 m S Z) := by
  have hR := rmR_rfl S
  refine wa_aload_n (n := 0) rfl ?_
  refine wb_gfi 162 rfl (wy_pr rfl) wt_162 wf_3_10 (v := (S 162 10)) rfl (fun r1 => ?_)
  refine wa_aload_n (n := 0) rfl ?_
  refine wb_gf4 162 rfl (wy_pr rfl) wt_162 wf_3_9 (v := 209) wl_162_9 ?_
  refine wb_alen 209 rfl (wy_pr rfl) (by rw [wt_209]; rfl) (v := (S 209 (-1))) rfl (fun r2 => ?_)
  refine wa_icmpne (w_rg0 (by omega) (by omega)) (w_rg0 (by omega) (by omega)) ⟨_, rfl⟩ (fun c3 => ?_) (fun c3 => ?_)
  · skip
    exact adc1_162 hI hm ⟨by omega, by omega⟩ h9
  · skip
    refine wa_aload_n (n := 0) rfl ?_
    refine wa_aload_n (n := 0) rfl ?_
    refine wb_gf4 162 rfl (wy_pr rfl) wt_162 wf_3_9 (v := 209) wl_162_9 ?_
    refine wa_aload_n (n := 0) rfl ?_
    refine wb_gfi 162 rfl (wy_pr rfl) wt_162 wf_3_10 (v := (S 162 10)) rfl (fun r4 => ?_)
    refine wa_iconst ?_
    refine wa_imul ?_
    refine wa_cs (M2 := fun _ => False) rfl at_JA_copyOf_2 ⟨_, rfl⟩ rfl rfl ⟨(Or.inr ⟨wy_pr rfl, fun q => q⟩), trivial, trivial⟩ ⟨(Or.inr ⟨wy_pr rfl, fun q => q⟩), trivial⟩ (fun _ _ q => False.elim q) (cp_I (S := S) (a := 209) (n := ((S 162 10) * 2)) (len := (S 209 (-1))) (wy_pr rfl) wt_209 rfl ⟨by omega, by omega, by omega⟩) (fun oq5 Sq5 _ q5 => ?_)
    rcases q5 with ⟨rfl, rfl⟩
    show wJ _ _ _ _ _ _ _ _ _ _
    refine wg_pf (S := S) (len := (S 209 (-1))) 0 162 209 rfl rfl rfl wt_162 wf_3_9 wl_162_9 (by decide +kernel) wt_209 (by decide) (by decide +kernel) hI (fun q => absurd q (by decide)) (by decide) ⟨by omega, by omega⟩ rfl (fun _ => ⟨Or.inr (by decide), Or.inl (nN_ge _)⟩) ⟨(Or.inr ⟨wy_pr rfl, mS_no rfl⟩), trivial, trivial⟩ trivial (fun Z6 g7 gi8 => ?_)
    have rm9 := rmR_gr hR g7 (by decide +kernel) (len := (S 209 (-1))) rfl ⟨by omega, by omega⟩ ⟨fun q => by first | omega | exact absurd q (by decide), by show _ ≤ (100000000 : Int); omega⟩
    refine wa_fall ⟨_, rfl⟩ ?_
    have zz : ∀ (j : Nat) (i : Int), j < 4000000 → j ≠ wG → j ≠ 209 → Z6 j i = S j i := fun j i j0 j1 j2 => congrFun (g7.2.2.1 j (by omega) j0 j1) i
    have y1 : ∀ i : Int, 0 ≤ i → i < (S 162 10) → Z6 209 i = S 209 i := fun i i0 i1 => g7.2.1 i i0 (by omega)
    have n1 : Z6 209 (-1) = (S 162 10) * 2 := (g7.1)
    have e3 : Z6 162 10 = (S 162 10) := zz 162 10 (by decide) (by decide) (by decide)
    refine wJ_mono (adc1_162 (S := Z6) gi8 hm ⟨by omega, by omega⟩ ⟨by omega, by omega⟩) (fun o Z hz => ⟨hz.1, ?_⟩)
    obtain ⟨-, a1, a2, a3, a4, a5, a6, a7⟩ := hz
    rw [e3] at a1 a2 a3 a5
    exact ⟨a1, a2, fun i i0 i1 => (a3 i i0 i1).trans (y1 i i0 i1), fun j i j0 j1 j2 j3 => (a4 j i j0 j1 j2 j3).trans (zz j i j0 j1 j2), a5, a6, rmR_tr rm9 a7⟩
theorem gaK_162 {acc : List Int} (hK : KC 176 186 182 203 204 163 162 T cs ms os S) (h : gaR 162 209 acc S Z) : KC 176 186 182 203 204 163 162 T cs ms os Z := by
  have f := h.2.2.2.1
  refine KC_ag hK (f 162 2 (by decide) (by decide) (by decide) (Or.inr (by decide))) (f 162 4 (by decide) (by decide) (by decide) (Or.inr (by decide))) (fun j hj => ?_)
  funext x
  exact f j x (by omega) (by unfold wG; omega) (by omega) (Or.inl (by omega))
theorem gai_162 {k word st so fs pc am nl up e : Int} {i : Nat} {W r F : List Int} (hC : w_CL S) (hK : KC 176 186 182 203 204 163 162 T cs ms os S) (hw : wHo cs ms os) (hk : 0 ≤ k ∧ k < (cs.length : Int)) (hwd : wdM 186 T ms S so word W) (hwr : -1 ≤ word ∧ word ≤ 1000000) (hso : so = 1 ∨ so = 2) (hst : st = 0 ∨ st = 1) (hfs : (fs = 0 ∧ pc = -1) ∨ (fs = 1 ∧ pc = 1)) (he : e ≤ (ms.length : Int)) (hi : i < 60) (hF : F.length ≤ 400) (hnx : ∀ (acc : List Int) (A : wS), gaR 162 209 acc S A → (∀ x ∈ acc, 0 ≤ x ∧ x < (ms.length : Int)) → cdA ms (okM T ms so st pc W) acc r = F → wJ (pe_GA xs) wY0 (mS [209]) (d + 4) t_XO_gather ((pe_at t_XO_gather.bl 7).getD (0, [])).2 [(0, (2, 162)), (1, (0, k)), (2, (0, am)), (3, (0, word)), (4, (0, fs)), (5, (0, nl)), (6, (0, so)), (7, (0, st)), (8, (0, ((i + 1 : Nat) : Int)))] [] A (fun o Z => o = .inl none ∧ gaR 162 209 F S Z)) : ∀ (n : Nat) (m : Int) (acc : List Int) (A : wS), gaR 162 209 acc S A → (∀ x ∈ acc, 0 ≤ x ∧ x < (ms.length : Int)) → m + (n : Int) = e → 0 ≤ m → cdA ms (okM T ms so st pc W) acc (ivl m n ++ r) = F → wJ (pe_GA xs) wY0 (mS [209]) (d + 4) t_XO_gather ((pe_at t_XO_gather.bl 8).getD (0, [])).2 [(0, (2, 162)), (1, (0, k)), (2, (0, am)), (3, (0, word)), (4, (0, fs)), (5, (0, nl)), (6, (0, so)), (7, (0, st)), (8, (0, (i : Int))), (9, (0, up)), (10, (0, e)), (11, (0, m))] [] A (fun o Z => o = .inl none ∧ gaR 162 209 F S Z) := by
  have hn := KC_n hK
  have hn2 := hn.2.2
  intro n
  induction n with
  | zero =>
    intro m acc A hg hax hme hm0 hcF
    refine wa_iload (n := 11) rfl ?_
    refine wa_iload (n := 10) rfl ?_
    refine wa_icmpge (w_rg0 (by omega) (by omega)) (w_rg0 (by omega) (by omega)) ⟨_, rfl⟩ (fun c1 => ?_) (fun c1 => ?_)
    · skip
      refine wa_iinc rfl rfl ?_
      refine wa_goto ⟨_, rfl⟩ ?_
      exact wJ_S (hnx acc A hg hax hcF) ⟨rfl, rfl, rfl, rfl, rfl, rfl, rfl, rfl, rfl, trivial⟩
    · skip
      exfalso; omega
  | succ n ih =>
    intro m acc A hg hax hme hm0 hcF
    rw [ivl_s, List.cons_append] at hcF
    have eM := KC_m hK (m := m) (by omega) (by omega)
    have eW := hw.2.2.2 m (by omega) (by omega)
    have e1 : S 187 m = (hmR ms m).2.1 := eM.1.2.1
    have e2 : S 188 m = (hmR ms m).2.2.1 := eM.1.2.2.1
    have e3 : S 189 m = (hmR ms m).2.2.2.1 := eM.1.2.2.2
    have e4 : S 190 m = ((hmR ms m).2.2.2.2.1.length : Int) := eM.2.1.1
    have e5 : S 191 m = (hmR ms m).2.2.2.2.2.1 := eM.2.1.2.1
    have eq := eW.1.2.1
    have es := eW.1.2.2.1
    have ey := eW.1.2.2.2
    have ev := eW.2.1
    have el := eW.2.2.1
    have ewd : (hmR ms m).2.1 = so → (S 200 m = word ↔ nmR T (hmR ms m) = W) := hwd m hm0 (by omega)
    have hga := hg.2.2.2.1
    have hCA : w_CL A := gaR_C (by decide) hC hg
    have f1 : A 187 m = (hmR ms m).2.1 := (hga 187 m (by decide) (by decide) (by decide) (Or.inl (by decide))).trans e1
    have f2 : A 188 m = (hmR ms m).2.2.1 := (hga 188 m (by decide) (by decide) (by decide) (Or.inl (by decide))).trans e2
    have f4 : A 190 m = ((hmR ms m).2.2.2.2.1.length : Int) := (hga 190 m (by decide) (by decide) (by decide) (Or.inl (by decide))).trans e4
    have f14 : A 200 m = S 200 m := hga 200 m (by decide) (by decide) (by decide) (Or.inl (by decide))
    have hal : acc.length ≤ 400 := by
      have z := cdA_pr (ms := ms) (okM T ms so st pc W) (m :: (ivl (m + 1) n ++ r)) acc
      obtain ⟨t, ht⟩ := z
      rw [hcF] at ht
      have z2 : F.length = acc.length + t.length := by rw [ht, List.length_append]
      omega
    have hno : ¬ ((okM T ms so st pc W) m = true ∧ hidM ms acc m = false) → cdA ms (okM T ms so st pc W) acc (ivl (m + 1) n ++ r) = F := fun z => by rw [← hcF, cdA_q z]
    refine wa_iload (n := 11) rfl ?_
    refine wa_iload (n := 10) rfl ?_
    refine wa_icmpge (w_rg0 (by omega) (by omega)) (w_rg0 (by omega) (by omega)) ⟨_, rfl⟩ (fun c51 => ?_) (fun c51 => ?_)
    · skip
      exfalso; omega
    · skip
      refine wa_aload_n (n := 0) rfl ?_
      refine wb_gf4 162 rfl (wy_pr rfl) wt_162 wf_3_3 (v := 185) wl_162_3 ?_
      refine wa_iconst ?_
      refine wb_aald5 185 1 rfl rfl (wy_pr rfl) wt_185 (by rw [show _ = _ from ((cl_185 hCA))]; omega) wl_185_1 ?_
      refine wa_iload (n := 11) rfl ?_
      refine wb_iald 187 rfl (wy_pr rfl) wt_187 (n := 400) ((cl_187 hCA)) (by omega) (by omega) (v := (hmR ms m).2.1) (f1) (fun r52 => ?_)
      refine wa_iload (n := 6) rfl ?_
      refine wa_icmpne (w_rg0 (by omega) (by omega)) (w_rg0 (by omega) (by omega)) ⟨_, rfl⟩ (fun c53 => ?_) (fun c53 => ?_)
      · skip
        refine wa_iinc rfl rfl ?_
        refine wa_goto ⟨_, rfl⟩ ?_
        refine wJ_S (ih (m + 1) acc A hg hax (by omega) (by omega) (hno ?_)) ⟨rfl, rfl, rfl, rfl, rfl, rfl, rfl, rfl, rfl, rfl, rfl, rfl, trivial⟩
        rintro ⟨z, z9⟩
        replace z := of_decide_eq_true z
        have z1 := z.1; have z2 := z.2.1; have z3 := z.2.2.1; have z4 := (ewd z1).mpr z.2.2.2
        first | omega | (rw [bI_f z9] at hbh; omega) | (have := bI_f z9; omega)
      · skip
        refine wa_aload_n (n := 0) rfl ?_
        refine wb_gf4 162 rfl (wy_pr rfl) wt_162 wf_3_3 (v := 185) wl_162_3 ?_
        refine wa_iconst ?_
        refine wb_aald5 185 2 rfl rfl (wy_pr rfl) wt_185 (by rw [show _ = _ from ((cl_185 hCA))]; omega) wl_185_2 ?_
        refine wa_iload (n := 11) rfl ?_
        refine wb_iald 188 rfl (wy_pr rfl) wt_188 (n := 400) ((cl_188 hCA)) (by omega) (by omega) (v := (hmR ms m).2.2.1) (f2) (fun r54 => ?_)
        refine wa_iload (n := 7) rfl ?_
        refine wa_icmpne (w_rg0 (by omega) (by omega)) (w_rg0 (by omega) (by omega)) ⟨_, rfl⟩ (fun c55 => ?_) (fun c55 => ?_)
        · skip
          refine wa_iinc rfl rfl ?_
          refine wa_goto ⟨_, rfl⟩ ?_
          refine wJ_S (ih (m + 1) acc A hg hax (by omega) (by omega) (hno ?_)) ⟨rfl, rfl, rfl, rfl, rfl, rfl, rfl, rfl, rfl, rfl, rfl, rfl, trivial⟩
          rintro ⟨z, z9⟩
          replace z := of_decide_eq_true z
          have z1 := z.1; have z2 := z.2.1; have z3 := z.2.2.1; have z4 := (ewd z1).mpr z.2.2.2
          first | omega | (rw [bI_f z9] at hbh; omega) | (have := bI_f z9; omega)
        · skip
          refine wa_aload_n (n := 0) rfl ?_
          refine wb_gf4 162 rfl (wy_pr rfl) wt_162 wf_3_3 (v := 185) wl_162_3 ?_
          refine wa_bipush (w_rg2 (by omega) (by omega)) ?_
          refine wb_aald5 185 14 rfl rfl (wy_pr rfl) wt_185 (by rw [show _ = _ from ((cl_185 hCA))]; omega) wl_185_14 ?_
          refine wa_iload (n := 11) rfl ?_
          refine wb_iald 200 rfl (wy_pr rfl) wt_200 (n := 400) ((cl_200 hCA)) (by omega) (by omega) (v := (S 200 m)) (f14) (fun r56 => ?_)
          refine wa_iload_n (n := 3) rfl ?_
          refine wa_icmpne (w_rg0 (by omega) (by omega)) (w_rg0 (by omega) (by omega)) ⟨_, rfl⟩ (fun c57 => ?_) (fun c57 => ?_)
          · skip
            refine wa_iinc rfl rfl ?_
            refine wa_goto ⟨_, rfl⟩ ?_
            refine wJ_S (ih (m + 1) acc A hg hax (by omega) (by omega) (hno ?_)) ⟨rfl, rfl, rfl, rfl, rfl, rfl, rfl, rfl, rfl, rfl, rfl, rfl, trivial⟩
            rintro ⟨z, z9⟩
            replace z := of_decide_eq_true z
            have z1 := z.1; have z2 := z.2.1; have z3 := z.2.2.1; have z4 := (ewd z1).mpr z.2.2.2
            first | omega | (rw [bI_f z9] at hbh; omega) | (have := bI_f z9; omega)
          · skip
            refine wa_iload (n := 4) rfl ?_
            refine wa_ifeq (w_rg0 (by omega) (by omega)) ⟨_, rfl⟩ (fun c58 => ?_) (fun c58 => ?_)
            · skip
              refine wa_aload_n (n := 0) rfl ?_
              refine wa_iload (n := 11) rfl ?_
              refine wa_cv 162 rfl (wy_pr rfl) wt_162 (M2 := fun _ => False) rfl at_XO_isHidden ⟨_, rfl⟩ rfl rfl ⟨(Or.inr ⟨wy_pr rfl, fun q => q⟩), trivial, trivial, trivial, trivial, trivial, trivial, trivial, trivial, trivial, trivial, trivial, trivial⟩ trivial (fun _ _ q => False.elim q) (hid_162 (S := A) (acc := acc) (m := m) hCA (gaK_162 hK hg) hw ⟨by omega, by omega⟩ hg.1 ⟨by have := hg.2.2.1; omega, by have := hg.2.2.1; omega⟩ (fun i hi => ⟨hg.2.1 i hi, hax _ (by rw [List.getD_eq_getElem?_getD, List.getElem?_eq_getElem hi]; exact List.getElem_mem hi)⟩)) (fun oq59 Sq59 hp60 q59 => ?_)
              rcases q59 with ⟨rfl, rfl⟩
              show wJ _ _ _ _ _ _ _ _ _ _
              have hbh := bI_rg (hidM ms acc m)
              refine wa_ifne (w_rg0 (by omega) (by omega)) ⟨_, rfl⟩ (fun c61 => ?_) (fun c61 => ?_)
              · skip
                refine wa_iinc rfl rfl ?_
                refine wa_goto ⟨_, rfl⟩ ?_
                refine wJ_S (ih (m + 1) acc A hg hax (by omega) (by omega) (hno ?_)) ⟨rfl, rfl, rfl, rfl, rfl, rfl, rfl, rfl, rfl, rfl, rfl, rfl, trivial⟩
                rintro ⟨z, z9⟩
                replace z := of_decide_eq_true z
                have z1 := z.1; have z2 := z.2.1; have z3 := z.2.2.1; have z4 := (ewd z1).mpr z.2.2.2
                first | omega | (rw [bI_f z9] at hbh; omega) | (have := bI_f z9; omega)
              · skip
                refine wa_aload_n (n := 0) rfl ?_
                refine wa_iload (n := 11) rfl ?_
                refine wa_cv 162 rfl (wy_pr rfl) wt_162 (M2 := mS [209]) rfl at_XO_addCandidate ⟨_, rfl⟩ rfl rfl ⟨(Or.inr ⟨wy_pr rfl, mS_no rfl⟩), trivial, trivial, trivial, trivial, trivial, trivial, trivial, trivial, trivial, trivial, trivial, trivial⟩ trivial (fun _ _ q => q) (adc_162 (S := A) (m := m) hg.2.2.2.2.1 ⟨by omega, by omega⟩ ⟨by have := hg.1; omega, by have := hg.1; have := hg.2.2.1; omega, by have := hg.1; omega⟩ ⟨hg.2.2.1.1, hg.2.2.1.2.1⟩) (fun oq62 Sq62 hp63 q62 => ?_)
                rcases q62 with ⟨rfl, hadr⟩
                show wJ _ _ _ _ _ _ _ _ _ _
                refine wa_fall ⟨_, rfl⟩ ?_
                refine wa_iinc rfl rfl ?_
                refine wa_goto ⟨_, rfl⟩ ?_
                have hyes : (okM T ms so st pc W) m = true := decide_eq_true ⟨by omega, by omega, by omega, (ewd (by omega)).mp (by omega)⟩
                have hhid : hidM ms acc m = false := bI_0 (by omega)
                refine wJ_S (ih (m + 1) (acc ++ [m]) Sq62 (gaR_ad hg hadr) (fun x hx => ?_) (by omega) (by omega) (by rw [← hcF, cdA_p hyes hhid])) ⟨rfl, rfl, rfl, rfl, rfl, rfl, rfl, rfl, rfl, rfl, rfl, rfl, trivial⟩
                rcases List.mem_append.mp hx with y | y
                · exact hax x y
                · rw [List.mem_singleton.mp y]; omega
            · skip
              refine wa_aload_n (n := 0) rfl ?_
              refine wb_gf4 162 rfl (wy_pr rfl) wt_162 wf_3_3 (v := 185) wl_162_3 ?_
              refine wa_iconst ?_
              refine wb_aald5 185 4 rfl rfl (wy_pr rfl) wt_185 (by rw [show _ = _ from ((cl_185 hCA))]; omega) wl_185_4 ?_
              refine wa_iload (n := 11) rfl ?_
              refine wb_iald 190 rfl (wy_pr rfl) wt_190 (n := 400) ((cl_190 hCA)) (by omega) (by omega) (v := ((hmR ms m).2.2.2.2.1.length : Int)) (f4) (fun r64 => ?_)
              refine wa_iconst ?_
              refine wa_icmpne (w_rg0 (by omega) (by omega)) (w_rg0 (by omega) (by omega)) ⟨_, rfl⟩ (fun c65 => ?_) (fun c65 => ?_)
              · skip
                refine wa_iinc rfl rfl ?_
                refine wa_goto ⟨_, rfl⟩ ?_
                refine wJ_S (ih (m + 1) acc A hg hax (by omega) (by omega) (hno ?_)) ⟨rfl, rfl, rfl, rfl, rfl, rfl, rfl, rfl, rfl, rfl, rfl, rfl, trivial⟩
                rintro ⟨z, z9⟩
                replace z := of_decide_eq_true z
                have z1 := z.1; have z2 := z.2.1; have z3 := z.2.2.1; have z4 := (ewd z1).mpr z.2.2.2
                first | omega | (rw [bI_f z9] at hbh; omega) | (have := bI_f z9; omega)
              · skip
                refine wa_fall ⟨_, rfl⟩ ?_
                refine wa_aload_n (n := 0) rfl ?_
                refine wa_iload (n := 11) rfl ?_
                refine wa_cv 162 rfl (wy_pr rfl) wt_162 (M2 := fun _ => False) rfl at_XO_isHidden ⟨_, rfl⟩ rfl rfl ⟨(Or.inr ⟨wy_pr rfl, fun q => q⟩), trivial, trivial, trivial, trivial, trivial, trivial, trivial, trivial, trivial, trivial, trivial, trivial⟩ trivial (fun _ _ q => False.elim q) (hid_162 (S := A) (acc := acc) (m := m) hCA (gaK_162 hK hg) hw ⟨by omega, by omega⟩ hg.1 ⟨by have := hg.2.2.1; omega, by have := hg.2.2.1; omega⟩ (fun i hi => ⟨hg.2.1 i hi, hax _ (by rw [List.getD_eq_getElem?_getD, List.getElem?_eq_getElem hi]; exact List.getElem_mem hi)⟩)) (fun oq66 Sq66 hp67 q66 => ?_)
                rcases q66 with ⟨rfl, rfl⟩
                show wJ _ _ _ _ _ _ _ _ _ _
                have hbh := bI_rg (hidM ms acc m)
                refine wa_ifne (w_rg0 (by omega) (by omega)) ⟨_, rfl⟩ (fun c68 => ?_) (fun c68 => ?_)
                · skip
                  refine wa_iinc rfl rfl ?_
                  refine wa_goto ⟨_, rfl⟩ ?_
                  refine wJ_S (ih (m + 1) acc A hg hax (by omega) (by omega) (hno ?_)) ⟨rfl, rfl, rfl, rfl, rfl, rfl, rfl, rfl, rfl, rfl, rfl, rfl, trivial⟩
                  rintro ⟨z, z9⟩
                  replace z := of_decide_eq_true z
                  have z1 := z.1; have z2 := z.2.1; have z3 := z.2.2.1; have z4 := (ewd z1).mpr z.2.2.2
                  first | omega | (rw [bI_f z9] at hbh; omega) | (have := bI_f z9; omega)
                · skip
                  refine wa_aload_n (n := 0) rfl ?_
                  refine wa_iload (n := 11) rfl ?_
                  refine wa_cv 162 rfl (wy_pr rfl) wt_162 (M2 := mS [209]) rfl at_XO_addCandidate ⟨_, rfl⟩ rfl rfl ⟨(Or.inr ⟨wy_pr rfl, mS_no rfl⟩), trivial, trivial, trivial, trivial, trivial, trivial, trivial, trivial, trivial, trivial, trivial, trivial⟩ trivial (fun _ _ q => q) (adc_162 (S := A) (m := m) hg.2.2.2.2.1 ⟨by omega, by omega⟩ ⟨by have := hg.1; omega, by have := hg.1; have := hg.2.2.1; omega, by have := hg.1; omega⟩ ⟨hg.2.2.1.1, hg.2.2.1.2.1⟩) (fun oq69 Sq69 hp70 q69 => ?_)
                  rcases q69 with ⟨rfl, hadr⟩
                  show wJ _ _ _ _ _ _ _ _ _ _
                  refine wa_fall ⟨_, rfl⟩ ?_
                  refine wa_iinc rfl rfl ?_
                  refine wa_goto ⟨_, rfl⟩ ?_
                  have hyes : (okM T ms so st pc W) m = true := decide_eq_true ⟨by omega, by omega, by omega, (ewd (by omega)).mp (by omega)⟩
                  have hhid : hidM ms acc m = false := bI_0 (by omega)
                  refine wJ_S (ih (m + 1) (acc ++ [m]) Sq69 (gaR_ad hg hadr) (fun x hx => ?_) (by omega) (by omega) (by rw [← hcF, cdA_p hyes hhid])) ⟨rfl, rfl, rfl, rfl, rfl, rfl, rfl, rfl, rfl, rfl, rfl, rfl, trivial⟩
                  rcases List.mem_append.mp hx with y | y
                  · exact hax x y
                  · rw [List.mem_singleton.mp y]; omega
theorem gao_162 {k word st so fs pc am nl : Int} {W F lo : List Int} (hC : w_CL S) (hK : KC 176 186 182 203 204 163 162 T cs ms os S) (hw : wHo cs ms os) (hk : 0 ≤ k ∧ k < (cs.length : Int)) (hwd : wdM 186 T ms S so word W) (hwr : -1 ≤ word ∧ word ≤ 1000000) (hso : so = 1 ∨ so = 2) (hst : st = 0 ∨ st = 1) (hfs : (fs = 0 ∧ pc = -1) ∨ (fs = 1 ∧ pc = 1)) (hlo : lo = (os k).take lo.length) (hnl : nl = (lo.length : Int)) (hF : F.length ≤ 400) : ∀ (n i : Nat) (acc : List Int) (A : wS), i + n = lo.length → gaR 162 209 acc S A → (∀ x ∈ acc, 0 ≤ x ∧ x < (ms.length : Int)) → cdA ms (okM T ms so st pc W) acc (mOr cs (lo.drop i)) = F → wJ (pe_GA xs) wY0 (mS [209]) (d + 4) t_XO_gather ((pe_at t_XO_gather.bl 7).getD (0, [])).2 [(0, (2, 162)), (1, (0, k)), (2, (0, am)), (3, (0, word)), (4, (0, fs)), (5, (0, nl)), (6, (0, so)), (7, (0, st)), (8, (0, (i : Int)))] [] A (fun o Z => o = .inl none ∧ gaR 162 209 F S Z) := by
  have hn := KC_n hK
  have hn2 := hn.2.2
  have hO := KC_o hK hk.1 hk.2
  have hon := hw.2.2.1 k hk.1 hk.2
  have hol : (os k).length ≤ 60 := by have := su_nd_len (by decide) hO.2.1; omega
  have hll : lo.length ≤ (os k).length := by have z : lo.length = ((os k).take lo.length).length := by rw [← hlo]; 
                                             rw [List.length_take] at z; omega
  intro n
  induction n with
  | zero =>
    intro i acc A hin hg hax hcF
    rw [List.drop_of_length_le (by omega), mOr_n, cdA_n] at hcF
    refine wa_iload (n := 8) rfl ?_
    refine wa_iload (n := 5) rfl ?_
    refine wa_icmpge (w_rg0 (by omega) (by omega)) (w_rg0 (by omega) (by omega)) ⟨_, rfl⟩ (fun c1 => ?_) (fun c1 => ?_)
    · skip
      refine wa_return rfl ?_
      exact ⟨rfl, by rw [← hcF]; exact hg⟩
    · skip
      exfalso; omega
  | succ n ih =>
    intro i acc A hin hg hax hcF
    obtain ⟨u, hu⟩ : ∃ u : Int, u = (os k).getD i 0 := ⟨_, rfl⟩
    have hil : i < (os k).length := by omega
    have hiL : i < lo.length := by omega
    have hu2 : (os k)[i] = u := by rw [hu, List.getD_eq_getElem?_getD, List.getElem?_eq_getElem hil]; rfl
    have hu3 : lo[i] = u := by
      have z : lo[i]? = ((os k).take lo.length)[i]? := by rw [← hlo]
      rw [List.getElem?_take_of_lt hiL, List.getElem?_eq_getElem hil, List.getElem?_eq_getElem hiL, hu2] at z
      exact Option.some.inj z
    have hum := hon.2.2 u (by rw [← hu2]; exact List.getElem_mem hil)
    have hga := hg.2.2.2.1
    have hCA : w_CL A := gaR_C (by decide) hC hg
    have huo : A 203 ((k * 60) + (i : Int)) = u := (hga 203 _ (by decide) (by decide) (by decide) (Or.inl (by decide))).trans (by rw [hu, ← hO.2.2.1 i hil, show k * 60 + (i : Int) = 60 * k + (i : Int) by omega])
    have hcu := hw.2.1 u hum.1 hum.2
    have htr := KC_c hK hum.1 hum.2
    have ht3 : A 179 u = (hcR cs u).2.2.2.2.2.2.2 := (hga 179 _ (by decide) (by decide) (by decide) (Or.inl (by decide))).trans htr.2.2.2.1
    have ht4 : A 180 u = (hcR cs u).2.2.2.2.2.2.1 := (hga 180 _ (by decide) (by decide) (by decide) (Or.inl (by decide))).trans htr.2.2.2.2
    have hcu1 := hcu.2.1
    rw [List.drop_eq_getElem_cons hiL, hu3, mOr_c] at hcF
    have hnx := fun (acc2 : List Int) (A2 : wS) (z1 : gaR 162 209 acc2 S A2) (z2 : ∀ x ∈ acc2, 0 ≤ x ∧ x < (ms.length : Int)) (z3 : cdA ms (okM T ms so st pc W) acc2 (mOr cs (lo.drop (i + 1))) = F) => ih (i + 1) acc2 A2 (by omega) z1 z2 z3
    refine wa_iload (n := 8) rfl ?_
    refine wa_iload (n := 5) rfl ?_
    refine wa_icmpge (w_rg0 (by omega) (by omega)) (w_rg0 (by omega) (by omega)) ⟨_, rfl⟩ (fun c51 => ?_) (fun c51 => ?_)
    · skip
      exfalso; omega
    · skip
      refine wa_aload_n (n := 0) rfl ?_
      refine wb_gf4 162 rfl (wy_pr rfl) wt_162 wf_3_5 (v := 203) wl_162_5 ?_
      refine wa_iload_n (n := 1) rfl ?_
      refine wa_bipush (w_rg2 (by omega) (by omega)) ?_
      refine wa_imul ?_
      refine wa_iload (n := 8) rfl ?_
      refine wa_iadd ?_
      refine wb_iald 203 rfl (wy_pr rfl) wt_203 (n := 3600) ((cl_203 hCA)) (by omega) (by omega) (v := u) (huo) (fun r52 => ?_)
      refine wa_istore (n := 9) rfl ?_
      refine wa_aload_n (n := 0) rfl ?_
      refine wb_gf4 162 rfl (wy_pr rfl) wt_162 wf_3_1 (v := 175) wl_162_1 ?_
      refine wa_iconst ?_
      refine wb_aald5 175 4 rfl rfl (wy_pr rfl) wt_175 (by rw [show _ = _ from ((cl_175 hCA))]; omega) wl_175_4 ?_
      refine wa_iload (n := 9) rfl ?_
      refine wb_iald 180 rfl (wy_pr rfl) wt_180 (n := 60) ((cl_180 hCA)) (by omega) (by omega) (v := (hcR cs u).2.2.2.2.2.2.1) (ht4) (fun r53 => ?_)
      refine wa_aload_n (n := 0) rfl ?_
      refine wb_gf4 162 rfl (wy_pr rfl) wt_162 wf_3_1 (v := 175) wl_162_1 ?_
      refine wa_iconst ?_
      refine wb_aald5 175 3 rfl rfl (wy_pr rfl) wt_175 (by rw [show _ = _ from ((cl_175 hCA))]; omega) wl_175_3 ?_
      refine wa_iload (n := 9) rfl ?_
      refine wb_iald 179 rfl (wy_pr rfl) wt_179 (n := 60) ((cl_179 hCA)) (by omega) (by omega) (v := (hcR cs u).2.2.2.2.2.2.2) (ht3) (fun r54 => ?_)
      refine wa_iadd ?_
      refine wa_istore (n := 10) rfl ?_
      refine wa_aload_n (n := 0) rfl ?_
      refine wb_gf4 162 rfl (wy_pr rfl) wt_162 wf_3_1 (v := 175) wl_162_1 ?_
      refine wa_iconst ?_
      refine wb_aald5 175 4 rfl rfl (wy_pr rfl) wt_175 (by rw [show _ = _ from ((cl_175 hCA))]; omega) wl_175_4 ?_
      refine wa_iload (n := 9) rfl ?_
      refine wb_iald 180 rfl (wy_pr rfl) wt_180 (n := 60) ((cl_180 hCA)) (by omega) (by omega) (v := (hcR cs u).2.2.2.2.2.2.1) (ht4) (fun r55 => ?_)
      refine wa_istore (n := 11) rfl ?_
      refine wa_fall ⟨_, rfl⟩ ?_
      exact wJ_S (gai_162 (up := u) hC hK hw hk hwd hwr hso hst hfs (by omega) (by omega) hF hnx ((hcR cs u).2.2.2.2.2.2.2.toNat) ((hcR cs u).2.2.2.2.2.2.1) acc A hg hax (by omega) (by omega) hcF) ⟨rfl, rfl, rfl, rfl, rfl, rfl, rfl, rfl, rfl, rfl, rfl, rfl, trivial⟩
theorem gat_162 {k word am fs pc : Int} {W F : List Int} (hC : w_CL S) (hK : KC 176 186 182 203 204 163 162 T cs ms os S) (hw : wHo cs ms os) (hI : gI S) (hcd : 64 ≤ S 209 (-1) ∧ S 209 (-1) ≤ 1023) (hk : 0 ≤ k ∧ k < (cs.length : Int)) (ham : 0 ≤ am ∧ am ≤ 2) (hwd : wdM 186 T ms S (if am = 2 then 2 else 1) word W) (hwr : -1 ≤ word ∧ word ≤ 1000000) (hfs : (fs = 0 ∧ pc = -1) ∨ (fs = 1 ∧ pc = 1)) (hF : F = cdA ms (okM T ms (if am = 2 then 2 else 1) (if am = 1 then 1 else 0) pc W) [] (mOr cs (if am = 2 then [k] else os k))) (hF4 : F.length ≤ 400) : wJ (pe_GA xs) wY0 (mS [209]) (d + 4) t_XO_gather ((pe_at t_XO_gather.bl 0).getD (0, [])).2 [(0, (2, 162)), (1, (0, k)), (2, (0, am)), (3, (0, word)), (4, (0, fs))] [] S (fun o Z => o = .inl none ∧ gaR 162 209 F S Z) := by
  have hn := KC_n hK
  have hn2 := hn.2.2
  have hO := KC_o hK hk.1 hk.2
  have hO6 : S 182 k = ((os k).length : Int) := hO.1
  obtain ⟨⟨tl, htl⟩, hon⟩ := hw.2.2.1 k hk.1 hk.2
  have hol : (os k).length ≤ 60 := by have := su_nd_len (by decide) hO.2.1; omega
  have hg : gaR 162 209 [] S (w_up S 162 10 0) := ⟨w_up_same _ _ _ _, fun i hi => absurd hi (Nat.not_lt_zero _), by rw [w_up_slot (by decide)]; exact ⟨hcd.1, hcd.2, by show (0 : Int) ≤ _; omega⟩, fun j i _ _ _ z => w_up_no (by omega), gI_up hI (by decide) (by decide) (by decide), rmR_up (rmR_rfl S) (by decide) (by decide)⟩
  refine wa_aload_n (n := 0) rfl ?_
  refine wa_iconst ?_
  refine wb_pfi 162 rfl (wy_pr rfl) wt_162 wf_3_10 (n := 10) rfl ⟨(by omega), (by omega)⟩ ?_
  refine wa_iload_n (n := 2) rfl ?_
  refine wa_iconst ?_
  refine wa_icmpne (w_rg0 (by omega) (by omega)) (w_rg0 (by omega) (by omega)) ⟨_, rfl⟩ (fun c1 => ?_) (fun c1 => ?_)
  · skip
    refine wa_aload_n (n := 0) rfl ?_
    refine wb_gf4 162 rfl (wy_pr rfl) wt_162 wf_3_1 (v := 175) wl_162_1 ?_
    refine wa_bipush (w_rg2 (by omega) (by omega)) ?_
    refine wb_aald5 175 6 rfl rfl (wy_pr rfl) wt_175 (by rw [show _ = _ from ((w_up_slot (by decide)).trans ((cl_175 hC)))]; omega) wl_175_6 ?_
    refine wa_iload_n (n := 1) rfl ?_
    refine wb_iald 182 rfl (wy_pr rfl) wt_182 (n := 60) ((w_up_slot (by decide)).trans ((cl_182 hC))) (by omega) (by omega) (v := ((os k).length : Int)) ((w_up_slot (by decide)).trans (hO6)) (fun r2 => ?_)
    refine wa_fall ⟨_, rfl⟩ ?_
    refine wa_istore (n := 5) rfl ?_
    refine wa_iload_n (n := 2) rfl ?_
    refine wa_iconst ?_
    refine wa_icmpne (w_rg0 (by omega) (by omega)) (w_rg0 (by omega) (by omega)) ⟨_, rfl⟩ (fun c3 => ?_) (fun c3 => ?_)
    · skip
      refine wa_iconst ?_
      refine wa_fall ⟨_, rfl⟩ ?_
      refine wa_istore (n := 6) rfl ?_
      refine wa_iload_n (n := 2) rfl ?_
      refine wa_iconst ?_
      refine wa_icmpne (w_rg0 (by omega) (by omega)) (w_rg0 (by omega) (by omega)) ⟨_, rfl⟩ (fun c4 => ?_) (fun c4 => ?_)
      · skip
        refine wa_iconst ?_
        refine wa_fall ⟨_, rfl⟩ ?_
        refine wa_istore (n := 7) rfl ?_
        refine wa_iconst ?_
        refine wa_istore (n := 8) rfl ?_
        refine wa_fall ⟨_, rfl⟩ ?_
        have ea2 : (if am = 2 then 2 else 1 : Int) = 1 := by first | exact if_pos (by omega) | exact if_neg (by omega)
        have ea1 : (if am = 1 then 1 else 0 : Int) = 0 := by first | exact if_pos (by omega) | exact if_neg (by omega)
        have eal : (if am = 2 then [k] else os k) = (os k) := by first | exact if_pos (by omega) | exact if_neg (by omega)
        rw [ea2, ea1, eal] at hF
        rw [ea2] at hwd
        exact wJ_S (gao_162 (lo := (os k)) hC hK hw hk hwd hwr (by omega) (by omega) hfs (List.take_length).symm rfl hF4 ((os k).length) 0 [] _ (by omega) hg (fun x hx => absurd hx List.not_mem_nil) hF.symm) ⟨rfl, rfl, rfl, rfl, rfl, rfl, rfl, rfl, rfl, trivial⟩
      · skip
        refine wa_iconst ?_
        refine wa_goto ⟨_, rfl⟩ ?_
        refine wa_istore (n := 7) rfl ?_
        refine wa_iconst ?_
        refine wa_istore (n := 8) rfl ?_
        refine wa_fall ⟨_, rfl⟩ ?_
        have ea2 : (if am = 2 then 2 else 1 : Int) = 1 := by first | exact if_pos (by omega) | exact if_neg (by omega)
        have ea1 : (if am = 1 then 1 else 0 : Int) = 1 := by first | exact if_pos (by omega) | exact if_neg (by omega)
        have eal : (if am = 2 then [k] else os k) = (os k) := by first | exact if_pos (by omega) | exact if_neg (by omega)
        rw [ea2, ea1, eal] at hF
        rw [ea2] at hwd
        exact wJ_S (gao_162 (lo := (os k)) hC hK hw hk hwd hwr (by omega) (by omega) hfs (List.take_length).symm rfl hF4 ((os k).length) 0 [] _ (by omega) hg (fun x hx => absurd hx List.not_mem_nil) hF.symm) ⟨rfl, rfl, rfl, rfl, rfl, rfl, rfl, rfl, rfl, trivial⟩
    · skip
      exact absurd c3 (by omega)
  · skip
    refine wa_iconst ?_
    refine wa_goto ⟨_, rfl⟩ ?_
    refine wa_istore (n := 5) rfl ?_
    refine wa_iload_n (n := 2) rfl ?_
    refine wa_iconst ?_
    refine wa_icmpne (w_rg0 (by omega) (by omega)) (w_rg0 (by omega) (by omega)) ⟨_, rfl⟩ (fun c5 => ?_) (fun c5 => ?_)
    · skip
      exact absurd c5 (by omega)
    · skip
      refine wa_iconst ?_
      refine wa_goto ⟨_, rfl⟩ ?_
      refine wa_istore (n := 6) rfl ?_
      refine wa_iload_n (n := 2) rfl ?_
      refine wa_iconst ?_
      refine wa_icmpne (w_rg0 (by omega) (by omega)) (w_rg0 (by omega) (by omega)) ⟨_, rfl⟩ (fun c6 => ?_) (fun c6 => ?_)
      · skip
        refine wa_iconst ?_
        refine wa_fall ⟨_, rfl⟩ ?_
        refine wa_istore (n := 7) rfl ?_
        refine wa_iconst ?_
        refine wa_istore (n := 8) rfl ?_
        refine wa_fall ⟨_, rfl⟩ ?_
        have ea2 : (if am = 2 then 2 else 1 : Int) = 2 := by first | exact if_pos (by omega) | exact if_neg (by omega)
        have ea1 : (if am = 1 then 1 else 0 : Int) = 0 := by first | exact if_pos (by omega) | exact if_neg (by omega)
        have eal : (if am = 2 then [k] else os k) = [k] := by first | exact if_pos (by omega) | exact if_neg (by omega)
        rw [ea2, ea1, eal] at hF
        rw [ea2] at hwd
        exact wJ_S (gao_162 (lo := [k]) hC hK hw hk hwd hwr (by omega) (by omega) hfs (by rw [htl]; rfl) rfl hF4 ([k].length) 0 [] _ (by omega) hg (fun x hx => absurd hx List.not_mem_nil) hF.symm) ⟨rfl, rfl, rfl, rfl, rfl, rfl, rfl, rfl, rfl, trivial⟩
      · skip
        exact absurd c6 (by omega)
theorem msj_162 {ph ch se : Int} {n i : Nat} {f : List Int} (hC : w_CL S) (hK : KC 176 186 182 203 204 163 162 T cs ms os S) (hw : wHo cs ms os) (hph : 1 ≤ ph ∧ ph ≤ 3) (hfl : f.length ≤ 400 ∧ (f.length : Int) ≤ S 209 (-1) ∧ S 209 (-1) ≤ 1023) (hfa : ∀ i : Nat, i < f.length → S 209 (i : Int) = f.getD i 0) (hfm : ∀ x ∈ f, (0 ≤ x ∧ x < (ms.length : Int)) ∧ (ph ≠ 3 → (hmR ms x).2.2.2.2.1.length = n) ∧ (ph = 3 → 1 ≤ (hmR ms x).2.2.2.2.1.length)) (hi : i < f.length) (hk : wJ (pe_GA xs) wY0 M (d + 3) t_XO_mostSpecific ((pe_at t_XO_mostSpecific.bl 3).getD (0, [])).2 [(0, (2, 162)), (1, (0, (f.length : Int))), (2, (0, ph)), (3, (0, ch)), (4, (0, se)), (5, (0, (i : Int))), (6, (0, bI (f.all (fun q => moA cs ms ph n (f.getD i 0) q))))] [] S Q) : ∀ (u j : Nat) (v : Bool), f.length - j < u → j ≤ f.length → (f.take j).all (fun q => moA cs ms ph n (f.getD i 0) q) = v → wJ (pe_GA xs) wY0 M (d + 3) t_XO_mostSpecific ((pe_at t_XO_mostSpecific.bl 2).getD (0, [])).2 [(0, (2, 162)), (1, (0, (f.length : Int))), (2, (0, ph)), (3, (0, ch)), (4, (0, se)), (5, (0, (i : Int))), (6, (0, bI v)), (7, (0, (j : Int)))] [] S Q := by
  have hn := KC_n hK
  have hn2 := hn.2.2
  have him : f.getD i 0 ∈ f := by rw [List.getD_eq_getElem?_getD, List.getElem?_eq_getElem hi]; exact List.getElem_mem hi
  have hi1 := hfm _ him
  have hi2 := hfa i hi
  intro u
  induction u with
  | zero => intro j v h; exact absurd h (Nat.not_lt_zero _)
  | succ u ih =>
    intro j v hu hj hv
    have hvr := bI_rg v
    refine wa_iload (n := 7) rfl ?_
    refine wa_iload_n (n := 1) rfl ?_
    refine wa_icmpge (w_rg0 (by omega) (by omega)) (w_rg0 (by omega) (by omega)) ⟨_, rfl⟩ (fun c1 => ?_) (fun c1 => ?_)
    · skip
      have hall : f.all (fun q => moA cs ms ph n (f.getD i 0) q) = v := by
        first | (rw [List.take_of_length_le (by omega)] at hv; exact hv) | (have hv0 := bI_0 (b := v) (by omega); rw [hv0] at hv ⊢; exact all_tk hv)
      rw [hall] at hk
      exact wJ_S hk ⟨rfl, rfl, rfl, rfl, rfl, rfl, rfl, trivial⟩
    · skip
      refine wa_iload (n := 6) rfl ?_
      refine wa_ifeq (w_rg0 (by omega) (by omega)) ⟨_, rfl⟩ (fun c2 => ?_) (fun c2 => ?_)
      · skip
        have hall : f.all (fun q => moA cs ms ph n (f.getD i 0) q) = v := by
          first | (rw [List.take_of_length_le (by omega)] at hv; exact hv) | (have hv0 := bI_0 (b := v) (by omega); rw [hv0] at hv ⊢; exact all_tk hv)
        rw [hall] at hk
        exact wJ_S hk ⟨rfl, rfl, rfl, rfl, rfl, rfl, rfl, trivial⟩
      · skip
        have hjm : f.getD j 0 ∈ f := by rw [List.getD_eq_getElem?_getD, List.getElem?_eq_getElem (show j < f.length by omega)]; exact List.getElem_mem _
        have hj1 := hfm _ hjm
        have hj2 := hfa j (by omega)
        refine wa_aload_n (n := 0) rfl ?_
        refine wa_aload_n (n := 0) rfl ?_
        refine wb_gf4 162 rfl (wy_pr rfl) wt_162 wf_3_9 (v := 209) wl_162_9 ?_
        refine wa_iload (n := 5) rfl ?_
        refine wb_iald 209 rfl (wy_pr rfl) wt_209 (n := (S 209 (-1))) (rfl) (by omega) (by omega) (v := (f.getD i 0)) (hi2) (fun r3 => ?_)
        refine wa_aload_n (n := 0) rfl ?_
        refine wb_gf4 162 rfl (wy_pr rfl) wt_162 wf_3_9 (v := 209) wl_162_9 ?_
        refine wa_iload (n := 7) rfl ?_
        refine wb_iald 209 rfl (wy_pr rfl) wt_209 (n := (S 209 (-1))) (rfl) (by omega) (by omega) (v := (f.getD j 0)) (hj2) (fun r4 => ?_)
        refine wa_iload_n (n := 2) rfl ?_
        refine wa_cv 162 rfl (wy_pr rfl) wt_162 (M2 := fun _ => False) rfl at_XO_isMoreSpecific ⟨_, rfl⟩ rfl rfl ⟨(Or.inr ⟨wy_pr rfl, fun q => q⟩), trivial, trivial, trivial, trivial, trivial, trivial, trivial, trivial⟩ trivial (fun _ _ q => False.elim q) (mor_162 (S := S) (m := f.getD i 0) (q := f.getD j 0) (n := n) hC hK hw hi1.1 hj1.1 hph (fun z => ⟨hi1.2.1 z, hj1.2.1 z⟩) (fun z => ⟨hi1.2.2 z, hj1.2.2 z⟩)) (fun oq5 Sq5 hp6 q5 => ?_)
        rcases q5 with ⟨rfl, rfl⟩
        show wJ _ _ _ _ _ _ _ _ _ _
        refine wa_istore (n := 6) rfl ?_
        refine wa_iinc rfl rfl ?_
        refine wa_goto ⟨_, rfl⟩ ?_
        have hv1 := bI_1 (b := v) (by omega)
        rw [hv1] at hv
        exact wJ_S (ih (j + 1) (moA cs ms ph n (f.getD i 0) (f.getD j 0)) (by omega) (by omega) (all_ts (by omega) hv)) ⟨rfl, rfl, rfl, rfl, rfl, rfl, rfl, rfl, trivial⟩
theorem msi_162 {ph : Int} {n : Nat} {f : List Int} (hC : w_CL S) (hK : KC 176 186 182 203 204 163 162 T cs ms os S) (hw : wHo cs ms os) (hph : 1 ≤ ph ∧ ph ≤ 3) (hfl : f.length ≤ 400 ∧ (f.length : Int) ≤ S 209 (-1) ∧ S 209 (-1) ≤ 1023) (hfa : ∀ i : Nat, i < f.length → S 209 (i : Int) = f.getD i 0) (hfm : ∀ x ∈ f, (0 ≤ x ∧ x < (ms.length : Int)) ∧ (ph ≠ 3 → (hmR ms x).2.2.2.2.1.length = n) ∧ (ph = 3 → 1 ≤ (hmR ms x).2.2.2.2.1.length)) : ∀ (u i : Nat) (ch se : Int), i + u = f.length → (-2147483648 ≤ ch ∧ ch ≤ 2147483647) → (0 ≤ se ∧ se ≤ (i : Int)) → wJ (pe_GA xs) wY0 M (d + 3) t_XO_mostSpecific ((pe_at t_XO_mostSpecific.bl 1).getD (0, [])).2 [(0, (2, 162)), (1, (0, (f.length : Int))), (2, (0, ph)), (3, (0, ch)), (4, (0, se)), (5, (0, (i : Int)))] [] S (fun o Z => S = Z ∧ o = .inl (some (0, msF (fun m => f.all (fun q => moA cs ms ph n m q)) (f.drop i) ch se))) := by
  have hn := KC_n hK
  have hn2 := hn.2.2
  intro u
  induction u with
  | zero =>
    intro i ch se hu hch hse
    rw [List.drop_of_length_le (by omega)]
    refine wa_iload (n := 5) rfl ?_
    refine wa_iload_n (n := 1) rfl ?_
    refine wa_icmpge (w_rg0 (by omega) (by omega)) (w_rg0 (by omega) (by omega)) ⟨_, rfl⟩ (fun c1 => ?_) (fun c1 => ?_)
    · skip
      refine wa_iload (n := 4) rfl ?_
      refine wa_iconst ?_
      refine wa_icmpne (w_rg0 (by omega) (by omega)) (w_rg0 (by omega) (by omega)) ⟨_, rfl⟩ (fun c2 => ?_) (fun c2 => ?_)
      · skip
        refine wa_bipush (w_rg2 (by omega) (by omega)) ?_
        refine wa_fall ⟨_, rfl⟩ ?_
        refine wa_ireturn rfl ?_
        refine ⟨rfl, congrArg (fun z => Sum.inl (some (0, z))) ?_⟩
        exact (if_neg (by omega)).symm
      · skip
        refine wa_iload_n (n := 3) rfl ?_
        refine wa_goto ⟨_, rfl⟩ ?_
        refine wa_ireturn rfl ?_
        refine ⟨rfl, congrArg (fun z => Sum.inl (some (0, z))) ?_⟩
        exact (if_pos (by omega)).symm
    · skip
      exfalso; omega
  | succ u ih =>
    intro i ch se hu hch hse
    have hil : i < f.length := by omega
    have him : f.getD i 0 ∈ f := by rw [List.getD_eq_getElem?_getD, List.getElem?_eq_getElem hil]; exact List.getElem_mem hil
    have hi1 := (hfm _ him).1
    have hi2 := hfa i hil
    have hdr : f.drop i = f.getD i 0 :: f.drop (i + 1) := by rw [List.drop_eq_getElem_cons hil, List.getD_eq_getElem?_getD, List.getElem?_eq_getElem hil]; rfl
    rw [hdr]
    refine wa_iload (n := 5) rfl ?_
    refine wa_iload_n (n := 1) rfl ?_
    refine wa_icmpge (w_rg0 (by omega) (by omega)) (w_rg0 (by omega) (by omega)) ⟨_, rfl⟩ (fun c51 => ?_) (fun c51 => ?_)
    · skip
      exfalso; omega
    · skip
      refine wa_iconst ?_
      refine wa_istore (n := 6) rfl ?_
      refine wa_iconst ?_
      refine wa_istore (n := 7) rfl ?_
      refine wa_fall ⟨_, rfl⟩ ?_
      refine wJ_S (msj_162 (n := n) hC hK hw hph hfl hfa hfm hil ?_ (f.length + 1) 0 true (by omega) (by omega) rfl) ⟨rfl, rfl, rfl, rfl, rfl, rfl, rfl, rfl, trivial⟩
      obtain ⟨bv, hbv⟩ : ∃ b : Bool, b = f.all (fun q => moA cs ms ph n (f.getD i 0) q) := ⟨_, rfl⟩
      rw [← hbv]
      have hbr := bI_rg bv
      refine wa_iload (n := 6) rfl ?_
      refine wa_ifeq (w_rg0 (by omega) (by omega)) ⟨_, rfl⟩ (fun c201 => ?_) (fun c201 => ?_)
      · skip
        refine wa_iinc rfl rfl ?_
        refine wa_goto ⟨_, rfl⟩ ?_
        have hb0 := bI_0 (b := bv) (by omega)
        rw [hb0] at hbv
        have he : msF (fun m => f.all (fun q => moA cs ms ph n m q)) (f.getD i 0 :: f.drop (i + 1)) ch se = msF (fun m => f.all (fun q => moA cs ms ph n m q)) (f.drop (i + 1)) ch se := if_neg (fun z => absurd (hbv.trans z) (by decide))
        rw [he]
        exact wJ_S (ih (i + 1) ch se (by omega) ⟨by omega, by omega⟩ ⟨by omega, by omega⟩) ⟨rfl, rfl, rfl, rfl, rfl, rfl, trivial⟩
      · skip
        refine wa_aload_n (n := 0) rfl ?_
        refine wb_gf4 162 rfl (wy_pr rfl) wt_162 wf_3_9 (v := 209) wl_162_9 ?_
        refine wa_iload (n := 5) rfl ?_
        refine wb_iald 209 rfl (wy_pr rfl) wt_209 (n := (S 209 (-1))) (rfl) (by omega) (by omega) (v := (f.getD i 0)) (hi2) (fun r202 => ?_)
        refine wa_istore_n (n := 3) rfl ?_
        refine wa_iinc rfl rfl ?_
        refine wa_fall ⟨_, rfl⟩ ?_
        refine wa_iinc rfl rfl ?_
        refine wa_goto ⟨_, rfl⟩ ?_
        have hb0 := bI_1 (b := bv) (by omega)
        rw [hb0] at hbv
        have he : msF (fun m => f.all (fun q => moA cs ms ph n m q)) (f.getD i 0 :: f.drop (i + 1)) ch se = msF (fun m => f.all (fun q => moA cs ms ph n m q)) (f.drop (i + 1)) (f.getD i 0) (se + 1) := if_pos hbv.symm
        rw [he]
        exact wJ_S (ih (i + 1) (f.getD i 0) (se + 1) (by omega) ⟨by omega, by omega⟩ ⟨by omega, by omega⟩) ⟨rfl, rfl, rfl, rfl, rfl, rfl, trivial⟩
theorem mos_162 {ph : Int} {n : Nat} {f : List Int} (hC : w_CL S) (hK : KC 176 186 182 203 204 163 162 T cs ms os S) (hw : wHo cs ms os) (hph : 1 ≤ ph ∧ ph ≤ 3) (hfl : f.length ≤ 400 ∧ (f.length : Int) ≤ S 209 (-1) ∧ S 209 (-1) ≤ 1023) (hfa : ∀ i : Nat, i < f.length → S 209 (i : Int) = f.getD i 0) (hfm : ∀ x ∈ f, (0 ≤ x ∧ x < (ms.length : Int)) ∧ (ph ≠ 3 → (hmR ms x).2.2.2.2.1.length = n) ∧ (ph = 3 → 1 ≤ (hmR ms x).2.2.2.2.1.length)) : wJ (pe_GA xs) wY0 M (d + 3) t_XO_mostSpecific ((pe_at t_XO_mostSpecific.bl 0).getD (0, [])).2 [(0, (2, 162)), (1, (0, (f.length : Int))), (2, (0, ph))] [] S (fun o Z => S = Z ∧ o = .inl (some (0, sgP cs ms ph n f))) := by
  have he : sgP cs ms ph n f = msF (fun m => f.all (fun q => moA cs ms ph n m q)) (f.drop 0) (-8) 0 := by
    rw [msF_e _ _ _ _ (by decide), List.drop_zero]
    unfold sgP bsA
    by_cases c : (f.filter (fun m => f.all (fun q => moA cs ms ph n m q))).length = 1
    · rw [if_pos c, if_pos (by omega), if_neg (by decide)]
    · rw [if_neg c, if_neg (by omega)]
  rw [he]
  refine wa_bipush (w_rg2 (by omega) (by omega)) ?_
  refine wa_istore_n (n := 3) rfl ?_
  refine wa_iconst ?_
  refine wa_istore (n := 4) rfl ?_
  refine wa_iconst ?_
  refine wa_istore (n := 5) rfl ?_
  refine wa_fall ⟨_, rfl⟩ ?_
  exact wJ_S (msi_162 (n := n) hC hK hw hph hfl hfa hfm f.length 0 (-8) 0 (by omega) ⟨by omega, by omega⟩ ⟨by omega, by omega⟩) ⟨rfl, rfl, rfl, rfl, rfl, rfl, trivial⟩
end Wh5
