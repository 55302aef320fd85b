/-! PART hi: the reference: looksAtHost. -/
section Whi
variable {xs : List (Nat × List Int32)} {M : Nat → Prop} {d : Nat} {S Z A : wS} {T : Int → Int} {n : Int} {cs : List hCR} {ms : List hMR} {os : Int → List Int} {Q : wO → wS → Prop} {N : List (List Int)} {CH : List aQ} {wo mo : Int}
theorem lh_id {x : Int} {j : Nat} (h : chM j x) : ¬ wtM j x ∧ ¬ cdM j x ∧ ¬ odM j x ∧ ¬ tyM j x ∧ ¬ (j = 237 ∧ x = 167) := by unfold chM at h; unfold wtM cdM odM tyM; omega
theorem rCl_a9 {r : Int} {tl : List Int} (h : rCl S r tl) (f : ∀ (j : Nat) (x : Int), (j = 363 ∨ j = 364 ∨ j = 321) → Z j x = S j x) : rCl Z r tl := fun i hi => by
  have e1 : ∀ x : Int, Z 363 x = S 363 x := fun x => f 363 x (by omega)
  have e2 : ∀ x : Int, Z 364 x = S 364 x := fun x => f 364 x (by omega)
  have e3 : ∀ x : Int, Z 321 x = S 321 x := fun x => f 321 x (by omega)
  have z := h i hi
  unfold clR at z ⊢
  rw [e1, e2, e3]
  exact z
theorem rv_m1 {q : aQ} (hw : wHo cs ms os) (hc : 0 ≤ q.1 ∧ q.1 < (cs.length : Int)) : rvA T cs ms os q = -1 ↔ FA T cs ms os q.1 q.2.1 q.2.2.1 q.2.2.2.1 = [] := by
  unfold rvA
  constructor
  · intro z
    by_cases c : FA T cs ms os q.1 q.2.1 q.2.2.1 q.2.2.2.1 = []
    · exact c
    · rw [if_neg c] at z
      have hlr : ∀ o ∈ (if q.2.1 = 2 then [q.1] else os q.1), 0 ≤ o ∧ o < (cs.length : Int) := fun o ho => by
        by_cases c2 : q.2.1 = 2
        · rw [if_pos c2] at ho; rw [List.mem_singleton.mp ho]; exact hc
        · rw [if_neg c2] at ho; exact (hw.2.2.1 q.1 hc.1 hc.2).2.2 o ho
      have hFm := (cdA_400 (ok := okM T ms (if q.2.1 = 2 then 2 else 1) (if q.2.1 = 1 then 1 else 0) (if q.2.2.1 = 1 then 1 else -1) q.2.2.2.1) hw (fun x hx => mOr_rg hw hlr hx)).2
      exact absurd z (sgA_no hw hFm)
  · intro z; exact if_pos z
theorem FA_v {k am fs : Int} {WW : List Int} (hw : wHo cs ms os) (hk : 0 ≤ k ∧ k < (cs.length : Int)) : ∀ x ∈ FA T cs ms os k am fs WW, 0 ≤ x ∧ x < (ms.length : Int) := by
  have hlr : ∀ o ∈ (if am = 2 then [k] else os k), 0 ≤ o ∧ o < (cs.length : Int) := fun o ho => by
    by_cases c : am = 2
    · rw [if_pos c] at ho; rw [List.mem_singleton.mp ho]; exact hk
    · rw [if_neg c] at ho; exact (hw.2.2.1 k hk.1 hk.2).2.2 o ho
  exact (cdA_400 (ok := okM T ms (if am = 2 then 2 else 1) (if am = 1 then 1 else 0) (if fs = 1 then 1 else -1) WW) hw (fun x hx => mOr_rg hw hlr hx)).2
theorem lhg_241 {s gk gb c am nms ct : Int} {W : List Int} (hM : w_ML S) (hK : KR 241 T n cs ms S) (hw : wHo cs ms os) (hX : w_X xs) (hnm : 0 ≤ nms ∧ nms < 4000) (h82 : S 282 nms = (W.length : Int)) (hWl : W.length ≤ 60) (h81 : ∀ x : Nat, x < W.length → S 281 (60 * nms + (x : Int)) = W.getD x 0) (hO : wOs cs os) (hA : wAb cs) (hc : 0 ≤ c ∧ c < (cs.length : Int)) (hst : am = 0 ∨ am = 1) (hs : 0 ≤ s ∧ s < 4000) (h05 : S 305 s = nms) (h74 : S 237 174 = gk) (h75 : S 237 175 = gb) (hgk : (gk = 7 ∧ am = 0 ∧ (0 ≤ gb ∧ gb < 8000) ∧ S 321 gb = c) ∨ (gk = 8 ∧ am = 1 ∧ gb = c)) (h172 : S 237 172 = 0) (hC : rCh T cs ms os N CH wo mo S) (hct : ct = 0 ∨ ct = 1) : wJ (pe_GA xs) wY0 M (d + 66) t_M_looksAtHost ((pe_at t_M_looksAtHost.bl 0).getD (0, [])).2 [(0, (2, 237)), (1, (0, s)), (2, (0, 0)), (3, (0, ct))] [] S (lrQ T cs ms os N CH wo mo c (if gtA T cs ms os am W c = -1 then fdA T cs ms am W c else gtA T cs ms os am W c) 0 S) := by
  have h13 : S 237 13 = 241 := hK.1
  have h60 := hw.1
  obtain ⟨wh, hwh⟩ : ∃ r : Int, r = (if gtA T cs ms os am W c = -1 then fdA T cs ms am W c else gtA T cs ms os am W c) := ⟨_, rfl⟩
  have hwr : wh = -1 ∨ (0 ≤ wh ∧ wh < (ms.length : Int)) := by
    rw [hwh]
    have z1 := fdA_rg (T := T) (st := am) (W := W) hw hc
    have z2 := gtA_rg (T := T) (st := am) (W := W) hw hc
    split
    · exact z1
    · exact z2
  rw [← hwh]
  refine wa_aload_n (n := 0) rfl ?_
  refine wb_gfi 237 rfl (wy_pr rfl) wt_237 wf_15_174 (v := gk) (h74) (fun r11 => ?_)
  refine wa_bipush (w_rg2 (by omega) (by omega)) ?_
  refine wa_icmpne (w_rg0 (by omega) (by omega)) (w_rg0 (by omega) (by omega)) ⟨_, rfl⟩ (fun c12 => ?_) (fun c12 => ?_)
  · skip
    refine wa_iconst ?_
    refine wa_fall ⟨_, rfl⟩ ?_
    refine wJ_top (show 0 = am by omega) ?_
    refine wa_istore (n := 4) rfl ?_
    refine wa_iload (n := 4) rfl ?_
    refine wa_ifeq (w_rg0 (by omega) (by omega)) ⟨_, rfl⟩ (fun c13 => ?_) (fun c13 => ?_)
    · skip
      have h21 : S 321 gb = c := by rcases hgk with z | z; exact z.2.2.2; omega
      have hgb0 : 0 ≤ gb ∧ gb < 8000 := by omega
      refine wa_aload_n (n := 0) rfl ?_
      refine wb_gf4 237 rfl (wy_pr rfl) wt_237 wf_15_77 (v := 321) wl_237_77 ?_
      refine wa_aload_n (n := 0) rfl ?_
      refine wb_gfl 237 rfl (wy_pr rfl) wt_237 wf_15_175 (v := gb) (h75) (fun r14 => ?_)
      refine wb_l2i_r (wb_l2i_id ⟨(by omega), (by omega)⟩) ?_
      refine wb_iald 321 rfl (wy_pr rfl) wt_321 (n := 8000) ((ml_321 hM)) (by omega) (by omega) (v := c) (h21) (fun r15 => ?_)
      refine wa_fall ⟨_, rfl⟩ ?_
      refine wa_istore (n := 5) rfl ?_
      refine wa_iload (n := 4) rfl ?_
      refine wa_ifeq (w_rg0 (by omega) (by omega)) ⟨_, rfl⟩ (fun c16 => ?_) (fun c16 => ?_)
      · skip
        refine wa_iconst ?_
        refine wa_fall ⟨_, rfl⟩ ?_
        refine wJ_top (show 0 = am by omega) ?_
        refine wa_istore (n := 6) rfl ?_
        refine wa_aload_n (n := 0) rfl ?_
        refine wa_iload (n := 5) rfl ?_
        refine wb_pfi 237 rfl (wy_pr rfl) wt_237 wf_15_167 (n := 167) rfl ⟨(by omega), (by omega)⟩ ?_
        refine wa_aload_n (n := 0) rfl ?_
        refine wb_gf4 237 rfl (wy_pr rfl) wt_237 wf_15_50 (v := 305) wl_237_50 ?_
        refine wa_iload_n (n := 1) rfl ?_
        refine wb_iald 305 rfl (wy_pr rfl) wt_305 (n := 4000) ((w_up_slot (by decide)).trans ((ml_305 hM))) (by omega) (by omega) (v := nms) ((w_up_slot (by decide)).trans (h05)) (fun r17 => ?_)
        refine wa_istore (n := 7) rfl ?_
        refine wa_iload_n (n := 2) rfl ?_
        refine wa_ifne (w_rg0 (by omega) (by omega)) ⟨_, rfl⟩ (fun c18 => ?_) (fun c18 => ?_)
        · skip
          exact absurd c18 (by omega)
        · skip
          refine wa_aload_n (n := 0) rfl ?_
          refine wa_aload_n (n := 0) rfl ?_
          refine wa_iload (n := 5) rfl ?_
          refine wa_iload (n := 4) rfl ?_
          refine wa_iload (n := 7) rfl ?_
          have fb1 : ∀ (j : Nat) (x : Int), ¬ lhM j x → (w_up S 237 167 c) j x = S j x := fun j x hj => (w_up_no (by unfold lhM at hj; omega))
          have hMb1 : w_ML (w_up S 237 167 c) := ML_w hM fb1 (fun j => lhM_1)
          have hKb1 : KR 241 T n cs ms (w_up S 237 167 c) := KR_ag hK (fun j x hj => fb1 j x (by unfold lhM; omega))
          refine wa_cv 237 rfl (wy_pr rfl) wt_237 (M2 := fun _ => False) rfl at_M_getter ⟨_, rfl⟩ rfl rfl ⟨trivial, trivial, trivial, trivial, (Or.inr ⟨wy_pr rfl, fun q => q⟩), trivial, trivial, trivial, trivial⟩ ⟨(Or.inr ⟨wy_pr rfl, fun q => q⟩), trivial⟩ (fun _ _ q => False.elim q) (wJ_mono (rgt_241 (S := (w_up S 237 167 c)) (c := c) (st := am) (nms := nms) (W := W) hMb1 hKb1 hw hX hnm ((fb1 282 nms (by unfold lhM; omega)).trans h82) hWl (fun x hx => (fb1 281 _ (by unfold lhM; omega)).trans (h81 x hx)) hO hA hc hst) (fun o Z hz => (⟨by rw [hwh]; exact hz.1, hz.2⟩ : o = .inl (some (0, wh)) ∧ _))) (fun oq19 Sq19 hp20 q19 => ?_)
          rcases q19 with ⟨rfl, hf19⟩
          show wJ _ _ _ _ _ _ _ _ _ _
          have hq19 : ∀ (j : Nat) (x : Int), ¬ lhM j x → Sq19 j x = (w_up S 237 167 c) j x := fun j x hj => hf19 j x (fun z => z.elim (lhM_od hj) (fun y => y.elim (lhM_cd hj) (lhM_wt hj)))
          have fS19 : ∀ (j : Nat) (x : Int), ¬ lhM j x → Sq19 j x = S j x := fun j x hj => (hq19 j x hj).trans (fb1 j x hj)
          refine wb_pfi 237 rfl (wy_pr rfl) wt_237 wf_15_170 (n := 170) rfl ⟨(by omega), (by omega)⟩ ?_
          refine wa_aload_n (n := 0) rfl ?_
          refine wb_gfi 237 rfl (wy_pr rfl) wt_237 wf_15_170 (v := wh) (w_up_same _ _ _ _) (fun r21 => ?_)
          refine wa_ifge (w_rg0 (by omega) (by omega)) ⟨_, rfl⟩ (fun c22 => ?_) (fun c22 => ?_)
          · skip
            refine wa_return rfl ?_
            exact ⟨fun _ => ⟨rfl, (w_up_same _ _ _ _), ((w_up_no (by omega)).trans ((hf19 237 172 (by unfold odM cdM wtM; omega)).trans ((w_up_no (by omega)).trans (h172))))⟩, fun z => absurd z (by omega), ((w_up_no (by omega)).trans ((hf19 237 167 (by unfold odM cdM wtM; omega)).trans (w_up_same _ _ _ _))), rCh_ag hC (fun j x hj => ((w_up_no (by unfold chM at hj; omega)).trans ((hf19 j x (fun z => z.elim (lh_id hj).2.2.1 (fun y => y.elim (lh_id hj).2.1 (lh_id hj).1))).trans (w_up_no (by unfold chM at hj; omega))))), fun j x hj => ((w_up_no (by unfold lhM at hj; omega)).trans (fS19 j x hj))⟩
          · skip
            refine wa_aload_n (n := 0) rfl ?_
            refine wa_iconst ?_
            refine wa_cv 237 rfl (wy_pr rfl) wt_237 (M2 := fun _ => False) rfl at_M_error ⟨_, rfl⟩ rfl rfl ⟨trivial, trivial, trivial, trivial, (Or.inr ⟨wy_pr rfl, fun q => q⟩), trivial, trivial, trivial, trivial⟩ trivial (fun _ _ q => False.elim q) ?_ (fun _ _ _ q => q)
            refine wa_aload_n (n := 0) rfl ?_
            refine wb_gf4 237 rfl (wy_pr rfl) wt_237 wf_15_1 (v := 238) wl_237_1 ?_
            refine wa_iload_n (n := 1) rfl ?_
            refine wa_iconst ?_
            refine wa_cv 238 rfl (wy_pr rfl) wt_238 (M2 := fun _ => False) rfl at_MH_of ⟨_, rfl⟩ rfl rfl ⟨(Or.inr ⟨wy_pr rfl, fun q => q⟩), trivial, trivial⟩ trivial (fun _ _ q => False.elim q) ?_ (fun _ _ _ q => q)
            refine wa_aload_n (n := 0) rfl ?_
            refine wa_iload_n (n := 1) rfl ?_
            refine wb_pfi 238 rfl (wy_pr rfl) wt_238 wf_11_5 (n := 5) rfl ⟨(by omega), (by omega)⟩ ?_
            refine wa_aload_n (n := 0) rfl ?_
            refine wa_iload_n (n := 2) rfl ?_
            refine wb_pfi 238 rfl (wy_pr rfl) wt_238 wf_11_6 (n := 6) rfl ⟨(by omega), (by omega)⟩ ?_
            refine wa_aload_n (n := 0) rfl ?_
            refine wa_oreturn rfl ?_
            show wJ _ _ _ _ _ _ _ _ _ _
            refine wa_th (j := 238) ?_
            refine ⟨rfl, ?_⟩
            exact ⟨fun z => absurd z (by omega), fun _ => ⟨rfl, (((w_up_at (by first | decide | omega)).trans (w_up_same _ _ _ _)) : (w_up (w_up (w_up Sq19 237 170 wh) 238 5 4) 238 6 0) 238 5 = _).trans (if_pos (by omega)).symm, (w_up_same _ _ _ _)⟩, ((w_up_no (by omega)).trans ((w_up_no (by omega)).trans ((w_up_no (by omega)).trans ((hf19 237 167 (by unfold odM cdM wtM; omega)).trans (w_up_same _ _ _ _))))), rCh_ag hC (fun j x hj => ((w_up_no (by unfold chM at hj; omega)).trans ((w_up_no (by unfold chM at hj; omega)).trans ((w_up_no (by unfold chM at hj; omega)).trans ((hf19 j x (fun z => z.elim (lh_id hj).2.2.1 (fun y => y.elim (lh_id hj).2.1 (lh_id hj).1))).trans (w_up_no (by unfold chM at hj; omega))))))), fun j x hj => ((w_up_no (by unfold lhM at hj; omega)).trans ((w_up_no (by unfold lhM at hj; omega)).trans ((w_up_no (by unfold lhM at hj; omega)).trans (fS19 j x hj))))⟩
      · skip
        exact absurd c16 (by omega)
    · skip
      exfalso; omega
  · skip
    refine wa_iconst ?_
    refine wa_goto ⟨_, rfl⟩ ?_
    refine wJ_top (show 1 = am by omega) ?_
    refine wa_istore (n := 4) rfl ?_
    refine wa_iload (n := 4) rfl ?_
    refine wa_ifeq (w_rg0 (by omega) (by omega)) ⟨_, rfl⟩ (fun c23 => ?_) (fun c23 => ?_)
    · skip
      exfalso; omega
    · skip
      have hgbc : gb = c := by omega
      refine wa_aload_n (n := 0) rfl ?_
      refine wb_gfl 237 rfl (wy_pr rfl) wt_237 wf_15_175 (v := gb) (h75) (fun r24 => ?_)
      refine wb_l2i_r (wb_l2i_id ⟨(by omega), (by omega)⟩) ?_
      refine wa_goto ⟨_, rfl⟩ ?_
      refine wJ_top (show gb = c by omega) ?_
      refine wa_istore (n := 5) rfl ?_
      refine wa_iload (n := 4) rfl ?_
      refine wa_ifeq (w_rg0 (by omega) (by omega)) ⟨_, rfl⟩ (fun c25 => ?_) (fun c25 => ?_)
      · skip
        exact absurd c25 (by omega)
      · skip
        refine wa_iconst ?_
        refine wa_goto ⟨_, rfl⟩ ?_
        refine wJ_top (show 1 = am by omega) ?_
        refine wa_istore (n := 6) rfl ?_
        refine wa_aload_n (n := 0) rfl ?_
        refine wa_iload (n := 5) rfl ?_
        refine wb_pfi 237 rfl (wy_pr rfl) wt_237 wf_15_167 (n := 167) rfl ⟨(by omega), (by omega)⟩ ?_
        refine wa_aload_n (n := 0) rfl ?_
        refine wb_gf4 237 rfl (wy_pr rfl) wt_237 wf_15_50 (v := 305) wl_237_50 ?_
        refine wa_iload_n (n := 1) rfl ?_
        refine wb_iald 305 rfl (wy_pr rfl) wt_305 (n := 4000) ((w_up_slot (by decide)).trans ((ml_305 hM))) (by omega) (by omega) (v := nms) ((w_up_slot (by decide)).trans (h05)) (fun r26 => ?_)
        refine wa_istore (n := 7) rfl ?_
        refine wa_iload_n (n := 2) rfl ?_
        refine wa_ifne (w_rg0 (by omega) (by omega)) ⟨_, rfl⟩ (fun c27 => ?_) (fun c27 => ?_)
        · skip
          exact absurd c27 (by omega)
        · skip
          refine wa_aload_n (n := 0) rfl ?_
          refine wa_aload_n (n := 0) rfl ?_
          refine wa_iload (n := 5) rfl ?_
          refine wa_iload (n := 4) rfl ?_
          refine wa_iload (n := 7) rfl ?_
          have fb2 : ∀ (j : Nat) (x : Int), ¬ lhM j x → (w_up S 237 167 c) j x = S j x := fun j x hj => (w_up_no (by unfold lhM at hj; omega))
          have hMb2 : w_ML (w_up S 237 167 c) := ML_w hM fb2 (fun j => lhM_1)
          have hKb2 : KR 241 T n cs ms (w_up S 237 167 c) := KR_ag hK (fun j x hj => fb2 j x (by unfold lhM; omega))
          refine wa_cv 237 rfl (wy_pr rfl) wt_237 (M2 := fun _ => False) rfl at_M_getter ⟨_, rfl⟩ rfl rfl ⟨trivial, trivial, trivial, trivial, (Or.inr ⟨wy_pr rfl, fun q => q⟩), trivial, trivial, trivial, trivial⟩ ⟨(Or.inr ⟨wy_pr rfl, fun q => q⟩), trivial⟩ (fun _ _ q => False.elim q) (wJ_mono (rgt_241 (S := (w_up S 237 167 c)) (c := c) (st := am) (nms := nms) (W := W) hMb2 hKb2 hw hX hnm ((fb2 282 nms (by unfold lhM; omega)).trans h82) hWl (fun x hx => (fb2 281 _ (by unfold lhM; omega)).trans (h81 x hx)) hO hA hc hst) (fun o Z hz => (⟨by rw [hwh]; exact hz.1, hz.2⟩ : o = .inl (some (0, wh)) ∧ _))) (fun oq28 Sq28 hp29 q28 => ?_)
          rcases q28 with ⟨rfl, hf28⟩
          show wJ _ _ _ _ _ _ _ _ _ _
          have hq28 : ∀ (j : Nat) (x : Int), ¬ lhM j x → Sq28 j x = (w_up S 237 167 c) j x := fun j x hj => hf28 j x (fun z => z.elim (lhM_od hj) (fun y => y.elim (lhM_cd hj) (lhM_wt hj)))
          have fS28 : ∀ (j : Nat) (x : Int), ¬ lhM j x → Sq28 j x = S j x := fun j x hj => (hq28 j x hj).trans (fb2 j x hj)
          refine wb_pfi 237 rfl (wy_pr rfl) wt_237 wf_15_170 (n := 170) rfl ⟨(by omega), (by omega)⟩ ?_
          refine wa_aload_n (n := 0) rfl ?_
          refine wb_gfi 237 rfl (wy_pr rfl) wt_237 wf_15_170 (v := wh) (w_up_same _ _ _ _) (fun r30 => ?_)
          refine wa_ifge (w_rg0 (by omega) (by omega)) ⟨_, rfl⟩ (fun c31 => ?_) (fun c31 => ?_)
          · skip
            refine wa_return rfl ?_
            exact ⟨fun _ => ⟨rfl, (w_up_same _ _ _ _), ((w_up_no (by omega)).trans ((hf28 237 172 (by unfold odM cdM wtM; omega)).trans ((w_up_no (by omega)).trans (h172))))⟩, fun z => absurd z (by omega), ((w_up_no (by omega)).trans ((hf28 237 167 (by unfold odM cdM wtM; omega)).trans (w_up_same _ _ _ _))), rCh_ag hC (fun j x hj => ((w_up_no (by unfold chM at hj; omega)).trans ((hf28 j x (fun z => z.elim (lh_id hj).2.2.1 (fun y => y.elim (lh_id hj).2.1 (lh_id hj).1))).trans (w_up_no (by unfold chM at hj; omega))))), fun j x hj => ((w_up_no (by unfold lhM at hj; omega)).trans (fS28 j x hj))⟩
          · skip
            refine wa_aload_n (n := 0) rfl ?_
            refine wa_iconst ?_
            refine wa_cv 237 rfl (wy_pr rfl) wt_237 (M2 := fun _ => False) rfl at_M_error ⟨_, rfl⟩ rfl rfl ⟨trivial, trivial, trivial, trivial, (Or.inr ⟨wy_pr rfl, fun q => q⟩), trivial, trivial, trivial, trivial⟩ trivial (fun _ _ q => False.elim q) ?_ (fun _ _ _ q => q)
            refine wa_aload_n (n := 0) rfl ?_
            refine wb_gf4 237 rfl (wy_pr rfl) wt_237 wf_15_1 (v := 238) wl_237_1 ?_
            refine wa_iload_n (n := 1) rfl ?_
            refine wa_iconst ?_
            refine wa_cv 238 rfl (wy_pr rfl) wt_238 (M2 := fun _ => False) rfl at_MH_of ⟨_, rfl⟩ rfl rfl ⟨(Or.inr ⟨wy_pr rfl, fun q => q⟩), trivial, trivial⟩ trivial (fun _ _ q => False.elim q) ?_ (fun _ _ _ q => q)
            refine wa_aload_n (n := 0) rfl ?_
            refine wa_iload_n (n := 1) rfl ?_
            refine wb_pfi 238 rfl (wy_pr rfl) wt_238 wf_11_5 (n := 5) rfl ⟨(by omega), (by omega)⟩ ?_
            refine wa_aload_n (n := 0) rfl ?_
            refine wa_iload_n (n := 2) rfl ?_
            refine wb_pfi 238 rfl (wy_pr rfl) wt_238 wf_11_6 (n := 6) rfl ⟨(by omega), (by omega)⟩ ?_
            refine wa_aload_n (n := 0) rfl ?_
            refine wa_oreturn rfl ?_
            show wJ _ _ _ _ _ _ _ _ _ _
            refine wa_th (j := 238) ?_
            refine ⟨rfl, ?_⟩
            exact ⟨fun z => absurd z (by omega), fun _ => ⟨rfl, (((w_up_at (by first | decide | omega)).trans (w_up_same _ _ _ _)) : (w_up (w_up (w_up Sq28 237 170 wh) 238 5 4) 238 6 0) 238 5 = _).trans (if_pos (by omega)).symm, (w_up_same _ _ _ _)⟩, ((w_up_no (by omega)).trans ((w_up_no (by omega)).trans ((w_up_no (by omega)).trans ((hf28 237 167 (by unfold odM cdM wtM; omega)).trans (w_up_same _ _ _ _))))), rCh_ag hC (fun j x hj => ((w_up_no (by unfold chM at hj; omega)).trans ((w_up_no (by unfold chM at hj; omega)).trans ((w_up_no (by unfold chM at hj; omega)).trans ((hf28 j x (fun z => z.elim (lh_id hj).2.2.1 (fun y => y.elim (lh_id hj).2.1 (lh_id hj).1))).trans (w_up_no (by unfold chM at hj; omega))))))), fun j x hj => ((w_up_no (by unfold lhM at hj; omega)).trans ((w_up_no (by unfold lhM at hj; omega)).trans ((w_up_no (by unfold lhM at hj; omega)).trans (fS28 j x hj))))⟩
set_option maxHeartbeats 4000000 in
theorem lhs1_241 {s gk gb c am nms r ct : Int} {W tl : List Int} (hM : w_ML S) (hK : KR 241 T n cs ms S) (hw : wHo cs ms os) (hX : w_X xs) (hnm : 0 ≤ nms ∧ nms < 4000) (h82 : S 282 nms = (W.length : Int)) (hWl : W.length ≤ 60) (h81 : ∀ x : Nat, x < W.length → S 281 (60 * nms + (x : Int)) = W.getD x 0) (hO : wOs cs os) (hA : wAb cs) (hc : 0 ≤ c ∧ c < (cs.length : Int)) (hst : am = 0 ∨ am = 1) (hs : 0 ≤ s ∧ s < 4000) (h05 : S 305 s = nms) (h74 : S 237 174 = gk) (h75 : S 237 175 = gb) (hgk : (gk = 7 ∧ am = 0 ∧ (0 ≤ gb ∧ gb < 8000) ∧ S 321 gb = c) ∨ (gk = 8 ∧ am = 1 ∧ gb = c)) (h172 : S 237 172 = 0) (hC : rCh T cs ms os N CH wo mo S) (h73 : S 237 173 = r) (hr : 0 ≤ r ∧ r + 1 + (tl.length : Int) ≤ 4200) (hcl : rCl S r tl) (h8 : tl.length ≤ 8) (hes : esOk tl) (hty : ∀ c ∈ tl, c < 9 + (cs.length : Int)) (hwo : wo < 10000000) (htl1 : tl.length = 1) : wJ (pe_GA xs) wY0 M (d + 66) t_M_looksAtHost ((pe_at t_M_looksAtHost.bl 0).getD (0, [])).2 [(0, (2, 237)), (1, (0, s)), (2, (0, 1)), (3, (0, 1))] [] S (lrQ T cs ms os N (chN CH wo mo (c, am, 1, (wnW [115, 101, 116] W), tl) (FA T cs ms os c am 1 (wnW [115, 101, 116] W))).1 (chN CH wo mo (c, am, 1, (wnW [115, 101, 116] W), tl) (FA T cs ms os c am 1 (wnW [115, 101, 116] W))).2 mo c (if (FA T cs ms os c am 1 (wnW [115, 101, 116] W)) = [] then fdA T cs ms am W c else (rvA T cs ms os (c, am, 1, (wnW [115, 101, 116] W), tl))) (if (FA T cs ms os c am 1 (wnW [115, 101, 116] W)) = [] then 0 else 1) S) := by
  have h13 : S 237 13 = 241 := hK.1
  have h60 := hw.1
  have hFm := FA_v (T := T) (am := am) (fs := 1) (WW := (wnW [115, 101, 116] W)) hw hc
  obtain ⟨rv, hrv⟩ : ∃ r : Int, r = (rvA T cs ms os (c, am, 1, (wnW [115, 101, 116] W), tl)) := ⟨_, rfl⟩
  have hrr := rvA_rg (T := T) (q := (c, am, 1, (wnW [115, 101, 116] W), tl)) hw hc
  have hr1 := rv_m1 (T := T) (q := (c, am, 1, (wnW [115, 101, 116] W), tl)) hw hc
  rw [← hrv] at hrr hr1 ⊢
  replace hr1 : rv = -1 ↔ (FA T cs ms os c am 1 (wnW [115, 101, 116] W)) = [] := hr1
  have hF4 : (FA T cs ms os c am 1 (wnW [115, 101, 116] W)).length = 0 ↔ (FA T cs ms os c am 1 (wnW [115, 101, 116] W)) = [] := ⟨fun z => List.eq_nil_of_length_eq_zero z, fun z => by rw [z]; rfl⟩
  obtain ⟨fd, hfd⟩ : ∃ r : Int, r = fdA T cs ms am W c := ⟨_, rfl⟩
  have hfr := fdA_rg (T := T) (st := am) (W := W) hw hc
  rw [← hfd] at hfr ⊢
  have hFa : cdA ms (okM T ms 1 am 1 (wnW [115, 101, 116] W)) [] (mOr cs (os c)) = (FA T cs ms os c am 1 (wnW [115, 101, 116] W)) := by
    unfold FA
    rw [if_neg (show ¬ am = 2 by omega), if_neg (show ¬ am = 2 by omega), if_pos (show (1 : Int) = 1 from rfl), show (if am = 1 then 1 else 0 : Int) = am by split <;> omega]
  refine wa_aload_n (n := 0) rfl ?_
  refine wb_gfi 237 rfl (wy_pr rfl) wt_237 wf_15_174 (v := gk) (h74) (fun r11 => ?_)
  refine wa_bipush (w_rg2 (by omega) (by omega)) ?_
  refine wa_icmpne (w_rg0 (by omega) (by omega)) (w_rg0 (by omega) (by omega)) ⟨_, rfl⟩ (fun c12 => ?_) (fun c12 => ?_)
  · skip
    refine wa_iconst ?_
    refine wa_fall ⟨_, rfl⟩ ?_
    refine wJ_top (show 0 = am by omega) ?_
    refine wa_istore (n := 4) rfl ?_
    refine wa_iload (n := 4) rfl ?_
    refine wa_ifeq (w_rg0 (by omega) (by omega)) ⟨_, rfl⟩ (fun c13 => ?_) (fun c13 => ?_)
    · skip
      have h21 : S 321 gb = c := by rcases hgk with z | z; exact z.2.2.2; omega
      have hgb0 : 0 ≤ gb ∧ gb < 8000 := by omega
      refine wa_aload_n (n := 0) rfl ?_
      refine wb_gf4 237 rfl (wy_pr rfl) wt_237 wf_15_77 (v := 321) wl_237_77 ?_
      refine wa_aload_n (n := 0) rfl ?_
      refine wb_gfl 237 rfl (wy_pr rfl) wt_237 wf_15_175 (v := gb) (h75) (fun r14 => ?_)
      refine wb_l2i_r (wb_l2i_id ⟨(by omega), (by omega)⟩) ?_
      refine wb_iald 321 rfl (wy_pr rfl) wt_321 (n := 8000) ((ml_321 hM)) (by omega) (by omega) (v := c) (h21) (fun r15 => ?_)
      refine wa_fall ⟨_, rfl⟩ ?_
      refine wa_istore (n := 5) rfl ?_
      refine wa_iload (n := 4) rfl ?_
      refine wa_ifeq (w_rg0 (by omega) (by omega)) ⟨_, rfl⟩ (fun c16 => ?_) (fun c16 => ?_)
      · skip
        refine wa_iconst ?_
        refine wa_fall ⟨_, rfl⟩ ?_
        refine wJ_top (show 0 = am by omega) ?_
        refine wa_istore (n := 6) rfl ?_
        refine wa_aload_n (n := 0) rfl ?_
        refine wa_iload (n := 5) rfl ?_
        refine wb_pfi 237 rfl (wy_pr rfl) wt_237 wf_15_167 (n := 167) rfl ⟨(by omega), (by omega)⟩ ?_
        refine wa_aload_n (n := 0) rfl ?_
        refine wb_gf4 237 rfl (wy_pr rfl) wt_237 wf_15_50 (v := 305) wl_237_50 ?_
        refine wa_iload_n (n := 1) rfl ?_
        refine wb_iald 305 rfl (wy_pr rfl) wt_305 (n := 4000) ((w_up_slot (by decide)).trans ((ml_305 hM))) (by omega) (by omega) (v := nms) ((w_up_slot (by decide)).trans (h05)) (fun r17 => ?_)
        refine wa_istore (n := 7) rfl ?_
        refine wa_iload_n (n := 2) rfl ?_
        refine wa_ifne (w_rg0 (by omega) (by omega)) ⟨_, rfl⟩ (fun c18 => ?_) (fun c18 => ?_)
        · skip
          refine wa_iload_n (n := 2) rfl ?_
          refine wa_iconst ?_
          refine wa_icmpne (w_rg0 (by omega) (by omega)) (w_rg0 (by omega) (by omega)) ⟨_, rfl⟩ (fun c19 => ?_) (fun c19 => ?_)
          · skip
            exact absurd c19 (by omega)
          · skip
            refine wa_aload_n (n := 0) rfl ?_
            refine wa_ks ?_
            refine wa_iload (n := 7) rfl ?_
            have fb1 : ∀ (j : Nat) (x : Int), ¬ lhM j x → (w_up S 237 167 c) j x = S j x := fun j x hj => (w_up_no (by unfold lhM at hj; omega))
            have hMb1 : w_ML (w_up S 237 167 c) := ML_w hM fb1 (fun j => lhM_1)
            have hKb1 : KR 241 T n cs ms (w_up S 237 167 c) := KR_ag hK (fun j x hj => fb1 j x (by unfold lhM; omega))
            refine wa_cv 237 rfl (wy_pr rfl) wt_237 (M2 := fun _ => False) rfl at_M_wants ⟨_, rfl⟩ rfl rfl ⟨trivial, trivial, trivial, trivial, (Or.inr ⟨wy_pr rfl, fun q => q⟩), trivial, trivial, trivial, trivial⟩ trivial (fun _ _ q => False.elim q) (rwt51 (S := (w_up S 237 167 c)) hX hMb1 hnm ((fb1 282 nms (by unfold lhM; omega)).trans h82) hWl (fun x hx => (fb1 281 _ (by unfold lhM; omega)).trans (h81 x hx))) (fun oq20 Sq20 hp21 q20 => ?_)
            rcases q20 with ⟨rfl, hw20, hf20⟩
            show wJ _ _ _ _ _ _ _ _ _ _
            have hq20 : ∀ (j : Nat) (x : Int), ¬ lhM j x → Sq20 j x = (w_up S 237 167 c) j x := fun j x hj => hf20 j x (lhM_wt hj)
            have fS20 : ∀ (j : Nat) (x : Int), ¬ lhM j x → Sq20 j x = S j x := fun j x hj => (hq20 j x hj).trans (fb1 j x hj)
            refine wa_aload_n (n := 0) rfl ?_
            refine wa_iload (n := 5) rfl ?_
            refine wa_iload (n := 4) rfl ?_
            refine wa_iconst ?_
            have fb2 : ∀ (j : Nat) (x : Int), ¬ lhM j x → Sq20 j x = S j x := fun j x hj => (fS20 j x hj)
            have hMb2 : w_ML Sq20 := ML_w hM fb2 (fun j => lhM_1)
            have hKb2 : KR 241 T n cs ms Sq20 := KR_ag hK (fun j x hj => fb2 j x (by unfold lhM; omega))
            refine wa_cv 237 rfl (wy_pr rfl) wt_237 (M2 := fun _ => False) rfl at_M_collects ⟨_, rfl⟩ rfl rfl ⟨trivial, trivial, trivial, trivial, (Or.inr ⟨wy_pr rfl, fun q => q⟩), trivial, trivial, trivial, trivial⟩ trivial (fun _ _ q => False.elim q) (rco_241 (S := Sq20) (c := c) (st := am) (pc := 1) (WW := (wnW [115, 101, 116] W)) hMb2 hKb2 hw hO hA hst (by omega) hw20 hc) (fun oq22 Sq22 hp23 q22 => ?_)
            rcases q22 with ⟨rfl, hcd22, hf22⟩
            show wJ _ _ _ _ _ _ _ _ _ _
            have hq22 : ∀ (j : Nat) (x : Int), ¬ lhM j x → Sq22 j x = Sq20 j x := fun j x hj => hf22 j x (lhM_cd hj) (lhM_od hj)
            have fS22 : ∀ (j : Nat) (x : Int), ¬ lhM j x → Sq22 j x = S j x := fun j x hj => (hq22 j x hj).trans (fb2 j x hj)
            rw [hFa] at hcd22
            have hcl22 := hcd22.2.2
            refine wa_aload_n (n := 0) rfl ?_
            refine wb_gfi 237 rfl (wy_pr rfl) wt_237 wf_15_128 (v := ((FA T cs ms os c am 1 (wnW [115, 101, 116] W)).length : Int)) (hcd22.1) (fun r24 => ?_)
            refine wa_ifle (w_rg0 (by omega) (by omega)) ⟨_, rfl⟩ (fun c25 => ?_) (fun c25 => ?_)
            · skip
              refine wa_aload_n (n := 0) rfl ?_
              refine wa_ks ?_
              refine wa_iload (n := 7) rfl ?_
              have fb3 : ∀ (j : Nat) (x : Int), ¬ lhM j x → Sq22 j x = S j x := fun j x hj => (fS22 j x hj)
              have hMb3 : w_ML Sq22 := ML_w hM fb3 (fun j => lhM_1)
              have hKb3 : KR 241 T n cs ms Sq22 := KR_ag hK (fun j x hj => fb3 j x (by unfold lhM; omega))
              refine wa_cv 237 rfl (wy_pr rfl) wt_237 (M2 := fun _ => False) rfl at_M_wants ⟨_, rfl⟩ rfl rfl ⟨trivial, trivial, trivial, trivial, (Or.inr ⟨wy_pr rfl, fun q => q⟩), trivial, trivial, trivial, trivial⟩ trivial (fun _ _ q => False.elim q) (rwt53 (S := Sq22) hX hMb3 hnm ((fb3 282 nms (by unfold lhM; omega)).trans h82) hWl (fun x hx => (fb3 281 _ (by unfold lhM; omega)).trans (h81 x hx))) (fun oq26 Sq26 hp27 q26 => ?_)
              rcases q26 with ⟨rfl, hw26, hf26⟩
              show wJ _ _ _ _ _ _ _ _ _ _
              have hq26 : ∀ (j : Nat) (x : Int), ¬ lhM j x → Sq26 j x = Sq22 j x := fun j x hj => hf26 j x (lhM_wt hj)
              have fS26 : ∀ (j : Nat) (x : Int), ¬ lhM j x → Sq26 j x = S j x := fun j x hj => (hq26 j x hj).trans (fb3 j x hj)
              refine wa_aload_n (n := 0) rfl ?_
              refine wa_aload_n (n := 0) rfl ?_
              refine wa_iload (n := 5) rfl ?_
              refine wa_iload (n := 6) rfl ?_
              have fb4 : ∀ (j : Nat) (x : Int), ¬ lhM j x → Sq26 j x = S j x := fun j x hj => (fS26 j x hj)
              have hMb4 : w_ML Sq26 := ML_w hM fb4 (fun j => lhM_1)
              have hKb4 : KR 241 T n cs ms Sq26 := KR_ag hK (fun j x hj => fb4 j x (by unfold lhM; omega))
              have hwn : wtI W Sq26 := by have z := hw26; rw [show wnW ([] : List Int) W = W from if_pos rfl] at z; exact z
              refine wa_cv 237 rfl (wy_pr rfl) wt_237 (M2 := fun _ => False) rfl at_M_field ⟨_, rfl⟩ rfl rfl ⟨trivial, trivial, trivial, trivial, (Or.inr ⟨wy_pr rfl, fun q => q⟩), trivial, trivial, trivial, trivial⟩ ⟨(Or.inr ⟨wy_pr rfl, fun q => q⟩), trivial⟩ (fun _ _ q => False.elim q) (wJ_mono (rfd_241 (S := Sq26) (c := c) (st := am) (WW := W) hMb4 hKb4 hw ⟨by omega, by omega⟩ hwn hc) (fun o Z hz => (⟨hz.1, by rw [hfd]; exact hz.2⟩ : Sq26 = Z ∧ o = .inl (some (0, fd))))) (fun oq28 Sq28 hp29 q28 => ?_)
              rcases q28 with ⟨rfl, rfl⟩
              show wJ _ _ _ _ _ _ _ _ _ _
              refine wb_pfi 237 rfl (wy_pr rfl) wt_237 wf_15_170 (n := 170) rfl ⟨(by omega), (by omega)⟩ ?_
              refine wa_aload_n (n := 0) rfl ?_
              refine wb_gfi 237 rfl (wy_pr rfl) wt_237 wf_15_170 (v := fd) (w_up_same _ _ _ _) (fun r30 => ?_)
              refine wa_ifge (w_rg0 (by omega) (by omega)) ⟨_, rfl⟩ (fun c31 => ?_) (fun c31 => ?_)
              · skip
                refine wa_return rfl ?_
                have hFe : (FA T cs ms os c am 1 (wnW [115, 101, 116] W)) = [] := hF4.mp (by omega)
                have ewh : (if (FA T cs ms os c am 1 (wnW [115, 101, 116] W)) = [] then fd else rv) = fd := if_pos hFe
                have emn : (if (FA T cs ms os c am 1 (wnW [115, 101, 116] W)) = [] then 0 else 1 : Int) = 0 := if_pos hFe
                have ech : chN CH wo mo (c, am, 1, (wnW [115, 101, 116] W), tl) (FA T cs ms os c am 1 (wnW [115, 101, 116] W)) = (CH, wo) := if_pos (Or.inl hFe)
                rw [ewh, emn]
                rw [ech]
                exact ⟨fun _ => ⟨rfl, (w_up_same _ _ _ _), ((w_up_no (by omega)).trans ((hf26 237 172 (by unfold wtM; omega)).trans ((hf22 237 172 (by unfold cdM; omega) (by unfold odM; omega)).trans ((hf20 237 172 (by unfold wtM; omega)).trans ((w_up_no (by omega)).trans (h172))))))⟩, fun z => absurd z (by omega), ((w_up_no (by omega)).trans ((hf26 237 167 (by unfold wtM; omega)).trans ((hf22 237 167 (by unfold cdM; omega) (by unfold odM; omega)).trans ((hf20 237 167 (by unfold wtM; omega)).trans (w_up_same _ _ _ _))))), rCh_ag hC (fun j x hj => ((w_up_no (by unfold chM at hj; omega)).trans ((hf26 j x (lh_id hj).1).trans ((hf22 j x (lh_id hj).2.1 (lh_id hj).2.2.1).trans ((hf20 j x (lh_id hj).1).trans (w_up_no (by unfold chM at hj; omega))))))), fun j x hj => ((w_up_no (by unfold lhM at hj; omega)).trans (fS26 j x hj))⟩
              · skip
                refine wa_aload_n (n := 0) rfl ?_
                refine wa_iconst ?_
                refine wa_cv 237 rfl (wy_pr rfl) wt_237 (M2 := fun _ => False) rfl at_M_error ⟨_, rfl⟩ rfl rfl ⟨trivial, trivial, trivial, trivial, (Or.inr ⟨wy_pr rfl, fun q => q⟩), trivial, trivial, trivial, trivial⟩ trivial (fun _ _ q => False.elim q) ?_ (fun _ _ _ q => q)
                refine wa_aload_n (n := 0) rfl ?_
                refine wb_gf4 237 rfl (wy_pr rfl) wt_237 wf_15_1 (v := 238) wl_237_1 ?_
                refine wa_iload_n (n := 1) rfl ?_
                refine wa_iconst ?_
                refine wa_cv 238 rfl (wy_pr rfl) wt_238 (M2 := fun _ => False) rfl at_MH_of ⟨_, rfl⟩ rfl rfl ⟨(Or.inr ⟨wy_pr rfl, fun q => q⟩), trivial, trivial⟩ trivial (fun _ _ q => False.elim q) ?_ (fun _ _ _ q => q)
                refine wa_aload_n (n := 0) rfl ?_
                refine wa_iload_n (n := 1) rfl ?_
                refine wb_pfi 238 rfl (wy_pr rfl) wt_238 wf_11_5 (n := 5) rfl ⟨(by omega), (by omega)⟩ ?_
                refine wa_aload_n (n := 0) rfl ?_
                refine wa_iload_n (n := 2) rfl ?_
                refine wb_pfi 238 rfl (wy_pr rfl) wt_238 wf_11_6 (n := 6) rfl ⟨(by omega), (by omega)⟩ ?_
                refine wa_aload_n (n := 0) rfl ?_
                refine wa_oreturn rfl ?_
                show wJ _ _ _ _ _ _ _ _ _ _
                refine wa_th (j := 238) ?_
                refine ⟨rfl, ?_⟩
                have hFe : (FA T cs ms os c am 1 (wnW [115, 101, 116] W)) = [] := hF4.mp (by omega)
                have ewh : (if (FA T cs ms os c am 1 (wnW [115, 101, 116] W)) = [] then fd else rv) = fd := if_pos hFe
                have emn : (if (FA T cs ms os c am 1 (wnW [115, 101, 116] W)) = [] then 0 else 1 : Int) = 0 := if_pos hFe
                have ech : chN CH wo mo (c, am, 1, (wnW [115, 101, 116] W), tl) (FA T cs ms os c am 1 (wnW [115, 101, 116] W)) = (CH, wo) := if_pos (Or.inl hFe)
                rw [ewh, emn]
                rw [ech]
                exact ⟨fun z => absurd z (by omega), fun _ => ⟨rfl, (((w_up_at (by first | decide | omega)).trans (w_up_same _ _ _ _)) : (w_up (w_up (w_up Sq26 237 170 fd) 238 5 4) 238 6 0) 238 5 = _).trans (if_pos (by omega)).symm, (w_up_same _ _ _ _)⟩, ((w_up_no (by omega)).trans ((w_up_no (by omega)).trans ((w_up_no (by omega)).trans ((hf26 237 167 (by unfold wtM; omega)).trans ((hf22 237 167 (by unfold cdM; omega) (by unfold odM; omega)).trans ((hf20 237 167 (by unfold wtM; omega)).trans (w_up_same _ _ _ _))))))), rCh_ag hC (fun j x hj => ((w_up_no (by unfold chM at hj; omega)).trans ((w_up_no (by unfold chM at hj; omega)).trans ((w_up_no (by unfold chM at hj; omega)).trans ((hf26 j x (lh_id hj).1).trans ((hf22 j x (lh_id hj).2.1 (lh_id hj).2.2.1).trans ((hf20 j x (lh_id hj).1).trans (w_up_no (by unfold chM at hj; omega))))))))), fun j x hj => ((w_up_no (by unfold lhM at hj; omega)).trans ((w_up_no (by unfold lhM at hj; omega)).trans ((w_up_no (by unfold lhM at hj; omega)).trans (fS26 j x hj))))⟩
            · skip
              refine wa_aload_n (n := 0) rfl ?_
              refine wa_iconst ?_
              have fb5 : ∀ (j : Nat) (x : Int), ¬ lhM j x → Sq22 j x = S j x := fun j x hj => (fS22 j x hj)
              have hMb5 : w_ML Sq22 := ML_w hM fb5 (fun j => lhM_1)
              have hKb5 : KR 241 T n cs ms Sq22 := KR_ag hK (fun j x hj => fb5 j x (by unfold lhM; omega))
              have hty1 := rty (xs := xs) (M := fun _ => False) (d := d + 64) (S := Sq22) (r := r) (tl := tl) hMb5 ((fb5 237 173 (by unfold lhM; omega)).trans h73) hr (rCl_a9 hcl (fun j x hj => fb5 j x (by unfold lhM; omega))) h8
              rw [show (tl.length : Int) = 1 by omega] at hty1
              refine wa_cv 237 rfl (wy_pr rfl) wt_237 (M2 := fun _ => False) rfl at_M_typesOfEs ⟨_, rfl⟩ rfl rfl ⟨trivial, trivial, trivial, trivial, (Or.inr ⟨wy_pr rfl, fun q => q⟩), trivial, trivial, trivial, trivial⟩ trivial (fun _ _ q => False.elim q) (hty1) (fun oq32 Sq32 hp33 q32 => ?_)
              rcases q32 with ⟨rfl, ht32, hmn32, hf32⟩
              show wJ _ _ _ _ _ _ _ _ _ _
              have hq32 : ∀ (j : Nat) (x : Int), ¬ lhM j x → Sq32 j x = Sq22 j x := fun j x hj => hf32 j x (lhM_ty hj)
              have fS32 : ∀ (j : Nat) (x : Int), ¬ lhM j x → Sq32 j x = S j x := fun j x hj => (hq32 j x hj).trans (fb5 j x hj)
              have hcd32 : cdI (FA T cs ms os c am 1 (wnW [115, 101, 116] W)) Sq32 := cdI_ag hcd22 (fun j x hj => hf32 j x (by unfold tyM; unfold cdM at hj; omega))
              have hnc32 : Sq32 355 0 = (FA T cs ms os c am 1 (wnW [115, 101, 116] W)).getD 0 (-1) := (hcd32.2.1 0 (by omega)).trans (by rw [List.getD_eq_getElem?_getD, List.getD_eq_getElem?_getD, List.getElem?_eq_getElem (show 0 < (FA T cs ms os c am 1 (wnW [115, 101, 116] W)).length by omega)]; rfl)
              refine wa_aload_n (n := 0) rfl ?_
              refine wa_iload (n := 5) rfl ?_
              refine wa_iload (n := 6) rfl ?_
              refine wa_iconst ?_
              refine wa_iadd ?_
              refine wa_aload_n (n := 0) rfl ?_
              refine wb_gf4 237 rfl (wy_pr rfl) wt_237 wf_15_129 (v := 355) wl_237_129 ?_
              refine wa_iconst ?_
              refine wb_iald 355 rfl (wy_pr rfl) wt_355 (n := 400) (((hq32 355 (-1) (by unfold lhM; omega)).trans (((hq22 355 (-1) (by unfold lhM; omega)).trans (((hq20 355 (-1) (by unfold lhM; omega)).trans ((w_up_slot (by decide)).trans ((ml_355 hM))))))))) (by omega) (by omega) (v := ((FA T cs ms os c am 1 (wnW [115, 101, 116] W)).getD 0 (-1))) (hnc32) (fun r34 => ?_)
              refine wa_iload_n (n := 3) rfl ?_
              have fb6 : ∀ (j : Nat) (x : Int), ¬ lhM j x → Sq32 j x = S j x := fun j x hj => (fS32 j x hj)
              have hMb6 : w_ML Sq32 := ML_w hM fb6 (fun j => lhM_1)
              have hKb6 : KR 241 T n cs ms Sq32 := KR_ag hK (fun j x hj => fb6 j x (by unfold lhM; omega))
              have hC35 : rCh T cs ms os N CH wo mo Sq32 := rCh_ag hC (fun j x hj => ((hf32 j x (lh_id hj).2.2.2.1).trans ((hf22 j x (lh_id hj).2.1 (lh_id hj).2.2.1).trans ((hf20 j x (lh_id hj).1).trans (w_up_no (lh_id hj).2.2.2.2)))))
              have hFn : (FA T cs ms os c am 1 (wnW [115, 101, 116] W)) ≠ [] := fun z => by have y := hF4.mpr z; omega
              have hqk : qRk T cs ms os N (c, am, 1, (wnW [115, 101, 116] W), tl) := ⟨hc, ⟨by show (0 : Int) ≤ am; omega, by show am ≤ (2 : Int); omega⟩, Or.inr rfl, (fun z => absurd z (by show ¬ am = 2; omega)), (fun _ z => absurd z (by show ¬ (1 : Int) = 0; decide)), h8, hFn⟩
              have hnb : -1 ≤ (FA T cs ms os c am 1 (wnW [115, 101, 116] W)).getD 0 (-1) ∧ (FA T cs ms os c am 1 (wnW [115, 101, 116] W)).getD 0 (-1) ≤ 4000 := by have z : (FA T cs ms os c am 1 (wnW [115, 101, 116] W)).getD 0 (-1) ∈ (FA T cs ms os c am 1 (wnW [115, 101, 116] W)) := (by rw [List.getD_eq_getElem?_getD, List.getElem?_eq_getElem (show 0 < (FA T cs ms os c am 1 (wnW [115, 101, 116] W)).length by omega)]; exact List.getElem_mem _); have y := hFm _ z; omega
              have hrc := rcs1_241 (xs := xs) (M := fun _ => False) (d := d + 59) (S := Sq32) (c := c) (am := am) (fs := 1) (md := (am + 4)) (nc := ((FA T cs ms os c am 1 (wnW [115, 101, 116] W)).getD 0 (-1))) (WW := (wnW [115, 101, 116] W)) (tl := tl) (F := (FA T cs ms os c am 1 (wnW [115, 101, 116] W))) hMb6 hKb6 hw hC35 ht32 hqk (by show _ = (if am = 2 then 2 else am + 4 * 1 : Int); rw [if_neg (by omega)]; omega) (by show _ = (if am = 2 then -1 else if (1 : Int) = 1 then (FA T cs ms os c am 1 (wnW [115, 101, 116] W)).getD 0 (-1) else _ : Int); rw [if_neg (by omega), if_pos rfl]) ⟨by omega, by omega⟩ ⟨by omega, by omega⟩ hes hty hcd32 hFm rfl hwo
              rw [← hrv] at hrc
              refine wa_cv 237 rfl (wy_pr rfl) wt_237 (M2 := fun _ => False) rfl at_M_chooses ⟨_, rfl⟩ rfl rfl ⟨trivial, trivial, trivial, trivial, (Or.inr ⟨wy_pr rfl, fun q => q⟩), trivial, trivial, trivial, trivial⟩ trivial (fun _ _ q => False.elim q) (hrc) (fun oq35 Sq35 hp36 q35 => ?_)
              rcases q35 with ⟨ha35, hb35, hcz35, hf35⟩
              have hqx : ∀ (j : Nat) (x : Int), ¬ lhM j x → Sq35 j x = S j x := fun j x hj => (hf35 j x (lhM_cs hj)).trans (fb6 j x hj)
              have ewh : (if (FA T cs ms os c am 1 (wnW [115, 101, 116] W)) = [] then fd else rv) = rv := if_neg hFn
              have emn : (if (FA T cs ms os c am 1 (wnW [115, 101, 116] W)) = [] then 0 else 1 : Int) = 1 := if_neg hFn
              rw [ewh, emn]
              have e167 : Sq35 237 167 = c := (hf35 237 167 (by unfold csM chM; omega)).trans (((hf32 237 167 (by unfold tyM; omega)).trans ((hf22 237 167 (by unfold cdM; omega) (by unfold odM; omega)).trans ((hf20 237 167 (by unfold wtM; omega)).trans (w_up_same _ _ _ _)))))
              have e172 : Sq35 237 172 = 1 := (hf35 237 172 (by unfold csM chM; omega)).trans hmn32
              have hneg : rv ≠ -1 := fun z => hFn (hr1.mp z)
              by_cases crv : 0 ≤ rv
              · obtain ⟨z1, z2⟩ := ha35 crv
                subst z1
                show wJ _ _ _ _ _ _ _ _ _ _
                refine wa_goto ⟨_, rfl⟩ ?_
                refine wa_return rfl ?_
                exact ⟨fun _ => ⟨rfl, z2, e172⟩, fun z => absurd z (by omega), e167, hcz35, hqx⟩
              · obtain ⟨z1, z2, z3⟩ := hb35 (by omega)
                subst z1
                refine ⟨rfl, ?_⟩
                exact ⟨fun z => absurd z (by omega), fun _ => ⟨rfl, by rw [if_neg hneg]; exact z2, z3⟩, e167, hcz35, hqx⟩
        · skip
          exact absurd c18 (by omega)
      · skip
        exact absurd c16 (by omega)
    · skip
      exfalso; omega
  · skip
    refine wa_iconst ?_
    refine wa_goto ⟨_, rfl⟩ ?_
    refine wJ_top (show 1 = am by omega) ?_
    refine wa_istore (n := 4) rfl ?_
    refine wa_iload (n := 4) rfl ?_
    refine wa_ifeq (w_rg0 (by omega) (by omega)) ⟨_, rfl⟩ (fun c37 => ?_) (fun c37 => ?_)
    · skip
      exfalso; omega
    · skip
      have hgbc : gb = c := by omega
      refine wa_aload_n (n := 0) rfl ?_
      refine wb_gfl 237 rfl (wy_pr rfl) wt_237 wf_15_175 (v := gb) (h75) (fun r38 => ?_)
      refine wb_l2i_r (wb_l2i_id ⟨(by omega), (by omega)⟩) ?_
      refine wa_goto ⟨_, rfl⟩ ?_
      refine wJ_top (show gb = c by omega) ?_
      refine wa_istore (n := 5) rfl ?_
      refine wa_iload (n := 4) rfl ?_
      refine wa_ifeq (w_rg0 (by omega) (by omega)) ⟨_, rfl⟩ (fun c39 => ?_) (fun c39 => ?_)
      · skip
        exact absurd c39 (by omega)
      · skip
        refine wa_iconst ?_
        refine wa_goto ⟨_, rfl⟩ ?_
        refine wJ_top (show 1 = am by omega) ?_
        refine wa_istore (n := 6) rfl ?_
        refine wa_aload_n (n := 0) rfl ?_
        refine wa_iload (n := 5) rfl ?_
        refine wb_pfi 237 rfl (wy_pr rfl) wt_237 wf_15_167 (n := 167) rfl ⟨(by omega), (by omega)⟩ ?_
        refine wa_aload_n (n := 0) rfl ?_
        refine wb_gf4 237 rfl (wy_pr rfl) wt_237 wf_15_50 (v := 305) wl_237_50 ?_
        refine wa_iload_n (n := 1) rfl ?_
        refine wb_iald 305 rfl (wy_pr rfl) wt_305 (n := 4000) ((w_up_slot (by decide)).trans ((ml_305 hM))) (by omega) (by omega) (v := nms) ((w_up_slot (by decide)).trans (h05)) (fun r40 => ?_)
        refine wa_istore (n := 7) rfl ?_
        refine wa_iload_n (n := 2) rfl ?_
        refine wa_ifne (w_rg0 (by omega) (by omega)) ⟨_, rfl⟩ (fun c41 => ?_) (fun c41 => ?_)
        · skip
          refine wa_iload_n (n := 2) rfl ?_
          refine wa_iconst ?_
          refine wa_icmpne (w_rg0 (by omega) (by omega)) (w_rg0 (by omega) (by omega)) ⟨_, rfl⟩ (fun c42 => ?_) (fun c42 => ?_)
          · skip
            exact absurd c42 (by omega)
          · skip
            refine wa_aload_n (n := 0) rfl ?_
            refine wa_ks ?_
            refine wa_iload (n := 7) rfl ?_
            have fb7 : ∀ (j : Nat) (x : Int), ¬ lhM j x → (w_up S 237 167 c) j x = S j x := fun j x hj => (w_up_no (by unfold lhM at hj; omega))
            have hMb7 : w_ML (w_up S 237 167 c) := ML_w hM fb7 (fun j => lhM_1)
            have hKb7 : KR 241 T n cs ms (w_up S 237 167 c) := KR_ag hK (fun j x hj => fb7 j x (by unfold lhM; omega))
            refine wa_cv 237 rfl (wy_pr rfl) wt_237 (M2 := fun _ => False) rfl at_M_wants ⟨_, rfl⟩ rfl rfl ⟨trivial, trivial, trivial, trivial, (Or.inr ⟨wy_pr rfl, fun q => q⟩), trivial, trivial, trivial, trivial⟩ trivial (fun _ _ q => False.elim q) (rwt51 (S := (w_up S 237 167 c)) hX hMb7 hnm ((fb7 282 nms (by unfold lhM; omega)).trans h82) hWl (fun x hx => (fb7 281 _ (by unfold lhM; omega)).trans (h81 x hx))) (fun oq43 Sq43 hp44 q43 => ?_)
            rcases q43 with ⟨rfl, hw43, hf43⟩
            show wJ _ _ _ _ _ _ _ _ _ _
            have hq43 : ∀ (j : Nat) (x : Int), ¬ lhM j x → Sq43 j x = (w_up S 237 167 c) j x := fun j x hj => hf43 j x (lhM_wt hj)
            have fS43 : ∀ (j : Nat) (x : Int), ¬ lhM j x → Sq43 j x = S j x := fun j x hj => (hq43 j x hj).trans (fb7 j x hj)
            refine wa_aload_n (n := 0) rfl ?_
            refine wa_iload (n := 5) rfl ?_
            refine wa_iload (n := 4) rfl ?_
            refine wa_iconst ?_
            have fb8 : ∀ (j : Nat) (x : Int), ¬ lhM j x → Sq43 j x = S j x := fun j x hj => (fS43 j x hj)
            have hMb8 : w_ML Sq43 := ML_w hM fb8 (fun j => lhM_1)
            have hKb8 : KR 241 T n cs ms Sq43 := KR_ag hK (fun j x hj => fb8 j x (by unfold lhM; omega))
            refine wa_cv 237 rfl (wy_pr rfl) wt_237 (M2 := fun _ => False) rfl at_M_collects ⟨_, rfl⟩ rfl rfl ⟨trivial, trivial, trivial, trivial, (Or.inr ⟨wy_pr rfl, fun q => q⟩), trivial, trivial, trivial, trivial⟩ trivial (fun _ _ q => False.elim q) (rco_241 (S := Sq43) (c := c) (st := am) (pc := 1) (WW := (wnW [115, 101, 116] W)) hMb8 hKb8 hw hO hA hst (by omega) hw43 hc) (fun oq45 Sq45 hp46 q45 => ?_)
            rcases q45 with ⟨rfl, hcd45, hf45⟩
            show wJ _ _ _ _ _ _ _ _ _ _
            have hq45 : ∀ (j : Nat) (x : Int), ¬ lhM j x → Sq45 j x = Sq43 j x := fun j x hj => hf45 j x (lhM_cd hj) (lhM_od hj)
            have fS45 : ∀ (j : Nat) (x : Int), ¬ lhM j x → Sq45 j x = S j x := fun j x hj => (hq45 j x hj).trans (fb8 j x hj)
            rw [hFa] at hcd45
            have hcl45 := hcd45.2.2
            refine wa_aload_n (n := 0) rfl ?_
            refine wb_gfi 237 rfl (wy_pr rfl) wt_237 wf_15_128 (v := ((FA T cs ms os c am 1 (wnW [115, 101, 116] W)).length : Int)) (hcd45.1) (fun r47 => ?_)
            refine wa_ifle (w_rg0 (by omega) (by omega)) ⟨_, rfl⟩ (fun c48 => ?_) (fun c48 => ?_)
            · skip
              refine wa_aload_n (n := 0) rfl ?_
              refine wa_ks ?_
              refine wa_iload (n := 7) rfl ?_
              have fb9 : ∀ (j : Nat) (x : Int), ¬ lhM j x → Sq45 j x = S j x := fun j x hj => (fS45 j x hj)
              have hMb9 : w_ML Sq45 := ML_w hM fb9 (fun j => lhM_1)
              have hKb9 : KR 241 T n cs ms Sq45 := KR_ag hK (fun j x hj => fb9 j x (by unfold lhM; omega))
              refine wa_cv 237 rfl (wy_pr rfl) wt_237 (M2 := fun _ => False) rfl at_M_wants ⟨_, rfl⟩ rfl rfl ⟨trivial, trivial, trivial, trivial, (Or.inr ⟨wy_pr rfl, fun q => q⟩), trivial, trivial, trivial, trivial⟩ trivial (fun _ _ q => False.elim q) (rwt53 (S := Sq45) hX hMb9 hnm ((fb9 282 nms (by unfold lhM; omega)).trans h82) hWl (fun x hx => (fb9 281 _ (by unfold lhM; omega)).trans (h81 x hx))) (fun oq49 Sq49 hp50 q49 => ?_)
              rcases q49 with ⟨rfl, hw49, hf49⟩
              show wJ _ _ _ _ _ _ _ _ _ _
              have hq49 : ∀ (j : Nat) (x : Int), ¬ lhM j x → Sq49 j x = Sq45 j x := fun j x hj => hf49 j x (lhM_wt hj)
              have fS49 : ∀ (j : Nat) (x : Int), ¬ lhM j x → Sq49 j x = S j x := fun j x hj => (hq49 j x hj).trans (fb9 j x hj)
              refine wa_aload_n (n := 0) rfl ?_
              refine wa_aload_n (n := 0) rfl ?_
              refine wa_iload (n := 5) rfl ?_
              refine wa_iload (n := 6) rfl ?_
              have fb10 : ∀ (j : Nat) (x : Int), ¬ lhM j x → Sq49 j x = S j x := fun j x hj => (fS49 j x hj)
              have hMb10 : w_ML Sq49 := ML_w hM fb10 (fun j => lhM_1)
              have hKb10 : KR 241 T n cs ms Sq49 := KR_ag hK (fun j x hj => fb10 j x (by unfold lhM; omega))
              have hwn : wtI W Sq49 := by have z := hw49; rw [show wnW ([] : List Int) W = W from if_pos rfl] at z; exact z
              refine wa_cv 237 rfl (wy_pr rfl) wt_237 (M2 := fun _ => False) rfl at_M_field ⟨_, rfl⟩ rfl rfl ⟨trivial, trivial, trivial, trivial, (Or.inr ⟨wy_pr rfl, fun q => q⟩), trivial, trivial, trivial, trivial⟩ ⟨(Or.inr ⟨wy_pr rfl, fun q => q⟩), trivial⟩ (fun _ _ q => False.elim q) (wJ_mono (rfd_241 (S := Sq49) (c := c) (st := am) (WW := W) hMb10 hKb10 hw ⟨by omega, by omega⟩ hwn hc) (fun o Z hz => (⟨hz.1, by rw [hfd]; exact hz.2⟩ : Sq49 = Z ∧ o = .inl (some (0, fd))))) (fun oq51 Sq51 hp52 q51 => ?_)
              rcases q51 with ⟨rfl, rfl⟩
              show wJ _ _ _ _ _ _ _ _ _ _
              refine wb_pfi 237 rfl (wy_pr rfl) wt_237 wf_15_170 (n := 170) rfl ⟨(by omega), (by omega)⟩ ?_
              refine wa_aload_n (n := 0) rfl ?_
              refine wb_gfi 237 rfl (wy_pr rfl) wt_237 wf_15_170 (v := fd) (w_up_same _ _ _ _) (fun r53 => ?_)
              refine wa_ifge (w_rg0 (by omega) (by omega)) ⟨_, rfl⟩ (fun c54 => ?_) (fun c54 => ?_)
              · skip
                refine wa_return rfl ?_
                have hFe : (FA T cs ms os c am 1 (wnW [115, 101, 116] W)) = [] := hF4.mp (by omega)
                have ewh : (if (FA T cs ms os c am 1 (wnW [115, 101, 116] W)) = [] then fd else rv) = fd := if_pos hFe
                have emn : (if (FA T cs ms os c am 1 (wnW [115, 101, 116] W)) = [] then 0 else 1 : Int) = 0 := if_pos hFe
                have ech : chN CH wo mo (c, am, 1, (wnW [115, 101, 116] W), tl) (FA T cs ms os c am 1 (wnW [115, 101, 116] W)) = (CH, wo) := if_pos (Or.inl hFe)
                rw [ewh, emn]
                rw [ech]
                exact ⟨fun _ => ⟨rfl, (w_up_same _ _ _ _), ((w_up_no (by omega)).trans ((hf49 237 172 (by unfold wtM; omega)).trans ((hf45 237 172 (by unfold cdM; omega) (by unfold odM; omega)).trans ((hf43 237 172 (by unfold wtM; omega)).trans ((w_up_no (by omega)).trans (h172))))))⟩, fun z => absurd z (by omega), ((w_up_no (by omega)).trans ((hf49 237 167 (by unfold wtM; omega)).trans ((hf45 237 167 (by unfold cdM; omega) (by unfold odM; omega)).trans ((hf43 237 167 (by unfold wtM; omega)).trans (w_up_same _ _ _ _))))), rCh_ag hC (fun j x hj => ((w_up_no (by unfold chM at hj; omega)).trans ((hf49 j x (lh_id hj).1).trans ((hf45 j x (lh_id hj).2.1 (lh_id hj).2.2.1).trans ((hf43 j x (lh_id hj).1).trans (w_up_no (by unfold chM at hj; omega))))))), fun j x hj => ((w_up_no (by unfold lhM at hj; omega)).trans (fS49 j x hj))⟩
              · skip
                refine wa_aload_n (n := 0) rfl ?_
                refine wa_iconst ?_
                refine wa_cv 237 rfl (wy_pr rfl) wt_237 (M2 := fun _ => False) rfl at_M_error ⟨_, rfl⟩ rfl rfl ⟨trivial, trivial, trivial, trivial, (Or.inr ⟨wy_pr rfl, fun q => q⟩), trivial, trivial, trivial, trivial⟩ trivial (fun _ _ q => False.elim q) ?_ (fun _ _ _ q => q)
                refine wa_aload_n (n := 0) rfl ?_
                refine wb_gf4 237 rfl (wy_pr rfl) wt_237 wf_15_1 (v := 238) wl_237_1 ?_
                refine wa_iload_n (n := 1) rfl ?_
                refine wa_iconst ?_
                refine wa_cv 238 rfl (wy_pr rfl) wt_238 (M2 := fun _ => False) rfl at_MH_of ⟨_, rfl⟩ rfl rfl ⟨(Or.inr ⟨wy_pr rfl, fun q => q⟩), trivial, trivial⟩ trivial (fun _ _ q => False.elim q) ?_ (fun _ _ _ q => q)
                refine wa_aload_n (n := 0) rfl ?_
                refine wa_iload_n (n := 1) rfl ?_
                refine wb_pfi 238 rfl (wy_pr rfl) wt_238 wf_11_5 (n := 5) rfl ⟨(by omega), (by omega)⟩ ?_
                refine wa_aload_n (n := 0) rfl ?_
                refine wa_iload_n (n := 2) rfl ?_
                refine wb_pfi 238 rfl (wy_pr rfl) wt_238 wf_11_6 (n := 6) rfl ⟨(by omega), (by omega)⟩ ?_
                refine wa_aload_n (n := 0) rfl ?_
                refine wa_oreturn rfl ?_
                show wJ _ _ _ _ _ _ _ _ _ _
                refine wa_th (j := 238) ?_
                refine ⟨rfl, ?_⟩
                have hFe : (FA T cs ms os c am 1 (wnW [115, 101, 116] W)) = [] := hF4.mp (by omega)
                have ewh : (if (FA T cs ms os c am 1 (wnW [115, 101, 116] W)) = [] then fd else rv) = fd := if_pos hFe
                have emn : (if (FA T cs ms os c am 1 (wnW [115, 101, 116] W)) = [] then 0 else 1 : Int) = 0 := if_pos hFe
                have ech : chN CH wo mo (c, am, 1, (wnW [115, 101, 116] W), tl) (FA T cs ms os c am 1 (wnW [115, 101, 116] W)) = (CH, wo) := if_pos (Or.inl hFe)
                rw [ewh, emn]
                rw [ech]
                exact ⟨fun z => absurd z (by omega), fun _ => ⟨rfl, (((w_up_at (by first | decide | omega)).trans (w_up_same _ _ _ _)) : (w_up (w_up (w_up Sq49 237 170 fd) 238 5 4) 238 6 0) 238 5 = _).trans (if_pos (by omega)).symm, (w_up_same _ _ _ _)⟩, ((w_up_no (by omega)).trans ((w_up_no (by omega)).trans ((w_up_no (by omega)).trans ((hf49 237 167 (by unfold wtM; omega)).trans ((hf45 237 167 (by unfold cdM; omega) (by unfold odM; omega)).trans ((hf43 237 167 (by unfold wtM; omega)).trans (w_up_same _ _ _ _))))))), rCh_ag hC (fun j x hj => ((w_up_no (by unfold chM at hj; omega)).trans ((w_up_no (by unfold chM at hj; omega)).trans ((w_up_no (by unfold chM at hj; omega)).trans ((hf49 j x (lh_id hj).1).trans ((hf45 j x (lh_id hj).2.1 (lh_id hj).2.2.1).trans ((hf43 j x (lh_id hj).1).trans (w_up_no (by unfold chM at hj; omega))))))))), fun j x hj => ((w_up_no (by unfold lhM at hj; omega)).trans ((w_up_no (by unfold lhM at hj; omega)).trans ((w_up_no (by unfold lhM at hj; omega)).trans (fS49 j x hj))))⟩
            · skip
              refine wa_aload_n (n := 0) rfl ?_
              refine wa_iconst ?_
              have fb11 : ∀ (j : Nat) (x : Int), ¬ lhM j x → Sq45 j x = S j x := fun j x hj => (fS45 j x hj)
              have hMb11 : w_ML Sq45 := ML_w hM fb11 (fun j => lhM_1)
              have hKb11 : KR 241 T n cs ms Sq45 := KR_ag hK (fun j x hj => fb11 j x (by unfold lhM; omega))
              have hty1 := rty (xs := xs) (M := fun _ => False) (d := d + 64) (S := Sq45) (r := r) (tl := tl) hMb11 ((fb11 237 173 (by unfold lhM; omega)).trans h73) hr (rCl_a9 hcl (fun j x hj => fb11 j x (by unfold lhM; omega))) h8
              rw [show (tl.length : Int) = 1 by omega] at hty1
              refine wa_cv 237 rfl (wy_pr rfl) wt_237 (M2 := fun _ => False) rfl at_M_typesOfEs ⟨_, rfl⟩ rfl rfl ⟨trivial, trivial, trivial, trivial, (Or.inr ⟨wy_pr rfl, fun q => q⟩), trivial, trivial, trivial, trivial⟩ trivial (fun _ _ q => False.elim q) (hty1) (fun oq55 Sq55 hp56 q55 => ?_)
              rcases q55 with ⟨rfl, ht55, hmn55, hf55⟩
              show wJ _ _ _ _ _ _ _ _ _ _
              have hq55 : ∀ (j : Nat) (x : Int), ¬ lhM j x → Sq55 j x = Sq45 j x := fun j x hj => hf55 j x (lhM_ty hj)
              have fS55 : ∀ (j : Nat) (x : Int), ¬ lhM j x → Sq55 j x = S j x := fun j x hj => (hq55 j x hj).trans (fb11 j x hj)
              have hcd55 : cdI (FA T cs ms os c am 1 (wnW [115, 101, 116] W)) Sq55 := cdI_ag hcd45 (fun j x hj => hf55 j x (by unfold tyM; unfold cdM at hj; omega))
              have hnc55 : Sq55 355 0 = (FA T cs ms os c am 1 (wnW [115, 101, 116] W)).getD 0 (-1) := (hcd55.2.1 0 (by omega)).trans (by rw [List.getD_eq_getElem?_getD, List.getD_eq_getElem?_getD, List.getElem?_eq_getElem (show 0 < (FA T cs ms os c am 1 (wnW [115, 101, 116] W)).length by omega)]; rfl)
              refine wa_aload_n (n := 0) rfl ?_
              refine wa_iload (n := 5) rfl ?_
              refine wa_iload (n := 6) rfl ?_
              refine wa_iconst ?_
              refine wa_iadd ?_
              refine wa_aload_n (n := 0) rfl ?_
              refine wb_gf4 237 rfl (wy_pr rfl) wt_237 wf_15_129 (v := 355) wl_237_129 ?_
              refine wa_iconst ?_
              refine wb_iald 355 rfl (wy_pr rfl) wt_355 (n := 400) (((hq55 355 (-1) (by unfold lhM; omega)).trans (((hq45 355 (-1) (by unfold lhM; omega)).trans (((hq43 355 (-1) (by unfold lhM; omega)).trans ((w_up_slot (by decide)).trans ((ml_355 hM))))))))) (by omega) (by omega) (v := ((FA T cs ms os c am 1 (wnW [115, 101, 116] W)).getD 0 (-1))) (hnc55) (fun r57 => ?_)
              refine wa_iload_n (n := 3) rfl ?_
              have fb12 : ∀ (j : Nat) (x : Int), ¬ lhM j x → Sq55 j x = S j x := fun j x hj => (fS55 j x hj)
              have hMb12 : w_ML Sq55 := ML_w hM fb12 (fun j => lhM_1)
              have hKb12 : KR 241 T n cs ms Sq55 := KR_ag hK (fun j x hj => fb12 j x (by unfold lhM; omega))
              have hC58 : rCh T cs ms os N CH wo mo Sq55 := rCh_ag hC (fun j x hj => ((hf55 j x (lh_id hj).2.2.2.1).trans ((hf45 j x (lh_id hj).2.1 (lh_id hj).2.2.1).trans ((hf43 j x (lh_id hj).1).trans (w_up_no (lh_id hj).2.2.2.2)))))
              have hFn : (FA T cs ms os c am 1 (wnW [115, 101, 116] W)) ≠ [] := fun z => by have y := hF4.mpr z; omega
              have hqk : qRk T cs ms os N (c, am, 1, (wnW [115, 101, 116] W), tl) := ⟨hc, ⟨by show (0 : Int) ≤ am; omega, by show am ≤ (2 : Int); omega⟩, Or.inr rfl, (fun z => absurd z (by show ¬ am = 2; omega)), (fun _ z => absurd z (by show ¬ (1 : Int) = 0; decide)), h8, hFn⟩
              have hnb : -1 ≤ (FA T cs ms os c am 1 (wnW [115, 101, 116] W)).getD 0 (-1) ∧ (FA T cs ms os c am 1 (wnW [115, 101, 116] W)).getD 0 (-1) ≤ 4000 := by have z : (FA T cs ms os c am 1 (wnW [115, 101, 116] W)).getD 0 (-1) ∈ (FA T cs ms os c am 1 (wnW [115, 101, 116] W)) := (by rw [List.getD_eq_getElem?_getD, List.getElem?_eq_getElem (show 0 < (FA T cs ms os c am 1 (wnW [115, 101, 116] W)).length by omega)]; exact List.getElem_mem _); have y := hFm _ z; omega
              have hrc := rcs1_241 (xs := xs) (M := fun _ => False) (d := d + 59) (S := Sq55) (c := c) (am := am) (fs := 1) (md := (am + 4)) (nc := ((FA T cs ms os c am 1 (wnW [115, 101, 116] W)).getD 0 (-1))) (WW := (wnW [115, 101, 116] W)) (tl := tl) (F := (FA T cs ms os c am 1 (wnW [115, 101, 116] W))) hMb12 hKb12 hw hC58 ht55 hqk (by show _ = (if am = 2 then 2 else am + 4 * 1 : Int); rw [if_neg (by omega)]; omega) (by show _ = (if am = 2 then -1 else if (1 : Int) = 1 then (FA T cs ms os c am 1 (wnW [115, 101, 116] W)).getD 0 (-1) else _ : Int); rw [if_neg (by omega), if_pos rfl]) ⟨by omega, by omega⟩ ⟨by omega, by omega⟩ hes hty hcd55 hFm rfl hwo
              rw [← hrv] at hrc
              refine wa_cv 237 rfl (wy_pr rfl) wt_237 (M2 := fun _ => False) rfl at_M_chooses ⟨_, rfl⟩ rfl rfl ⟨trivial, trivial, trivial, trivial, (Or.inr ⟨wy_pr rfl, fun q => q⟩), trivial, trivial, trivial, trivial⟩ trivial (fun _ _ q => False.elim q) (hrc) (fun oq58 Sq58 hp59 q58 => ?_)
              rcases q58 with ⟨ha58, hb58, hcz58, hf58⟩
              have hqx : ∀ (j : Nat) (x : Int), ¬ lhM j x → Sq58 j x = S j x := fun j x hj => (hf58 j x (lhM_cs hj)).trans (fb12 j x hj)
              have ewh : (if (FA T cs ms os c am 1 (wnW [115, 101, 116] W)) = [] then fd else rv) = rv := if_neg hFn
              have emn : (if (FA T cs ms os c am 1 (wnW [115, 101, 116] W)) = [] then 0 else 1 : Int) = 1 := if_neg hFn
              rw [ewh, emn]
              have e167 : Sq58 237 167 = c := (hf58 237 167 (by unfold csM chM; omega)).trans (((hf55 237 167 (by unfold tyM; omega)).trans ((hf45 237 167 (by unfold cdM; omega) (by unfold odM; omega)).trans ((hf43 237 167 (by unfold wtM; omega)).trans (w_up_same _ _ _ _)))))
              have e172 : Sq58 237 172 = 1 := (hf58 237 172 (by unfold csM chM; omega)).trans hmn55
              have hneg : rv ≠ -1 := fun z => hFn (hr1.mp z)
              by_cases crv : 0 ≤ rv
              · obtain ⟨z1, z2⟩ := ha58 crv
                subst z1
                show wJ _ _ _ _ _ _ _ _ _ _
                refine wa_goto ⟨_, rfl⟩ ?_
                refine wa_return rfl ?_
                exact ⟨fun _ => ⟨rfl, z2, e172⟩, fun z => absurd z (by omega), e167, hcz58, hqx⟩
              · obtain ⟨z1, z2, z3⟩ := hb58 (by omega)
                subst z1
                refine ⟨rfl, ?_⟩
                exact ⟨fun z => absurd z (by omega), fun _ => ⟨rfl, by rw [if_neg hneg]; exact z2, z3⟩, e167, hcz58, hqx⟩
        · skip
          exact absurd c41 (by omega)
set_option maxHeartbeats 4000000 in
theorem lhs0_241 {s gk gb c am nms r ct : Int} {W tl : List Int} (hM : w_ML S) (hK : KR 241 T n cs ms S) (hw : wHo cs ms os) (hX : w_X xs) (hnm : 0 ≤ nms ∧ nms < 4000) (h82 : S 282 nms = (W.length : Int)) (hWl : W.length ≤ 60) (h81 : ∀ x : Nat, x < W.length → S 281 (60 * nms + (x : Int)) = W.getD x 0) (hO : wOs cs os) (hA : wAb cs) (hc : 0 ≤ c ∧ c < (cs.length : Int)) (hst : am = 0 ∨ am = 1) (hs : 0 ≤ s ∧ s < 4000) (h05 : S 305 s = nms) (h74 : S 237 174 = gk) (h75 : S 237 175 = gb) (hgk : (gk = 7 ∧ am = 0 ∧ (0 ≤ gb ∧ gb < 8000) ∧ S 321 gb = c) ∨ (gk = 8 ∧ am = 1 ∧ gb = c)) (h172 : S 237 172 = 0) (hC : rCh T cs ms os N CH wo mo S) (h73 : S 237 173 = r) (hr : 0 ≤ r ∧ r + 1 + (tl.length : Int) ≤ 4200) (hcl : rCl S r tl) (h8 : tl.length ≤ 8) (hes : esOk tl) (hty : ∀ c ∈ tl, c < 9 + (cs.length : Int)) (hwo : wo < 10000000) (htl1 : tl.length = 1) : wJ (pe_GA xs) wY0 M (d + 66) t_M_looksAtHost ((pe_at t_M_looksAtHost.bl 0).getD (0, [])).2 [(0, (2, 237)), (1, (0, s)), (2, (0, 1)), (3, (0, 0))] [] S (lrQ T cs ms os N CH wo mo c (if (FA T cs ms os c am 1 (wnW [115, 101, 116] W)) = [] then fdA T cs ms am W c else (rvA T cs ms os (c, am, 1, (wnW [115, 101, 116] W), tl))) (if (FA T cs ms os c am 1 (wnW [115, 101, 116] W)) = [] then 0 else 1) S) := by
  have h13 : S 237 13 = 241 := hK.1
  have h60 := hw.1
  have hFm := FA_v (T := T) (am := am) (fs := 1) (WW := (wnW [115, 101, 116] W)) hw hc
  obtain ⟨rv, hrv⟩ : ∃ r : Int, r = (rvA T cs ms os (c, am, 1, (wnW [115, 101, 116] W), tl)) := ⟨_, rfl⟩
  have hrr := rvA_rg (T := T) (q := (c, am, 1, (wnW [115, 101, 116] W), tl)) hw hc
  have hr1 := rv_m1 (T := T) (q := (c, am, 1, (wnW [115, 101, 116] W), tl)) hw hc
  rw [← hrv] at hrr hr1 ⊢
  replace hr1 : rv = -1 ↔ (FA T cs ms os c am 1 (wnW [115, 101, 116] W)) = [] := hr1
  have hF4 : (FA T cs ms os c am 1 (wnW [115, 101, 116] W)).length = 0 ↔ (FA T cs ms os c am 1 (wnW [115, 101, 116] W)) = [] := ⟨fun z => List.eq_nil_of_length_eq_zero z, fun z => by rw [z]; rfl⟩
  obtain ⟨fd, hfd⟩ : ∃ r : Int, r = fdA T cs ms am W c := ⟨_, rfl⟩
  have hfr := fdA_rg (T := T) (st := am) (W := W) hw hc
  rw [← hfd] at hfr ⊢
  have hFa : cdA ms (okM T ms 1 am 1 (wnW [115, 101, 116] W)) [] (mOr cs (os c)) = (FA T cs ms os c am 1 (wnW [115, 101, 116] W)) := by
    unfold FA
    rw [if_neg (show ¬ am = 2 by omega), if_neg (show ¬ am = 2 by omega), if_pos (show (1 : Int) = 1 from rfl), show (if am = 1 then 1 else 0 : Int) = am by split <;> omega]
  refine wa_aload_n (n := 0) rfl ?_
  refine wb_gfi 237 rfl (wy_pr rfl) wt_237 wf_15_174 (v := gk) (h74) (fun r11 => ?_)
  refine wa_bipush (w_rg2 (by omega) (by omega)) ?_
  refine wa_icmpne (w_rg0 (by omega) (by omega)) (w_rg0 (by omega) (by omega)) ⟨_, rfl⟩ (fun c12 => ?_) (fun c12 => ?_)
  · skip
    refine wa_iconst ?_
    refine wa_fall ⟨_, rfl⟩ ?_
    refine wJ_top (show 0 = am by omega) ?_
    refine wa_istore (n := 4) rfl ?_
    refine wa_iload (n := 4) rfl ?_
    refine wa_ifeq (w_rg0 (by omega) (by omega)) ⟨_, rfl⟩ (fun c13 => ?_) (fun c13 => ?_)
    · skip
      have h21 : S 321 gb = c := by rcases hgk with z | z; exact z.2.2.2; omega
      have hgb0 : 0 ≤ gb ∧ gb < 8000 := by omega
      refine wa_aload_n (n := 0) rfl ?_
      refine wb_gf4 237 rfl (wy_pr rfl) wt_237 wf_15_77 (v := 321) wl_237_77 ?_
      refine wa_aload_n (n := 0) rfl ?_
      refine wb_gfl 237 rfl (wy_pr rfl) wt_237 wf_15_175 (v := gb) (h75) (fun r14 => ?_)
      refine wb_l2i_r (wb_l2i_id ⟨(by omega), (by omega)⟩) ?_
      refine wb_iald 321 rfl (wy_pr rfl) wt_321 (n := 8000) ((ml_321 hM)) (by omega) (by omega) (v := c) (h21) (fun r15 => ?_)
      refine wa_fall ⟨_, rfl⟩ ?_
      refine wa_istore (n := 5) rfl ?_
      refine wa_iload (n := 4) rfl ?_
      refine wa_ifeq (w_rg0 (by omega) (by omega)) ⟨_, rfl⟩ (fun c16 => ?_) (fun c16 => ?_)
      · skip
        refine wa_iconst ?_
        refine wa_fall ⟨_, rfl⟩ ?_
        refine wJ_top (show 0 = am by omega) ?_
        refine wa_istore (n := 6) rfl ?_
        refine wa_aload_n (n := 0) rfl ?_
        refine wa_iload (n := 5) rfl ?_
        refine wb_pfi 237 rfl (wy_pr rfl) wt_237 wf_15_167 (n := 167) rfl ⟨(by omega), (by omega)⟩ ?_
        refine wa_aload_n (n := 0) rfl ?_
        refine wb_gf4 237 rfl (wy_pr rfl) wt_237 wf_15_50 (v := 305) wl_237_50 ?_
        refine wa_iload_n (n := 1) rfl ?_
        refine wb_iald 305 rfl (wy_pr rfl) wt_305 (n := 4000) ((w_up_slot (by decide)).trans ((ml_305 hM))) (by omega) (by omega) (v := nms) ((w_up_slot (by decide)).trans (h05)) (fun r17 => ?_)
        refine wa_istore (n := 7) rfl ?_
        refine wa_iload_n (n := 2) rfl ?_
        refine wa_ifne (w_rg0 (by omega) (by omega)) ⟨_, rfl⟩ (fun c18 => ?_) (fun c18 => ?_)
        · skip
          refine wa_iload_n (n := 2) rfl ?_
          refine wa_iconst ?_
          refine wa_icmpne (w_rg0 (by omega) (by omega)) (w_rg0 (by omega) (by omega)) ⟨_, rfl⟩ (fun c19 => ?_) (fun c19 => ?_)
          · skip
            exact absurd c19 (by omega)
          · skip
            refine wa_aload_n (n := 0) rfl ?_
            refine wa_ks ?_
            refine wa_iload (n := 7) rfl ?_
            have fb1 : ∀ (j : Nat) (x : Int), ¬ lhM j x → (w_up S 237 167 c) j x = S j x := fun j x hj => (w_up_no (by unfold lhM at hj; omega))
            have hMb1 : w_ML (w_up S 237 167 c) := ML_w hM fb1 (fun j => lhM_1)
            have hKb1 : KR 241 T n cs ms (w_up S 237 167 c) := KR_ag hK (fun j x hj => fb1 j x (by unfold lhM; omega))
            refine wa_cv 237 rfl (wy_pr rfl) wt_237 (M2 := fun _ => False) rfl at_M_wants ⟨_, rfl⟩ rfl rfl ⟨trivial, trivial, trivial, trivial, (Or.inr ⟨wy_pr rfl, fun q => q⟩), trivial, trivial, trivial, trivial⟩ trivial (fun _ _ q => False.elim q) (rwt51 (S := (w_up S 237 167 c)) hX hMb1 hnm ((fb1 282 nms (by unfold lhM; omega)).trans h82) hWl (fun x hx => (fb1 281 _ (by unfold lhM; omega)).trans (h81 x hx))) (fun oq20 Sq20 hp21 q20 => ?_)
            rcases q20 with ⟨rfl, hw20, hf20⟩
            show wJ _ _ _ _ _ _ _ _ _ _
            have hq20 : ∀ (j : Nat) (x : Int), ¬ lhM j x → Sq20 j x = (w_up S 237 167 c) j x := fun j x hj => hf20 j x (lhM_wt hj)
            have fS20 : ∀ (j : Nat) (x : Int), ¬ lhM j x → Sq20 j x = S j x := fun j x hj => (hq20 j x hj).trans (fb1 j x hj)
            refine wa_aload_n (n := 0) rfl ?_
            refine wa_iload (n := 5) rfl ?_
            refine wa_iload (n := 4) rfl ?_
            refine wa_iconst ?_
            have fb2 : ∀ (j : Nat) (x : Int), ¬ lhM j x → Sq20 j x = S j x := fun j x hj => (fS20 j x hj)
            have hMb2 : w_ML Sq20 := ML_w hM fb2 (fun j => lhM_1)
            have hKb2 : KR 241 T n cs ms Sq20 := KR_ag hK (fun j x hj => fb2 j x (by unfold lhM; omega))
            refine wa_cv 237 rfl (wy_pr rfl) wt_237 (M2 := fun _ => False) rfl at_M_collects ⟨_, rfl⟩ rfl rfl ⟨trivial, trivial, trivial, trivial, (Or.inr ⟨wy_pr rfl, fun q => q⟩), trivial, trivial, trivial, trivial⟩ trivial (fun _ _ q => False.elim q) (rco_241 (S := Sq20) (c := c) (st := am) (pc := 1) (WW := (wnW [115, 101, 116] W)) hMb2 hKb2 hw hO hA hst (by omega) hw20 hc) (fun oq22 Sq22 hp23 q22 => ?_)
            rcases q22 with ⟨rfl, hcd22, hf22⟩
            show wJ _ _ _ _ _ _ _ _ _ _
            have hq22 : ∀ (j : Nat) (x : Int), ¬ lhM j x → Sq22 j x = Sq20 j x := fun j x hj => hf22 j x (lhM_cd hj) (lhM_od hj)
            have fS22 : ∀ (j : Nat) (x : Int), ¬ lhM j x → Sq22 j x = S j x := fun j x hj => (hq22 j x hj).trans (fb2 j x hj)
            rw [hFa] at hcd22
            have hcl22 := hcd22.2.2
            refine wa_aload_n (n := 0) rfl ?_
            refine wb_gfi 237 rfl (wy_pr rfl) wt_237 wf_15_128 (v := ((FA T cs ms os c am 1 (wnW [115, 101, 116] W)).length : Int)) (hcd22.1) (fun r24 => ?_)
            refine wa_ifle (w_rg0 (by omega) (by omega)) ⟨_, rfl⟩ (fun c25 => ?_) (fun c25 => ?_)
            · skip
              refine wa_aload_n (n := 0) rfl ?_
              refine wa_ks ?_
              refine wa_iload (n := 7) rfl ?_
              have fb3 : ∀ (j : Nat) (x : Int), ¬ lhM j x → Sq22 j x = S j x := fun j x hj => (fS22 j x hj)
              have hMb3 : w_ML Sq22 := ML_w hM fb3 (fun j => lhM_1)
              have hKb3 : KR 241 T n cs ms Sq22 := KR_ag hK (fun j x hj => fb3 j x (by unfold lhM; omega))
              refine wa_cv 237 rfl (wy_pr rfl) wt_237 (M2 := fun _ => False) rfl at_M_wants ⟨_, rfl⟩ rfl rfl ⟨trivial, trivial, trivial, trivial, (Or.inr ⟨wy_pr rfl, fun q => q⟩), trivial, trivial, trivial, trivial⟩ trivial (fun _ _ q => False.elim q) (rwt53 (S := Sq22) hX hMb3 hnm ((fb3 282 nms (by unfold lhM; omega)).trans h82) hWl (fun x hx => (fb3 281 _ (by unfold lhM; omega)).trans (h81 x hx))) (fun oq26 Sq26 hp27 q26 => ?_)
              rcases q26 with ⟨rfl, hw26, hf26⟩
              show wJ _ _ _ _ _ _ _ _ _ _
              have hq26 : ∀ (j : Nat) (x : Int), ¬ lhM j x → Sq26 j x = Sq22 j x := fun j x hj => hf26 j x (lhM_wt hj)
              have fS26 : ∀ (j : Nat) (x : Int), ¬ lhM j x → Sq26 j x = S j x := fun j x hj => (hq26 j x hj).trans (fb3 j x hj)
              refine wa_aload_n (n := 0) rfl ?_
              refine wa_aload_n (n := 0) rfl ?_
              refine wa_iload (n := 5) rfl ?_
              refine wa_iload (n := 6) rfl ?_
              have fb4 : ∀ (j : Nat) (x : Int), ¬ lhM j x → Sq26 j x = S j x := fun j x hj => (fS26 j x hj)
              have hMb4 : w_ML Sq26 := ML_w hM fb4 (fun j => lhM_1)
              have hKb4 : KR 241 T n cs ms Sq26 := KR_ag hK (fun j x hj => fb4 j x (by unfold lhM; omega))
              have hwn : wtI W Sq26 := by have z := hw26; rw [show wnW ([] : List Int) W = W from if_pos rfl] at z; exact z
              refine wa_cv 237 rfl (wy_pr rfl) wt_237 (M2 := fun _ => False) rfl at_M_field ⟨_, rfl⟩ rfl rfl ⟨trivial, trivial, trivial, trivial, (Or.inr ⟨wy_pr rfl, fun q => q⟩), trivial, trivial, trivial, trivial⟩ ⟨(Or.inr ⟨wy_pr rfl, fun q => q⟩), trivial⟩ (fun _ _ q => False.elim q) (wJ_mono (rfd_241 (S := Sq26) (c := c) (st := am) (WW := W) hMb4 hKb4 hw ⟨by omega, by omega⟩ hwn hc) (fun o Z hz => (⟨hz.1, by rw [hfd]; exact hz.2⟩ : Sq26 = Z ∧ o = .inl (some (0, fd))))) (fun oq28 Sq28 hp29 q28 => ?_)
              rcases q28 with ⟨rfl, rfl⟩
              show wJ _ _ _ _ _ _ _ _ _ _
              refine wb_pfi 237 rfl (wy_pr rfl) wt_237 wf_15_170 (n := 170) rfl ⟨(by omega), (by omega)⟩ ?_
              refine wa_aload_n (n := 0) rfl ?_
              refine wb_gfi 237 rfl (wy_pr rfl) wt_237 wf_15_170 (v := fd) (w_up_same _ _ _ _) (fun r30 => ?_)
              refine wa_ifge (w_rg0 (by omega) (by omega)) ⟨_, rfl⟩ (fun c31 => ?_) (fun c31 => ?_)
              · skip
                refine wa_return rfl ?_
                have hFe : (FA T cs ms os c am 1 (wnW [115, 101, 116] W)) = [] := hF4.mp (by omega)
                have ewh : (if (FA T cs ms os c am 1 (wnW [115, 101, 116] W)) = [] then fd else rv) = fd := if_pos hFe
                have emn : (if (FA T cs ms os c am 1 (wnW [115, 101, 116] W)) = [] then 0 else 1 : Int) = 0 := if_pos hFe
                have ech : chN CH wo mo (c, am, 1, (wnW [115, 101, 116] W), tl) (FA T cs ms os c am 1 (wnW [115, 101, 116] W)) = (CH, wo) := if_pos (Or.inl hFe)
                rw [ewh, emn]
                exact ⟨fun _ => ⟨rfl, (w_up_same _ _ _ _), ((w_up_no (by omega)).trans ((hf26 237 172 (by unfold wtM; omega)).trans ((hf22 237 172 (by unfold cdM; omega) (by unfold odM; omega)).trans ((hf20 237 172 (by unfold wtM; omega)).trans ((w_up_no (by omega)).trans (h172))))))⟩, fun z => absurd z (by omega), ((w_up_no (by omega)).trans ((hf26 237 167 (by unfold wtM; omega)).trans ((hf22 237 167 (by unfold cdM; omega) (by unfold odM; omega)).trans ((hf20 237 167 (by unfold wtM; omega)).trans (w_up_same _ _ _ _))))), rCh_ag hC (fun j x hj => ((w_up_no (by unfold chM at hj; omega)).trans ((hf26 j x (lh_id hj).1).trans ((hf22 j x (lh_id hj).2.1 (lh_id hj).2.2.1).trans ((hf20 j x (lh_id hj).1).trans (w_up_no (by unfold chM at hj; omega))))))), fun j x hj => ((w_up_no (by unfold lhM at hj; omega)).trans (fS26 j x hj))⟩
              · skip
                refine wa_aload_n (n := 0) rfl ?_
                refine wa_iconst ?_
                refine wa_cv 237 rfl (wy_pr rfl) wt_237 (M2 := fun _ => False) rfl at_M_error ⟨_, rfl⟩ rfl rfl ⟨trivial, trivial, trivial, trivial, (Or.inr ⟨wy_pr rfl, fun q => q⟩), trivial, trivial, trivial, trivial⟩ trivial (fun _ _ q => False.elim q) ?_ (fun _ _ _ q => q)
                refine wa_aload_n (n := 0) rfl ?_
                refine wb_gf4 237 rfl (wy_pr rfl) wt_237 wf_15_1 (v := 238) wl_237_1 ?_
                refine wa_iload_n (n := 1) rfl ?_
                refine wa_iconst ?_
                refine wa_cv 238 rfl (wy_pr rfl) wt_238 (M2 := fun _ => False) rfl at_MH_of ⟨_, rfl⟩ rfl rfl ⟨(Or.inr ⟨wy_pr rfl, fun q => q⟩), trivial, trivial⟩ trivial (fun _ _ q => False.elim q) ?_ (fun _ _ _ q => q)
                refine wa_aload_n (n := 0) rfl ?_
                refine wa_iload_n (n := 1) rfl ?_
                refine wb_pfi 238 rfl (wy_pr rfl) wt_238 wf_11_5 (n := 5) rfl ⟨(by omega), (by omega)⟩ ?_
                refine wa_aload_n (n := 0) rfl ?_
                refine wa_iload_n (n := 2) rfl ?_
                refine wb_pfi 238 rfl (wy_pr rfl) wt_238 wf_11_6 (n := 6) rfl ⟨(by omega), (by omega)⟩ ?_
                refine wa_aload_n (n := 0) rfl ?_
                refine wa_oreturn rfl ?_
                show wJ _ _ _ _ _ _ _ _ _ _
                refine wa_th (j := 238) ?_
                refine ⟨rfl, ?_⟩
                have hFe : (FA T cs ms os c am 1 (wnW [115, 101, 116] W)) = [] := hF4.mp (by omega)
                have ewh : (if (FA T cs ms os c am 1 (wnW [115, 101, 116] W)) = [] then fd else rv) = fd := if_pos hFe
                have emn : (if (FA T cs ms os c am 1 (wnW [115, 101, 116] W)) = [] then 0 else 1 : Int) = 0 := if_pos hFe
                have ech : chN CH wo mo (c, am, 1, (wnW [115, 101, 116] W), tl) (FA T cs ms os c am 1 (wnW [115, 101, 116] W)) = (CH, wo) := if_pos (Or.inl hFe)
                rw [ewh, emn]
                exact ⟨fun z => absurd z (by omega), fun _ => ⟨rfl, (((w_up_at (by first | decide | omega)).trans (w_up_same _ _ _ _)) : (w_up (w_up (w_up Sq26 237 170 fd) 238 5 4) 238 6 0) 238 5 = _).trans (if_pos (by omega)).symm, (w_up_same _ _ _ _)⟩, ((w_up_no (by omega)).trans ((w_up_no (by omega)).trans ((w_up_no (by omega)).trans ((hf26 237 167 (by unfold wtM; omega)).trans ((hf22 237 167 (by unfold cdM; omega) (by unfold odM; omega)).trans ((hf20 237 167 (by unfold wtM; omega)).trans (w_up_same _ _ _ _))))))), rCh_ag hC (fun j x hj => ((w_up_no (by unfold chM at hj; omega)).trans ((w_up_no (by unfold chM at hj; omega)).trans ((w_up_no (by unfold chM at hj; omega)).trans ((hf26 j x (lh_id hj).1).trans ((hf22 j x (lh_id hj).2.1 (lh_id hj).2.2.1).trans ((hf20 j x (lh_id hj).1).trans (w_up_no (by unfold chM at hj; omega))))))))), fun j x hj => ((w_up_no (by unfold lhM at hj; omega)).trans ((w_up_no (by unfold lhM at hj; omega)).trans ((w_up_no (by unfold lhM at hj; omega)).trans (fS26 j x hj))))⟩
            · skip
              refine wa_aload_n (n := 0) rfl ?_
              refine wa_iconst ?_
              have fb5 : ∀ (j : Nat) (x : Int), ¬ lhM j x → Sq22 j x = S j x := fun j x hj => (fS22 j x hj)
              have hMb5 : w_ML Sq22 := ML_w hM fb5 (fun j => lhM_1)
              have hKb5 : KR 241 T n cs ms Sq22 := KR_ag hK (fun j x hj => fb5 j x (by unfold lhM; omega))
              have hty1 := rty (xs := xs) (M := fun _ => False) (d := d + 64) (S := Sq22) (r := r) (tl := tl) hMb5 ((fb5 237 173 (by unfold lhM; omega)).trans h73) hr (rCl_a9 hcl (fun j x hj => fb5 j x (by unfold lhM; omega))) h8
              rw [show (tl.length : Int) = 1 by omega] at hty1
              refine wa_cv 237 rfl (wy_pr rfl) wt_237 (M2 := fun _ => False) rfl at_M_typesOfEs ⟨_, rfl⟩ rfl rfl ⟨trivial, trivial, trivial, trivial, (Or.inr ⟨wy_pr rfl, fun q => q⟩), trivial, trivial, trivial, trivial⟩ trivial (fun _ _ q => False.elim q) (hty1) (fun oq32 Sq32 hp33 q32 => ?_)
              rcases q32 with ⟨rfl, ht32, hmn32, hf32⟩
              show wJ _ _ _ _ _ _ _ _ _ _
              have hq32 : ∀ (j : Nat) (x : Int), ¬ lhM j x → Sq32 j x = Sq22 j x := fun j x hj => hf32 j x (lhM_ty hj)
              have fS32 : ∀ (j : Nat) (x : Int), ¬ lhM j x → Sq32 j x = S j x := fun j x hj => (hq32 j x hj).trans (fb5 j x hj)
              have hcd32 : cdI (FA T cs ms os c am 1 (wnW [115, 101, 116] W)) Sq32 := cdI_ag hcd22 (fun j x hj => hf32 j x (by unfold tyM; unfold cdM at hj; omega))
              have hnc32 : Sq32 355 0 = (FA T cs ms os c am 1 (wnW [115, 101, 116] W)).getD 0 (-1) := (hcd32.2.1 0 (by omega)).trans (by rw [List.getD_eq_getElem?_getD, List.getD_eq_getElem?_getD, List.getElem?_eq_getElem (show 0 < (FA T cs ms os c am 1 (wnW [115, 101, 116] W)).length by omega)]; rfl)
              refine wa_aload_n (n := 0) rfl ?_
              refine wa_iload (n := 5) rfl ?_
              refine wa_iload (n := 6) rfl ?_
              refine wa_iconst ?_
              refine wa_iadd ?_
              refine wa_aload_n (n := 0) rfl ?_
              refine wb_gf4 237 rfl (wy_pr rfl) wt_237 wf_15_129 (v := 355) wl_237_129 ?_
              refine wa_iconst ?_
              refine wb_iald 355 rfl (wy_pr rfl) wt_355 (n := 400) (((hq32 355 (-1) (by unfold lhM; omega)).trans (((hq22 355 (-1) (by unfold lhM; omega)).trans (((hq20 355 (-1) (by unfold lhM; omega)).trans ((w_up_slot (by decide)).trans ((ml_355 hM))))))))) (by omega) (by omega) (v := ((FA T cs ms os c am 1 (wnW [115, 101, 116] W)).getD 0 (-1))) (hnc32) (fun r34 => ?_)
              refine wa_iload_n (n := 3) rfl ?_
              have fb6 : ∀ (j : Nat) (x : Int), ¬ lhM j x → Sq32 j x = S j x := fun j x hj => (fS32 j x hj)
              have hMb6 : w_ML Sq32 := ML_w hM fb6 (fun j => lhM_1)
              have hKb6 : KR 241 T n cs ms Sq32 := KR_ag hK (fun j x hj => fb6 j x (by unfold lhM; omega))
              have hC35 : rCh T cs ms os N CH wo mo Sq32 := rCh_ag hC (fun j x hj => ((hf32 j x (lh_id hj).2.2.2.1).trans ((hf22 j x (lh_id hj).2.1 (lh_id hj).2.2.1).trans ((hf20 j x (lh_id hj).1).trans (w_up_no (lh_id hj).2.2.2.2)))))
              have hFn : (FA T cs ms os c am 1 (wnW [115, 101, 116] W)) ≠ [] := fun z => by have y := hF4.mpr z; omega
              have hqk : qRk T cs ms os N (c, am, 1, (wnW [115, 101, 116] W), tl) := ⟨hc, ⟨by show (0 : Int) ≤ am; omega, by show am ≤ (2 : Int); omega⟩, Or.inr rfl, (fun z => absurd z (by show ¬ am = 2; omega)), (fun _ z => absurd z (by show ¬ (1 : Int) = 0; decide)), h8, hFn⟩
              have hnb : -1 ≤ (FA T cs ms os c am 1 (wnW [115, 101, 116] W)).getD 0 (-1) ∧ (FA T cs ms os c am 1 (wnW [115, 101, 116] W)).getD 0 (-1) ≤ 4000 := by have z : (FA T cs ms os c am 1 (wnW [115, 101, 116] W)).getD 0 (-1) ∈ (FA T cs ms os c am 1 (wnW [115, 101, 116] W)) := (by rw [List.getD_eq_getElem?_getD, List.getElem?_eq_getElem (show 0 < (FA T cs ms os c am 1 (wnW [115, 101, 116] W)).length by omega)]; exact List.getElem_mem _); have y := hFm _ z; omega
              have hrc := rcs0_241 (xs := xs) (M := fun _ => False) (d := d + 59) (S := Sq32) (c := c) (am := am) (fs := 1) (md := (am + 4)) (nc := ((FA T cs ms os c am 1 (wnW [115, 101, 116] W)).getD 0 (-1))) (WW := (wnW [115, 101, 116] W)) (tl := tl) (F := (FA T cs ms os c am 1 (wnW [115, 101, 116] W))) hMb6 hKb6 hw hC35 ht32 hqk (by show _ = (if am = 2 then 2 else am + 4 * 1 : Int); rw [if_neg (by omega)]; omega) (by show _ = (if am = 2 then -1 else if (1 : Int) = 1 then (FA T cs ms os c am 1 (wnW [115, 101, 116] W)).getD 0 (-1) else _ : Int); rw [if_neg (by omega), if_pos rfl]) ⟨by omega, by omega⟩ ⟨by omega, by omega⟩ hes hty hcd32 hFm rfl hwo
              rw [← hrv] at hrc
              refine wa_cv 237 rfl (wy_pr rfl) wt_237 (M2 := fun _ => False) rfl at_M_chooses ⟨_, rfl⟩ rfl rfl ⟨trivial, trivial, trivial, trivial, (Or.inr ⟨wy_pr rfl, fun q => q⟩), trivial, trivial, trivial, trivial⟩ trivial (fun _ _ q => False.elim q) (hrc) (fun oq35 Sq35 hp36 q35 => ?_)
              rcases q35 with ⟨ha35, hb35, hcz35, hf35⟩
              have hqx : ∀ (j : Nat) (x : Int), ¬ lhM j x → Sq35 j x = S j x := fun j x hj => (hf35 j x (lhM_cs hj)).trans (fb6 j x hj)
              have ewh : (if (FA T cs ms os c am 1 (wnW [115, 101, 116] W)) = [] then fd else rv) = rv := if_neg hFn
              have emn : (if (FA T cs ms os c am 1 (wnW [115, 101, 116] W)) = [] then 0 else 1 : Int) = 1 := if_neg hFn
              rw [ewh, emn]
              have e167 : Sq35 237 167 = c := (hf35 237 167 (by unfold csM chM; omega)).trans (((hf32 237 167 (by unfold tyM; omega)).trans ((hf22 237 167 (by unfold cdM; omega) (by unfold odM; omega)).trans ((hf20 237 167 (by unfold wtM; omega)).trans (w_up_same _ _ _ _)))))
              have e172 : Sq35 237 172 = 1 := (hf35 237 172 (by unfold csM chM; omega)).trans hmn32
              have hneg : rv ≠ -1 := fun z => hFn (hr1.mp z)
              by_cases crv : 0 ≤ rv
              · obtain ⟨z1, z2⟩ := ha35 crv
                subst z1
                show wJ _ _ _ _ _ _ _ _ _ _
                refine wa_goto ⟨_, rfl⟩ ?_
                refine wa_return rfl ?_
                exact ⟨fun _ => ⟨rfl, z2, e172⟩, fun z => absurd z (by omega), e167, hcz35, hqx⟩
              · obtain ⟨z1, z2, z3⟩ := hb35 (by omega)
                subst z1
                refine ⟨rfl, ?_⟩
                exact ⟨fun z => absurd z (by omega), fun _ => ⟨rfl, by rw [if_neg hneg]; exact z2, z3⟩, e167, hcz35, hqx⟩
        · skip
          exact absurd c18 (by omega)
      · skip
        exact absurd c16 (by omega)
    · skip
      exfalso; omega
  · skip
    refine wa_iconst ?_
    refine wa_goto ⟨_, rfl⟩ ?_
    refine wJ_top (show 1 = am by omega) ?_
    refine wa_istore (n := 4) rfl ?_
    refine wa_iload (n := 4) rfl ?_
    refine wa_ifeq (w_rg0 (by omega) (by omega)) ⟨_, rfl⟩ (fun c37 => ?_) (fun c37 => ?_)
    · skip
      exfalso; omega
    · skip
      have hgbc : gb = c := by omega
      refine wa_aload_n (n := 0) rfl ?_
      refine wb_gfl 237 rfl (wy_pr rfl) wt_237 wf_15_175 (v := gb) (h75) (fun r38 => ?_)
      refine wb_l2i_r (wb_l2i_id ⟨(by omega), (by omega)⟩) ?_
      refine wa_goto ⟨_, rfl⟩ ?_
      refine wJ_top (show gb = c by omega) ?_
      refine wa_istore (n := 5) rfl ?_
      refine wa_iload (n := 4) rfl ?_
      refine wa_ifeq (w_rg0 (by omega) (by omega)) ⟨_, rfl⟩ (fun c39 => ?_) (fun c39 => ?_)
      · skip
        exact absurd c39 (by omega)
      · skip
        refine wa_iconst ?_
        refine wa_goto ⟨_, rfl⟩ ?_
        refine wJ_top (show 1 = am by omega) ?_
        refine wa_istore (n := 6) rfl ?_
        refine wa_aload_n (n := 0) rfl ?_
        refine wa_iload (n := 5) rfl ?_
        refine wb_pfi 237 rfl (wy_pr rfl) wt_237 wf_15_167 (n := 167) rfl ⟨(by omega), (by omega)⟩ ?_
        refine wa_aload_n (n := 0) rfl ?_
        refine wb_gf4 237 rfl (wy_pr rfl) wt_237 wf_15_50 (v := 305) wl_237_50 ?_
        refine wa_iload_n (n := 1) rfl ?_
        refine wb_iald 305 rfl (wy_pr rfl) wt_305 (n := 4000) ((w_up_slot (by decide)).trans ((ml_305 hM))) (by omega) (by omega) (v := nms) ((w_up_slot (by decide)).trans (h05)) (fun r40 => ?_)
        refine wa_istore (n := 7) rfl ?_
        refine wa_iload_n (n := 2) rfl ?_
        refine wa_ifne (w_rg0 (by omega) (by omega)) ⟨_, rfl⟩ (fun c41 => ?_) (fun c41 => ?_)
        · skip
          refine wa_iload_n (n := 2) rfl ?_
          refine wa_iconst ?_
          refine wa_icmpne (w_rg0 (by omega) (by omega)) (w_rg0 (by omega) (by omega)) ⟨_, rfl⟩ (fun c42 => ?_) (fun c42 => ?_)
          · skip
            exact absurd c42 (by omega)
          · skip
            refine wa_aload_n (n := 0) rfl ?_
            refine wa_ks ?_
            refine wa_iload (n := 7) rfl ?_
            have fb7 : ∀ (j : Nat) (x : Int), ¬ lhM j x → (w_up S 237 167 c) j x = S j x := fun j x hj => (w_up_no (by unfold lhM at hj; omega))
            have hMb7 : w_ML (w_up S 237 167 c) := ML_w hM fb7 (fun j => lhM_1)
            have hKb7 : KR 241 T n cs ms (w_up S 237 167 c) := KR_ag hK (fun j x hj => fb7 j x (by unfold lhM; omega))
            refine wa_cv 237 rfl (wy_pr rfl) wt_237 (M2 := fun _ => False) rfl at_M_wants ⟨_, rfl⟩ rfl rfl ⟨trivial, trivial, trivial, trivial, (Or.inr ⟨wy_pr rfl, fun q => q⟩), trivial, trivial, trivial, trivial⟩ trivial (fun _ _ q => False.elim q) (rwt51 (S := (w_up S 237 167 c)) hX hMb7 hnm ((fb7 282 nms (by unfold lhM; omega)).trans h82) hWl (fun x hx => (fb7 281 _ (by unfold lhM; omega)).trans (h81 x hx))) (fun oq43 Sq43 hp44 q43 => ?_)
            rcases q43 with ⟨rfl, hw43, hf43⟩
            show wJ _ _ _ _ _ _ _ _ _ _
            have hq43 : ∀ (j : Nat) (x : Int), ¬ lhM j x → Sq43 j x = (w_up S 237 167 c) j x := fun j x hj => hf43 j x (lhM_wt hj)
            have fS43 : ∀ (j : Nat) (x : Int), ¬ lhM j x → Sq43 j x = S j x := fun j x hj => (hq43 j x hj).trans (fb7 j x hj)
            refine wa_aload_n (n := 0) rfl ?_
            refine wa_iload (n := 5) rfl ?_
            refine wa_iload (n := 4) rfl ?_
            refine wa_iconst ?_
            have fb8 : ∀ (j : Nat) (x : Int), ¬ lhM j x → Sq43 j x = S j x := fun j x hj => (fS43 j x hj)
            have hMb8 : w_ML Sq43 := ML_w hM fb8 (fun j => lhM_1)
            have hKb8 : KR 241 T n cs ms Sq43 := KR_ag hK (fun j x hj => fb8 j x (by unfold lhM; omega))
            refine wa_cv 237 rfl (wy_pr rfl) wt_237 (M2 := fun _ => False) rfl at_M_collects ⟨_, rfl⟩ rfl rfl ⟨trivial, trivial, trivial, trivial, (Or.inr ⟨wy_pr rfl, fun q => q⟩), trivial, trivial, trivial, trivial⟩ trivial (fun _ _ q => False.elim q) (rco_241 (S := Sq43) (c := c) (st := am) (pc := 1) (WW := (wnW [115, 101, 116] W)) hMb8 hKb8 hw hO hA hst (by omega) hw43 hc) (fun oq45 Sq45 hp46 q45 => ?_)
            rcases q45 with ⟨rfl, hcd45, hf45⟩
            show wJ _ _ _ _ _ _ _ _ _ _
            have hq45 : ∀ (j : Nat) (x : Int), ¬ lhM j x → Sq45 j x = Sq43 j x := fun j x hj => hf45 j x (lhM_cd hj) (lhM_od hj)
            have fS45 : ∀ (j : Nat) (x : Int), ¬ lhM j x → Sq45 j x = S j x := fun j x hj => (hq45 j x hj).trans (fb8 j x hj)
            rw [hFa] at hcd45
            have hcl45 := hcd45.2.2
            refine wa_aload_n (n := 0) rfl ?_
            refine wb_gfi 237 rfl (wy_pr rfl) wt_237 wf_15_128 (v := ((FA T cs ms os c am 1 (wnW [115, 101, 116] W)).length : Int)) (hcd45.1) (fun r47 => ?_)
            refine wa_ifle (w_rg0 (by omega) (by omega)) ⟨_, rfl⟩ (fun c48 => ?_) (fun c48 => ?_)
            · skip
              refine wa_aload_n (n := 0) rfl ?_
              refine wa_ks ?_
              refine wa_iload (n := 7) rfl ?_
              have fb9 : ∀ (j : Nat) (x : Int), ¬ lhM j x → Sq45 j x = S j x := fun j x hj => (fS45 j x hj)
              have hMb9 : w_ML Sq45 := ML_w hM fb9 (fun j => lhM_1)
              have hKb9 : KR 241 T n cs ms Sq45 := KR_ag hK (fun j x hj => fb9 j x (by unfold lhM; omega))
              refine wa_cv 237 rfl (wy_pr rfl) wt_237 (M2 := fun _ => False) rfl at_M_wants ⟨_, rfl⟩ rfl rfl ⟨trivial, trivial, trivial, trivial, (Or.inr ⟨wy_pr rfl, fun q => q⟩), trivial, trivial, trivial, trivial⟩ trivial (fun _ _ q => False.elim q) (rwt53 (S := Sq45) hX hMb9 hnm ((fb9 282 nms (by unfold lhM; omega)).trans h82) hWl (fun x hx => (fb9 281 _ (by unfold lhM; omega)).trans (h81 x hx))) (fun oq49 Sq49 hp50 q49 => ?_)
              rcases q49 with ⟨rfl, hw49, hf49⟩
              show wJ _ _ _ _ _ _ _ _ _ _
              have hq49 : ∀ (j : Nat) (x : Int), ¬ lhM j x → Sq49 j x = Sq45 j x := fun j x hj => hf49 j x (lhM_wt hj)
              have fS49 : ∀ (j : Nat) (x : Int), ¬ lhM j x → Sq49 j x = S j x := fun j x hj => (hq49 j x hj).trans (fb9 j x hj)
              refine wa_aload_n (n := 0) rfl ?_
              refine wa_aload_n (n := 0) rfl ?_
              refine wa_iload (n := 5) rfl ?_
              refine wa_iload (n := 6) rfl ?_
              have fb10 : ∀ (j : Nat) (x : Int), ¬ lhM j x → Sq49 j x = S j x := fun j x hj => (fS49 j x hj)
              have hMb10 : w_ML Sq49 := ML_w hM fb10 (fun j => lhM_1)
              have hKb10 : KR 241 T n cs ms Sq49 := KR_ag hK (fun j x hj => fb10 j x (by unfold lhM; omega))
              have hwn : wtI W Sq49 := by have z := hw49; rw [show wnW ([] : List Int) W = W from if_pos rfl] at z; exact z
              refine wa_cv 237 rfl (wy_pr rfl) wt_237 (M2 := fun _ => False) rfl at_M_field ⟨_, rfl⟩ rfl rfl ⟨trivial, trivial, trivial, trivial, (Or.inr ⟨wy_pr rfl, fun q => q⟩), trivial, trivial, trivial, trivial⟩ ⟨(Or.inr ⟨wy_pr rfl, fun q => q⟩), trivial⟩ (fun _ _ q => False.elim q) (wJ_mono (rfd_241 (S := Sq49) (c := c) (st := am) (WW := W) hMb10 hKb10 hw ⟨by omega, by omega⟩ hwn hc) (fun o Z hz => (⟨hz.1, by rw [hfd]; exact hz.2⟩ : Sq49 = Z ∧ o = .inl (some (0, fd))))) (fun oq51 Sq51 hp52 q51 => ?_)
              rcases q51 with ⟨rfl, rfl⟩
              show wJ _ _ _ _ _ _ _ _ _ _
              refine wb_pfi 237 rfl (wy_pr rfl) wt_237 wf_15_170 (n := 170) rfl ⟨(by omega), (by omega)⟩ ?_
              refine wa_aload_n (n := 0) rfl ?_
              refine wb_gfi 237 rfl (wy_pr rfl) wt_237 wf_15_170 (v := fd) (w_up_same _ _ _ _) (fun r53 => ?_)
              refine wa_ifge (w_rg0 (by omega) (by omega)) ⟨_, rfl⟩ (fun c54 => ?_) (fun c54 => ?_)
              · skip
                refine wa_return rfl ?_
                have hFe : (FA T cs ms os c am 1 (wnW [115, 101, 116] W)) = [] := hF4.mp (by omega)
                have ewh : (if (FA T cs ms os c am 1 (wnW [115, 101, 116] W)) = [] then fd else rv) = fd := if_pos hFe
                have emn : (if (FA T cs ms os c am 1 (wnW [115, 101, 116] W)) = [] then 0 else 1 : Int) = 0 := if_pos hFe
                have ech : chN CH wo mo (c, am, 1, (wnW [115, 101, 116] W), tl) (FA T cs ms os c am 1 (wnW [115, 101, 116] W)) = (CH, wo) := if_pos (Or.inl hFe)
                rw [ewh, emn]
                exact ⟨fun _ => ⟨rfl, (w_up_same _ _ _ _), ((w_up_no (by omega)).trans ((hf49 237 172 (by unfold wtM; omega)).trans ((hf45 237 172 (by unfold cdM; omega) (by unfold odM; omega)).trans ((hf43 237 172 (by unfold wtM; omega)).trans ((w_up_no (by omega)).trans (h172))))))⟩, fun z => absurd z (by omega), ((w_up_no (by omega)).trans ((hf49 237 167 (by unfold wtM; omega)).trans ((hf45 237 167 (by unfold cdM; omega) (by unfold odM; omega)).trans ((hf43 237 167 (by unfold wtM; omega)).trans (w_up_same _ _ _ _))))), rCh_ag hC (fun j x hj => ((w_up_no (by unfold chM at hj; omega)).trans ((hf49 j x (lh_id hj).1).trans ((hf45 j x (lh_id hj).2.1 (lh_id hj).2.2.1).trans ((hf43 j x (lh_id hj).1).trans (w_up_no (by unfold chM at hj; omega))))))), fun j x hj => ((w_up_no (by unfold lhM at hj; omega)).trans (fS49 j x hj))⟩
              · skip
                refine wa_aload_n (n := 0) rfl ?_
                refine wa_iconst ?_
                refine wa_cv 237 rfl (wy_pr rfl) wt_237 (M2 := fun _ => False) rfl at_M_error ⟨_, rfl⟩ rfl rfl ⟨trivial, trivial, trivial, trivial, (Or.inr ⟨wy_pr rfl, fun q => q⟩), trivial, trivial, trivial, trivial⟩ trivial (fun _ _ q => False.elim q) ?_ (fun _ _ _ q => q)
                refine wa_aload_n (n := 0) rfl ?_
                refine wb_gf4 237 rfl (wy_pr rfl) wt_237 wf_15_1 (v := 238) wl_237_1 ?_
                refine wa_iload_n (n := 1) rfl ?_
                refine wa_iconst ?_
                refine wa_cv 238 rfl (wy_pr rfl) wt_238 (M2 := fun _ => False) rfl at_MH_of ⟨_, rfl⟩ rfl rfl ⟨(Or.inr ⟨wy_pr rfl, fun q => q⟩), trivial, trivial⟩ trivial (fun _ _ q => False.elim q) ?_ (fun _ _ _ q => q)
                refine wa_aload_n (n := 0) rfl ?_
                refine wa_iload_n (n := 1) rfl ?_
                refine wb_pfi 238 rfl (wy_pr rfl) wt_238 wf_11_5 (n := 5) rfl ⟨(by omega), (by omega)⟩ ?_
                refine wa_aload_n (n := 0) rfl ?_
                refine wa_iload_n (n := 2) rfl ?_
                refine wb_pfi 238 rfl (wy_pr rfl) wt_238 wf_11_6 (n := 6) rfl ⟨(by omega), (by omega)⟩ ?_
                refine wa_aload_n (n := 0) rfl ?_
                refine wa_oreturn rfl ?_
                show wJ _ _ _ _ _ _ _ _ _ _
                refine wa_th (j := 238) ?_
                refine ⟨rfl, ?_⟩
                have hFe : (FA T cs ms os c am 1 (wnW [115, 101, 116] W)) = [] := hF4.mp (by omega)
                have ewh : (if (FA T cs ms os c am 1 (wnW [115, 101, 116] W)) = [] then fd else rv) = fd := if_pos hFe
                have emn : (if (FA T cs ms os c am 1 (wnW [115, 101, 116] W)) = [] then 0 else 1 : Int) = 0 := if_pos hFe
                have ech : chN CH wo mo (c, am, 1, (wnW [115, 101, 116] W), tl) (FA T cs ms os c am 1 (wnW [115, 101, 116] W)) = (CH, wo) := if_pos (Or.inl hFe)
                rw [ewh, emn]
                exact ⟨fun z => absurd z (by omega), fun _ => ⟨rfl, (((w_up_at (by first | decide | omega)).trans (w_up_same _ _ _ _)) : (w_up (w_up (w_up Sq49 237 170 fd) 238 5 4) 238 6 0) 238 5 = _).trans (if_pos (by omega)).symm, (w_up_same _ _ _ _)⟩, ((w_up_no (by omega)).trans ((w_up_no (by omega)).trans ((w_up_no (by omega)).trans ((hf49 237 167 (by unfold wtM; omega)).trans ((hf45 237 167 (by unfold cdM; omega) (by unfold odM; omega)).trans ((hf43 237 167 (by unfold wtM; omega)).trans (w_up_same _ _ _ _))))))), rCh_ag hC (fun j x hj => ((w_up_no (by unfold chM at hj; omega)).trans ((w_up_no (by unfold chM at hj; omega)).trans ((w_up_no (by unfold chM at hj; omega)).trans ((hf49 j x (lh_id hj).1).trans ((hf45 j x (lh_id hj).2.1 (lh_id hj).2.2.1).trans ((hf43 j x (lh_id hj).1).trans (w_up_no (by unfold chM at hj; omega))))))))), fun j x hj => ((w_up_no (by unfold lhM at hj; omega)).trans ((w_up_no (by unfold lhM at hj; omega)).trans ((w_up_no (by unfold lhM at hj; omega)).trans (fS49 j x hj))))⟩
            · skip
              refine wa_aload_n (n := 0) rfl ?_
              refine wa_iconst ?_
              have fb11 : ∀ (j : Nat) (x : Int), ¬ lhM j x → Sq45 j x = S j x := fun j x hj => (fS45 j x hj)
              have hMb11 : w_ML Sq45 := ML_w hM fb11 (fun j => lhM_1)
              have hKb11 : KR 241 T n cs ms Sq45 := KR_ag hK (fun j x hj => fb11 j x (by unfold lhM; omega))
              have hty1 := rty (xs := xs) (M := fun _ => False) (d := d + 64) (S := Sq45) (r := r) (tl := tl) hMb11 ((fb11 237 173 (by unfold lhM; omega)).trans h73) hr (rCl_a9 hcl (fun j x hj => fb11 j x (by unfold lhM; omega))) h8
              rw [show (tl.length : Int) = 1 by omega] at hty1
              refine wa_cv 237 rfl (wy_pr rfl) wt_237 (M2 := fun _ => False) rfl at_M_typesOfEs ⟨_, rfl⟩ rfl rfl ⟨trivial, trivial, trivial, trivial, (Or.inr ⟨wy_pr rfl, fun q => q⟩), trivial, trivial, trivial, trivial⟩ trivial (fun _ _ q => False.elim q) (hty1) (fun oq55 Sq55 hp56 q55 => ?_)
              rcases q55 with ⟨rfl, ht55, hmn55, hf55⟩
              show wJ _ _ _ _ _ _ _ _ _ _
              have hq55 : ∀ (j : Nat) (x : Int), ¬ lhM j x → Sq55 j x = Sq45 j x := fun j x hj => hf55 j x (lhM_ty hj)
              have fS55 : ∀ (j : Nat) (x : Int), ¬ lhM j x → Sq55 j x = S j x := fun j x hj => (hq55 j x hj).trans (fb11 j x hj)
              have hcd55 : cdI (FA T cs ms os c am 1 (wnW [115, 101, 116] W)) Sq55 := cdI_ag hcd45 (fun j x hj => hf55 j x (by unfold tyM; unfold cdM at hj; omega))
              have hnc55 : Sq55 355 0 = (FA T cs ms os c am 1 (wnW [115, 101, 116] W)).getD 0 (-1) := (hcd55.2.1 0 (by omega)).trans (by rw [List.getD_eq_getElem?_getD, List.getD_eq_getElem?_getD, List.getElem?_eq_getElem (show 0 < (FA T cs ms os c am 1 (wnW [115, 101, 116] W)).length by omega)]; rfl)
              refine wa_aload_n (n := 0) rfl ?_
              refine wa_iload (n := 5) rfl ?_
              refine wa_iload (n := 6) rfl ?_
              refine wa_iconst ?_
              refine wa_iadd ?_
              refine wa_aload_n (n := 0) rfl ?_
              refine wb_gf4 237 rfl (wy_pr rfl) wt_237 wf_15_129 (v := 355) wl_237_129 ?_
              refine wa_iconst ?_
              refine wb_iald 355 rfl (wy_pr rfl) wt_355 (n := 400) (((hq55 355 (-1) (by unfold lhM; omega)).trans (((hq45 355 (-1) (by unfold lhM; omega)).trans (((hq43 355 (-1) (by unfold lhM; omega)).trans ((w_up_slot (by decide)).trans ((ml_355 hM))))))))) (by omega) (by omega) (v := ((FA T cs ms os c am 1 (wnW [115, 101, 116] W)).getD 0 (-1))) (hnc55) (fun r57 => ?_)
              refine wa_iload_n (n := 3) rfl ?_
              have fb12 : ∀ (j : Nat) (x : Int), ¬ lhM j x → Sq55 j x = S j x := fun j x hj => (fS55 j x hj)
              have hMb12 : w_ML Sq55 := ML_w hM fb12 (fun j => lhM_1)
              have hKb12 : KR 241 T n cs ms Sq55 := KR_ag hK (fun j x hj => fb12 j x (by unfold lhM; omega))
              have hC58 : rCh T cs ms os N CH wo mo Sq55 := rCh_ag hC (fun j x hj => ((hf55 j x (lh_id hj).2.2.2.1).trans ((hf45 j x (lh_id hj).2.1 (lh_id hj).2.2.1).trans ((hf43 j x (lh_id hj).1).trans (w_up_no (lh_id hj).2.2.2.2)))))
              have hFn : (FA T cs ms os c am 1 (wnW [115, 101, 116] W)) ≠ [] := fun z => by have y := hF4.mpr z; omega
              have hqk : qRk T cs ms os N (c, am, 1, (wnW [115, 101, 116] W), tl) := ⟨hc, ⟨by show (0 : Int) ≤ am; omega, by show am ≤ (2 : Int); omega⟩, Or.inr rfl, (fun z => absurd z (by show ¬ am = 2; omega)), (fun _ z => absurd z (by show ¬ (1 : Int) = 0; decide)), h8, hFn⟩
              have hnb : -1 ≤ (FA T cs ms os c am 1 (wnW [115, 101, 116] W)).getD 0 (-1) ∧ (FA T cs ms os c am 1 (wnW [115, 101, 116] W)).getD 0 (-1) ≤ 4000 := by have z : (FA T cs ms os c am 1 (wnW [115, 101, 116] W)).getD 0 (-1) ∈ (FA T cs ms os c am 1 (wnW [115, 101, 116] W)) := (by rw [List.getD_eq_getElem?_getD, List.getElem?_eq_getElem (show 0 < (FA T cs ms os c am 1 (wnW [115, 101, 116] W)).length by omega)]; exact List.getElem_mem _); have y := hFm _ z; omega
              have hrc := rcs0_241 (xs := xs) (M := fun _ => False) (d := d + 59) (S := Sq55) (c := c) (am := am) (fs := 1) (md := (am + 4)) (nc := ((FA T cs ms os c am 1 (wnW [115, 101, 116] W)).getD 0 (-1))) (WW := (wnW [115, 101, 116] W)) (tl := tl) (F := (FA T cs ms os c am 1 (wnW [115, 101, 116] W))) hMb12 hKb12 hw hC58 ht55 hqk (by show _ = (if am = 2 then 2 else am + 4 * 1 : Int); rw [if_neg (by omega)]; omega) (by show _ = (if am = 2 then -1 else if (1 : Int) = 1 then (FA T cs ms os c am 1 (wnW [115, 101, 116] W)).getD 0 (-1) else _ : Int); rw [if_neg (by omega), if_pos rfl]) ⟨by omega, by omega⟩ ⟨by omega, by omega⟩ hes hty hcd55 hFm rfl hwo
              rw [← hrv] at hrc
              refine wa_cv 237 rfl (wy_pr rfl) wt_237 (M2 := fun _ => False) rfl at_M_chooses ⟨_, rfl⟩ rfl rfl ⟨trivial, trivial, trivial, trivial, (Or.inr ⟨wy_pr rfl, fun q => q⟩), trivial, trivial, trivial, trivial⟩ trivial (fun _ _ q => False.elim q) (hrc) (fun oq58 Sq58 hp59 q58 => ?_)
              rcases q58 with ⟨ha58, hb58, hcz58, hf58⟩
              have hqx : ∀ (j : Nat) (x : Int), ¬ lhM j x → Sq58 j x = S j x := fun j x hj => (hf58 j x (lhM_cs hj)).trans (fb12 j x hj)
              have ewh : (if (FA T cs ms os c am 1 (wnW [115, 101, 116] W)) = [] then fd else rv) = rv := if_neg hFn
              have emn : (if (FA T cs ms os c am 1 (wnW [115, 101, 116] W)) = [] then 0 else 1 : Int) = 1 := if_neg hFn
              rw [ewh, emn]
              have e167 : Sq58 237 167 = c := (hf58 237 167 (by unfold csM chM; omega)).trans (((hf55 237 167 (by unfold tyM; omega)).trans ((hf45 237 167 (by unfold cdM; omega) (by unfold odM; omega)).trans ((hf43 237 167 (by unfold wtM; omega)).trans (w_up_same _ _ _ _)))))
              have e172 : Sq58 237 172 = 1 := (hf58 237 172 (by unfold csM chM; omega)).trans hmn55
              have hneg : rv ≠ -1 := fun z => hFn (hr1.mp z)
              by_cases crv : 0 ≤ rv
              · obtain ⟨z1, z2⟩ := ha58 crv
                subst z1
                show wJ _ _ _ _ _ _ _ _ _ _
                refine wa_goto ⟨_, rfl⟩ ?_
                refine wa_return rfl ?_
                exact ⟨fun _ => ⟨rfl, z2, e172⟩, fun z => absurd z (by omega), e167, hcz58, hqx⟩
              · obtain ⟨z1, z2, z3⟩ := hb58 (by omega)
                subst z1
                refine ⟨rfl, ?_⟩
                exact ⟨fun z => absurd z (by omega), fun _ => ⟨rfl, by rw [if_neg hneg]; exact z2, z3⟩, e167, hcz58, hqx⟩
        · skip
          exact absurd c41 (by omega)
set_option maxHeartbeats 4000000 in
theorem lhm1_241 {s gk gb c am nms r ct : Int} {W tl : List Int} (hM : w_ML S) (hK : KR 241 T n cs ms S) (hw : wHo cs ms os) (hX : w_X xs) (hnm : 0 ≤ nms ∧ nms < 4000) (h82 : S 282 nms = (W.length : Int)) (hWl : W.length ≤ 60) (h81 : ∀ x : Nat, x < W.length → S 281 (60 * nms + (x : Int)) = W.getD x 0) (hO : wOs cs os) (hA : wAb cs) (hc : 0 ≤ c ∧ c < (cs.length : Int)) (hst : am = 0 ∨ am = 1) (hs : 0 ≤ s ∧ s < 4000) (h05 : S 305 s = nms) (h74 : S 237 174 = gk) (h75 : S 237 175 = gb) (hgk : (gk = 7 ∧ am = 0 ∧ (0 ≤ gb ∧ gb < 8000) ∧ S 321 gb = c) ∨ (gk = 8 ∧ am = 1 ∧ gb = c)) (h172 : S 237 172 = 0) (hC : rCh T cs ms os N CH wo mo S) (h73 : S 237 173 = r) (hr : 0 ≤ r ∧ r + 1 + (tl.length : Int) ≤ 4200) (hcl : rCl S r tl) (h8 : tl.length ≤ 8) (hes : esOk tl) (hty : ∀ c ∈ tl, c < 9 + (cs.length : Int)) (hwo : wo < 10000000) (h06 : S 306 s = (tl.length : Int)) (hWN : W ∈ N) (hix : ixL N W = nms) : wJ (pe_GA xs) wY0 M (d + 66) t_M_looksAtHost ((pe_at t_M_looksAtHost.bl 0).getD (0, [])).2 [(0, (2, 237)), (1, (0, s)), (2, (0, 5)), (3, (0, 1))] [] S (lrQ T cs ms os N (chN CH wo mo (c, am, 0, (wnW ([] : List Int) W), tl) (FA T cs ms os c am 0 (wnW ([] : List Int) W))).1 (chN CH wo mo (c, am, 0, (wnW ([] : List Int) W), tl) (FA T cs ms os c am 0 (wnW ([] : List Int) W))).2 mo c (rvA T cs ms os (c, am, 0, (wnW ([] : List Int) W), tl)) (tl.length : Int) S) := by
  have h13 : S 237 13 = 241 := hK.1
  have h60 := hw.1
  have hFm := FA_v (T := T) (am := am) (fs := 0) (WW := (wnW ([] : List Int) W)) hw hc
  obtain ⟨rv, hrv⟩ : ∃ r : Int, r = (rvA T cs ms os (c, am, 0, (wnW ([] : List Int) W), tl)) := ⟨_, rfl⟩
  have hrr := rvA_rg (T := T) (q := (c, am, 0, (wnW ([] : List Int) W), tl)) hw hc
  have hr1 := rv_m1 (T := T) (q := (c, am, 0, (wnW ([] : List Int) W), tl)) hw hc
  rw [← hrv] at hrr hr1 ⊢
  replace hr1 : rv = -1 ↔ (FA T cs ms os c am 0 (wnW ([] : List Int) W)) = [] := hr1
  have hF4 : (FA T cs ms os c am 0 (wnW ([] : List Int) W)).length = 0 ↔ (FA T cs ms os c am 0 (wnW ([] : List Int) W)) = [] := ⟨fun z => List.eq_nil_of_length_eq_zero z, fun z => by rw [z]; rfl⟩
  have hFa : cdA ms (okM T ms 1 am (-1) (wnW ([] : List Int) W)) [] (mOr cs (os c)) = (FA T cs ms os c am 0 (wnW ([] : List Int) W)) := by
    unfold FA
    rw [if_neg (show ¬ am = 2 by omega), if_neg (show ¬ am = 2 by omega), if_neg (show ¬ (0 : Int) = 1 by decide), show (if am = 1 then 1 else 0 : Int) = am by split <;> omega]
  refine wa_aload_n (n := 0) rfl ?_
  refine wb_gfi 237 rfl (wy_pr rfl) wt_237 wf_15_174 (v := gk) (h74) (fun r11 => ?_)
  refine wa_bipush (w_rg2 (by omega) (by omega)) ?_
  refine wa_icmpne (w_rg0 (by omega) (by omega)) (w_rg0 (by omega) (by omega)) ⟨_, rfl⟩ (fun c12 => ?_) (fun c12 => ?_)
  · skip
    refine wa_iconst ?_
    refine wa_fall ⟨_, rfl⟩ ?_
    refine wJ_top (show 0 = am by omega) ?_
    refine wa_istore (n := 4) rfl ?_
    refine wa_iload (n := 4) rfl ?_
    refine wa_ifeq (w_rg0 (by omega) (by omega)) ⟨_, rfl⟩ (fun c13 => ?_) (fun c13 => ?_)
    · skip
      have h21 : S 321 gb = c := by rcases hgk with z | z; exact z.2.2.2; omega
      have hgb0 : 0 ≤ gb ∧ gb < 8000 := by omega
      refine wa_aload_n (n := 0) rfl ?_
      refine wb_gf4 237 rfl (wy_pr rfl) wt_237 wf_15_77 (v := 321) wl_237_77 ?_
      refine wa_aload_n (n := 0) rfl ?_
      refine wb_gfl 237 rfl (wy_pr rfl) wt_237 wf_15_175 (v := gb) (h75) (fun r14 => ?_)
      refine wb_l2i_r (wb_l2i_id ⟨(by omega), (by omega)⟩) ?_
      refine wb_iald 321 rfl (wy_pr rfl) wt_321 (n := 8000) ((ml_321 hM)) (by omega) (by omega) (v := c) (h21) (fun r15 => ?_)
      refine wa_fall ⟨_, rfl⟩ ?_
      refine wa_istore (n := 5) rfl ?_
      refine wa_iload (n := 4) rfl ?_
      refine wa_ifeq (w_rg0 (by omega) (by omega)) ⟨_, rfl⟩ (fun c16 => ?_) (fun c16 => ?_)
      · skip
        refine wa_iconst ?_
        refine wa_fall ⟨_, rfl⟩ ?_
        refine wJ_top (show 0 = am by omega) ?_
        refine wa_istore (n := 6) rfl ?_
        refine wa_aload_n (n := 0) rfl ?_
        refine wa_iload (n := 5) rfl ?_
        refine wb_pfi 237 rfl (wy_pr rfl) wt_237 wf_15_167 (n := 167) rfl ⟨(by omega), (by omega)⟩ ?_
        refine wa_aload_n (n := 0) rfl ?_
        refine wb_gf4 237 rfl (wy_pr rfl) wt_237 wf_15_50 (v := 305) wl_237_50 ?_
        refine wa_iload_n (n := 1) rfl ?_
        refine wb_iald 305 rfl (wy_pr rfl) wt_305 (n := 4000) ((w_up_slot (by decide)).trans ((ml_305 hM))) (by omega) (by omega) (v := nms) ((w_up_slot (by decide)).trans (h05)) (fun r17 => ?_)
        refine wa_istore (n := 7) rfl ?_
        refine wa_iload_n (n := 2) rfl ?_
        refine wa_ifne (w_rg0 (by omega) (by omega)) ⟨_, rfl⟩ (fun c18 => ?_) (fun c18 => ?_)
        · skip
          refine wa_iload_n (n := 2) rfl ?_
          refine wa_iconst ?_
          refine wa_icmpne (w_rg0 (by omega) (by omega)) (w_rg0 (by omega) (by omega)) ⟨_, rfl⟩ (fun c19 => ?_) (fun c19 => ?_)
          · skip
            refine wa_iload_n (n := 2) rfl ?_
            refine wa_iconst ?_
            refine wa_icmpne (w_rg0 (by omega) (by omega)) (w_rg0 (by omega) (by omega)) ⟨_, rfl⟩ (fun c20 => ?_) (fun c20 => ?_)
            · skip
              exact absurd c20 (by omega)
            · skip
              refine wa_aload_n (n := 0) rfl ?_
              refine wa_ks ?_
              refine wa_iload (n := 7) rfl ?_
              have fb1 : ∀ (j : Nat) (x : Int), ¬ lhM j x → (w_up S 237 167 c) j x = S j x := fun j x hj => (w_up_no (by unfold lhM at hj; omega))
              have hMb1 : w_ML (w_up S 237 167 c) := ML_w hM fb1 (fun j => lhM_1)
              have hKb1 : KR 241 T n cs ms (w_up S 237 167 c) := KR_ag hK (fun j x hj => fb1 j x (by unfold lhM; omega))
              refine wa_cv 237 rfl (wy_pr rfl) wt_237 (M2 := fun _ => False) rfl at_M_wants ⟨_, rfl⟩ rfl rfl ⟨trivial, trivial, trivial, trivial, (Or.inr ⟨wy_pr rfl, fun q => q⟩), trivial, trivial, trivial, trivial⟩ trivial (fun _ _ q => False.elim q) (rwt53 (S := (w_up S 237 167 c)) hX hMb1 hnm ((fb1 282 nms (by unfold lhM; omega)).trans h82) hWl (fun x hx => (fb1 281 _ (by unfold lhM; omega)).trans (h81 x hx))) (fun oq21 Sq21 hp22 q21 => ?_)
              rcases q21 with ⟨rfl, hw21, hf21⟩
              show wJ _ _ _ _ _ _ _ _ _ _
              have hq21 : ∀ (j : Nat) (x : Int), ¬ lhM j x → Sq21 j x = (w_up S 237 167 c) j x := fun j x hj => hf21 j x (lhM_wt hj)
              have fS21 : ∀ (j : Nat) (x : Int), ¬ lhM j x → Sq21 j x = S j x := fun j x hj => (hq21 j x hj).trans (fb1 j x hj)
              refine wa_aload_n (n := 0) rfl ?_
              refine wa_iload (n := 5) rfl ?_
              refine wa_iload (n := 4) rfl ?_
              refine wa_iconst ?_
              have fb2 : ∀ (j : Nat) (x : Int), ¬ lhM j x → Sq21 j x = S j x := fun j x hj => (fS21 j x hj)
              have hMb2 : w_ML Sq21 := ML_w hM fb2 (fun j => lhM_1)
              have hKb2 : KR 241 T n cs ms Sq21 := KR_ag hK (fun j x hj => fb2 j x (by unfold lhM; omega))
              refine wa_cv 237 rfl (wy_pr rfl) wt_237 (M2 := fun _ => False) rfl at_M_collects ⟨_, rfl⟩ rfl rfl ⟨trivial, trivial, trivial, trivial, (Or.inr ⟨wy_pr rfl, fun q => q⟩), trivial, trivial, trivial, trivial⟩ trivial (fun _ _ q => False.elim q) (rco_241 (S := Sq21) (c := c) (st := am) (pc := (-1)) (WW := (wnW ([] : List Int) W)) hMb2 hKb2 hw hO hA hst (by omega) hw21 hc) (fun oq23 Sq23 hp24 q23 => ?_)
              rcases q23 with ⟨rfl, hcd23, hf23⟩
              show wJ _ _ _ _ _ _ _ _ _ _
              have hq23 : ∀ (j : Nat) (x : Int), ¬ lhM j x → Sq23 j x = Sq21 j x := fun j x hj => hf23 j x (lhM_cd hj) (lhM_od hj)
              have fS23 : ∀ (j : Nat) (x : Int), ¬ lhM j x → Sq23 j x = S j x := fun j x hj => (hq23 j x hj).trans (fb2 j x hj)
              rw [hFa] at hcd23
              have hcl23 := hcd23.2.2
              refine wa_aload_n (n := 0) rfl ?_
              refine wb_gfi 237 rfl (wy_pr rfl) wt_237 wf_15_128 (v := ((FA T cs ms os c am 0 (wnW ([] : List Int) W)).length : Int)) (hcd23.1) (fun r25 => ?_)
              refine wa_ifne (w_rg0 (by omega) (by omega)) ⟨_, rfl⟩ (fun c26 => ?_) (fun c26 => ?_)
              · skip
                refine wa_aload_n (n := 0) rfl ?_
                refine wa_aload_n (n := 0) rfl ?_
                refine wb_gf4 237 rfl (wy_pr rfl) wt_237 wf_15_51 (v := 306) wl_237_51 ?_
                refine wa_iload_n (n := 1) rfl ?_
                refine wb_iald 306 rfl (wy_pr rfl) wt_306 (n := 4000) (((hq23 306 (-1) (by unfold lhM; omega)).trans (((hq21 306 (-1) (by unfold lhM; omega)).trans ((w_up_slot (by decide)).trans ((ml_306 hM))))))) (by omega) (by omega) (v := (tl.length : Int)) (((hq23 306 s (by unfold lhM; omega)).trans (((hq21 306 s (by unfold lhM; omega)).trans ((w_up_slot (by decide)).trans (h06)))))) (fun r27 => ?_)
                have fb3 : ∀ (j : Nat) (x : Int), ¬ lhM j x → Sq23 j x = S j x := fun j x hj => (fS23 j x hj)
                have hMb3 : w_ML Sq23 := ML_w hM fb3 (fun j => lhM_1)
                have hKb3 : KR 241 T n cs ms Sq23 := KR_ag hK (fun j x hj => fb3 j x (by unfold lhM; omega))
                refine wa_cv 237 rfl (wy_pr rfl) wt_237 (M2 := fun _ => False) rfl at_M_typesOfEs ⟨_, rfl⟩ rfl rfl ⟨trivial, trivial, trivial, trivial, (Or.inr ⟨wy_pr rfl, fun q => q⟩), trivial, trivial, trivial, trivial⟩ trivial (fun _ _ q => False.elim q) (rty (S := Sq23) (r := r) (tl := tl) hMb3 ((fb3 237 173 (by unfold lhM; omega)).trans h73) hr (rCl_a9 hcl (fun j x hj => fb3 j x (by unfold lhM; omega))) h8) (fun oq28 Sq28 hp29 q28 => ?_)
                rcases q28 with ⟨rfl, ht28, hmn28, hf28⟩
                show wJ _ _ _ _ _ _ _ _ _ _
                have hq28 : ∀ (j : Nat) (x : Int), ¬ lhM j x → Sq28 j x = Sq23 j x := fun j x hj => hf28 j x (lhM_ty hj)
                have fS28 : ∀ (j : Nat) (x : Int), ¬ lhM j x → Sq28 j x = S j x := fun j x hj => (hq28 j x hj).trans (fb3 j x hj)
                have hcd28 : cdI (FA T cs ms os c am 0 (wnW ([] : List Int) W)) Sq28 := cdI_ag hcd23 (fun j x hj => hf28 j x (by unfold tyM; unfold cdM at hj; omega))
                refine wa_aload_n (n := 0) rfl ?_
                refine wa_iload (n := 5) rfl ?_
                refine wa_iload (n := 6) rfl ?_
                refine wa_iload (n := 7) rfl ?_
                refine wa_iload_n (n := 3) rfl ?_
                have fb4 : ∀ (j : Nat) (x : Int), ¬ lhM j x → Sq28 j x = S j x := fun j x hj => (fS28 j x hj)
                have hMb4 : w_ML Sq28 := ML_w hM fb4 (fun j => lhM_1)
                have hKb4 : KR 241 T n cs ms Sq28 := KR_ag hK (fun j x hj => fb4 j x (by unfold lhM; omega))
                have hC30 : rCh T cs ms os N CH wo mo Sq28 := rCh_ag hC (fun j x hj => ((hf28 j x (lh_id hj).2.2.2.1).trans ((hf23 j x (lh_id hj).2.1 (lh_id hj).2.2.1).trans ((hf21 j x (lh_id hj).1).trans (w_up_no (lh_id hj).2.2.2.2)))))
                have hFn : (FA T cs ms os c am 0 (wnW ([] : List Int) W)) ≠ [] := fun z => by have y := hF4.mpr z; omega
                have hqk : qRk T cs ms os N (c, am, 0, (wnW ([] : List Int) W), tl) := ⟨hc, ⟨by show (0 : Int) ≤ am; omega, by show am ≤ (2 : Int); omega⟩, Or.inl rfl, (fun z => absurd z (by show ¬ am = 2; omega)), (fun _ _ => by show wnW ([] : List Int) W ∈ N; rw [show wnW ([] : List Int) W = W from if_pos rfl]; exact hWN), h8, hFn⟩
                have hrc := rcs1_241 (xs := xs) (M := fun _ => False) (d := d + 59) (S := Sq28) (c := c) (am := am) (fs := 0) (md := am) (nc := nms) (WW := (wnW ([] : List Int) W)) (tl := tl) (F := (FA T cs ms os c am 0 (wnW ([] : List Int) W))) hMb4 hKb4 hw hC30 ht28 hqk (by show _ = (if am = 2 then 2 else am + 4 * 0 : Int); rw [if_neg (by omega)]; omega) (by show _ = (if am = 2 then -1 else if (0 : Int) = 1 then _ else ixL N (wnW ([] : List Int) W) : Int); rw [if_neg (by omega), if_neg (by first | decide | omega), show wnW ([] : List Int) W = W from if_pos rfl, hix]) ⟨by omega, by omega⟩ ⟨by omega, by omega⟩ hes hty hcd28 hFm rfl hwo
                rw [← hrv] at hrc
                refine wa_cv 237 rfl (wy_pr rfl) wt_237 (M2 := fun _ => False) rfl at_M_chooses ⟨_, rfl⟩ rfl rfl ⟨trivial, trivial, trivial, trivial, (Or.inr ⟨wy_pr rfl, fun q => q⟩), trivial, trivial, trivial, trivial⟩ trivial (fun _ _ q => False.elim q) (hrc) (fun oq30 Sq30 hp31 q30 => ?_)
                rcases q30 with ⟨ha30, hb30, hcz30, hf30⟩
                have hqx : ∀ (j : Nat) (x : Int), ¬ lhM j x → Sq30 j x = S j x := fun j x hj => (hf30 j x (lhM_cs hj)).trans (fb4 j x hj)
                have e167 : Sq30 237 167 = c := (hf30 237 167 (by unfold csM chM; omega)).trans (((hf28 237 167 (by unfold tyM; omega)).trans ((hf23 237 167 (by unfold cdM; omega) (by unfold odM; omega)).trans ((hf21 237 167 (by unfold wtM; omega)).trans (w_up_same _ _ _ _)))))
                have e172 : Sq30 237 172 = (tl.length : Int) := (hf30 237 172 (by unfold csM chM; omega)).trans hmn28
                have hneg : rv ≠ -1 := fun z => hFn (hr1.mp z)
                by_cases crv : 0 ≤ rv
                · obtain ⟨z1, z2⟩ := ha30 crv
                  subst z1
                  show wJ _ _ _ _ _ _ _ _ _ _
                  refine wa_goto ⟨_, rfl⟩ ?_
                  refine wa_return rfl ?_
                  exact ⟨fun _ => ⟨rfl, z2, e172⟩, fun z => absurd z (by omega), e167, hcz30, hqx⟩
                · obtain ⟨z1, z2, z3⟩ := hb30 (by omega)
                  subst z1
                  refine ⟨rfl, ?_⟩
                  exact ⟨fun z => absurd z (by omega), fun _ => ⟨rfl, by rw [if_neg hneg]; exact z2, z3⟩, e167, hcz30, hqx⟩
              · skip
                refine wa_aload_n (n := 0) rfl ?_
                refine wa_iconst ?_
                refine wa_cv 237 rfl (wy_pr rfl) wt_237 (M2 := fun _ => False) rfl at_M_error ⟨_, rfl⟩ rfl rfl ⟨trivial, trivial, trivial, trivial, (Or.inr ⟨wy_pr rfl, fun q => q⟩), trivial, trivial, trivial, trivial⟩ trivial (fun _ _ q => False.elim q) ?_ (fun _ _ _ q => q)
                refine wa_aload_n (n := 0) rfl ?_
                refine wb_gf4 237 rfl (wy_pr rfl) wt_237 wf_15_1 (v := 238) wl_237_1 ?_
                refine wa_iload_n (n := 1) rfl ?_
                refine wa_iconst ?_
                refine wa_cv 238 rfl (wy_pr rfl) wt_238 (M2 := fun _ => False) rfl at_MH_of ⟨_, rfl⟩ rfl rfl ⟨(Or.inr ⟨wy_pr rfl, fun q => q⟩), trivial, trivial⟩ trivial (fun _ _ q => False.elim q) ?_ (fun _ _ _ q => q)
                refine wa_aload_n (n := 0) rfl ?_
                refine wa_iload_n (n := 1) rfl ?_
                refine wb_pfi 238 rfl (wy_pr rfl) wt_238 wf_11_5 (n := 5) rfl ⟨(by omega), (by omega)⟩ ?_
                refine wa_aload_n (n := 0) rfl ?_
                refine wa_iload_n (n := 2) rfl ?_
                refine wb_pfi 238 rfl (wy_pr rfl) wt_238 wf_11_6 (n := 6) rfl ⟨(by omega), (by omega)⟩ ?_
                refine wa_aload_n (n := 0) rfl ?_
                refine wa_oreturn rfl ?_
                show wJ _ _ _ _ _ _ _ _ _ _
                refine wa_th (j := 238) ?_
                refine ⟨rfl, ?_⟩
                have hFe : (FA T cs ms os c am 0 (wnW ([] : List Int) W)) = [] := hF4.mp (by omega)
                have hrm : rv = -1 := hr1.mpr hFe
                have ech : chN CH wo mo (c, am, 0, (wnW ([] : List Int) W), tl) (FA T cs ms os c am 0 (wnW ([] : List Int) W)) = (CH, wo) := if_pos (Or.inl hFe)
                rw [ech]
                exact ⟨fun z => absurd z (by omega), fun _ => ⟨rfl, (((w_up_at (by first | decide | omega)).trans (w_up_same _ _ _ _)) : (w_up (w_up Sq23 238 5 4) 238 6 0) 238 5 = _).trans (if_pos (by omega)).symm, (w_up_same _ _ _ _)⟩, ((w_up_no (by omega)).trans ((w_up_no (by omega)).trans ((hf23 237 167 (by unfold cdM; omega) (by unfold odM; omega)).trans ((hf21 237 167 (by unfold wtM; omega)).trans (w_up_same _ _ _ _))))), rCh_ag hC (fun j x hj => ((w_up_no (by unfold chM at hj; omega)).trans ((w_up_no (by unfold chM at hj; omega)).trans ((hf23 j x (lh_id hj).2.1 (lh_id hj).2.2.1).trans ((hf21 j x (lh_id hj).1).trans (w_up_no (by unfold chM at hj; omega))))))), fun j x hj => ((w_up_no (by unfold lhM at hj; omega)).trans ((w_up_no (by unfold lhM at hj; omega)).trans (fS23 j x hj)))⟩
          · skip
            exact absurd c19 (by omega)
        · skip
          exact absurd c18 (by omega)
      · skip
        exact absurd c16 (by omega)
    · skip
      exfalso; omega
  · skip
    refine wa_iconst ?_
    refine wa_goto ⟨_, rfl⟩ ?_
    refine wJ_top (show 1 = am by omega) ?_
    refine wa_istore (n := 4) rfl ?_
    refine wa_iload (n := 4) rfl ?_
    refine wa_ifeq (w_rg0 (by omega) (by omega)) ⟨_, rfl⟩ (fun c32 => ?_) (fun c32 => ?_)
    · skip
      exfalso; omega
    · skip
      have hgbc : gb = c := by omega
      refine wa_aload_n (n := 0) rfl ?_
      refine wb_gfl 237 rfl (wy_pr rfl) wt_237 wf_15_175 (v := gb) (h75) (fun r33 => ?_)
      refine wb_l2i_r (wb_l2i_id ⟨(by omega), (by omega)⟩) ?_
      refine wa_goto ⟨_, rfl⟩ ?_
      refine wJ_top (show gb = c by omega) ?_
      refine wa_istore (n := 5) rfl ?_
      refine wa_iload (n := 4) rfl ?_
      refine wa_ifeq (w_rg0 (by omega) (by omega)) ⟨_, rfl⟩ (fun c34 => ?_) (fun c34 => ?_)
      · skip
        exact absurd c34 (by omega)
      · skip
        refine wa_iconst ?_
        refine wa_goto ⟨_, rfl⟩ ?_
        refine wJ_top (show 1 = am by omega) ?_
        refine wa_istore (n := 6) rfl ?_
        refine wa_aload_n (n := 0) rfl ?_
        refine wa_iload (n := 5) rfl ?_
        refine wb_pfi 237 rfl (wy_pr rfl) wt_237 wf_15_167 (n := 167) rfl ⟨(by omega), (by omega)⟩ ?_
        refine wa_aload_n (n := 0) rfl ?_
        refine wb_gf4 237 rfl (wy_pr rfl) wt_237 wf_15_50 (v := 305) wl_237_50 ?_
        refine wa_iload_n (n := 1) rfl ?_
        refine wb_iald 305 rfl (wy_pr rfl) wt_305 (n := 4000) ((w_up_slot (by decide)).trans ((ml_305 hM))) (by omega) (by omega) (v := nms) ((w_up_slot (by decide)).trans (h05)) (fun r35 => ?_)
        refine wa_istore (n := 7) rfl ?_
        refine wa_iload_n (n := 2) rfl ?_
        refine wa_ifne (w_rg0 (by omega) (by omega)) ⟨_, rfl⟩ (fun c36 => ?_) (fun c36 => ?_)
        · skip
          refine wa_iload_n (n := 2) rfl ?_
          refine wa_iconst ?_
          refine wa_icmpne (w_rg0 (by omega) (by omega)) (w_rg0 (by omega) (by omega)) ⟨_, rfl⟩ (fun c37 => ?_) (fun c37 => ?_)
          · skip
            refine wa_iload_n (n := 2) rfl ?_
            refine wa_iconst ?_
            refine wa_icmpne (w_rg0 (by omega) (by omega)) (w_rg0 (by omega) (by omega)) ⟨_, rfl⟩ (fun c38 => ?_) (fun c38 => ?_)
            · skip
              exact absurd c38 (by omega)
            · skip
              refine wa_aload_n (n := 0) rfl ?_
              refine wa_ks ?_
              refine wa_iload (n := 7) rfl ?_
              have fb5 : ∀ (j : Nat) (x : Int), ¬ lhM j x → (w_up S 237 167 c) j x = S j x := fun j x hj => (w_up_no (by unfold lhM at hj; omega))
              have hMb5 : w_ML (w_up S 237 167 c) := ML_w hM fb5 (fun j => lhM_1)
              have hKb5 : KR 241 T n cs ms (w_up S 237 167 c) := KR_ag hK (fun j x hj => fb5 j x (by unfold lhM; omega))
              refine wa_cv 237 rfl (wy_pr rfl) wt_237 (M2 := fun _ => False) rfl at_M_wants ⟨_, rfl⟩ rfl rfl ⟨trivial, trivial, trivial, trivial, (Or.inr ⟨wy_pr rfl, fun q => q⟩), trivial, trivial, trivial, trivial⟩ trivial (fun _ _ q => False.elim q) (rwt53 (S := (w_up S 237 167 c)) hX hMb5 hnm ((fb5 282 nms (by unfold lhM; omega)).trans h82) hWl (fun x hx => (fb5 281 _ (by unfold lhM; omega)).trans (h81 x hx))) (fun oq39 Sq39 hp40 q39 => ?_)
              rcases q39 with ⟨rfl, hw39, hf39⟩
              show wJ _ _ _ _ _ _ _ _ _ _
              have hq39 : ∀ (j : Nat) (x : Int), ¬ lhM j x → Sq39 j x = (w_up S 237 167 c) j x := fun j x hj => hf39 j x (lhM_wt hj)
              have fS39 : ∀ (j : Nat) (x : Int), ¬ lhM j x → Sq39 j x = S j x := fun j x hj => (hq39 j x hj).trans (fb5 j x hj)
              refine wa_aload_n (n := 0) rfl ?_
              refine wa_iload (n := 5) rfl ?_
              refine wa_iload (n := 4) rfl ?_
              refine wa_iconst ?_
              have fb6 : ∀ (j : Nat) (x : Int), ¬ lhM j x → Sq39 j x = S j x := fun j x hj => (fS39 j x hj)
              have hMb6 : w_ML Sq39 := ML_w hM fb6 (fun j => lhM_1)
              have hKb6 : KR 241 T n cs ms Sq39 := KR_ag hK (fun j x hj => fb6 j x (by unfold lhM; omega))
              refine wa_cv 237 rfl (wy_pr rfl) wt_237 (M2 := fun _ => False) rfl at_M_collects ⟨_, rfl⟩ rfl rfl ⟨trivial, trivial, trivial, trivial, (Or.inr ⟨wy_pr rfl, fun q => q⟩), trivial, trivial, trivial, trivial⟩ trivial (fun _ _ q => False.elim q) (rco_241 (S := Sq39) (c := c) (st := am) (pc := (-1)) (WW := (wnW ([] : List Int) W)) hMb6 hKb6 hw hO hA hst (by omega) hw39 hc) (fun oq41 Sq41 hp42 q41 => ?_)
              rcases q41 with ⟨rfl, hcd41, hf41⟩
              show wJ _ _ _ _ _ _ _ _ _ _
              have hq41 : ∀ (j : Nat) (x : Int), ¬ lhM j x → Sq41 j x = Sq39 j x := fun j x hj => hf41 j x (lhM_cd hj) (lhM_od hj)
              have fS41 : ∀ (j : Nat) (x : Int), ¬ lhM j x → Sq41 j x = S j x := fun j x hj => (hq41 j x hj).trans (fb6 j x hj)
              rw [hFa] at hcd41
              have hcl41 := hcd41.2.2
              refine wa_aload_n (n := 0) rfl ?_
              refine wb_gfi 237 rfl (wy_pr rfl) wt_237 wf_15_128 (v := ((FA T cs ms os c am 0 (wnW ([] : List Int) W)).length : Int)) (hcd41.1) (fun r43 => ?_)
              refine wa_ifne (w_rg0 (by omega) (by omega)) ⟨_, rfl⟩ (fun c44 => ?_) (fun c44 => ?_)
              · skip
                refine wa_aload_n (n := 0) rfl ?_
                refine wa_aload_n (n := 0) rfl ?_
                refine wb_gf4 237 rfl (wy_pr rfl) wt_237 wf_15_51 (v := 306) wl_237_51 ?_
                refine wa_iload_n (n := 1) rfl ?_
                refine wb_iald 306 rfl (wy_pr rfl) wt_306 (n := 4000) (((hq41 306 (-1) (by unfold lhM; omega)).trans (((hq39 306 (-1) (by unfold lhM; omega)).trans ((w_up_slot (by decide)).trans ((ml_306 hM))))))) (by omega) (by omega) (v := (tl.length : Int)) (((hq41 306 s (by unfold lhM; omega)).trans (((hq39 306 s (by unfold lhM; omega)).trans ((w_up_slot (by decide)).trans (h06)))))) (fun r45 => ?_)
                have fb7 : ∀ (j : Nat) (x : Int), ¬ lhM j x → Sq41 j x = S j x := fun j x hj => (fS41 j x hj)
                have hMb7 : w_ML Sq41 := ML_w hM fb7 (fun j => lhM_1)
                have hKb7 : KR 241 T n cs ms Sq41 := KR_ag hK (fun j x hj => fb7 j x (by unfold lhM; omega))
                refine wa_cv 237 rfl (wy_pr rfl) wt_237 (M2 := fun _ => False) rfl at_M_typesOfEs ⟨_, rfl⟩ rfl rfl ⟨trivial, trivial, trivial, trivial, (Or.inr ⟨wy_pr rfl, fun q => q⟩), trivial, trivial, trivial, trivial⟩ trivial (fun _ _ q => False.elim q) (rty (S := Sq41) (r := r) (tl := tl) hMb7 ((fb7 237 173 (by unfold lhM; omega)).trans h73) hr (rCl_a9 hcl (fun j x hj => fb7 j x (by unfold lhM; omega))) h8) (fun oq46 Sq46 hp47 q46 => ?_)
                rcases q46 with ⟨rfl, ht46, hmn46, hf46⟩
                show wJ _ _ _ _ _ _ _ _ _ _
                have hq46 : ∀ (j : Nat) (x : Int), ¬ lhM j x → Sq46 j x = Sq41 j x := fun j x hj => hf46 j x (lhM_ty hj)
                have fS46 : ∀ (j : Nat) (x : Int), ¬ lhM j x → Sq46 j x = S j x := fun j x hj => (hq46 j x hj).trans (fb7 j x hj)
                have hcd46 : cdI (FA T cs ms os c am 0 (wnW ([] : List Int) W)) Sq46 := cdI_ag hcd41 (fun j x hj => hf46 j x (by unfold tyM; unfold cdM at hj; omega))
                refine wa_aload_n (n := 0) rfl ?_
                refine wa_iload (n := 5) rfl ?_
                refine wa_iload (n := 6) rfl ?_
                refine wa_iload (n := 7) rfl ?_
                refine wa_iload_n (n := 3) rfl ?_
                have fb8 : ∀ (j : Nat) (x : Int), ¬ lhM j x → Sq46 j x = S j x := fun j x hj => (fS46 j x hj)
                have hMb8 : w_ML Sq46 := ML_w hM fb8 (fun j => lhM_1)
                have hKb8 : KR 241 T n cs ms Sq46 := KR_ag hK (fun j x hj => fb8 j x (by unfold lhM; omega))
                have hC48 : rCh T cs ms os N CH wo mo Sq46 := rCh_ag hC (fun j x hj => ((hf46 j x (lh_id hj).2.2.2.1).trans ((hf41 j x (lh_id hj).2.1 (lh_id hj).2.2.1).trans ((hf39 j x (lh_id hj).1).trans (w_up_no (lh_id hj).2.2.2.2)))))
                have hFn : (FA T cs ms os c am 0 (wnW ([] : List Int) W)) ≠ [] := fun z => by have y := hF4.mpr z; omega
                have hqk : qRk T cs ms os N (c, am, 0, (wnW ([] : List Int) W), tl) := ⟨hc, ⟨by show (0 : Int) ≤ am; omega, by show am ≤ (2 : Int); omega⟩, Or.inl rfl, (fun z => absurd z (by show ¬ am = 2; omega)), (fun _ _ => by show wnW ([] : List Int) W ∈ N; rw [show wnW ([] : List Int) W = W from if_pos rfl]; exact hWN), h8, hFn⟩
                have hrc := rcs1_241 (xs := xs) (M := fun _ => False) (d := d + 59) (S := Sq46) (c := c) (am := am) (fs := 0) (md := am) (nc := nms) (WW := (wnW ([] : List Int) W)) (tl := tl) (F := (FA T cs ms os c am 0 (wnW ([] : List Int) W))) hMb8 hKb8 hw hC48 ht46 hqk (by show _ = (if am = 2 then 2 else am + 4 * 0 : Int); rw [if_neg (by omega)]; omega) (by show _ = (if am = 2 then -1 else if (0 : Int) = 1 then _ else ixL N (wnW ([] : List Int) W) : Int); rw [if_neg (by omega), if_neg (by first | decide | omega), show wnW ([] : List Int) W = W from if_pos rfl, hix]) ⟨by omega, by omega⟩ ⟨by omega, by omega⟩ hes hty hcd46 hFm rfl hwo
                rw [← hrv] at hrc
                refine wa_cv 237 rfl (wy_pr rfl) wt_237 (M2 := fun _ => False) rfl at_M_chooses ⟨_, rfl⟩ rfl rfl ⟨trivial, trivial, trivial, trivial, (Or.inr ⟨wy_pr rfl, fun q => q⟩), trivial, trivial, trivial, trivial⟩ trivial (fun _ _ q => False.elim q) (hrc) (fun oq48 Sq48 hp49 q48 => ?_)
                rcases q48 with ⟨ha48, hb48, hcz48, hf48⟩
                have hqx : ∀ (j : Nat) (x : Int), ¬ lhM j x → Sq48 j x = S j x := fun j x hj => (hf48 j x (lhM_cs hj)).trans (fb8 j x hj)
                have e167 : Sq48 237 167 = c := (hf48 237 167 (by unfold csM chM; omega)).trans (((hf46 237 167 (by unfold tyM; omega)).trans ((hf41 237 167 (by unfold cdM; omega) (by unfold odM; omega)).trans ((hf39 237 167 (by unfold wtM; omega)).trans (w_up_same _ _ _ _)))))
                have e172 : Sq48 237 172 = (tl.length : Int) := (hf48 237 172 (by unfold csM chM; omega)).trans hmn46
                have hneg : rv ≠ -1 := fun z => hFn (hr1.mp z)
                by_cases crv : 0 ≤ rv
                · obtain ⟨z1, z2⟩ := ha48 crv
                  subst z1
                  show wJ _ _ _ _ _ _ _ _ _ _
                  refine wa_goto ⟨_, rfl⟩ ?_
                  refine wa_return rfl ?_
                  exact ⟨fun _ => ⟨rfl, z2, e172⟩, fun z => absurd z (by omega), e167, hcz48, hqx⟩
                · obtain ⟨z1, z2, z3⟩ := hb48 (by omega)
                  subst z1
                  refine ⟨rfl, ?_⟩
                  exact ⟨fun z => absurd z (by omega), fun _ => ⟨rfl, by rw [if_neg hneg]; exact z2, z3⟩, e167, hcz48, hqx⟩
              · skip
                refine wa_aload_n (n := 0) rfl ?_
                refine wa_iconst ?_
                refine wa_cv 237 rfl (wy_pr rfl) wt_237 (M2 := fun _ => False) rfl at_M_error ⟨_, rfl⟩ rfl rfl ⟨trivial, trivial, trivial, trivial, (Or.inr ⟨wy_pr rfl, fun q => q⟩), trivial, trivial, trivial, trivial⟩ trivial (fun _ _ q => False.elim q) ?_ (fun _ _ _ q => q)
                refine wa_aload_n (n := 0) rfl ?_
                refine wb_gf4 237 rfl (wy_pr rfl) wt_237 wf_15_1 (v := 238) wl_237_1 ?_
                refine wa_iload_n (n := 1) rfl ?_
                refine wa_iconst ?_
                refine wa_cv 238 rfl (wy_pr rfl) wt_238 (M2 := fun _ => False) rfl at_MH_of ⟨_, rfl⟩ rfl rfl ⟨(Or.inr ⟨wy_pr rfl, fun q => q⟩), trivial, trivial⟩ trivial (fun _ _ q => False.elim q) ?_ (fun _ _ _ q => q)
                refine wa_aload_n (n := 0) rfl ?_
                refine wa_iload_n (n := 1) rfl ?_
                refine wb_pfi 238 rfl (wy_pr rfl) wt_238 wf_11_5 (n := 5) rfl ⟨(by omega), (by omega)⟩ ?_
                refine wa_aload_n (n := 0) rfl ?_
                refine wa_iload_n (n := 2) rfl ?_
                refine wb_pfi 238 rfl (wy_pr rfl) wt_238 wf_11_6 (n := 6) rfl ⟨(by omega), (by omega)⟩ ?_
                refine wa_aload_n (n := 0) rfl ?_
                refine wa_oreturn rfl ?_
                show wJ _ _ _ _ _ _ _ _ _ _
                refine wa_th (j := 238) ?_
                refine ⟨rfl, ?_⟩
                have hFe : (FA T cs ms os c am 0 (wnW ([] : List Int) W)) = [] := hF4.mp (by omega)
                have hrm : rv = -1 := hr1.mpr hFe
                have ech : chN CH wo mo (c, am, 0, (wnW ([] : List Int) W), tl) (FA T cs ms os c am 0 (wnW ([] : List Int) W)) = (CH, wo) := if_pos (Or.inl hFe)
                rw [ech]
                exact ⟨fun z => absurd z (by omega), fun _ => ⟨rfl, (((w_up_at (by first | decide | omega)).trans (w_up_same _ _ _ _)) : (w_up (w_up Sq41 238 5 4) 238 6 0) 238 5 = _).trans (if_pos (by omega)).symm, (w_up_same _ _ _ _)⟩, ((w_up_no (by omega)).trans ((w_up_no (by omega)).trans ((hf41 237 167 (by unfold cdM; omega) (by unfold odM; omega)).trans ((hf39 237 167 (by unfold wtM; omega)).trans (w_up_same _ _ _ _))))), rCh_ag hC (fun j x hj => ((w_up_no (by unfold chM at hj; omega)).trans ((w_up_no (by unfold chM at hj; omega)).trans ((hf41 j x (lh_id hj).2.1 (lh_id hj).2.2.1).trans ((hf39 j x (lh_id hj).1).trans (w_up_no (by unfold chM at hj; omega))))))), fun j x hj => ((w_up_no (by unfold lhM at hj; omega)).trans ((w_up_no (by unfold lhM at hj; omega)).trans (fS41 j x hj)))⟩
          · skip
            exact absurd c37 (by omega)
        · skip
          exact absurd c36 (by omega)
set_option maxHeartbeats 4000000 in
theorem lhm0_241 {s gk gb c am nms r ct : Int} {W tl : List Int} (hM : w_ML S) (hK : KR 241 T n cs ms S) (hw : wHo cs ms os) (hX : w_X xs) (hnm : 0 ≤ nms ∧ nms < 4000) (h82 : S 282 nms = (W.length : Int)) (hWl : W.length ≤ 60) (h81 : ∀ x : Nat, x < W.length → S 281 (60 * nms + (x : Int)) = W.getD x 0) (hO : wOs cs os) (hA : wAb cs) (hc : 0 ≤ c ∧ c < (cs.length : Int)) (hst : am = 0 ∨ am = 1) (hs : 0 ≤ s ∧ s < 4000) (h05 : S 305 s = nms) (h74 : S 237 174 = gk) (h75 : S 237 175 = gb) (hgk : (gk = 7 ∧ am = 0 ∧ (0 ≤ gb ∧ gb < 8000) ∧ S 321 gb = c) ∨ (gk = 8 ∧ am = 1 ∧ gb = c)) (h172 : S 237 172 = 0) (hC : rCh T cs ms os N CH wo mo S) (h73 : S 237 173 = r) (hr : 0 ≤ r ∧ r + 1 + (tl.length : Int) ≤ 4200) (hcl : rCl S r tl) (h8 : tl.length ≤ 8) (hes : esOk tl) (hty : ∀ c ∈ tl, c < 9 + (cs.length : Int)) (hwo : wo < 10000000) (h06 : S 306 s = (tl.length : Int)) (hWN : W ∈ N) (hix : ixL N W = nms) : wJ (pe_GA xs) wY0 M (d + 66) t_M_looksAtHost ((pe_at t_M_looksAtHost.bl 0).getD (0, [])).2 [(0, (2, 237)), (1, (0, s)), (2, (0, 5)), (3, (0, 0))] [] S (lrQ T cs ms os N CH wo mo c (rvA T cs ms os (c, am, 0, (wnW ([] : List Int) W), tl)) (tl.length : Int) S) := by
  have h13 : S 237 13 = 241 := hK.1
  have h60 := hw.1
  have hFm := FA_v (T := T) (am := am) (fs := 0) (WW := (wnW ([] : List Int) W)) hw hc
  obtain ⟨rv, hrv⟩ : ∃ r : Int, r = (rvA T cs ms os (c, am, 0, (wnW ([] : List Int) W), tl)) := ⟨_, rfl⟩
  have hrr := rvA_rg (T := T) (q := (c, am, 0, (wnW ([] : List Int) W), tl)) hw hc
  have hr1 := rv_m1 (T := T) (q := (c, am, 0, (wnW ([] : List Int) W), tl)) hw hc
  rw [← hrv] at hrr hr1 ⊢
  replace hr1 : rv = -1 ↔ (FA T cs ms os c am 0 (wnW ([] : List Int) W)) = [] := hr1
  have hF4 : (FA T cs ms os c am 0 (wnW ([] : List Int) W)).length = 0 ↔ (FA T cs ms os c am 0 (wnW ([] : List Int) W)) = [] := ⟨fun z => List.eq_nil_of_length_eq_zero z, fun z => by rw [z]; rfl⟩
  have hFa : cdA ms (okM T ms 1 am (-1) (wnW ([] : List Int) W)) [] (mOr cs (os c)) = (FA T cs ms os c am 0 (wnW ([] : List Int) W)) := by
    unfold FA
    rw [if_neg (show ¬ am = 2 by omega), if_neg (show ¬ am = 2 by omega), if_neg (show ¬ (0 : Int) = 1 by decide), show (if am = 1 then 1 else 0 : Int) = am by split <;> omega]
  refine wa_aload_n (n := 0) rfl ?_
  refine wb_gfi 237 rfl (wy_pr rfl) wt_237 wf_15_174 (v := gk) (h74) (fun r11 => ?_)
  refine wa_bipush (w_rg2 (by omega) (by omega)) ?_
  refine wa_icmpne (w_rg0 (by omega) (by omega)) (w_rg0 (by omega) (by omega)) ⟨_, rfl⟩ (fun c12 => ?_) (fun c12 => ?_)
  · skip
    refine wa_iconst ?_
    refine wa_fall ⟨_, rfl⟩ ?_
    refine wJ_top (show 0 = am by omega) ?_
    refine wa_istore (n := 4) rfl ?_
    refine wa_iload (n := 4) rfl ?_
    refine wa_ifeq (w_rg0 (by omega) (by omega)) ⟨_, rfl⟩ (fun c13 => ?_) (fun c13 => ?_)
    · skip
      have h21 : S 321 gb = c := by rcases hgk with z | z; exact z.2.2.2; omega
      have hgb0 : 0 ≤ gb ∧ gb < 8000 := by omega
      refine wa_aload_n (n := 0) rfl ?_
      refine wb_gf4 237 rfl (wy_pr rfl) wt_237 wf_15_77 (v := 321) wl_237_77 ?_
      refine wa_aload_n (n := 0) rfl ?_
      refine wb_gfl 237 rfl (wy_pr rfl) wt_237 wf_15_175 (v := gb) (h75) (fun r14 => ?_)
      refine wb_l2i_r (wb_l2i_id ⟨(by omega), (by omega)⟩) ?_
      refine wb_iald 321 rfl (wy_pr rfl) wt_321 (n := 8000) ((ml_321 hM)) (by omega) (by omega) (v := c) (h21) (fun r15 => ?_)
      refine wa_fall ⟨_, rfl⟩ ?_
      refine wa_istore (n := 5) rfl ?_
      refine wa_iload (n := 4) rfl ?_
      refine wa_ifeq (w_rg0 (by omega) (by omega)) ⟨_, rfl⟩ (fun c16 => ?_) (fun c16 => ?_)
      · skip
        refine wa_iconst ?_
        refine wa_fall ⟨_, rfl⟩ ?_
        refine wJ_top (show 0 = am by omega) ?_
        refine wa_istore (n := 6) rfl ?_
        refine wa_aload_n (n := 0) rfl ?_
        refine wa_iload (n := 5) rfl ?_
        refine wb_pfi 237 rfl (wy_pr rfl) wt_237 wf_15_167 (n := 167) rfl ⟨(by omega), (by omega)⟩ ?_
        refine wa_aload_n (n := 0) rfl ?_
        refine wb_gf4 237 rfl (wy_pr rfl) wt_237 wf_15_50 (v := 305) wl_237_50 ?_
        refine wa_iload_n (n := 1) rfl ?_
        refine wb_iald 305 rfl (wy_pr rfl) wt_305 (n := 4000) ((w_up_slot (by decide)).trans ((ml_305 hM))) (by omega) (by omega) (v := nms) ((w_up_slot (by decide)).trans (h05)) (fun r17 => ?_)
        refine wa_istore (n := 7) rfl ?_
        refine wa_iload_n (n := 2) rfl ?_
        refine wa_ifne (w_rg0 (by omega) (by omega)) ⟨_, rfl⟩ (fun c18 => ?_) (fun c18 => ?_)
        · skip
          refine wa_iload_n (n := 2) rfl ?_
          refine wa_iconst ?_
          refine wa_icmpne (w_rg0 (by omega) (by omega)) (w_rg0 (by omega) (by omega)) ⟨_, rfl⟩ (fun c19 => ?_) (fun c19 => ?_)
          · skip
            refine wa_iload_n (n := 2) rfl ?_
            refine wa_iconst ?_
            refine wa_icmpne (w_rg0 (by omega) (by omega)) (w_rg0 (by omega) (by omega)) ⟨_, rfl⟩ (fun c20 => ?_) (fun c20 => ?_)
            · skip
              exact absurd c20 (by omega)
            · skip
              refine wa_aload_n (n := 0) rfl ?_
              refine wa_ks ?_
              refine wa_iload (n := 7) rfl ?_
              have fb1 : ∀ (j : Nat) (x : Int), ¬ lhM j x → (w_up S 237 167 c) j x = S j x := fun j x hj => (w_up_no (by unfold lhM at hj; omega))
              have hMb1 : w_ML (w_up S 237 167 c) := ML_w hM fb1 (fun j => lhM_1)
              have hKb1 : KR 241 T n cs ms (w_up S 237 167 c) := KR_ag hK (fun j x hj => fb1 j x (by unfold lhM; omega))
              refine wa_cv 237 rfl (wy_pr rfl) wt_237 (M2 := fun _ => False) rfl at_M_wants ⟨_, rfl⟩ rfl rfl ⟨trivial, trivial, trivial, trivial, (Or.inr ⟨wy_pr rfl, fun q => q⟩), trivial, trivial, trivial, trivial⟩ trivial (fun _ _ q => False.elim q) (rwt53 (S := (w_up S 237 167 c)) hX hMb1 hnm ((fb1 282 nms (by unfold lhM; omega)).trans h82) hWl (fun x hx => (fb1 281 _ (by unfold lhM; omega)).trans (h81 x hx))) (fun oq21 Sq21 hp22 q21 => ?_)
              rcases q21 with ⟨rfl, hw21, hf21⟩
              show wJ _ _ _ _ _ _ _ _ _ _
              have hq21 : ∀ (j : Nat) (x : Int), ¬ lhM j x → Sq21 j x = (w_up S 237 167 c) j x := fun j x hj => hf21 j x (lhM_wt hj)
              have fS21 : ∀ (j : Nat) (x : Int), ¬ lhM j x → Sq21 j x = S j x := fun j x hj => (hq21 j x hj).trans (fb1 j x hj)
              refine wa_aload_n (n := 0) rfl ?_
              refine wa_iload (n := 5) rfl ?_
              refine wa_iload (n := 4) rfl ?_
              refine wa_iconst ?_
              have fb2 : ∀ (j : Nat) (x : Int), ¬ lhM j x → Sq21 j x = S j x := fun j x hj => (fS21 j x hj)
              have hMb2 : w_ML Sq21 := ML_w hM fb2 (fun j => lhM_1)
              have hKb2 : KR 241 T n cs ms Sq21 := KR_ag hK (fun j x hj => fb2 j x (by unfold lhM; omega))
              refine wa_cv 237 rfl (wy_pr rfl) wt_237 (M2 := fun _ => False) rfl at_M_collects ⟨_, rfl⟩ rfl rfl ⟨trivial, trivial, trivial, trivial, (Or.inr ⟨wy_pr rfl, fun q => q⟩), trivial, trivial, trivial, trivial⟩ trivial (fun _ _ q => False.elim q) (rco_241 (S := Sq21) (c := c) (st := am) (pc := (-1)) (WW := (wnW ([] : List Int) W)) hMb2 hKb2 hw hO hA hst (by omega) hw21 hc) (fun oq23 Sq23 hp24 q23 => ?_)
              rcases q23 with ⟨rfl, hcd23, hf23⟩
              show wJ _ _ _ _ _ _ _ _ _ _
              have hq23 : ∀ (j : Nat) (x : Int), ¬ lhM j x → Sq23 j x = Sq21 j x := fun j x hj => hf23 j x (lhM_cd hj) (lhM_od hj)
              have fS23 : ∀ (j : Nat) (x : Int), ¬ lhM j x → Sq23 j x = S j x := fun j x hj => (hq23 j x hj).trans (fb2 j x hj)
              rw [hFa] at hcd23
              have hcl23 := hcd23.2.2
              refine wa_aload_n (n := 0) rfl ?_
              refine wb_gfi 237 rfl (wy_pr rfl) wt_237 wf_15_128 (v := ((FA T cs ms os c am 0 (wnW ([] : List Int) W)).length : Int)) (hcd23.1) (fun r25 => ?_)
              refine wa_ifne (w_rg0 (by omega) (by omega)) ⟨_, rfl⟩ (fun c26 => ?_) (fun c26 => ?_)
              · skip
                refine wa_aload_n (n := 0) rfl ?_
                refine wa_aload_n (n := 0) rfl ?_
                refine wb_gf4 237 rfl (wy_pr rfl) wt_237 wf_15_51 (v := 306) wl_237_51 ?_
                refine wa_iload_n (n := 1) rfl ?_
                refine wb_iald 306 rfl (wy_pr rfl) wt_306 (n := 4000) (((hq23 306 (-1) (by unfold lhM; omega)).trans (((hq21 306 (-1) (by unfold lhM; omega)).trans ((w_up_slot (by decide)).trans ((ml_306 hM))))))) (by omega) (by omega) (v := (tl.length : Int)) (((hq23 306 s (by unfold lhM; omega)).trans (((hq21 306 s (by unfold lhM; omega)).trans ((w_up_slot (by decide)).trans (h06)))))) (fun r27 => ?_)
                have fb3 : ∀ (j : Nat) (x : Int), ¬ lhM j x → Sq23 j x = S j x := fun j x hj => (fS23 j x hj)
                have hMb3 : w_ML Sq23 := ML_w hM fb3 (fun j => lhM_1)
                have hKb3 : KR 241 T n cs ms Sq23 := KR_ag hK (fun j x hj => fb3 j x (by unfold lhM; omega))
                refine wa_cv 237 rfl (wy_pr rfl) wt_237 (M2 := fun _ => False) rfl at_M_typesOfEs ⟨_, rfl⟩ rfl rfl ⟨trivial, trivial, trivial, trivial, (Or.inr ⟨wy_pr rfl, fun q => q⟩), trivial, trivial, trivial, trivial⟩ trivial (fun _ _ q => False.elim q) (rty (S := Sq23) (r := r) (tl := tl) hMb3 ((fb3 237 173 (by unfold lhM; omega)).trans h73) hr (rCl_a9 hcl (fun j x hj => fb3 j x (by unfold lhM; omega))) h8) (fun oq28 Sq28 hp29 q28 => ?_)
                rcases q28 with ⟨rfl, ht28, hmn28, hf28⟩
                show wJ _ _ _ _ _ _ _ _ _ _
                have hq28 : ∀ (j : Nat) (x : Int), ¬ lhM j x → Sq28 j x = Sq23 j x := fun j x hj => hf28 j x (lhM_ty hj)
                have fS28 : ∀ (j : Nat) (x : Int), ¬ lhM j x → Sq28 j x = S j x := fun j x hj => (hq28 j x hj).trans (fb3 j x hj)
                have hcd28 : cdI (FA T cs ms os c am 0 (wnW ([] : List Int) W)) Sq28 := cdI_ag hcd23 (fun j x hj => hf28 j x (by unfold tyM; unfold cdM at hj; omega))
                refine wa_aload_n (n := 0) rfl ?_
                refine wa_iload (n := 5) rfl ?_
                refine wa_iload (n := 6) rfl ?_
                refine wa_iload (n := 7) rfl ?_
                refine wa_iload_n (n := 3) rfl ?_
                have fb4 : ∀ (j : Nat) (x : Int), ¬ lhM j x → Sq28 j x = S j x := fun j x hj => (fS28 j x hj)
                have hMb4 : w_ML Sq28 := ML_w hM fb4 (fun j => lhM_1)
                have hKb4 : KR 241 T n cs ms Sq28 := KR_ag hK (fun j x hj => fb4 j x (by unfold lhM; omega))
                have hC30 : rCh T cs ms os N CH wo mo Sq28 := rCh_ag hC (fun j x hj => ((hf28 j x (lh_id hj).2.2.2.1).trans ((hf23 j x (lh_id hj).2.1 (lh_id hj).2.2.1).trans ((hf21 j x (lh_id hj).1).trans (w_up_no (lh_id hj).2.2.2.2)))))
                have hFn : (FA T cs ms os c am 0 (wnW ([] : List Int) W)) ≠ [] := fun z => by have y := hF4.mpr z; omega
                have hqk : qRk T cs ms os N (c, am, 0, (wnW ([] : List Int) W), tl) := ⟨hc, ⟨by show (0 : Int) ≤ am; omega, by show am ≤ (2 : Int); omega⟩, Or.inl rfl, (fun z => absurd z (by show ¬ am = 2; omega)), (fun _ _ => by show wnW ([] : List Int) W ∈ N; rw [show wnW ([] : List Int) W = W from if_pos rfl]; exact hWN), h8, hFn⟩
                have hrc := rcs0_241 (xs := xs) (M := fun _ => False) (d := d + 59) (S := Sq28) (c := c) (am := am) (fs := 0) (md := am) (nc := nms) (WW := (wnW ([] : List Int) W)) (tl := tl) (F := (FA T cs ms os c am 0 (wnW ([] : List Int) W))) hMb4 hKb4 hw hC30 ht28 hqk (by show _ = (if am = 2 then 2 else am + 4 * 0 : Int); rw [if_neg (by omega)]; omega) (by show _ = (if am = 2 then -1 else if (0 : Int) = 1 then _ else ixL N (wnW ([] : List Int) W) : Int); rw [if_neg (by omega), if_neg (by first | decide | omega), show wnW ([] : List Int) W = W from if_pos rfl, hix]) ⟨by omega, by omega⟩ ⟨by omega, by omega⟩ hes hty hcd28 hFm rfl hwo
                rw [← hrv] at hrc
                refine wa_cv 237 rfl (wy_pr rfl) wt_237 (M2 := fun _ => False) rfl at_M_chooses ⟨_, rfl⟩ rfl rfl ⟨trivial, trivial, trivial, trivial, (Or.inr ⟨wy_pr rfl, fun q => q⟩), trivial, trivial, trivial, trivial⟩ trivial (fun _ _ q => False.elim q) (hrc) (fun oq30 Sq30 hp31 q30 => ?_)
                rcases q30 with ⟨ha30, hb30, hcz30, hf30⟩
                have hqx : ∀ (j : Nat) (x : Int), ¬ lhM j x → Sq30 j x = S j x := fun j x hj => (hf30 j x (lhM_cs hj)).trans (fb4 j x hj)
                have e167 : Sq30 237 167 = c := (hf30 237 167 (by unfold csM chM; omega)).trans (((hf28 237 167 (by unfold tyM; omega)).trans ((hf23 237 167 (by unfold cdM; omega) (by unfold odM; omega)).trans ((hf21 237 167 (by unfold wtM; omega)).trans (w_up_same _ _ _ _)))))
                have e172 : Sq30 237 172 = (tl.length : Int) := (hf30 237 172 (by unfold csM chM; omega)).trans hmn28
                have hneg : rv ≠ -1 := fun z => hFn (hr1.mp z)
                by_cases crv : 0 ≤ rv
                · obtain ⟨z1, z2⟩ := ha30 crv
                  subst z1
                  show wJ _ _ _ _ _ _ _ _ _ _
                  refine wa_goto ⟨_, rfl⟩ ?_
                  refine wa_return rfl ?_
                  exact ⟨fun _ => ⟨rfl, z2, e172⟩, fun z => absurd z (by omega), e167, hcz30, hqx⟩
                · obtain ⟨z1, z2, z3⟩ := hb30 (by omega)
                  subst z1
                  refine ⟨rfl, ?_⟩
                  exact ⟨fun z => absurd z (by omega), fun _ => ⟨rfl, by rw [if_neg hneg]; exact z2, z3⟩, e167, hcz30, hqx⟩
              · skip
                refine wa_aload_n (n := 0) rfl ?_
                refine wa_iconst ?_
                refine wa_cv 237 rfl (wy_pr rfl) wt_237 (M2 := fun _ => False) rfl at_M_error ⟨_, rfl⟩ rfl rfl ⟨trivial, trivial, trivial, trivial, (Or.inr ⟨wy_pr rfl, fun q => q⟩), trivial, trivial, trivial, trivial⟩ trivial (fun _ _ q => False.elim q) ?_ (fun _ _ _ q => q)
                refine wa_aload_n (n := 0) rfl ?_
                refine wb_gf4 237 rfl (wy_pr rfl) wt_237 wf_15_1 (v := 238) wl_237_1 ?_
                refine wa_iload_n (n := 1) rfl ?_
                refine wa_iconst ?_
                refine wa_cv 238 rfl (wy_pr rfl) wt_238 (M2 := fun _ => False) rfl at_MH_of ⟨_, rfl⟩ rfl rfl ⟨(Or.inr ⟨wy_pr rfl, fun q => q⟩), trivial, trivial⟩ trivial (fun _ _ q => False.elim q) ?_ (fun _ _ _ q => q)
                refine wa_aload_n (n := 0) rfl ?_
                refine wa_iload_n (n := 1) rfl ?_
                refine wb_pfi 238 rfl (wy_pr rfl) wt_238 wf_11_5 (n := 5) rfl ⟨(by omega), (by omega)⟩ ?_
                refine wa_aload_n (n := 0) rfl ?_
                refine wa_iload_n (n := 2) rfl ?_
                refine wb_pfi 238 rfl (wy_pr rfl) wt_238 wf_11_6 (n := 6) rfl ⟨(by omega), (by omega)⟩ ?_
                refine wa_aload_n (n := 0) rfl ?_
                refine wa_oreturn rfl ?_
                show wJ _ _ _ _ _ _ _ _ _ _
                refine wa_th (j := 238) ?_
                refine ⟨rfl, ?_⟩
                have hFe : (FA T cs ms os c am 0 (wnW ([] : List Int) W)) = [] := hF4.mp (by omega)
                have hrm : rv = -1 := hr1.mpr hFe
                have ech : chN CH wo mo (c, am, 0, (wnW ([] : List Int) W), tl) (FA T cs ms os c am 0 (wnW ([] : List Int) W)) = (CH, wo) := if_pos (Or.inl hFe)
                exact ⟨fun z => absurd z (by omega), fun _ => ⟨rfl, (((w_up_at (by first | decide | omega)).trans (w_up_same _ _ _ _)) : (w_up (w_up Sq23 238 5 4) 238 6 0) 238 5 = _).trans (if_pos (by omega)).symm, (w_up_same _ _ _ _)⟩, ((w_up_no (by omega)).trans ((w_up_no (by omega)).trans ((hf23 237 167 (by unfold cdM; omega) (by unfold odM; omega)).trans ((hf21 237 167 (by unfold wtM; omega)).trans (w_up_same _ _ _ _))))), rCh_ag hC (fun j x hj => ((w_up_no (by unfold chM at hj; omega)).trans ((w_up_no (by unfold chM at hj; omega)).trans ((hf23 j x (lh_id hj).2.1 (lh_id hj).2.2.1).trans ((hf21 j x (lh_id hj).1).trans (w_up_no (by unfold chM at hj; omega))))))), fun j x hj => ((w_up_no (by unfold lhM at hj; omega)).trans ((w_up_no (by unfold lhM at hj; omega)).trans (fS23 j x hj)))⟩
          · skip
            exact absurd c19 (by omega)
        · skip
          exact absurd c18 (by omega)
      · skip
        exact absurd c16 (by omega)
    · skip
      exfalso; omega
  · skip
    refine wa_iconst ?_
    refine wa_goto ⟨_, rfl⟩ ?_
    refine wJ_top (show 1 = am by omega) ?_
    refine wa_istore (n := 4) rfl ?_
    refine wa_iload (n := 4) rfl ?_
    refine wa_ifeq (w_rg0 (by omega) (by omega)) ⟨_, rfl⟩ (fun c32 => ?_) (fun c32 => ?_)
    · skip
      exfalso; omega
    · skip
      have hgbc : gb = c := by omega
      refine wa_aload_n (n := 0) rfl ?_
      refine wb_gfl 237 rfl (wy_pr rfl) wt_237 wf_15_175 (v := gb) (h75) (fun r33 => ?_)
      refine wb_l2i_r (wb_l2i_id ⟨(by omega), (by omega)⟩) ?_
      refine wa_goto ⟨_, rfl⟩ ?_
      refine wJ_top (show gb = c by omega) ?_
      refine wa_istore (n := 5) rfl ?_
      refine wa_iload (n := 4) rfl ?_
      refine wa_ifeq (w_rg0 (by omega) (by omega)) ⟨_, rfl⟩ (fun c34 => ?_) (fun c34 => ?_)
      · skip
        exact absurd c34 (by omega)
      · skip
        refine wa_iconst ?_
        refine wa_goto ⟨_, rfl⟩ ?_
        refine wJ_top (show 1 = am by omega) ?_
        refine wa_istore (n := 6) rfl ?_
        refine wa_aload_n (n := 0) rfl ?_
        refine wa_iload (n := 5) rfl ?_
        refine wb_pfi 237 rfl (wy_pr rfl) wt_237 wf_15_167 (n := 167) rfl ⟨(by omega), (by omega)⟩ ?_
        refine wa_aload_n (n := 0) rfl ?_
        refine wb_gf4 237 rfl (wy_pr rfl) wt_237 wf_15_50 (v := 305) wl_237_50 ?_
        refine wa_iload_n (n := 1) rfl ?_
        refine wb_iald 305 rfl (wy_pr rfl) wt_305 (n := 4000) ((w_up_slot (by decide)).trans ((ml_305 hM))) (by omega) (by omega) (v := nms) ((w_up_slot (by decide)).trans (h05)) (fun r35 => ?_)
        refine wa_istore (n := 7) rfl ?_
        refine wa_iload_n (n := 2) rfl ?_
        refine wa_ifne (w_rg0 (by omega) (by omega)) ⟨_, rfl⟩ (fun c36 => ?_) (fun c36 => ?_)
        · skip
          refine wa_iload_n (n := 2) rfl ?_
          refine wa_iconst ?_
          refine wa_icmpne (w_rg0 (by omega) (by omega)) (w_rg0 (by omega) (by omega)) ⟨_, rfl⟩ (fun c37 => ?_) (fun c37 => ?_)
          · skip
            refine wa_iload_n (n := 2) rfl ?_
            refine wa_iconst ?_
            refine wa_icmpne (w_rg0 (by omega) (by omega)) (w_rg0 (by omega) (by omega)) ⟨_, rfl⟩ (fun c38 => ?_) (fun c38 => ?_)
            · skip
              exact absurd c38 (by omega)
            · skip
              refine wa_aload_n (n := 0) rfl ?_
              refine wa_ks ?_
              refine wa_iload (n := 7) rfl ?_
              have fb5 : ∀ (j : Nat) (x : Int), ¬ lhM j x → (w_up S 237 167 c) j x = S j x := fun j x hj => (w_up_no (by unfold lhM at hj; omega))
              have hMb5 : w_ML (w_up S 237 167 c) := ML_w hM fb5 (fun j => lhM_1)
              have hKb5 : KR 241 T n cs ms (w_up S 237 167 c) := KR_ag hK (fun j x hj => fb5 j x (by unfold lhM; omega))
              refine wa_cv 237 rfl (wy_pr rfl) wt_237 (M2 := fun _ => False) rfl at_M_wants ⟨_, rfl⟩ rfl rfl ⟨trivial, trivial, trivial, trivial, (Or.inr ⟨wy_pr rfl, fun q => q⟩), trivial, trivial, trivial, trivial⟩ trivial (fun _ _ q => False.elim q) (rwt53 (S := (w_up S 237 167 c)) hX hMb5 hnm ((fb5 282 nms (by unfold lhM; omega)).trans h82) hWl (fun x hx => (fb5 281 _ (by unfold lhM; omega)).trans (h81 x hx))) (fun oq39 Sq39 hp40 q39 => ?_)
              rcases q39 with ⟨rfl, hw39, hf39⟩
              show wJ _ _ _ _ _ _ _ _ _ _
              have hq39 : ∀ (j : Nat) (x : Int), ¬ lhM j x → Sq39 j x = (w_up S 237 167 c) j x := fun j x hj => hf39 j x (lhM_wt hj)
              have fS39 : ∀ (j : Nat) (x : Int), ¬ lhM j x → Sq39 j x = S j x := fun j x hj => (hq39 j x hj).trans (fb5 j x hj)
              refine wa_aload_n (n := 0) rfl ?_
              refine wa_iload (n := 5) rfl ?_
              refine wa_iload (n := 4) rfl ?_
              refine wa_iconst ?_
              have fb6 : ∀ (j : Nat) (x : Int), ¬ lhM j x → Sq39 j x = S j x := fun j x hj => (fS39 j x hj)
              have hMb6 : w_ML Sq39 := ML_w hM fb6 (fun j => lhM_1)
              have hKb6 : KR 241 T n cs ms Sq39 := KR_ag hK (fun j x hj => fb6 j x (by unfold lhM; omega))
              refine wa_cv 237 rfl (wy_pr rfl) wt_237 (M2 := fun _ => False) rfl at_M_collects ⟨_, rfl⟩ rfl rfl ⟨trivial, trivial, trivial, trivial, (Or.inr ⟨wy_pr rfl, fun q => q⟩), trivial, trivial, trivial, trivial⟩ trivial (fun _ _ q => False.elim q) (rco_241 (S := Sq39) (c := c) (st := am) (pc := (-1)) (WW := (wnW ([] : List Int) W)) hMb6 hKb6 hw hO hA hst (by omega) hw39 hc) (fun oq41 Sq41 hp42 q41 => ?_)
              rcases q41 with ⟨rfl, hcd41, hf41⟩
              show wJ _ _ _ _ _ _ _ _ _ _
              have hq41 : ∀ (j : Nat) (x : Int), ¬ lhM j x → Sq41 j x = Sq39 j x := fun j x hj => hf41 j x (lhM_cd hj) (lhM_od hj)
              have fS41 : ∀ (j : Nat) (x : Int), ¬ lhM j x → Sq41 j x = S j x := fun j x hj => (hq41 j x hj).trans (fb6 j x hj)
              rw [hFa] at hcd41
              have hcl41 := hcd41.2.2
              refine wa_aload_n (n := 0) rfl ?_
              refine wb_gfi 237 rfl (wy_pr rfl) wt_237 wf_15_128 (v := ((FA T cs ms os c am 0 (wnW ([] : List Int) W)).length : Int)) (hcd41.1) (fun r43 => ?_)
              refine wa_ifne (w_rg0 (by omega) (by omega)) ⟨_, rfl⟩ (fun c44 => ?_) (fun c44 => ?_)
              · skip
                refine wa_aload_n (n := 0) rfl ?_
                refine wa_aload_n (n := 0) rfl ?_
                refine wb_gf4 237 rfl (wy_pr rfl) wt_237 wf_15_51 (v := 306) wl_237_51 ?_
                refine wa_iload_n (n := 1) rfl ?_
                refine wb_iald 306 rfl (wy_pr rfl) wt_306 (n := 4000) (((hq41 306 (-1) (by unfold lhM; omega)).trans (((hq39 306 (-1) (by unfold lhM; omega)).trans ((w_up_slot (by decide)).trans ((ml_306 hM))))))) (by omega) (by omega) (v := (tl.length : Int)) (((hq41 306 s (by unfold lhM; omega)).trans (((hq39 306 s (by unfold lhM; omega)).trans ((w_up_slot (by decide)).trans (h06)))))) (fun r45 => ?_)
                have fb7 : ∀ (j : Nat) (x : Int), ¬ lhM j x → Sq41 j x = S j x := fun j x hj => (fS41 j x hj)
                have hMb7 : w_ML Sq41 := ML_w hM fb7 (fun j => lhM_1)
                have hKb7 : KR 241 T n cs ms Sq41 := KR_ag hK (fun j x hj => fb7 j x (by unfold lhM; omega))
                refine wa_cv 237 rfl (wy_pr rfl) wt_237 (M2 := fun _ => False) rfl at_M_typesOfEs ⟨_, rfl⟩ rfl rfl ⟨trivial, trivial, trivial, trivial, (Or.inr ⟨wy_pr rfl, fun q => q⟩), trivial, trivial, trivial, trivial⟩ trivial (fun _ _ q => False.elim q) (rty (S := Sq41) (r := r) (tl := tl) hMb7 ((fb7 237 173 (by unfold lhM; omega)).trans h73) hr (rCl_a9 hcl (fun j x hj => fb7 j x (by unfold lhM; omega))) h8) (fun oq46 Sq46 hp47 q46 => ?_)
                rcases q46 with ⟨rfl, ht46, hmn46, hf46⟩
                show wJ _ _ _ _ _ _ _ _ _ _
                have hq46 : ∀ (j : Nat) (x : Int), ¬ lhM j x → Sq46 j x = Sq41 j x := fun j x hj => hf46 j x (lhM_ty hj)
                have fS46 : ∀ (j : Nat) (x : Int), ¬ lhM j x → Sq46 j x = S j x := fun j x hj => (hq46 j x hj).trans (fb7 j x hj)
                have hcd46 : cdI (FA T cs ms os c am 0 (wnW ([] : List Int) W)) Sq46 := cdI_ag hcd41 (fun j x hj => hf46 j x (by unfold tyM; unfold cdM at hj; omega))
                refine wa_aload_n (n := 0) rfl ?_
                refine wa_iload (n := 5) rfl ?_
                refine wa_iload (n := 6) rfl ?_
                refine wa_iload (n := 7) rfl ?_
                refine wa_iload_n (n := 3) rfl ?_
                have fb8 : ∀ (j : Nat) (x : Int), ¬ lhM j x → Sq46 j x = S j x := fun j x hj => (fS46 j x hj)
                have hMb8 : w_ML Sq46 := ML_w hM fb8 (fun j => lhM_1)
                have hKb8 : KR 241 T n cs ms Sq46 := KR_ag hK (fun j x hj => fb8 j x (by unfold lhM; omega))
                have hC48 : rCh T cs ms os N CH wo mo Sq46 := rCh_ag hC (fun j x hj => ((hf46 j x (lh_id hj).2.2.2.1).trans ((hf41 j x (lh_id hj).2.1 (lh_id hj).2.2.1).trans ((hf39 j x (lh_id hj).1).trans (w_up_no (lh_id hj).2.2.2.2)))))
                have hFn : (FA T cs ms os c am 0 (wnW ([] : List Int) W)) ≠ [] := fun z => by have y := hF4.mpr z; omega
                have hqk : qRk T cs ms os N (c, am, 0, (wnW ([] : List Int) W), tl) := ⟨hc, ⟨by show (0 : Int) ≤ am; omega, by show am ≤ (2 : Int); omega⟩, Or.inl rfl, (fun z => absurd z (by show ¬ am = 2; omega)), (fun _ _ => by show wnW ([] : List Int) W ∈ N; rw [show wnW ([] : List Int) W = W from if_pos rfl]; exact hWN), h8, hFn⟩
                have hrc := rcs0_241 (xs := xs) (M := fun _ => False) (d := d + 59) (S := Sq46) (c := c) (am := am) (fs := 0) (md := am) (nc := nms) (WW := (wnW ([] : List Int) W)) (tl := tl) (F := (FA T cs ms os c am 0 (wnW ([] : List Int) W))) hMb8 hKb8 hw hC48 ht46 hqk (by show _ = (if am = 2 then 2 else am + 4 * 0 : Int); rw [if_neg (by omega)]; omega) (by show _ = (if am = 2 then -1 else if (0 : Int) = 1 then _ else ixL N (wnW ([] : List Int) W) : Int); rw [if_neg (by omega), if_neg (by first | decide | omega), show wnW ([] : List Int) W = W from if_pos rfl, hix]) ⟨by omega, by omega⟩ ⟨by omega, by omega⟩ hes hty hcd46 hFm rfl hwo
                rw [← hrv] at hrc
                refine wa_cv 237 rfl (wy_pr rfl) wt_237 (M2 := fun _ => False) rfl at_M_chooses ⟨_, rfl⟩ rfl rfl ⟨trivial, trivial, trivial, trivial, (Or.inr ⟨wy_pr rfl, fun q => q⟩), trivial, trivial, trivial, trivial⟩ trivial (fun _ _ q => False.elim q) (hrc) (fun oq48 Sq48 hp49 q48 => ?_)
                rcases q48 with ⟨ha48, hb48, hcz48, hf48⟩
                have hqx : ∀ (j : Nat) (x : Int), ¬ lhM j x → Sq48 j x = S j x := fun j x hj => (hf48 j x (lhM_cs hj)).trans (fb8 j x hj)
                have e167 : Sq48 237 167 = c := (hf48 237 167 (by unfold csM chM; omega)).trans (((hf46 237 167 (by unfold tyM; omega)).trans ((hf41 237 167 (by unfold cdM; omega) (by unfold odM; omega)).trans ((hf39 237 167 (by unfold wtM; omega)).trans (w_up_same _ _ _ _)))))
                have e172 : Sq48 237 172 = (tl.length : Int) := (hf48 237 172 (by unfold csM chM; omega)).trans hmn46
                have hneg : rv ≠ -1 := fun z => hFn (hr1.mp z)
                by_cases crv : 0 ≤ rv
                · obtain ⟨z1, z2⟩ := ha48 crv
                  subst z1
                  show wJ _ _ _ _ _ _ _ _ _ _
                  refine wa_goto ⟨_, rfl⟩ ?_
                  refine wa_return rfl ?_
                  exact ⟨fun _ => ⟨rfl, z2, e172⟩, fun z => absurd z (by omega), e167, hcz48, hqx⟩
                · obtain ⟨z1, z2, z3⟩ := hb48 (by omega)
                  subst z1
                  refine ⟨rfl, ?_⟩
                  exact ⟨fun z => absurd z (by omega), fun _ => ⟨rfl, by rw [if_neg hneg]; exact z2, z3⟩, e167, hcz48, hqx⟩
              · skip
                refine wa_aload_n (n := 0) rfl ?_
                refine wa_iconst ?_
                refine wa_cv 237 rfl (wy_pr rfl) wt_237 (M2 := fun _ => False) rfl at_M_error ⟨_, rfl⟩ rfl rfl ⟨trivial, trivial, trivial, trivial, (Or.inr ⟨wy_pr rfl, fun q => q⟩), trivial, trivial, trivial, trivial⟩ trivial (fun _ _ q => False.elim q) ?_ (fun _ _ _ q => q)
                refine wa_aload_n (n := 0) rfl ?_
                refine wb_gf4 237 rfl (wy_pr rfl) wt_237 wf_15_1 (v := 238) wl_237_1 ?_
                refine wa_iload_n (n := 1) rfl ?_
                refine wa_iconst ?_
                refine wa_cv 238 rfl (wy_pr rfl) wt_238 (M2 := fun _ => False) rfl at_MH_of ⟨_, rfl⟩ rfl rfl ⟨(Or.inr ⟨wy_pr rfl, fun q => q⟩), trivial, trivial⟩ trivial (fun _ _ q => False.elim q) ?_ (fun _ _ _ q => q)
                refine wa_aload_n (n := 0) rfl ?_
                refine wa_iload_n (n := 1) rfl ?_
                refine wb_pfi 238 rfl (wy_pr rfl) wt_238 wf_11_5 (n := 5) rfl ⟨(by omega), (by omega)⟩ ?_
                refine wa_aload_n (n := 0) rfl ?_
                refine wa_iload_n (n := 2) rfl ?_
                refine wb_pfi 238 rfl (wy_pr rfl) wt_238 wf_11_6 (n := 6) rfl ⟨(by omega), (by omega)⟩ ?_
                refine wa_aload_n (n := 0) rfl ?_
                refine wa_oreturn rfl ?_
                show wJ _ _ _ _ _ _ _ _ _ _
                refine wa_th (j := 238) ?_
                refine ⟨rfl, ?_⟩
                have hFe : (FA T cs ms os c am 0 (wnW ([] : List Int) W)) = [] := hF4.mp (by omega)
                have hrm : rv = -1 := hr1.mpr hFe
                have ech : chN CH wo mo (c, am, 0, (wnW ([] : List Int) W), tl) (FA T cs ms os c am 0 (wnW ([] : List Int) W)) = (CH, wo) := if_pos (Or.inl hFe)
                exact ⟨fun z => absurd z (by omega), fun _ => ⟨rfl, (((w_up_at (by first | decide | omega)).trans (w_up_same _ _ _ _)) : (w_up (w_up Sq41 238 5 4) 238 6 0) 238 5 = _).trans (if_pos (by omega)).symm, (w_up_same _ _ _ _)⟩, ((w_up_no (by omega)).trans ((w_up_no (by omega)).trans ((hf41 237 167 (by unfold cdM; omega) (by unfold odM; omega)).trans ((hf39 237 167 (by unfold wtM; omega)).trans (w_up_same _ _ _ _))))), rCh_ag hC (fun j x hj => ((w_up_no (by unfold chM at hj; omega)).trans ((w_up_no (by unfold chM at hj; omega)).trans ((hf41 j x (lh_id hj).2.1 (lh_id hj).2.2.1).trans ((hf39 j x (lh_id hj).1).trans (w_up_no (by unfold chM at hj; omega))))))), fun j x hj => ((w_up_no (by unfold lhM at hj; omega)).trans ((w_up_no (by unfold lhM at hj; omega)).trans (fS41 j x hj)))⟩
          · skip
            exact absurd c37 (by omega)
        · skip
          exact absurd c36 (by omega)
set_option maxHeartbeats 4000000 in
theorem lhn1_241 {s gk gb c am nms r ct : Int} {W tl : List Int} (hM : w_ML S) (hK : KR 241 T n cs ms S) (hw : wHo cs ms os) (hO : wOs cs os) (hA : wAb cs) (hc : 0 ≤ c ∧ c < (cs.length : Int)) (hst : am = 0 ∨ am = 1) (hs : 0 ≤ s ∧ s < 4000) (h05 : S 305 s = nms) (h74 : S 237 174 = gk) (h75 : S 237 175 = gb) (hgk : (gk = 7 ∧ am = 0 ∧ (0 ≤ gb ∧ gb < 8000) ∧ S 321 gb = c) ∨ (gk = 8 ∧ am = 1 ∧ gb = c)) (h172 : S 237 172 = 0) (hC : rCh T cs ms os N CH wo mo S) (h73 : S 237 173 = r) (hr : 0 ≤ r ∧ r + 1 + (tl.length : Int) ≤ 4200) (hcl : rCl S r tl) (h8 : tl.length ≤ 8) (hes : esOk tl) (hty : ∀ c ∈ tl, c < 9 + (cs.length : Int)) (hwo : wo < 10000000) (h06 : S 306 s = (tl.length : Int)) (ham : am = 1) (hnmr : -2147483648 ≤ nms ∧ nms ≤ 2147483647) (hND : ∀ m q : Int, m ∈ mIx cs c → q ∈ mIx cs c → (hmR ms m).2.1 = 2 → (hmR ms q).2.1 = 2 → (hmR ms m).2.2.2.2.1 = (hmR ms q).2.2.2.2.1 → m = q) : wJ (pe_GA xs) wY0 M (d + 66) t_M_looksAtHost ((pe_at t_M_looksAtHost.bl 0).getD (0, [])).2 [(0, (2, 237)), (1, (0, s)), (2, (0, 6)), (3, (0, 1))] [] S (lrQ T cs ms os N (chN CH wo mo (c, 2, 0, [], tl) (FA T cs ms os c 2 0 [])).1 (chN CH wo mo (c, 2, 0, [], tl) (FA T cs ms os c 2 0 [])).2 mo c (rvA T cs ms os (c, 2, 0, [], tl)) (tl.length : Int) S) := by
  have h13 : S 237 13 = 241 := hK.1
  have h60 := hw.1
  have hFm := FA_v (T := T) (am := 2) (fs := 0) (WW := []) hw hc
  obtain ⟨rv, hrv⟩ : ∃ r : Int, r = (rvA T cs ms os (c, 2, 0, [], tl)) := ⟨_, rfl⟩
  have hrr := rvA_rg (T := T) (q := (c, 2, 0, [], tl)) hw hc
  have hr1 := rv_m1 (T := T) (q := (c, 2, 0, [], tl)) hw hc
  rw [← hrv] at hrr hr1 ⊢
  replace hr1 : rv = -1 ↔ (FA T cs ms os c 2 0 []) = [] := hr1
  have hF4 : (FA T cs ms os c 2 0 []).length = 0 ↔ (FA T cs ms os c 2 0 []) = [] := ⟨fun z => List.eq_nil_of_length_eq_zero z, fun z => by rw [z]; rfl⟩
  have hFa : cdA ms (okM T ms 2 0 (-1) []) [] (mOr cs [c]) = (FA T cs ms os c 2 0 []) := by
    unfold FA
    rw [if_pos (show (2 : Int) = 2 from rfl), if_pos (show (2 : Int) = 2 from rfl), if_neg (show ¬ (2 : Int) = 1 by decide), if_neg (show ¬ (0 : Int) = 1 by decide)]
  refine wa_aload_n (n := 0) rfl ?_
  refine wb_gfi 237 rfl (wy_pr rfl) wt_237 wf_15_174 (v := gk) (h74) (fun r11 => ?_)
  refine wa_bipush (w_rg2 (by omega) (by omega)) ?_
  refine wa_icmpne (w_rg0 (by omega) (by omega)) (w_rg0 (by omega) (by omega)) ⟨_, rfl⟩ (fun c12 => ?_) (fun c12 => ?_)
  · skip
    exfalso; omega
  · skip
    refine wa_iconst ?_
    refine wa_goto ⟨_, rfl⟩ ?_
    refine wJ_top (show 1 = am by omega) ?_
    refine wa_istore (n := 4) rfl ?_
    refine wa_iload (n := 4) rfl ?_
    refine wa_ifeq (w_rg0 (by omega) (by omega)) ⟨_, rfl⟩ (fun c13 => ?_) (fun c13 => ?_)
    · skip
      exfalso; omega
    · skip
      have hgbc : gb = c := by omega
      refine wa_aload_n (n := 0) rfl ?_
      refine wb_gfl 237 rfl (wy_pr rfl) wt_237 wf_15_175 (v := gb) (h75) (fun r14 => ?_)
      refine wb_l2i_r (wb_l2i_id ⟨(by omega), (by omega)⟩) ?_
      refine wa_goto ⟨_, rfl⟩ ?_
      refine wJ_top (show gb = c by omega) ?_
      refine wa_istore (n := 5) rfl ?_
      refine wa_iload (n := 4) rfl ?_
      refine wa_ifeq (w_rg0 (by omega) (by omega)) ⟨_, rfl⟩ (fun c15 => ?_) (fun c15 => ?_)
      · skip
        exact absurd c15 (by omega)
      · skip
        refine wa_iconst ?_
        refine wa_goto ⟨_, rfl⟩ ?_
        refine wJ_top (show 1 = am by omega) ?_
        refine wa_istore (n := 6) rfl ?_
        refine wa_aload_n (n := 0) rfl ?_
        refine wa_iload (n := 5) rfl ?_
        refine wb_pfi 237 rfl (wy_pr rfl) wt_237 wf_15_167 (n := 167) rfl ⟨(by omega), (by omega)⟩ ?_
        refine wa_aload_n (n := 0) rfl ?_
        refine wb_gf4 237 rfl (wy_pr rfl) wt_237 wf_15_50 (v := 305) wl_237_50 ?_
        refine wa_iload_n (n := 1) rfl ?_
        refine wb_iald 305 rfl (wy_pr rfl) wt_305 (n := 4000) ((w_up_slot (by decide)).trans ((ml_305 hM))) (by omega) (by omega) (v := nms) ((w_up_slot (by decide)).trans (h05)) (fun r16 => ?_)
        refine wa_istore (n := 7) rfl ?_
        refine wa_iload_n (n := 2) rfl ?_
        refine wa_ifne (w_rg0 (by omega) (by omega)) ⟨_, rfl⟩ (fun c17 => ?_) (fun c17 => ?_)
        · skip
          refine wa_iload_n (n := 2) rfl ?_
          refine wa_iconst ?_
          refine wa_icmpne (w_rg0 (by omega) (by omega)) (w_rg0 (by omega) (by omega)) ⟨_, rfl⟩ (fun c18 => ?_) (fun c18 => ?_)
          · skip
            refine wa_iload_n (n := 2) rfl ?_
            refine wa_iconst ?_
            refine wa_icmpne (w_rg0 (by omega) (by omega)) (w_rg0 (by omega) (by omega)) ⟨_, rfl⟩ (fun c19 => ?_) (fun c19 => ?_)
            · skip
              refine wa_iload_n (n := 2) rfl ?_
              refine wa_bipush (w_rg2 (by omega) (by omega)) ?_
              refine wa_icmpne (w_rg0 (by omega) (by omega)) (w_rg0 (by omega) (by omega)) ⟨_, rfl⟩ (fun c20 => ?_) (fun c20 => ?_)
              · skip
                exact absurd c20 (by omega)
              · skip
                refine wa_iload (n := 4) rfl ?_
                refine wa_ifeq (w_rg0 (by omega) (by omega)) ⟨_, rfl⟩ (fun c21 => ?_) (fun c21 => ?_)
                · skip
                  exact absurd c21 (by omega)
                · skip
                  refine wa_aload_n (n := 0) rfl ?_
                  refine wa_iload (n := 5) rfl ?_
                  have fb1 : ∀ (j : Nat) (x : Int), ¬ lhM j x → (w_up S 237 167 c) j x = S j x := fun j x hj => (w_up_no (by unfold lhM at hj; omega))
                  have hMb1 : w_ML (w_up S 237 167 c) := ML_w hM fb1 (fun j => lhM_1)
                  have hKb1 : KR 241 T n cs ms (w_up S 237 167 c) := KR_ag hK (fun j x hj => fb1 j x (by unfold lhM; omega))
                  refine wa_cv 237 rfl (wy_pr rfl) wt_237 (M2 := fun _ => False) rfl at_M_collectsMakers ⟨_, rfl⟩ rfl rfl ⟨trivial, trivial, trivial, trivial, (Or.inr ⟨wy_pr rfl, fun q => q⟩), trivial, trivial, trivial, trivial⟩ trivial (fun _ _ q => False.elim q) (rcm_241 (d := d + 62) (S := (w_up S 237 167 c)) (c := c) hMb1 hKb1 hw hc hND) (fun oq22 Sq22 hp23 q22 => ?_)
                  rcases q22 with ⟨rfl, hcd22, hf22⟩
                  show wJ _ _ _ _ _ _ _ _ _ _
                  have hq22 : ∀ (j : Nat) (x : Int), ¬ lhM j x → Sq22 j x = (w_up S 237 167 c) j x := fun j x hj => hf22 j x (lhM_cd hj)
                  have fS22 : ∀ (j : Nat) (x : Int), ¬ lhM j x → Sq22 j x = S j x := fun j x hj => (hq22 j x hj).trans (fb1 j x hj)
                  rw [hFa] at hcd22
                  have hcl22 := hcd22.2.2
                  refine wa_aload_n (n := 0) rfl ?_
                  refine wb_gfi 237 rfl (wy_pr rfl) wt_237 wf_15_128 (v := ((FA T cs ms os c 2 0 []).length : Int)) (hcd22.1) (fun r24 => ?_)
                  refine wa_ifne (w_rg0 (by omega) (by omega)) ⟨_, rfl⟩ (fun c25 => ?_) (fun c25 => ?_)
                  · skip
                    refine wa_aload_n (n := 0) rfl ?_
                    refine wa_aload_n (n := 0) rfl ?_
                    refine wb_gf4 237 rfl (wy_pr rfl) wt_237 wf_15_51 (v := 306) wl_237_51 ?_
                    refine wa_iload_n (n := 1) rfl ?_
                    refine wb_iald 306 rfl (wy_pr rfl) wt_306 (n := 4000) (((hq22 306 (-1) (by unfold lhM; omega)).trans ((w_up_slot (by decide)).trans ((ml_306 hM))))) (by omega) (by omega) (v := (tl.length : Int)) (((hq22 306 s (by unfold lhM; omega)).trans ((w_up_slot (by decide)).trans (h06)))) (fun r26 => ?_)
                    have fb2 : ∀ (j : Nat) (x : Int), ¬ lhM j x → Sq22 j x = S j x := fun j x hj => (fS22 j x hj)
                    have hMb2 : w_ML Sq22 := ML_w hM fb2 (fun j => lhM_1)
                    have hKb2 : KR 241 T n cs ms Sq22 := KR_ag hK (fun j x hj => fb2 j x (by unfold lhM; omega))
                    refine wa_cv 237 rfl (wy_pr rfl) wt_237 (M2 := fun _ => False) rfl at_M_typesOfEs ⟨_, rfl⟩ rfl rfl ⟨trivial, trivial, trivial, trivial, (Or.inr ⟨wy_pr rfl, fun q => q⟩), trivial, trivial, trivial, trivial⟩ trivial (fun _ _ q => False.elim q) (rty (S := Sq22) (r := r) (tl := tl) hMb2 ((fb2 237 173 (by unfold lhM; omega)).trans h73) hr (rCl_a9 hcl (fun j x hj => fb2 j x (by unfold lhM; omega))) h8) (fun oq27 Sq27 hp28 q27 => ?_)
                    rcases q27 with ⟨rfl, ht27, hmn27, hf27⟩
                    show wJ _ _ _ _ _ _ _ _ _ _
                    have hq27 : ∀ (j : Nat) (x : Int), ¬ lhM j x → Sq27 j x = Sq22 j x := fun j x hj => hf27 j x (lhM_ty hj)
                    have fS27 : ∀ (j : Nat) (x : Int), ¬ lhM j x → Sq27 j x = S j x := fun j x hj => (hq27 j x hj).trans (fb2 j x hj)
                    have hcd27 : cdI (FA T cs ms os c 2 0 []) Sq27 := cdI_ag hcd22 (fun j x hj => hf27 j x (by unfold tyM; unfold cdM at hj; omega))
                    refine wa_aload_n (n := 0) rfl ?_
                    refine wa_iload (n := 5) rfl ?_
                    refine wa_iconst ?_
                    refine wa_iconst ?_
                    refine wa_iload_n (n := 3) rfl ?_
                    have fb3 : ∀ (j : Nat) (x : Int), ¬ lhM j x → Sq27 j x = S j x := fun j x hj => (fS27 j x hj)
                    have hMb3 : w_ML Sq27 := ML_w hM fb3 (fun j => lhM_1)
                    have hKb3 : KR 241 T n cs ms Sq27 := KR_ag hK (fun j x hj => fb3 j x (by unfold lhM; omega))
                    have hC29 : rCh T cs ms os N CH wo mo Sq27 := rCh_ag hC (fun j x hj => ((hf27 j x (lh_id hj).2.2.2.1).trans ((hf22 j x (lh_id hj).2.1).trans (w_up_no (lh_id hj).2.2.2.2))))
                    have hFn : (FA T cs ms os c 2 0 []) ≠ [] := fun z => by have y := hF4.mpr z; omega
                    have hqk : qRk T cs ms os N (c, 2, 0, [], tl) := ⟨hc, ⟨by show (0 : Int) ≤ 2; omega, by show 2 ≤ (2 : Int); omega⟩, Or.inl rfl, (fun _ => ⟨rfl, rfl⟩), (fun z => absurd rfl z), h8, hFn⟩
                    have hrc := rcs1_241 (xs := xs) (M := fun _ => False) (d := d + 59) (S := Sq27) (c := c) (am := 2) (fs := 0) (md := 2) (nc := (-1)) (WW := []) (tl := tl) (F := (FA T cs ms os c 2 0 [])) hMb3 hKb3 hw hC29 ht27 hqk rfl rfl ⟨by omega, by omega⟩ ⟨by omega, by omega⟩ hes hty hcd27 hFm rfl hwo
                    rw [← hrv] at hrc
                    refine wa_cv 237 rfl (wy_pr rfl) wt_237 (M2 := fun _ => False) rfl at_M_chooses ⟨_, rfl⟩ rfl rfl ⟨trivial, trivial, trivial, trivial, (Or.inr ⟨wy_pr rfl, fun q => q⟩), trivial, trivial, trivial, trivial⟩ trivial (fun _ _ q => False.elim q) (hrc) (fun oq29 Sq29 hp30 q29 => ?_)
                    rcases q29 with ⟨ha29, hb29, hcz29, hf29⟩
                    have hqx : ∀ (j : Nat) (x : Int), ¬ lhM j x → Sq29 j x = S j x := fun j x hj => (hf29 j x (lhM_cs hj)).trans (fb3 j x hj)
                    have e167 : Sq29 237 167 = c := (hf29 237 167 (by unfold csM chM; omega)).trans (((hf27 237 167 (by unfold tyM; omega)).trans ((hf22 237 167 (by unfold cdM; omega)).trans (w_up_same _ _ _ _))))
                    have e172 : Sq29 237 172 = (tl.length : Int) := (hf29 237 172 (by unfold csM chM; omega)).trans hmn27
                    have hneg : rv ≠ -1 := fun z => hFn (hr1.mp z)
                    by_cases crv : 0 ≤ rv
                    · obtain ⟨z1, z2⟩ := ha29 crv
                      subst z1
                      show wJ _ _ _ _ _ _ _ _ _ _
                      refine wa_goto ⟨_, rfl⟩ ?_
                      refine wa_return rfl ?_
                      exact ⟨fun _ => ⟨rfl, z2, e172⟩, fun z => absurd z (by omega), e167, hcz29, hqx⟩
                    · obtain ⟨z1, z2, z3⟩ := hb29 (by omega)
                      subst z1
                      refine ⟨rfl, ?_⟩
                      exact ⟨fun z => absurd z (by omega), fun _ => ⟨rfl, by rw [if_neg hneg]; exact z2, z3⟩, e167, hcz29, hqx⟩
                  · skip
                    refine wa_aload_n (n := 0) rfl ?_
                    refine wa_iconst ?_
                    refine wa_cv 237 rfl (wy_pr rfl) wt_237 (M2 := fun _ => False) rfl at_M_error ⟨_, rfl⟩ rfl rfl ⟨trivial, trivial, trivial, trivial, (Or.inr ⟨wy_pr rfl, fun q => q⟩), trivial, trivial, trivial, trivial⟩ trivial (fun _ _ q => False.elim q) ?_ (fun _ _ _ q => q)
                    refine wa_aload_n (n := 0) rfl ?_
                    refine wb_gf4 237 rfl (wy_pr rfl) wt_237 wf_15_1 (v := 238) wl_237_1 ?_
                    refine wa_iload_n (n := 1) rfl ?_
                    refine wa_iconst ?_
                    refine wa_cv 238 rfl (wy_pr rfl) wt_238 (M2 := fun _ => False) rfl at_MH_of ⟨_, rfl⟩ rfl rfl ⟨(Or.inr ⟨wy_pr rfl, fun q => q⟩), trivial, trivial⟩ trivial (fun _ _ q => False.elim q) ?_ (fun _ _ _ q => q)
                    refine wa_aload_n (n := 0) rfl ?_
                    refine wa_iload_n (n := 1) rfl ?_
                    refine wb_pfi 238 rfl (wy_pr rfl) wt_238 wf_11_5 (n := 5) rfl ⟨(by omega), (by omega)⟩ ?_
                    refine wa_aload_n (n := 0) rfl ?_
                    refine wa_iload_n (n := 2) rfl ?_
                    refine wb_pfi 238 rfl (wy_pr rfl) wt_238 wf_11_6 (n := 6) rfl ⟨(by omega), (by omega)⟩ ?_
                    refine wa_aload_n (n := 0) rfl ?_
                    refine wa_oreturn rfl ?_
                    show wJ _ _ _ _ _ _ _ _ _ _
                    refine wa_th (j := 238) ?_
                    refine ⟨rfl, ?_⟩
                    have hFe : (FA T cs ms os c 2 0 []) = [] := hF4.mp (by omega)
                    have hrm : rv = -1 := hr1.mpr hFe
                    have ech : chN CH wo mo (c, 2, 0, [], tl) (FA T cs ms os c 2 0 []) = (CH, wo) := if_pos (Or.inl hFe)
                    rw [ech]
                    exact ⟨fun z => absurd z (by omega), fun _ => ⟨rfl, (((w_up_at (by first | decide | omega)).trans (w_up_same _ _ _ _)) : (w_up (w_up Sq22 238 5 4) 238 6 0) 238 5 = _).trans (if_pos (by omega)).symm, (w_up_same _ _ _ _)⟩, ((w_up_no (by omega)).trans ((w_up_no (by omega)).trans ((hf22 237 167 (by unfold cdM; omega)).trans (w_up_same _ _ _ _)))), rCh_ag hC (fun j x hj => ((w_up_no (by unfold chM at hj; omega)).trans ((w_up_no (by unfold chM at hj; omega)).trans ((hf22 j x (lh_id hj).2.1).trans (w_up_no (by unfold chM at hj; omega)))))), fun j x hj => ((w_up_no (by unfold lhM at hj; omega)).trans ((w_up_no (by unfold lhM at hj; omega)).trans (fS22 j x hj)))⟩
            · skip
              exact absurd c19 (by omega)
          · skip
            exact absurd c18 (by omega)
        · skip
          exact absurd c17 (by omega)
set_option maxHeartbeats 4000000 in
theorem lhn0_241 {s gk gb c am nms r ct : Int} {W tl : List Int} (hM : w_ML S) (hK : KR 241 T n cs ms S) (hw : wHo cs ms os) (hO : wOs cs os) (hA : wAb cs) (hc : 0 ≤ c ∧ c < (cs.length : Int)) (hst : am = 0 ∨ am = 1) (hs : 0 ≤ s ∧ s < 4000) (h05 : S 305 s = nms) (h74 : S 237 174 = gk) (h75 : S 237 175 = gb) (hgk : (gk = 7 ∧ am = 0 ∧ (0 ≤ gb ∧ gb < 8000) ∧ S 321 gb = c) ∨ (gk = 8 ∧ am = 1 ∧ gb = c)) (h172 : S 237 172 = 0) (hC : rCh T cs ms os N CH wo mo S) (h73 : S 237 173 = r) (hr : 0 ≤ r ∧ r + 1 + (tl.length : Int) ≤ 4200) (hcl : rCl S r tl) (h8 : tl.length ≤ 8) (hes : esOk tl) (hty : ∀ c ∈ tl, c < 9 + (cs.length : Int)) (hwo : wo < 10000000) (h06 : S 306 s = (tl.length : Int)) (ham : am = 1) (hnmr : -2147483648 ≤ nms ∧ nms ≤ 2147483647) (hND : ∀ m q : Int, m ∈ mIx cs c → q ∈ mIx cs c → (hmR ms m).2.1 = 2 → (hmR ms q).2.1 = 2 → (hmR ms m).2.2.2.2.1 = (hmR ms q).2.2.2.2.1 → m = q) : wJ (pe_GA xs) wY0 M (d + 66) t_M_looksAtHost ((pe_at t_M_looksAtHost.bl 0).getD (0, [])).2 [(0, (2, 237)), (1, (0, s)), (2, (0, 6)), (3, (0, 0))] [] S (lrQ T cs ms os N CH wo mo c (rvA T cs ms os (c, 2, 0, [], tl)) (tl.length : Int) S) := by
  have h13 : S 237 13 = 241 := hK.1
  have h60 := hw.1
  have hFm := FA_v (T := T) (am := 2) (fs := 0) (WW := []) hw hc
  obtain ⟨rv, hrv⟩ : ∃ r : Int, r = (rvA T cs ms os (c, 2, 0, [], tl)) := ⟨_, rfl⟩
  have hrr := rvA_rg (T := T) (q := (c, 2, 0, [], tl)) hw hc
  have hr1 := rv_m1 (T := T) (q := (c, 2, 0, [], tl)) hw hc
  rw [← hrv] at hrr hr1 ⊢
  replace hr1 : rv = -1 ↔ (FA T cs ms os c 2 0 []) = [] := hr1
  have hF4 : (FA T cs ms os c 2 0 []).length = 0 ↔ (FA T cs ms os c 2 0 []) = [] := ⟨fun z => List.eq_nil_of_length_eq_zero z, fun z => by rw [z]; rfl⟩
  have hFa : cdA ms (okM T ms 2 0 (-1) []) [] (mOr cs [c]) = (FA T cs ms os c 2 0 []) := by
    unfold FA
    rw [if_pos (show (2 : Int) = 2 from rfl), if_pos (show (2 : Int) = 2 from rfl), if_neg (show ¬ (2 : Int) = 1 by decide), if_neg (show ¬ (0 : Int) = 1 by decide)]
  refine wa_aload_n (n := 0) rfl ?_
  refine wb_gfi 237 rfl (wy_pr rfl) wt_237 wf_15_174 (v := gk) (h74) (fun r11 => ?_)
  refine wa_bipush (w_rg2 (by omega) (by omega)) ?_
  refine wa_icmpne (w_rg0 (by omega) (by omega)) (w_rg0 (by omega) (by omega)) ⟨_, rfl⟩ (fun c12 => ?_) (fun c12 => ?_)
  · skip
    exfalso; omega
  · skip
    refine wa_iconst ?_
    refine wa_goto ⟨_, rfl⟩ ?_
    refine wJ_top (show 1 = am by omega) ?_
    refine wa_istore (n := 4) rfl ?_
    refine wa_iload (n := 4) rfl ?_
    refine wa_ifeq (w_rg0 (by omega) (by omega)) ⟨_, rfl⟩ (fun c13 => ?_) (fun c13 => ?_)
    · skip
      exfalso; omega
    · skip
      have hgbc : gb = c := by omega
      refine wa_aload_n (n := 0) rfl ?_
      refine wb_gfl 237 rfl (wy_pr rfl) wt_237 wf_15_175 (v := gb) (h75) (fun r14 => ?_)
      refine wb_l2i_r (wb_l2i_id ⟨(by omega), (by omega)⟩) ?_
      refine wa_goto ⟨_, rfl⟩ ?_
      refine wJ_top (show gb = c by omega) ?_
      refine wa_istore (n := 5) rfl ?_
      refine wa_iload (n := 4) rfl ?_
      refine wa_ifeq (w_rg0 (by omega) (by omega)) ⟨_, rfl⟩ (fun c15 => ?_) (fun c15 => ?_)
      · skip
        exact absurd c15 (by omega)
      · skip
        refine wa_iconst ?_
        refine wa_goto ⟨_, rfl⟩ ?_
        refine wJ_top (show 1 = am by omega) ?_
        refine wa_istore (n := 6) rfl ?_
        refine wa_aload_n (n := 0) rfl ?_
        refine wa_iload (n := 5) rfl ?_
        refine wb_pfi 237 rfl (wy_pr rfl) wt_237 wf_15_167 (n := 167) rfl ⟨(by omega), (by omega)⟩ ?_
        refine wa_aload_n (n := 0) rfl ?_
        refine wb_gf4 237 rfl (wy_pr rfl) wt_237 wf_15_50 (v := 305) wl_237_50 ?_
        refine wa_iload_n (n := 1) rfl ?_
        refine wb_iald 305 rfl (wy_pr rfl) wt_305 (n := 4000) ((w_up_slot (by decide)).trans ((ml_305 hM))) (by omega) (by omega) (v := nms) ((w_up_slot (by decide)).trans (h05)) (fun r16 => ?_)
        refine wa_istore (n := 7) rfl ?_
        refine wa_iload_n (n := 2) rfl ?_
        refine wa_ifne (w_rg0 (by omega) (by omega)) ⟨_, rfl⟩ (fun c17 => ?_) (fun c17 => ?_)
        · skip
          refine wa_iload_n (n := 2) rfl ?_
          refine wa_iconst ?_
          refine wa_icmpne (w_rg0 (by omega) (by omega)) (w_rg0 (by omega) (by omega)) ⟨_, rfl⟩ (fun c18 => ?_) (fun c18 => ?_)
          · skip
            refine wa_iload_n (n := 2) rfl ?_
            refine wa_iconst ?_
            refine wa_icmpne (w_rg0 (by omega) (by omega)) (w_rg0 (by omega) (by omega)) ⟨_, rfl⟩ (fun c19 => ?_) (fun c19 => ?_)
            · skip
              refine wa_iload_n (n := 2) rfl ?_
              refine wa_bipush (w_rg2 (by omega) (by omega)) ?_
              refine wa_icmpne (w_rg0 (by omega) (by omega)) (w_rg0 (by omega) (by omega)) ⟨_, rfl⟩ (fun c20 => ?_) (fun c20 => ?_)
              · skip
                exact absurd c20 (by omega)
              · skip
                refine wa_iload (n := 4) rfl ?_
                refine wa_ifeq (w_rg0 (by omega) (by omega)) ⟨_, rfl⟩ (fun c21 => ?_) (fun c21 => ?_)
                · skip
                  exact absurd c21 (by omega)
                · skip
                  refine wa_aload_n (n := 0) rfl ?_
                  refine wa_iload (n := 5) rfl ?_
                  have fb1 : ∀ (j : Nat) (x : Int), ¬ lhM j x → (w_up S 237 167 c) j x = S j x := fun j x hj => (w_up_no (by unfold lhM at hj; omega))
                  have hMb1 : w_ML (w_up S 237 167 c) := ML_w hM fb1 (fun j => lhM_1)
                  have hKb1 : KR 241 T n cs ms (w_up S 237 167 c) := KR_ag hK (fun j x hj => fb1 j x (by unfold lhM; omega))
                  refine wa_cv 237 rfl (wy_pr rfl) wt_237 (M2 := fun _ => False) rfl at_M_collectsMakers ⟨_, rfl⟩ rfl rfl ⟨trivial, trivial, trivial, trivial, (Or.inr ⟨wy_pr rfl, fun q => q⟩), trivial, trivial, trivial, trivial⟩ trivial (fun _ _ q => False.elim q) (rcm_241 (d := d + 62) (S := (w_up S 237 167 c)) (c := c) hMb1 hKb1 hw hc hND) (fun oq22 Sq22 hp23 q22 => ?_)
                  rcases q22 with ⟨rfl, hcd22, hf22⟩
                  show wJ _ _ _ _ _ _ _ _ _ _
                  have hq22 : ∀ (j : Nat) (x : Int), ¬ lhM j x → Sq22 j x = (w_up S 237 167 c) j x := fun j x hj => hf22 j x (lhM_cd hj)
                  have fS22 : ∀ (j : Nat) (x : Int), ¬ lhM j x → Sq22 j x = S j x := fun j x hj => (hq22 j x hj).trans (fb1 j x hj)
                  rw [hFa] at hcd22
                  have hcl22 := hcd22.2.2
                  refine wa_aload_n (n := 0) rfl ?_
                  refine wb_gfi 237 rfl (wy_pr rfl) wt_237 wf_15_128 (v := ((FA T cs ms os c 2 0 []).length : Int)) (hcd22.1) (fun r24 => ?_)
                  refine wa_ifne (w_rg0 (by omega) (by omega)) ⟨_, rfl⟩ (fun c25 => ?_) (fun c25 => ?_)
                  · skip
                    refine wa_aload_n (n := 0) rfl ?_
                    refine wa_aload_n (n := 0) rfl ?_
                    refine wb_gf4 237 rfl (wy_pr rfl) wt_237 wf_15_51 (v := 306) wl_237_51 ?_
                    refine wa_iload_n (n := 1) rfl ?_
                    refine wb_iald 306 rfl (wy_pr rfl) wt_306 (n := 4000) (((hq22 306 (-1) (by unfold lhM; omega)).trans ((w_up_slot (by decide)).trans ((ml_306 hM))))) (by omega) (by omega) (v := (tl.length : Int)) (((hq22 306 s (by unfold lhM; omega)).trans ((w_up_slot (by decide)).trans (h06)))) (fun r26 => ?_)
                    have fb2 : ∀ (j : Nat) (x : Int), ¬ lhM j x → Sq22 j x = S j x := fun j x hj => (fS22 j x hj)
                    have hMb2 : w_ML Sq22 := ML_w hM fb2 (fun j => lhM_1)
                    have hKb2 : KR 241 T n cs ms Sq22 := KR_ag hK (fun j x hj => fb2 j x (by unfold lhM; omega))
                    refine wa_cv 237 rfl (wy_pr rfl) wt_237 (M2 := fun _ => False) rfl at_M_typesOfEs ⟨_, rfl⟩ rfl rfl ⟨trivial, trivial, trivial, trivial, (Or.inr ⟨wy_pr rfl, fun q => q⟩), trivial, trivial, trivial, trivial⟩ trivial (fun _ _ q => False.elim q) (rty (S := Sq22) (r := r) (tl := tl) hMb2 ((fb2 237 173 (by unfold lhM; omega)).trans h73) hr (rCl_a9 hcl (fun j x hj => fb2 j x (by unfold lhM; omega))) h8) (fun oq27 Sq27 hp28 q27 => ?_)
                    rcases q27 with ⟨rfl, ht27, hmn27, hf27⟩
                    show wJ _ _ _ _ _ _ _ _ _ _
                    have hq27 : ∀ (j : Nat) (x : Int), ¬ lhM j x → Sq27 j x = Sq22 j x := fun j x hj => hf27 j x (lhM_ty hj)
                    have fS27 : ∀ (j : Nat) (x : Int), ¬ lhM j x → Sq27 j x = S j x := fun j x hj => (hq27 j x hj).trans (fb2 j x hj)
                    have hcd27 : cdI (FA T cs ms os c 2 0 []) Sq27 := cdI_ag hcd22 (fun j x hj => hf27 j x (by unfold tyM; unfold cdM at hj; omega))
                    refine wa_aload_n (n := 0) rfl ?_
                    refine wa_iload (n := 5) rfl ?_
                    refine wa_iconst ?_
                    refine wa_iconst ?_
                    refine wa_iload_n (n := 3) rfl ?_
                    have fb3 : ∀ (j : Nat) (x : Int), ¬ lhM j x → Sq27 j x = S j x := fun j x hj => (fS27 j x hj)
                    have hMb3 : w_ML Sq27 := ML_w hM fb3 (fun j => lhM_1)
                    have hKb3 : KR 241 T n cs ms Sq27 := KR_ag hK (fun j x hj => fb3 j x (by unfold lhM; omega))
                    have hC29 : rCh T cs ms os N CH wo mo Sq27 := rCh_ag hC (fun j x hj => ((hf27 j x (lh_id hj).2.2.2.1).trans ((hf22 j x (lh_id hj).2.1).trans (w_up_no (lh_id hj).2.2.2.2))))
                    have hFn : (FA T cs ms os c 2 0 []) ≠ [] := fun z => by have y := hF4.mpr z; omega
                    have hqk : qRk T cs ms os N (c, 2, 0, [], tl) := ⟨hc, ⟨by show (0 : Int) ≤ 2; omega, by show 2 ≤ (2 : Int); omega⟩, Or.inl rfl, (fun _ => ⟨rfl, rfl⟩), (fun z => absurd rfl z), h8, hFn⟩
                    have hrc := rcs0_241 (xs := xs) (M := fun _ => False) (d := d + 59) (S := Sq27) (c := c) (am := 2) (fs := 0) (md := 2) (nc := (-1)) (WW := []) (tl := tl) (F := (FA T cs ms os c 2 0 [])) hMb3 hKb3 hw hC29 ht27 hqk rfl rfl ⟨by omega, by omega⟩ ⟨by omega, by omega⟩ hes hty hcd27 hFm rfl hwo
                    rw [← hrv] at hrc
                    refine wa_cv 237 rfl (wy_pr rfl) wt_237 (M2 := fun _ => False) rfl at_M_chooses ⟨_, rfl⟩ rfl rfl ⟨trivial, trivial, trivial, trivial, (Or.inr ⟨wy_pr rfl, fun q => q⟩), trivial, trivial, trivial, trivial⟩ trivial (fun _ _ q => False.elim q) (hrc) (fun oq29 Sq29 hp30 q29 => ?_)
                    rcases q29 with ⟨ha29, hb29, hcz29, hf29⟩
                    have hqx : ∀ (j : Nat) (x : Int), ¬ lhM j x → Sq29 j x = S j x := fun j x hj => (hf29 j x (lhM_cs hj)).trans (fb3 j x hj)
                    have e167 : Sq29 237 167 = c := (hf29 237 167 (by unfold csM chM; omega)).trans (((hf27 237 167 (by unfold tyM; omega)).trans ((hf22 237 167 (by unfold cdM; omega)).trans (w_up_same _ _ _ _))))
                    have e172 : Sq29 237 172 = (tl.length : Int) := (hf29 237 172 (by unfold csM chM; omega)).trans hmn27
                    have hneg : rv ≠ -1 := fun z => hFn (hr1.mp z)
                    by_cases crv : 0 ≤ rv
                    · obtain ⟨z1, z2⟩ := ha29 crv
                      subst z1
                      show wJ _ _ _ _ _ _ _ _ _ _
                      refine wa_goto ⟨_, rfl⟩ ?_
                      refine wa_return rfl ?_
                      exact ⟨fun _ => ⟨rfl, z2, e172⟩, fun z => absurd z (by omega), e167, hcz29, hqx⟩
                    · obtain ⟨z1, z2, z3⟩ := hb29 (by omega)
                      subst z1
                      refine ⟨rfl, ?_⟩
                      exact ⟨fun z => absurd z (by omega), fun _ => ⟨rfl, by rw [if_neg hneg]; exact z2, z3⟩, e167, hcz29, hqx⟩
                  · skip
                    refine wa_aload_n (n := 0) rfl ?_
                    refine wa_iconst ?_
                    refine wa_cv 237 rfl (wy_pr rfl) wt_237 (M2 := fun _ => False) rfl at_M_error ⟨_, rfl⟩ rfl rfl ⟨trivial, trivial, trivial, trivial, (Or.inr ⟨wy_pr rfl, fun q => q⟩), trivial, trivial, trivial, trivial⟩ trivial (fun _ _ q => False.elim q) ?_ (fun _ _ _ q => q)
                    refine wa_aload_n (n := 0) rfl ?_
                    refine wb_gf4 237 rfl (wy_pr rfl) wt_237 wf_15_1 (v := 238) wl_237_1 ?_
                    refine wa_iload_n (n := 1) rfl ?_
                    refine wa_iconst ?_
                    refine wa_cv 238 rfl (wy_pr rfl) wt_238 (M2 := fun _ => False) rfl at_MH_of ⟨_, rfl⟩ rfl rfl ⟨(Or.inr ⟨wy_pr rfl, fun q => q⟩), trivial, trivial⟩ trivial (fun _ _ q => False.elim q) ?_ (fun _ _ _ q => q)
                    refine wa_aload_n (n := 0) rfl ?_
                    refine wa_iload_n (n := 1) rfl ?_
                    refine wb_pfi 238 rfl (wy_pr rfl) wt_238 wf_11_5 (n := 5) rfl ⟨(by omega), (by omega)⟩ ?_
                    refine wa_aload_n (n := 0) rfl ?_
                    refine wa_iload_n (n := 2) rfl ?_
                    refine wb_pfi 238 rfl (wy_pr rfl) wt_238 wf_11_6 (n := 6) rfl ⟨(by omega), (by omega)⟩ ?_
                    refine wa_aload_n (n := 0) rfl ?_
                    refine wa_oreturn rfl ?_
                    show wJ _ _ _ _ _ _ _ _ _ _
                    refine wa_th (j := 238) ?_
                    refine ⟨rfl, ?_⟩
                    have hFe : (FA T cs ms os c 2 0 []) = [] := hF4.mp (by omega)
                    have hrm : rv = -1 := hr1.mpr hFe
                    have ech : chN CH wo mo (c, 2, 0, [], tl) (FA T cs ms os c 2 0 []) = (CH, wo) := if_pos (Or.inl hFe)
                    exact ⟨fun z => absurd z (by omega), fun _ => ⟨rfl, (((w_up_at (by first | decide | omega)).trans (w_up_same _ _ _ _)) : (w_up (w_up Sq22 238 5 4) 238 6 0) 238 5 = _).trans (if_pos (by omega)).symm, (w_up_same _ _ _ _)⟩, ((w_up_no (by omega)).trans ((w_up_no (by omega)).trans ((hf22 237 167 (by unfold cdM; omega)).trans (w_up_same _ _ _ _)))), rCh_ag hC (fun j x hj => ((w_up_no (by unfold chM at hj; omega)).trans ((w_up_no (by unfold chM at hj; omega)).trans ((hf22 j x (lh_id hj).2.1).trans (w_up_no (by unfold chM at hj; omega)))))), fun j x hj => ((w_up_no (by unfold lhM at hj; omega)).trans ((w_up_no (by unfold lhM at hj; omega)).trans (fS22 j x hj)))⟩
            · skip
              exact absurd c19 (by omega)
          · skip
            exact absurd c18 (by omega)
        · skip
          exact absurd c17 (by omega)
theorem lhx_241 {s kd gk gb c am nms ct : Int} (hM : w_ML S) (hs : 0 ≤ s ∧ s < 4000) (h05 : S 305 s = nms) (h74 : S 237 174 = gk) (h75 : S 237 175 = gb) (hc : 0 ≤ c ∧ c < 60) (hgk : (gk = 7 ∧ am = 0 ∧ (0 ≤ gb ∧ gb < 8000) ∧ S 321 gb = c) ∨ (gk = 8 ∧ am = 1 ∧ gb = c)) (hkd : 2 ≤ kd ∧ kd ≤ 6 ∧ kd ≠ 5 ∧ (kd = 6 → am = 0)) : wJ (pe_GA xs) wY0 M (d + 66) t_M_looksAtHost ((pe_at t_M_looksAtHost.bl 0).getD (0, [])).2 [(0, (2, 237)), (1, (0, s)), (2, (0, kd)), (3, (0, ct))] [] S (fun o Z => o = .inr 238 ∧ hZ 5 (w_up S 237 167 c) = Z) := by
  refine wa_aload_n (n := 0) rfl ?_
  refine wb_gfi 237 rfl (wy_pr rfl) wt_237 wf_15_174 (v := gk) (h74) (fun r1 => ?_)
  refine wa_bipush (w_rg2 (by omega) (by omega)) ?_
  refine wa_icmpne (w_rg0 (by omega) (by omega)) (w_rg0 (by omega) (by omega)) ⟨_, rfl⟩ (fun c2 => ?_) (fun c2 => ?_)
  · skip
    refine wa_iconst ?_
    refine wa_fall ⟨_, rfl⟩ ?_
    refine wJ_top (show 0 = am by omega) ?_
    refine wa_istore (n := 4) rfl ?_
    refine wa_iload (n := 4) rfl ?_
    refine wa_ifeq (w_rg0 (by omega) (by omega)) ⟨_, rfl⟩ (fun c3 => ?_) (fun c3 => ?_)
    · skip
      have h21 : S 321 gb = c := by rcases hgk with z | z; exact z.2.2.2; omega
      have hgb0 : 0 ≤ gb ∧ gb < 8000 := by omega
      refine wa_aload_n (n := 0) rfl ?_
      refine wb_gf4 237 rfl (wy_pr rfl) wt_237 wf_15_77 (v := 321) wl_237_77 ?_
      refine wa_aload_n (n := 0) rfl ?_
      refine wb_gfl 237 rfl (wy_pr rfl) wt_237 wf_15_175 (v := gb) (h75) (fun r4 => ?_)
      refine wb_l2i_r (wb_l2i_id ⟨(by omega), (by omega)⟩) ?_
      refine wb_iald 321 rfl (wy_pr rfl) wt_321 (n := 8000) ((ml_321 hM)) (by omega) (by omega) (v := c) (h21) (fun r5 => ?_)
      refine wa_fall ⟨_, rfl⟩ ?_
      refine wa_istore (n := 5) rfl ?_
      refine wa_iload (n := 4) rfl ?_
      refine wa_ifeq (w_rg0 (by omega) (by omega)) ⟨_, rfl⟩ (fun c6 => ?_) (fun c6 => ?_)
      · skip
        refine wa_iconst ?_
        refine wa_fall ⟨_, rfl⟩ ?_
        refine wJ_top (show 0 = am by omega) ?_
        refine wa_istore (n := 6) rfl ?_
        refine wa_aload_n (n := 0) rfl ?_
        refine wa_iload (n := 5) rfl ?_
        refine wb_pfi 237 rfl (wy_pr rfl) wt_237 wf_15_167 (n := 167) rfl ⟨(by omega), (by omega)⟩ ?_
        refine wa_aload_n (n := 0) rfl ?_
        refine wb_gf4 237 rfl (wy_pr rfl) wt_237 wf_15_50 (v := 305) wl_237_50 ?_
        refine wa_iload_n (n := 1) rfl ?_
        refine wb_iald 305 rfl (wy_pr rfl) wt_305 (n := 4000) ((w_up_slot (by decide)).trans ((ml_305 hM))) (by omega) (by omega) (v := nms) ((w_up_slot (by decide)).trans (h05)) (fun r7 => ?_)
        refine wa_istore (n := 7) rfl ?_
        refine wa_iload_n (n := 2) rfl ?_
        refine wa_ifne (w_rg0 (by omega) (by omega)) ⟨_, rfl⟩ (fun c8 => ?_) (fun c8 => ?_)
        · skip
          refine wa_iload_n (n := 2) rfl ?_
          refine wa_iconst ?_
          refine wa_icmpne (w_rg0 (by omega) (by omega)) (w_rg0 (by omega) (by omega)) ⟨_, rfl⟩ (fun c9 => ?_) (fun c9 => ?_)
          · skip
            refine wa_iload_n (n := 2) rfl ?_
            refine wa_iconst ?_
            refine wa_icmpne (w_rg0 (by omega) (by omega)) (w_rg0 (by omega) (by omega)) ⟨_, rfl⟩ (fun c10 => ?_) (fun c10 => ?_)
            · skip
              refine wa_iload_n (n := 2) rfl ?_
              refine wa_bipush (w_rg2 (by omega) (by omega)) ?_
              refine wa_icmpne (w_rg0 (by omega) (by omega)) (w_rg0 (by omega) (by omega)) ⟨_, rfl⟩ (fun c11 => ?_) (fun c11 => ?_)
              · skip
                refine wa_aload_n (n := 0) rfl ?_
                refine wa_iconst ?_
                refine wa_cv 237 rfl (wy_pr rfl) wt_237 (M2 := fun _ => False) rfl at_M_error ⟨_, rfl⟩ rfl rfl ⟨trivial, trivial, trivial, trivial, (Or.inr ⟨wy_pr rfl, fun q => q⟩), trivial, trivial, trivial, trivial⟩ trivial (fun _ _ q => False.elim q) ?_ (fun _ _ _ q => q)
                refine wa_aload_n (n := 0) rfl ?_
                refine wb_gf4 237 rfl (wy_pr rfl) wt_237 wf_15_1 (v := 238) wl_237_1 ?_
                refine wa_iload_n (n := 1) rfl ?_
                refine wa_iconst ?_
                refine wa_cv 238 rfl (wy_pr rfl) wt_238 (M2 := fun _ => False) rfl at_MH_of ⟨_, rfl⟩ rfl rfl ⟨(Or.inr ⟨wy_pr rfl, fun q => q⟩), trivial, trivial⟩ trivial (fun _ _ q => False.elim q) ?_ (fun _ _ _ q => q)
                refine wa_aload_n (n := 0) rfl ?_
                refine wa_iload_n (n := 1) rfl ?_
                refine wb_pfi 238 rfl (wy_pr rfl) wt_238 wf_11_5 (n := 5) rfl ⟨(by omega), (by omega)⟩ ?_
                refine wa_aload_n (n := 0) rfl ?_
                refine wa_iload_n (n := 2) rfl ?_
                refine wb_pfi 238 rfl (wy_pr rfl) wt_238 wf_11_6 (n := 6) rfl ⟨(by omega), (by omega)⟩ ?_
                refine wa_aload_n (n := 0) rfl ?_
                refine wa_oreturn rfl ?_
                show wJ _ _ _ _ _ _ _ _ _ _
                refine wa_th (j := 238) ?_
                refine ⟨rfl, ?_⟩
                exact ⟨rfl, rfl⟩
              · skip
                refine wa_iload (n := 4) rfl ?_
                refine wa_ifeq (w_rg0 (by omega) (by omega)) ⟨_, rfl⟩ (fun c12 => ?_) (fun c12 => ?_)
                · skip
                  refine wa_aload_n (n := 0) rfl ?_
                  refine wa_iconst ?_
                  refine wa_cv 237 rfl (wy_pr rfl) wt_237 (M2 := fun _ => False) rfl at_M_error ⟨_, rfl⟩ rfl rfl ⟨trivial, trivial, trivial, trivial, (Or.inr ⟨wy_pr rfl, fun q => q⟩), trivial, trivial, trivial, trivial⟩ trivial (fun _ _ q => False.elim q) ?_ (fun _ _ _ q => q)
                  refine wa_aload_n (n := 0) rfl ?_
                  refine wb_gf4 237 rfl (wy_pr rfl) wt_237 wf_15_1 (v := 238) wl_237_1 ?_
                  refine wa_iload_n (n := 1) rfl ?_
                  refine wa_iconst ?_
                  refine wa_cv 238 rfl (wy_pr rfl) wt_238 (M2 := fun _ => False) rfl at_MH_of ⟨_, rfl⟩ rfl rfl ⟨(Or.inr ⟨wy_pr rfl, fun q => q⟩), trivial, trivial⟩ trivial (fun _ _ q => False.elim q) ?_ (fun _ _ _ q => q)
                  refine wa_aload_n (n := 0) rfl ?_
                  refine wa_iload_n (n := 1) rfl ?_
                  refine wb_pfi 238 rfl (wy_pr rfl) wt_238 wf_11_5 (n := 5) rfl ⟨(by omega), (by omega)⟩ ?_
                  refine wa_aload_n (n := 0) rfl ?_
                  refine wa_iload_n (n := 2) rfl ?_
                  refine wb_pfi 238 rfl (wy_pr rfl) wt_238 wf_11_6 (n := 6) rfl ⟨(by omega), (by omega)⟩ ?_
                  refine wa_aload_n (n := 0) rfl ?_
                  refine wa_oreturn rfl ?_
                  show wJ _ _ _ _ _ _ _ _ _ _
                  refine wa_th (j := 238) ?_
                  refine ⟨rfl, ?_⟩
                  exact ⟨rfl, rfl⟩
                · skip
                  exact absurd c12 (by omega)
            · skip
              exact absurd c10 (by omega)
          · skip
            exact absurd c9 (by omega)
        · skip
          exact absurd c8 (by omega)
      · skip
        exact absurd c6 (by omega)
    · skip
      have hgbc : gb = c := by omega
      refine wa_aload_n (n := 0) rfl ?_
      refine wb_gfl 237 rfl (wy_pr rfl) wt_237 wf_15_175 (v := gb) (h75) (fun r13 => ?_)
      refine wb_l2i_r (wb_l2i_id ⟨(by omega), (by omega)⟩) ?_
      refine wa_goto ⟨_, rfl⟩ ?_
      refine wJ_top (show gb = c by omega) ?_
      refine wa_istore (n := 5) rfl ?_
      refine wa_iload (n := 4) rfl ?_
      refine wa_ifeq (w_rg0 (by omega) (by omega)) ⟨_, rfl⟩ (fun c14 => ?_) (fun c14 => ?_)
      · skip
        exact absurd c14 (by omega)
      · skip
        refine wa_iconst ?_
        refine wa_goto ⟨_, rfl⟩ ?_
        refine wJ_top (show 1 = am by omega) ?_
        refine wa_istore (n := 6) rfl ?_
        refine wa_aload_n (n := 0) rfl ?_
        refine wa_iload (n := 5) rfl ?_
        refine wb_pfi 237 rfl (wy_pr rfl) wt_237 wf_15_167 (n := 167) rfl ⟨(by omega), (by omega)⟩ ?_
        refine wa_aload_n (n := 0) rfl ?_
        refine wb_gf4 237 rfl (wy_pr rfl) wt_237 wf_15_50 (v := 305) wl_237_50 ?_
        refine wa_iload_n (n := 1) rfl ?_
        refine wb_iald 305 rfl (wy_pr rfl) wt_305 (n := 4000) ((w_up_slot (by decide)).trans ((ml_305 hM))) (by omega) (by omega) (v := nms) ((w_up_slot (by decide)).trans (h05)) (fun r15 => ?_)
        refine wa_istore (n := 7) rfl ?_
        refine wa_iload_n (n := 2) rfl ?_
        refine wa_ifne (w_rg0 (by omega) (by omega)) ⟨_, rfl⟩ (fun c16 => ?_) (fun c16 => ?_)
        · skip
          refine wa_iload_n (n := 2) rfl ?_
          refine wa_iconst ?_
          refine wa_icmpne (w_rg0 (by omega) (by omega)) (w_rg0 (by omega) (by omega)) ⟨_, rfl⟩ (fun c17 => ?_) (fun c17 => ?_)
          · skip
            refine wa_iload_n (n := 2) rfl ?_
            refine wa_iconst ?_
            refine wa_icmpne (w_rg0 (by omega) (by omega)) (w_rg0 (by omega) (by omega)) ⟨_, rfl⟩ (fun c18 => ?_) (fun c18 => ?_)
            · skip
              refine wa_iload_n (n := 2) rfl ?_
              refine wa_bipush (w_rg2 (by omega) (by omega)) ?_
              refine wa_icmpne (w_rg0 (by omega) (by omega)) (w_rg0 (by omega) (by omega)) ⟨_, rfl⟩ (fun c19 => ?_) (fun c19 => ?_)
              · skip
                refine wa_aload_n (n := 0) rfl ?_
                refine wa_iconst ?_
                refine wa_cv 237 rfl (wy_pr rfl) wt_237 (M2 := fun _ => False) rfl at_M_error ⟨_, rfl⟩ rfl rfl ⟨trivial, trivial, trivial, trivial, (Or.inr ⟨wy_pr rfl, fun q => q⟩), trivial, trivial, trivial, trivial⟩ trivial (fun _ _ q => False.elim q) ?_ (fun _ _ _ q => q)
                refine wa_aload_n (n := 0) rfl ?_
                refine wb_gf4 237 rfl (wy_pr rfl) wt_237 wf_15_1 (v := 238) wl_237_1 ?_
                refine wa_iload_n (n := 1) rfl ?_
                refine wa_iconst ?_
                refine wa_cv 238 rfl (wy_pr rfl) wt_238 (M2 := fun _ => False) rfl at_MH_of ⟨_, rfl⟩ rfl rfl ⟨(Or.inr ⟨wy_pr rfl, fun q => q⟩), trivial, trivial⟩ trivial (fun _ _ q => False.elim q) ?_ (fun _ _ _ q => q)
                refine wa_aload_n (n := 0) rfl ?_
                refine wa_iload_n (n := 1) rfl ?_
                refine wb_pfi 238 rfl (wy_pr rfl) wt_238 wf_11_5 (n := 5) rfl ⟨(by omega), (by omega)⟩ ?_
                refine wa_aload_n (n := 0) rfl ?_
                refine wa_iload_n (n := 2) rfl ?_
                refine wb_pfi 238 rfl (wy_pr rfl) wt_238 wf_11_6 (n := 6) rfl ⟨(by omega), (by omega)⟩ ?_
                refine wa_aload_n (n := 0) rfl ?_
                refine wa_oreturn rfl ?_
                show wJ _ _ _ _ _ _ _ _ _ _
                refine wa_th (j := 238) ?_
                refine ⟨rfl, ?_⟩
                exact ⟨rfl, rfl⟩
              · skip
                refine wa_iload (n := 4) rfl ?_
                refine wa_ifeq (w_rg0 (by omega) (by omega)) ⟨_, rfl⟩ (fun c20 => ?_) (fun c20 => ?_)
                · skip
                  exact absurd c20 (by omega)
                · skip
                  exfalso; omega
            · skip
              exact absurd c18 (by omega)
          · skip
            exact absurd c17 (by omega)
        · skip
          exact absurd c16 (by omega)
  · skip
    refine wa_iconst ?_
    refine wa_goto ⟨_, rfl⟩ ?_
    refine wJ_top (show 1 = am by omega) ?_
    refine wa_istore (n := 4) rfl ?_
    refine wa_iload (n := 4) rfl ?_
    refine wa_ifeq (w_rg0 (by omega) (by omega)) ⟨_, rfl⟩ (fun c21 => ?_) (fun c21 => ?_)
    · skip
      have h21 : S 321 gb = c := by rcases hgk with z | z; exact z.2.2.2; omega
      have hgb0 : 0 ≤ gb ∧ gb < 8000 := by omega
      refine wa_aload_n (n := 0) rfl ?_
      refine wb_gf4 237 rfl (wy_pr rfl) wt_237 wf_15_77 (v := 321) wl_237_77 ?_
      refine wa_aload_n (n := 0) rfl ?_
      refine wb_gfl 237 rfl (wy_pr rfl) wt_237 wf_15_175 (v := gb) (h75) (fun r22 => ?_)
      refine wb_l2i_r (wb_l2i_id ⟨(by omega), (by omega)⟩) ?_
      refine wb_iald 321 rfl (wy_pr rfl) wt_321 (n := 8000) ((ml_321 hM)) (by omega) (by omega) (v := c) (h21) (fun r23 => ?_)
      refine wa_fall ⟨_, rfl⟩ ?_
      refine wa_istore (n := 5) rfl ?_
      refine wa_iload (n := 4) rfl ?_
      refine wa_ifeq (w_rg0 (by omega) (by omega)) ⟨_, rfl⟩ (fun c24 => ?_) (fun c24 => ?_)
      · skip
        refine wa_iconst ?_
        refine wa_fall ⟨_, rfl⟩ ?_
        refine wJ_top (show 0 = am by omega) ?_
        refine wa_istore (n := 6) rfl ?_
        refine wa_aload_n (n := 0) rfl ?_
        refine wa_iload (n := 5) rfl ?_
        refine wb_pfi 237 rfl (wy_pr rfl) wt_237 wf_15_167 (n := 167) rfl ⟨(by omega), (by omega)⟩ ?_
        refine wa_aload_n (n := 0) rfl ?_
        refine wb_gf4 237 rfl (wy_pr rfl) wt_237 wf_15_50 (v := 305) wl_237_50 ?_
        refine wa_iload_n (n := 1) rfl ?_
        refine wb_iald 305 rfl (wy_pr rfl) wt_305 (n := 4000) ((w_up_slot (by decide)).trans ((ml_305 hM))) (by omega) (by omega) (v := nms) ((w_up_slot (by decide)).trans (h05)) (fun r25 => ?_)
        refine wa_istore (n := 7) rfl ?_
        refine wa_iload_n (n := 2) rfl ?_
        refine wa_ifne (w_rg0 (by omega) (by omega)) ⟨_, rfl⟩ (fun c26 => ?_) (fun c26 => ?_)
        · skip
          refine wa_iload_n (n := 2) rfl ?_
          refine wa_iconst ?_
          refine wa_icmpne (w_rg0 (by omega) (by omega)) (w_rg0 (by omega) (by omega)) ⟨_, rfl⟩ (fun c27 => ?_) (fun c27 => ?_)
          · skip
            refine wa_iload_n (n := 2) rfl ?_
            refine wa_iconst ?_
            refine wa_icmpne (w_rg0 (by omega) (by omega)) (w_rg0 (by omega) (by omega)) ⟨_, rfl⟩ (fun c28 => ?_) (fun c28 => ?_)
            · skip
              refine wa_iload_n (n := 2) rfl ?_
              refine wa_bipush (w_rg2 (by omega) (by omega)) ?_
              refine wa_icmpne (w_rg0 (by omega) (by omega)) (w_rg0 (by omega) (by omega)) ⟨_, rfl⟩ (fun c29 => ?_) (fun c29 => ?_)
              · skip
                refine wa_aload_n (n := 0) rfl ?_
                refine wa_iconst ?_
                refine wa_cv 237 rfl (wy_pr rfl) wt_237 (M2 := fun _ => False) rfl at_M_error ⟨_, rfl⟩ rfl rfl ⟨trivial, trivial, trivial, trivial, (Or.inr ⟨wy_pr rfl, fun q => q⟩), trivial, trivial, trivial, trivial⟩ trivial (fun _ _ q => False.elim q) ?_ (fun _ _ _ q => q)
                refine wa_aload_n (n := 0) rfl ?_
                refine wb_gf4 237 rfl (wy_pr rfl) wt_237 wf_15_1 (v := 238) wl_237_1 ?_
                refine wa_iload_n (n := 1) rfl ?_
                refine wa_iconst ?_
                refine wa_cv 238 rfl (wy_pr rfl) wt_238 (M2 := fun _ => False) rfl at_MH_of ⟨_, rfl⟩ rfl rfl ⟨(Or.inr ⟨wy_pr rfl, fun q => q⟩), trivial, trivial⟩ trivial (fun _ _ q => False.elim q) ?_ (fun _ _ _ q => q)
                refine wa_aload_n (n := 0) rfl ?_
                refine wa_iload_n (n := 1) rfl ?_
                refine wb_pfi 238 rfl (wy_pr rfl) wt_238 wf_11_5 (n := 5) rfl ⟨(by omega), (by omega)⟩ ?_
                refine wa_aload_n (n := 0) rfl ?_
                refine wa_iload_n (n := 2) rfl ?_
                refine wb_pfi 238 rfl (wy_pr rfl) wt_238 wf_11_6 (n := 6) rfl ⟨(by omega), (by omega)⟩ ?_
                refine wa_aload_n (n := 0) rfl ?_
                refine wa_oreturn rfl ?_
                show wJ _ _ _ _ _ _ _ _ _ _
                refine wa_th (j := 238) ?_
                refine ⟨rfl, ?_⟩
                exact ⟨rfl, rfl⟩
              · skip
                refine wa_iload (n := 4) rfl ?_
                refine wa_ifeq (w_rg0 (by omega) (by omega)) ⟨_, rfl⟩ (fun c30 => ?_) (fun c30 => ?_)
                · skip
                  refine wa_aload_n (n := 0) rfl ?_
                  refine wa_iconst ?_
                  refine wa_cv 237 rfl (wy_pr rfl) wt_237 (M2 := fun _ => False) rfl at_M_error ⟨_, rfl⟩ rfl rfl ⟨trivial, trivial, trivial, trivial, (Or.inr ⟨wy_pr rfl, fun q => q⟩), trivial, trivial, trivial, trivial⟩ trivial (fun _ _ q => False.elim q) ?_ (fun _ _ _ q => q)
                  refine wa_aload_n (n := 0) rfl ?_
                  refine wb_gf4 237 rfl (wy_pr rfl) wt_237 wf_15_1 (v := 238) wl_237_1 ?_
                  refine wa_iload_n (n := 1) rfl ?_
                  refine wa_iconst ?_
                  refine wa_cv 238 rfl (wy_pr rfl) wt_238 (M2 := fun _ => False) rfl at_MH_of ⟨_, rfl⟩ rfl rfl ⟨(Or.inr ⟨wy_pr rfl, fun q => q⟩), trivial, trivial⟩ trivial (fun _ _ q => False.elim q) ?_ (fun _ _ _ q => q)
                  refine wa_aload_n (n := 0) rfl ?_
                  refine wa_iload_n (n := 1) rfl ?_
                  refine wb_pfi 238 rfl (wy_pr rfl) wt_238 wf_11_5 (n := 5) rfl ⟨(by omega), (by omega)⟩ ?_
                  refine wa_aload_n (n := 0) rfl ?_
                  refine wa_iload_n (n := 2) rfl ?_
                  refine wb_pfi 238 rfl (wy_pr rfl) wt_238 wf_11_6 (n := 6) rfl ⟨(by omega), (by omega)⟩ ?_
                  refine wa_aload_n (n := 0) rfl ?_
                  refine wa_oreturn rfl ?_
                  show wJ _ _ _ _ _ _ _ _ _ _
                  refine wa_th (j := 238) ?_
                  refine ⟨rfl, ?_⟩
                  exact ⟨rfl, rfl⟩
                · skip
                  exact absurd c30 (by omega)
            · skip
              exact absurd c28 (by omega)
          · skip
            exact absurd c27 (by omega)
        · skip
          exact absurd c26 (by omega)
      · skip
        exact absurd c24 (by omega)
    · skip
      have hgbc : gb = c := by omega
      refine wa_aload_n (n := 0) rfl ?_
      refine wb_gfl 237 rfl (wy_pr rfl) wt_237 wf_15_175 (v := gb) (h75) (fun r31 => ?_)
      refine wb_l2i_r (wb_l2i_id ⟨(by omega), (by omega)⟩) ?_
      refine wa_goto ⟨_, rfl⟩ ?_
      refine wJ_top (show gb = c by omega) ?_
      refine wa_istore (n := 5) rfl ?_
      refine wa_iload (n := 4) rfl ?_
      refine wa_ifeq (w_rg0 (by omega) (by omega)) ⟨_, rfl⟩ (fun c32 => ?_) (fun c32 => ?_)
      · skip
        exact absurd c32 (by omega)
      · skip
        refine wa_iconst ?_
        refine wa_goto ⟨_, rfl⟩ ?_
        refine wJ_top (show 1 = am by omega) ?_
        refine wa_istore (n := 6) rfl ?_
        refine wa_aload_n (n := 0) rfl ?_
        refine wa_iload (n := 5) rfl ?_
        refine wb_pfi 237 rfl (wy_pr rfl) wt_237 wf_15_167 (n := 167) rfl ⟨(by omega), (by omega)⟩ ?_
        refine wa_aload_n (n := 0) rfl ?_
        refine wb_gf4 237 rfl (wy_pr rfl) wt_237 wf_15_50 (v := 305) wl_237_50 ?_
        refine wa_iload_n (n := 1) rfl ?_
        refine wb_iald 305 rfl (wy_pr rfl) wt_305 (n := 4000) ((w_up_slot (by decide)).trans ((ml_305 hM))) (by omega) (by omega) (v := nms) ((w_up_slot (by decide)).trans (h05)) (fun r33 => ?_)
        refine wa_istore (n := 7) rfl ?_
        refine wa_iload_n (n := 2) rfl ?_
        refine wa_ifne (w_rg0 (by omega) (by omega)) ⟨_, rfl⟩ (fun c34 => ?_) (fun c34 => ?_)
        · skip
          refine wa_iload_n (n := 2) rfl ?_
          refine wa_iconst ?_
          refine wa_icmpne (w_rg0 (by omega) (by omega)) (w_rg0 (by omega) (by omega)) ⟨_, rfl⟩ (fun c35 => ?_) (fun c35 => ?_)
          · skip
            refine wa_iload_n (n := 2) rfl ?_
            refine wa_iconst ?_
            refine wa_icmpne (w_rg0 (by omega) (by omega)) (w_rg0 (by omega) (by omega)) ⟨_, rfl⟩ (fun c36 => ?_) (fun c36 => ?_)
            · skip
              refine wa_iload_n (n := 2) rfl ?_
              refine wa_bipush (w_rg2 (by omega) (by omega)) ?_
              refine wa_icmpne (w_rg0 (by omega) (by omega)) (w_rg0 (by omega) (by omega)) ⟨_, rfl⟩ (fun c37 => ?_) (fun c37 => ?_)
              · skip
                refine wa_aload_n (n := 0) rfl ?_
                refine wa_iconst ?_
                refine wa_cv 237 rfl (wy_pr rfl) wt_237 (M2 := fun _ => False) rfl at_M_error ⟨_, rfl⟩ rfl rfl ⟨trivial, trivial, trivial, trivial, (Or.inr ⟨wy_pr rfl, fun q => q⟩), trivial, trivial, trivial, trivial⟩ trivial (fun _ _ q => False.elim q) ?_ (fun _ _ _ q => q)
                refine wa_aload_n (n := 0) rfl ?_
                refine wb_gf4 237 rfl (wy_pr rfl) wt_237 wf_15_1 (v := 238) wl_237_1 ?_
                refine wa_iload_n (n := 1) rfl ?_
                refine wa_iconst ?_
                refine wa_cv 238 rfl (wy_pr rfl) wt_238 (M2 := fun _ => False) rfl at_MH_of ⟨_, rfl⟩ rfl rfl ⟨(Or.inr ⟨wy_pr rfl, fun q => q⟩), trivial, trivial⟩ trivial (fun _ _ q => False.elim q) ?_ (fun _ _ _ q => q)
                refine wa_aload_n (n := 0) rfl ?_
                refine wa_iload_n (n := 1) rfl ?_
                refine wb_pfi 238 rfl (wy_pr rfl) wt_238 wf_11_5 (n := 5) rfl ⟨(by omega), (by omega)⟩ ?_
                refine wa_aload_n (n := 0) rfl ?_
                refine wa_iload_n (n := 2) rfl ?_
                refine wb_pfi 238 rfl (wy_pr rfl) wt_238 wf_11_6 (n := 6) rfl ⟨(by omega), (by omega)⟩ ?_
                refine wa_aload_n (n := 0) rfl ?_
                refine wa_oreturn rfl ?_
                show wJ _ _ _ _ _ _ _ _ _ _
                refine wa_th (j := 238) ?_
                refine ⟨rfl, ?_⟩
                exact ⟨rfl, rfl⟩
              · skip
                refine wa_iload (n := 4) rfl ?_
                refine wa_ifeq (w_rg0 (by omega) (by omega)) ⟨_, rfl⟩ (fun c38 => ?_) (fun c38 => ?_)
                · skip
                  exact absurd c38 (by omega)
                · skip
                  exfalso; omega
            · skip
              exact absurd c36 (by omega)
          · skip
            exact absurd c35 (by omega)
        · skip
          exact absurd c34 (by omega)
theorem lhg_261 {s gk gb c am nms ct : Int} {W : List Int} (hM : w_ML S) (hK : KR 261 T n cs ms S) (hw : wHo cs ms os) (hX : w_X xs) (hnm : 0 ≤ nms ∧ nms < 4000) (h82 : S 282 nms = (W.length : Int)) (hWl : W.length ≤ 60) (h81 : ∀ x : Nat, x < W.length → S 281 (60 * nms + (x : Int)) = W.getD x 0) (hO : wOs cs os) (hA : wAb cs) (hc : 0 ≤ c ∧ c < (cs.length : Int)) (hst : am = 0 ∨ am = 1) (hs : 0 ≤ s ∧ s < 4000) (h05 : S 305 s = nms) (h74 : S 237 174 = gk) (h75 : S 237 175 = gb) (hgk : (gk = 7 ∧ am = 0 ∧ (0 ≤ gb ∧ gb < 8000) ∧ S 321 gb = c) ∨ (gk = 8 ∧ am = 1 ∧ gb = c)) (h172 : S 237 172 = 0) (hC : rCh T cs ms os N CH wo mo S) (hct : ct = 0 ∨ ct = 1) : wJ (pe_GA xs) wY0 M (d + 66) t_M_looksAtHost ((pe_at t_M_looksAtHost.bl 0).getD (0, [])).2 [(0, (2, 237)), (1, (0, s)), (2, (0, 0)), (3, (0, ct))] [] S (lrQ T cs ms os N CH wo mo c (if gtA T cs ms os am W c = -1 then fdA T cs ms am W c else gtA T cs ms os am W c) 0 S) := by
  have h13 : S 237 13 = 261 := hK.1
  have h60 := hw.1
  obtain ⟨wh, hwh⟩ : ∃ r : Int, r = (if gtA T cs ms os am W c = -1 then fdA T cs ms am W c else gtA T cs ms os am W c) := ⟨_, rfl⟩
  have hwr : wh = -1 ∨ (0 ≤ wh ∧ wh < (ms.length : Int)) := by
    rw [hwh]
    have z1 := fdA_rg (T := T) (st := am) (W := W) hw hc
    have z2 := gtA_rg (T := T) (st := am) (W := W) hw hc
    split
    · exact z1
    · exact z2
  rw [← hwh]
  refine wa_aload_n (n := 0) rfl ?_
  refine wb_gfi 237 rfl (wy_pr rfl) wt_237 wf_15_174 (v := gk) (h74) (fun r11 => ?_)
  refine wa_bipush (w_rg2 (by omega) (by omega)) ?_
  refine wa_icmpne (w_rg0 (by omega) (by omega)) (w_rg0 (by omega) (by omega)) ⟨_, rfl⟩ (fun c12 => ?_) (fun c12 => ?_)
  · skip
    refine wa_iconst ?_
    refine wa_fall ⟨_, rfl⟩ ?_
    refine wJ_top (show 0 = am by omega) ?_
    refine wa_istore (n := 4) rfl ?_
    refine wa_iload (n := 4) rfl ?_
    refine wa_ifeq (w_rg0 (by omega) (by omega)) ⟨_, rfl⟩ (fun c13 => ?_) (fun c13 => ?_)
    · skip
      have h21 : S 321 gb = c := by rcases hgk with z | z; exact z.2.2.2; omega
      have hgb0 : 0 ≤ gb ∧ gb < 8000 := by omega
      refine wa_aload_n (n := 0) rfl ?_
      refine wb_gf4 237 rfl (wy_pr rfl) wt_237 wf_15_77 (v := 321) wl_237_77 ?_
      refine wa_aload_n (n := 0) rfl ?_
      refine wb_gfl 237 rfl (wy_pr rfl) wt_237 wf_15_175 (v := gb) (h75) (fun r14 => ?_)
      refine wb_l2i_r (wb_l2i_id ⟨(by omega), (by omega)⟩) ?_
      refine wb_iald 321 rfl (wy_pr rfl) wt_321 (n := 8000) ((ml_321 hM)) (by omega) (by omega) (v := c) (h21) (fun r15 => ?_)
      refine wa_fall ⟨_, rfl⟩ ?_
      refine wa_istore (n := 5) rfl ?_
      refine wa_iload (n := 4) rfl ?_
      refine wa_ifeq (w_rg0 (by omega) (by omega)) ⟨_, rfl⟩ (fun c16 => ?_) (fun c16 => ?_)
      · skip
        refine wa_iconst ?_
        refine wa_fall ⟨_, rfl⟩ ?_
        refine wJ_top (show 0 = am by omega) ?_
        refine wa_istore (n := 6) rfl ?_
        refine wa_aload_n (n := 0) rfl ?_
        refine wa_iload (n := 5) rfl ?_
        refine wb_pfi 237 rfl (wy_pr rfl) wt_237 wf_15_167 (n := 167) rfl ⟨(by omega), (by omega)⟩ ?_
        refine wa_aload_n (n := 0) rfl ?_
        refine wb_gf4 237 rfl (wy_pr rfl) wt_237 wf_15_50 (v := 305) wl_237_50 ?_
        refine wa_iload_n (n := 1) rfl ?_
        refine wb_iald 305 rfl (wy_pr rfl) wt_305 (n := 4000) ((w_up_slot (by decide)).trans ((ml_305 hM))) (by omega) (by omega) (v := nms) ((w_up_slot (by decide)).trans (h05)) (fun r17 => ?_)
        refine wa_istore (n := 7) rfl ?_
        refine wa_iload_n (n := 2) rfl ?_
        refine wa_ifne (w_rg0 (by omega) (by omega)) ⟨_, rfl⟩ (fun c18 => ?_) (fun c18 => ?_)
        · skip
          exact absurd c18 (by omega)
        · skip
          refine wa_aload_n (n := 0) rfl ?_
          refine wa_aload_n (n := 0) rfl ?_
          refine wa_iload (n := 5) rfl ?_
          refine wa_iload (n := 4) rfl ?_
          refine wa_iload (n := 7) rfl ?_
          have fb1 : ∀ (j : Nat) (x : Int), ¬ lhM j x → (w_up S 237 167 c) j x = S j x := fun j x hj => (w_up_no (by unfold lhM at hj; omega))
          have hMb1 : w_ML (w_up S 237 167 c) := ML_w hM fb1 (fun j => lhM_1)
          have hKb1 : KR 261 T n cs ms (w_up S 237 167 c) := KR_ag hK (fun j x hj => fb1 j x (by unfold lhM; omega))
          refine wa_cv 237 rfl (wy_pr rfl) wt_237 (M2 := fun _ => False) rfl at_M_getter ⟨_, rfl⟩ rfl rfl ⟨trivial, trivial, trivial, trivial, (Or.inr ⟨wy_pr rfl, fun q => q⟩), trivial, trivial, trivial, trivial⟩ ⟨(Or.inr ⟨wy_pr rfl, fun q => q⟩), trivial⟩ (fun _ _ q => False.elim q) (wJ_mono (rgt_261 (S := (w_up S 237 167 c)) (c := c) (st := am) (nms := nms) (W := W) hMb1 hKb1 hw hX hnm ((fb1 282 nms (by unfold lhM; omega)).trans h82) hWl (fun x hx => (fb1 281 _ (by unfold lhM; omega)).trans (h81 x hx)) hO hA hc hst) (fun o Z hz => (⟨by rw [hwh]; exact hz.1, hz.2⟩ : o = .inl (some (0, wh)) ∧ _))) (fun oq19 Sq19 hp20 q19 => ?_)
          rcases q19 with ⟨rfl, hf19⟩
          show wJ _ _ _ _ _ _ _ _ _ _
          have hq19 : ∀ (j : Nat) (x : Int), ¬ lhM j x → Sq19 j x = (w_up S 237 167 c) j x := fun j x hj => hf19 j x (fun z => z.elim (lhM_od hj) (fun y => y.elim (lhM_cd hj) (lhM_wt hj)))
          have fS19 : ∀ (j : Nat) (x : Int), ¬ lhM j x → Sq19 j x = S j x := fun j x hj => (hq19 j x hj).trans (fb1 j x hj)
          refine wb_pfi 237 rfl (wy_pr rfl) wt_237 wf_15_170 (n := 170) rfl ⟨(by omega), (by omega)⟩ ?_
          refine wa_aload_n (n := 0) rfl ?_
          refine wb_gfi 237 rfl (wy_pr rfl) wt_237 wf_15_170 (v := wh) (w_up_same _ _ _ _) (fun r21 => ?_)
          refine wa_ifge (w_rg0 (by omega) (by omega)) ⟨_, rfl⟩ (fun c22 => ?_) (fun c22 => ?_)
          · skip
            refine wa_return rfl ?_
            exact ⟨fun _ => ⟨rfl, (w_up_same _ _ _ _), ((w_up_no (by omega)).trans ((hf19 237 172 (by unfold odM cdM wtM; omega)).trans ((w_up_no (by omega)).trans (h172))))⟩, fun z => absurd z (by omega), ((w_up_no (by omega)).trans ((hf19 237 167 (by unfold odM cdM wtM; omega)).trans (w_up_same _ _ _ _))), rCh_ag hC (fun j x hj => ((w_up_no (by unfold chM at hj; omega)).trans ((hf19 j x (fun z => z.elim (lh_id hj).2.2.1 (fun y => y.elim (lh_id hj).2.1 (lh_id hj).1))).trans (w_up_no (by unfold chM at hj; omega))))), fun j x hj => ((w_up_no (by unfold lhM at hj; omega)).trans (fS19 j x hj))⟩
          · skip
            refine wa_aload_n (n := 0) rfl ?_
            refine wa_iconst ?_
            refine wa_cv 237 rfl (wy_pr rfl) wt_237 (M2 := fun _ => False) rfl at_M_error ⟨_, rfl⟩ rfl rfl ⟨trivial, trivial, trivial, trivial, (Or.inr ⟨wy_pr rfl, fun q => q⟩), trivial, trivial, trivial, trivial⟩ trivial (fun _ _ q => False.elim q) ?_ (fun _ _ _ q => q)
            refine wa_aload_n (n := 0) rfl ?_
            refine wb_gf4 237 rfl (wy_pr rfl) wt_237 wf_15_1 (v := 238) wl_237_1 ?_
            refine wa_iload_n (n := 1) rfl ?_
            refine wa_iconst ?_
            refine wa_cv 238 rfl (wy_pr rfl) wt_238 (M2 := fun _ => False) rfl at_MH_of ⟨_, rfl⟩ rfl rfl ⟨(Or.inr ⟨wy_pr rfl, fun q => q⟩), trivial, trivial⟩ trivial (fun _ _ q => False.elim q) ?_ (fun _ _ _ q => q)
            refine wa_aload_n (n := 0) rfl ?_
            refine wa_iload_n (n := 1) rfl ?_
            refine wb_pfi 238 rfl (wy_pr rfl) wt_238 wf_11_5 (n := 5) rfl ⟨(by omega), (by omega)⟩ ?_
            refine wa_aload_n (n := 0) rfl ?_
            refine wa_iload_n (n := 2) rfl ?_
            refine wb_pfi 238 rfl (wy_pr rfl) wt_238 wf_11_6 (n := 6) rfl ⟨(by omega), (by omega)⟩ ?_
            refine wa_aload_n (n := 0) rfl ?_
            refine wa_oreturn rfl ?_
            show wJ _ _ _ _ _ _ _ _ _ _
            refine wa_th (j := 238) ?_
            refine ⟨rfl, ?_⟩
            exact ⟨fun z => absurd z (by omega), fun _ => ⟨rfl, (((w_up_at (by first | decide | omega)).trans (w_up_same _ _ _ _)) : (w_up (w_up (w_up Sq19 237 170 wh) 238 5 4) 238 6 0) 238 5 = _).trans (if_pos (by omega)).symm, (w_up_same _ _ _ _)⟩, ((w_up_no (by omega)).trans ((w_up_no (by omega)).trans ((w_up_no (by omega)).trans ((hf19 237 167 (by unfold odM cdM wtM; omega)).trans (w_up_same _ _ _ _))))), rCh_ag hC (fun j x hj => ((w_up_no (by unfold chM at hj; omega)).trans ((w_up_no (by unfold chM at hj; omega)).trans ((w_up_no (by unfold chM at hj; omega)).trans ((hf19 j x (fun z => z.elim (lh_id hj).2.2.1 (fun y => y.elim (lh_id hj).2.1 (lh_id hj).1))).trans (w_up_no (by unfold chM at hj; omega))))))), fun j x hj => ((w_up_no (by unfold lhM at hj; omega)).trans ((w_up_no (by unfold lhM at hj; omega)).trans ((w_up_no (by unfold lhM at hj; omega)).trans (fS19 j x hj))))⟩
      · skip
        exact absurd c16 (by omega)
    · skip
      exfalso; omega
  · skip
    refine wa_iconst ?_
    refine wa_goto ⟨_, rfl⟩ ?_
    refine wJ_top (show 1 = am by omega) ?_
    refine wa_istore (n := 4) rfl ?_
    refine wa_iload (n := 4) rfl ?_
    refine wa_ifeq (w_rg0 (by omega) (by omega)) ⟨_, rfl⟩ (fun c23 => ?_) (fun c23 => ?_)
    · skip
      exfalso; omega
    · skip
      have hgbc : gb = c := by omega
      refine wa_aload_n (n := 0) rfl ?_
      refine wb_gfl 237 rfl (wy_pr rfl) wt_237 wf_15_175 (v := gb) (h75) (fun r24 => ?_)
      refine wb_l2i_r (wb_l2i_id ⟨(by omega), (by omega)⟩) ?_
      refine wa_goto ⟨_, rfl⟩ ?_
      refine wJ_top (show gb = c by omega) ?_
      refine wa_istore (n := 5) rfl ?_
      refine wa_iload (n := 4) rfl ?_
      refine wa_ifeq (w_rg0 (by omega) (by omega)) ⟨_, rfl⟩ (fun c25 => ?_) (fun c25 => ?_)
      · skip
        exact absurd c25 (by omega)
      · skip
        refine wa_iconst ?_
        refine wa_goto ⟨_, rfl⟩ ?_
        refine wJ_top (show 1 = am by omega) ?_
        refine wa_istore (n := 6) rfl ?_
        refine wa_aload_n (n := 0) rfl ?_
        refine wa_iload (n := 5) rfl ?_
        refine wb_pfi 237 rfl (wy_pr rfl) wt_237 wf_15_167 (n := 167) rfl ⟨(by omega), (by omega)⟩ ?_
        refine wa_aload_n (n := 0) rfl ?_
        refine wb_gf4 237 rfl (wy_pr rfl) wt_237 wf_15_50 (v := 305) wl_237_50 ?_
        refine wa_iload_n (n := 1) rfl ?_
        refine wb_iald 305 rfl (wy_pr rfl) wt_305 (n := 4000) ((w_up_slot (by decide)).trans ((ml_305 hM))) (by omega) (by omega) (v := nms) ((w_up_slot (by decide)).trans (h05)) (fun r26 => ?_)
        refine wa_istore (n := 7) rfl ?_
        refine wa_iload_n (n := 2) rfl ?_
        refine wa_ifne (w_rg0 (by omega) (by omega)) ⟨_, rfl⟩ (fun c27 => ?_) (fun c27 => ?_)
        · skip
          exact absurd c27 (by omega)
        · skip
          refine wa_aload_n (n := 0) rfl ?_
          refine wa_aload_n (n := 0) rfl ?_
          refine wa_iload (n := 5) rfl ?_
          refine wa_iload (n := 4) rfl ?_
          refine wa_iload (n := 7) rfl ?_
          have fb2 : ∀ (j : Nat) (x : Int), ¬ lhM j x → (w_up S 237 167 c) j x = S j x := fun j x hj => (w_up_no (by unfold lhM at hj; omega))
          have hMb2 : w_ML (w_up S 237 167 c) := ML_w hM fb2 (fun j => lhM_1)
          have hKb2 : KR 261 T n cs ms (w_up S 237 167 c) := KR_ag hK (fun j x hj => fb2 j x (by unfold lhM; omega))
          refine wa_cv 237 rfl (wy_pr rfl) wt_237 (M2 := fun _ => False) rfl at_M_getter ⟨_, rfl⟩ rfl rfl ⟨trivial, trivial, trivial, trivial, (Or.inr ⟨wy_pr rfl, fun q => q⟩), trivial, trivial, trivial, trivial⟩ ⟨(Or.inr ⟨wy_pr rfl, fun q => q⟩), trivial⟩ (fun _ _ q => False.elim q) (wJ_mono (rgt_261 (S := (w_up S 237 167 c)) (c := c) (st := am) (nms := nms) (W := W) hMb2 hKb2 hw hX hnm ((fb2 282 nms (by unfold lhM; omega)).trans h82) hWl (fun x hx => (fb2 281 _ (by unfold lhM; omega)).trans (h81 x hx)) hO hA hc hst) (fun o Z hz => (⟨by rw [hwh]; exact hz.1, hz.2⟩ : o = .inl (some (0, wh)) ∧ _))) (fun oq28 Sq28 hp29 q28 => ?_)
          rcases q28 with ⟨rfl, hf28⟩
          show wJ _ _ _ _ _ _ _ _ _ _
          have hq28 : ∀ (j : Nat) (x : Int), ¬ lhM j x → Sq28 j x = (w_up S 237 167 c) j x := fun j x hj => hf28 j x (fun z => z.elim (lhM_od hj) (fun y => y.elim (lhM_cd hj) (lhM_wt hj)))
          have fS28 : ∀ (j : Nat) (x : Int), ¬ lhM j x → Sq28 j x = S j x := fun j x hj => (hq28 j x hj).trans (fb2 j x hj)
          refine wb_pfi 237 rfl (wy_pr rfl) wt_237 wf_15_170 (n := 170) rfl ⟨(by omega), (by omega)⟩ ?_
          refine wa_aload_n (n := 0) rfl ?_
          refine wb_gfi 237 rfl (wy_pr rfl) wt_237 wf_15_170 (v := wh) (w_up_same _ _ _ _) (fun r30 => ?_)
          refine wa_ifge (w_rg0 (by omega) (by omega)) ⟨_, rfl⟩ (fun c31 => ?_) (fun c31 => ?_)
          · skip
            refine wa_return rfl ?_
            exact ⟨fun _ => ⟨rfl, (w_up_same _ _ _ _), ((w_up_no (by omega)).trans ((hf28 237 172 (by unfold odM cdM wtM; omega)).trans ((w_up_no (by omega)).trans (h172))))⟩, fun z => absurd z (by omega), ((w_up_no (by omega)).trans ((hf28 237 167 (by unfold odM cdM wtM; omega)).trans (w_up_same _ _ _ _))), rCh_ag hC (fun j x hj => ((w_up_no (by unfold chM at hj; omega)).trans ((hf28 j x (fun z => z.elim (lh_id hj).2.2.1 (fun y => y.elim (lh_id hj).2.1 (lh_id hj).1))).trans (w_up_no (by unfold chM at hj; omega))))), fun j x hj => ((w_up_no (by unfold lhM at hj; omega)).trans (fS28 j x hj))⟩
          · skip
            refine wa_aload_n (n := 0) rfl ?_
            refine wa_iconst ?_
            refine wa_cv 237 rfl (wy_pr rfl) wt_237 (M2 := fun _ => False) rfl at_M_error ⟨_, rfl⟩ rfl rfl ⟨trivial, trivial, trivial, trivial, (Or.inr ⟨wy_pr rfl, fun q => q⟩), trivial, trivial, trivial, trivial⟩ trivial (fun _ _ q => False.elim q) ?_ (fun _ _ _ q => q)
            refine wa_aload_n (n := 0) rfl ?_
            refine wb_gf4 237 rfl (wy_pr rfl) wt_237 wf_15_1 (v := 238) wl_237_1 ?_
            refine wa_iload_n (n := 1) rfl ?_
            refine wa_iconst ?_
            refine wa_cv 238 rfl (wy_pr rfl) wt_238 (M2 := fun _ => False) rfl at_MH_of ⟨_, rfl⟩ rfl rfl ⟨(Or.inr ⟨wy_pr rfl, fun q => q⟩), trivial, trivial⟩ trivial (fun _ _ q => False.elim q) ?_ (fun _ _ _ q => q)
            refine wa_aload_n (n := 0) rfl ?_
            refine wa_iload_n (n := 1) rfl ?_
            refine wb_pfi 238 rfl (wy_pr rfl) wt_238 wf_11_5 (n := 5) rfl ⟨(by omega), (by omega)⟩ ?_
            refine wa_aload_n (n := 0) rfl ?_
            refine wa_iload_n (n := 2) rfl ?_
            refine wb_pfi 238 rfl (wy_pr rfl) wt_238 wf_11_6 (n := 6) rfl ⟨(by omega), (by omega)⟩ ?_
            refine wa_aload_n (n := 0) rfl ?_
            refine wa_oreturn rfl ?_
            show wJ _ _ _ _ _ _ _ _ _ _
            refine wa_th (j := 238) ?_
            refine ⟨rfl, ?_⟩
            exact ⟨fun z => absurd z (by omega), fun _ => ⟨rfl, (((w_up_at (by first | decide | omega)).trans (w_up_same _ _ _ _)) : (w_up (w_up (w_up Sq28 237 170 wh) 238 5 4) 238 6 0) 238 5 = _).trans (if_pos (by omega)).symm, (w_up_same _ _ _ _)⟩, ((w_up_no (by omega)).trans ((w_up_no (by omega)).trans ((w_up_no (by omega)).trans ((hf28 237 167 (by unfold odM cdM wtM; omega)).trans (w_up_same _ _ _ _))))), rCh_ag hC (fun j x hj => ((w_up_no (by unfold chM at hj; omega)).trans ((w_up_no (by unfold chM at hj; omega)).trans ((w_up_no (by unfold chM at hj; omega)).trans ((hf28 j x (fun z => z.elim (lh_id hj).2.2.1 (fun y => y.elim (lh_id hj).2.1 (lh_id hj).1))).trans (w_up_no (by unfold chM at hj; omega))))))), fun j x hj => ((w_up_no (by unfold lhM at hj; omega)).trans ((w_up_no (by unfold lhM at hj; omega)).trans ((w_up_no (by unfold lhM at hj; omega)).trans (fS28 j x hj))))⟩
set_option maxHeartbeats 4000000 in
theorem lhs1_261 {s gk gb c am nms r ct : Int} {W tl : List Int} (hM : w_ML S) (hK : KR 261 T n cs ms S) (hw : wHo cs ms os) (hX : w_X xs) (hnm : 0 ≤ nms ∧ nms < 4000) (h82 : S 282 nms = (W.length : Int)) (hWl : W.length ≤ 60) (h81 : ∀ x : Nat, x < W.length → S 281 (60 * nms + (x : Int)) = W.getD x 0) (hO : wOs cs os) (hA : wAb cs) (hc : 0 ≤ c ∧ c < (cs.length : Int)) (hst : am = 0 ∨ am = 1) (hs : 0 ≤ s ∧ s < 4000) (h05 : S 305 s = nms) (h74 : S 237 174 = gk) (h75 : S 237 175 = gb) (hgk : (gk = 7 ∧ am = 0 ∧ (0 ≤ gb ∧ gb < 8000) ∧ S 321 gb = c) ∨ (gk = 8 ∧ am = 1 ∧ gb = c)) (h172 : S 237 172 = 0) (hC : rCh T cs ms os N CH wo mo S) (h73 : S 237 173 = r) (hr : 0 ≤ r ∧ r + 1 + (tl.length : Int) ≤ 4200) (hcl : rCl S r tl) (h8 : tl.length ≤ 8) (hes : esOk tl) (hty : ∀ c ∈ tl, c < 9 + (cs.length : Int)) (hwo : wo < 10000000) (htl1 : tl.length = 1) : wJ (pe_GA xs) wY0 M (d + 66) t_M_looksAtHost ((pe_at t_M_looksAtHost.bl 0).getD (0, [])).2 [(0, (2, 237)), (1, (0, s)), (2, (0, 1)), (3, (0, 1))] [] S (lrQ T cs ms os N (chN CH wo mo (c, am, 1, (wnW [115, 101, 116] W), tl) (FA T cs ms os c am 1 (wnW [115, 101, 116] W))).1 (chN CH wo mo (c, am, 1, (wnW [115, 101, 116] W), tl) (FA T cs ms os c am 1 (wnW [115, 101, 116] W))).2 mo c (if (FA T cs ms os c am 1 (wnW [115, 101, 116] W)) = [] then fdA T cs ms am W c else (rvA T cs ms os (c, am, 1, (wnW [115, 101, 116] W), tl))) (if (FA T cs ms os c am 1 (wnW [115, 101, 116] W)) = [] then 0 else 1) S) := by
  have h13 : S 237 13 = 261 := hK.1
  have h60 := hw.1
  have hFm := FA_v (T := T) (am := am) (fs := 1) (WW := (wnW [115, 101, 116] W)) hw hc
  obtain ⟨rv, hrv⟩ : ∃ r : Int, r = (rvA T cs ms os (c, am, 1, (wnW [115, 101, 116] W), tl)) := ⟨_, rfl⟩
  have hrr := rvA_rg (T := T) (q := (c, am, 1, (wnW [115, 101, 116] W), tl)) hw hc
  have hr1 := rv_m1 (T := T) (q := (c, am, 1, (wnW [115, 101, 116] W), tl)) hw hc
  rw [← hrv] at hrr hr1 ⊢
  replace hr1 : rv = -1 ↔ (FA T cs ms os c am 1 (wnW [115, 101, 116] W)) = [] := hr1
  have hF4 : (FA T cs ms os c am 1 (wnW [115, 101, 116] W)).length = 0 ↔ (FA T cs ms os c am 1 (wnW [115, 101, 116] W)) = [] := ⟨fun z => List.eq_nil_of_length_eq_zero z, fun z => by rw [z]; rfl⟩
  obtain ⟨fd, hfd⟩ : ∃ r : Int, r = fdA T cs ms am W c := ⟨_, rfl⟩
  have hfr := fdA_rg (T := T) (st := am) (W := W) hw hc
  rw [← hfd] at hfr ⊢
  have hFa : cdA ms (okM T ms 1 am 1 (wnW [115, 101, 116] W)) [] (mOr cs (os c)) = (FA T cs ms os c am 1 (wnW [115, 101, 116] W)) := by
    unfold FA
    rw [if_neg (show ¬ am = 2 by omega), if_neg (show ¬ am = 2 by omega), if_pos (show (1 : Int) = 1 from rfl), show (if am = 1 then 1 else 0 : Int) = am by split <;> omega]
  refine wa_aload_n (n := 0) rfl ?_
  refine wb_gfi 237 rfl (wy_pr rfl) wt_237 wf_15_174 (v := gk) (h74) (fun r11 => ?_)
  refine wa_bipush (w_rg2 (by omega) (by omega)) ?_
  refine wa_icmpne (w_rg0 (by omega) (by omega)) (w_rg0 (by omega) (by omega)) ⟨_, rfl⟩ (fun c12 => ?_) (fun c12 => ?_)
  · skip
    refine wa_iconst ?_
    refine wa_fall ⟨_, rfl⟩ ?_
    refine wJ_top (show 0 = am by omega) ?_
    refine wa_istore (n := 4) rfl ?_
    refine wa_iload (n := 4) rfl ?_
    refine wa_ifeq (w_rg0 (by omega) (by omega)) ⟨_, rfl⟩ (fun c13 => ?_) (fun c13 => ?_)
    · skip
      have h21 : S 321 gb = c := by rcases hgk with z | z; exact z.2.2.2; omega
      have hgb0 : 0 ≤ gb ∧ gb < 8000 := by omega
      refine wa_aload_n (n := 0) rfl ?_
      refine wb_gf4 237 rfl (wy_pr rfl) wt_237 wf_15_77 (v := 321) wl_237_77 ?_
      refine wa_aload_n (n := 0) rfl ?_
      refine wb_gfl 237 rfl (wy_pr rfl) wt_237 wf_15_175 (v := gb) (h75) (fun r14 => ?_)
      refine wb_l2i_r (wb_l2i_id ⟨(by omega), (by omega)⟩) ?_
      refine wb_iald 321 rfl (wy_pr rfl) wt_321 (n := 8000) ((ml_321 hM)) (by omega) (by omega) (v := c) (h21) (fun r15 => ?_)
      refine wa_fall ⟨_, rfl⟩ ?_
      refine wa_istore (n := 5) rfl ?_
      refine wa_iload (n := 4) rfl ?_
      refine wa_ifeq (w_rg0 (by omega) (by omega)) ⟨_, rfl⟩ (fun c16 => ?_) (fun c16 => ?_)
      · skip
        refine wa_iconst ?_
        refine wa_fall ⟨_, rfl⟩ ?_
        refine wJ_top (show 0 = am by omega) ?_
        refine wa_istore (n := 6) rfl ?_
        refine wa_aload_n (n := 0) rfl ?_
        refine wa_iload (n := 5) rfl ?_
        refine wb_pfi 237 rfl (wy_pr rfl) wt_237 wf_15_167 (n := 167) rfl ⟨(by omega), (by omega)⟩ ?_
        refine wa_aload_n (n := 0) rfl ?_
        refine wb_gf4 237 rfl (wy_pr rfl) wt_237 wf_15_50 (v := 305) wl_237_50 ?_
        refine wa_iload_n (n := 1) rfl ?_
        refine wb_iald 305 rfl (wy_pr rfl) wt_305 (n := 4000) ((w_up_slot (by decide)).trans ((ml_305 hM))) (by omega) (by omega) (v := nms) ((w_up_slot (by decide)).trans (h05)) (fun r17 => ?_)
        refine wa_istore (n := 7) rfl ?_
        refine wa_iload_n (n := 2) rfl ?_
        refine wa_ifne (w_rg0 (by omega) (by omega)) ⟨_, rfl⟩ (fun c18 => ?_) (fun c18 => ?_)
        · skip
          refine wa_iload_n (n := 2) rfl ?_
          refine wa_iconst ?_
          refine wa_icmpne (w_rg0 (by omega) (by omega)) (w_rg0 (by omega) (by omega)) ⟨_, rfl⟩ (fun c19 => ?_) (fun c19 => ?_)
          · skip
            exact absurd c19 (by omega)
          · skip
            refine wa_aload_n (n := 0) rfl ?_
            refine wa_ks ?_
            refine wa_iload (n := 7) rfl ?_
            have fb1 : ∀ (j : Nat) (x : Int), ¬ lhM j x → (w_up S 237 167 c) j x = S j x := fun j x hj => (w_up_no (by unfold lhM at hj; omega))
            have hMb1 : w_ML (w_up S 237 167 c) := ML_w hM fb1 (fun j => lhM_1)
            have hKb1 : KR 261 T n cs ms (w_up S 237 167 c) := KR_ag hK (fun j x hj => fb1 j x (by unfold lhM; omega))
            refine wa_cv 237 rfl (wy_pr rfl) wt_237 (M2 := fun _ => False) rfl at_M_wants ⟨_, rfl⟩ rfl rfl ⟨trivial, trivial, trivial, trivial, (Or.inr ⟨wy_pr rfl, fun q => q⟩), trivial, trivial, trivial, trivial⟩ trivial (fun _ _ q => False.elim q) (rwt51 (S := (w_up S 237 167 c)) hX hMb1 hnm ((fb1 282 nms (by unfold lhM; omega)).trans h82) hWl (fun x hx => (fb1 281 _ (by unfold lhM; omega)).trans (h81 x hx))) (fun oq20 Sq20 hp21 q20 => ?_)
            rcases q20 with ⟨rfl, hw20, hf20⟩
            show wJ _ _ _ _ _ _ _ _ _ _
            have hq20 : ∀ (j : Nat) (x : Int), ¬ lhM j x → Sq20 j x = (w_up S 237 167 c) j x := fun j x hj => hf20 j x (lhM_wt hj)
            have fS20 : ∀ (j : Nat) (x : Int), ¬ lhM j x → Sq20 j x = S j x := fun j x hj => (hq20 j x hj).trans (fb1 j x hj)
            refine wa_aload_n (n := 0) rfl ?_
            refine wa_iload (n := 5) rfl ?_
            refine wa_iload (n := 4) rfl ?_
            refine wa_iconst ?_
            have fb2 : ∀ (j : Nat) (x : Int), ¬ lhM j x → Sq20 j x = S j x := fun j x hj => (fS20 j x hj)
            have hMb2 : w_ML Sq20 := ML_w hM fb2 (fun j => lhM_1)
            have hKb2 : KR 261 T n cs ms Sq20 := KR_ag hK (fun j x hj => fb2 j x (by unfold lhM; omega))
            refine wa_cv 237 rfl (wy_pr rfl) wt_237 (M2 := fun _ => False) rfl at_M_collects ⟨_, rfl⟩ rfl rfl ⟨trivial, trivial, trivial, trivial, (Or.inr ⟨wy_pr rfl, fun q => q⟩), trivial, trivial, trivial, trivial⟩ trivial (fun _ _ q => False.elim q) (rco_261 (S := Sq20) (c := c) (st := am) (pc := 1) (WW := (wnW [115, 101, 116] W)) hMb2 hKb2 hw hO hA hst (by omega) hw20 hc) (fun oq22 Sq22 hp23 q22 => ?_)
            rcases q22 with ⟨rfl, hcd22, hf22⟩
            show wJ _ _ _ _ _ _ _ _ _ _
            have hq22 : ∀ (j : Nat) (x : Int), ¬ lhM j x → Sq22 j x = Sq20 j x := fun j x hj => hf22 j x (lhM_cd hj) (lhM_od hj)
            have fS22 : ∀ (j : Nat) (x : Int), ¬ lhM j x → Sq22 j x = S j x := fun j x hj => (hq22 j x hj).trans (fb2 j x hj)
            rw [hFa] at hcd22
            have hcl22 := hcd22.2.2
            refine wa_aload_n (n := 0) rfl ?_
            refine wb_gfi 237 rfl (wy_pr rfl) wt_237 wf_15_128 (v := ((FA T cs ms os c am 1 (wnW [115, 101, 116] W)).length : Int)) (hcd22.1) (fun r24 => ?_)
            refine wa_ifle (w_rg0 (by omega) (by omega)) ⟨_, rfl⟩ (fun c25 => ?_) (fun c25 => ?_)
            · skip
              refine wa_aload_n (n := 0) rfl ?_
              refine wa_ks ?_
              refine wa_iload (n := 7) rfl ?_
              have fb3 : ∀ (j : Nat) (x : Int), ¬ lhM j x → Sq22 j x = S j x := fun j x hj => (fS22 j x hj)
              have hMb3 : w_ML Sq22 := ML_w hM fb3 (fun j => lhM_1)
              have hKb3 : KR 261 T n cs ms Sq22 := KR_ag hK (fun j x hj => fb3 j x (by unfold lhM; omega))
              refine wa_cv 237 rfl (wy_pr rfl) wt_237 (M2 := fun _ => False) rfl at_M_wants ⟨_, rfl⟩ rfl rfl ⟨trivial, trivial, trivial, trivial, (Or.inr ⟨wy_pr rfl, fun q => q⟩), trivial, trivial, trivial, trivial⟩ trivial (fun _ _ q => False.elim q) (rwt53 (S := Sq22) hX hMb3 hnm ((fb3 282 nms (by unfold lhM; omega)).trans h82) hWl (fun x hx => (fb3 281 _ (by unfold lhM; omega)).trans (h81 x hx))) (fun oq26 Sq26 hp27 q26 => ?_)
              rcases q26 with ⟨rfl, hw26, hf26⟩
              show wJ _ _ _ _ _ _ _ _ _ _
              have hq26 : ∀ (j : Nat) (x : Int), ¬ lhM j x → Sq26 j x = Sq22 j x := fun j x hj => hf26 j x (lhM_wt hj)
              have fS26 : ∀ (j : Nat) (x : Int), ¬ lhM j x → Sq26 j x = S j x := fun j x hj => (hq26 j x hj).trans (fb3 j x hj)
              refine wa_aload_n (n := 0) rfl ?_
              refine wa_aload_n (n := 0) rfl ?_
              refine wa_iload (n := 5) rfl ?_
              refine wa_iload (n := 6) rfl ?_
              have fb4 : ∀ (j : Nat) (x : Int), ¬ lhM j x → Sq26 j x = S j x := fun j x hj => (fS26 j x hj)
              have hMb4 : w_ML Sq26 := ML_w hM fb4 (fun j => lhM_1)
              have hKb4 : KR 261 T n cs ms Sq26 := KR_ag hK (fun j x hj => fb4 j x (by unfold lhM; omega))
              have hwn : wtI W Sq26 := by have z := hw26; rw [show wnW ([] : List Int) W = W from if_pos rfl] at z; exact z
              refine wa_cv 237 rfl (wy_pr rfl) wt_237 (M2 := fun _ => False) rfl at_M_field ⟨_, rfl⟩ rfl rfl ⟨trivial, trivial, trivial, trivial, (Or.inr ⟨wy_pr rfl, fun q => q⟩), trivial, trivial, trivial, trivial⟩ ⟨(Or.inr ⟨wy_pr rfl, fun q => q⟩), trivial⟩ (fun _ _ q => False.elim q) (wJ_mono (rfd_261 (S := Sq26) (c := c) (st := am) (WW := W) hMb4 hKb4 hw ⟨by omega, by omega⟩ hwn hc) (fun o Z hz => (⟨hz.1, by rw [hfd]; exact hz.2⟩ : Sq26 = Z ∧ o = .inl (some (0, fd))))) (fun oq28 Sq28 hp29 q28 => ?_)
              rcases q28 with ⟨rfl, rfl⟩
              show wJ _ _ _ _ _ _ _ _ _ _
              refine wb_pfi 237 rfl (wy_pr rfl) wt_237 wf_15_170 (n := 170) rfl ⟨(by omega), (by omega)⟩ ?_
              refine wa_aload_n (n := 0) rfl ?_
              refine wb_gfi 237 rfl (wy_pr rfl) wt_237 wf_15_170 (v := fd) (w_up_same _ _ _ _) (fun r30 => ?_)
              refine wa_ifge (w_rg0 (by omega) (by omega)) ⟨_, rfl⟩ (fun c31 => ?_) (fun c31 => ?_)
              · skip
                refine wa_return rfl ?_
                have hFe : (FA T cs ms os c am 1 (wnW [115, 101, 116] W)) = [] := hF4.mp (by omega)
                have ewh : (if (FA T cs ms os c am 1 (wnW [115, 101, 116] W)) = [] then fd else rv) = fd := if_pos hFe
                have emn : (if (FA T cs ms os c am 1 (wnW [115, 101, 116] W)) = [] then 0 else 1 : Int) = 0 := if_pos hFe
                have ech : chN CH wo mo (c, am, 1, (wnW [115, 101, 116] W), tl) (FA T cs ms os c am 1 (wnW [115, 101, 116] W)) = (CH, wo) := if_pos (Or.inl hFe)
                rw [ewh, emn]
                rw [ech]
                exact ⟨fun _ => ⟨rfl, (w_up_same _ _ _ _), ((w_up_no (by omega)).trans ((hf26 237 172 (by unfold wtM; omega)).trans ((hf22 237 172 (by unfold cdM; omega) (by unfold odM; omega)).trans ((hf20 237 172 (by unfold wtM; omega)).trans ((w_up_no (by omega)).trans (h172))))))⟩, fun z => absurd z (by omega), ((w_up_no (by omega)).trans ((hf26 237 167 (by unfold wtM; omega)).trans ((hf22 237 167 (by unfold cdM; omega) (by unfold odM; omega)).trans ((hf20 237 167 (by unfold wtM; omega)).trans (w_up_same _ _ _ _))))), rCh_ag hC (fun j x hj => ((w_up_no (by unfold chM at hj; omega)).trans ((hf26 j x (lh_id hj).1).trans ((hf22 j x (lh_id hj).2.1 (lh_id hj).2.2.1).trans ((hf20 j x (lh_id hj).1).trans (w_up_no (by unfold chM at hj; omega))))))), fun j x hj => ((w_up_no (by unfold lhM at hj; omega)).trans (fS26 j x hj))⟩
              · skip
                refine wa_aload_n (n := 0) rfl ?_
                refine wa_iconst ?_
                refine wa_cv 237 rfl (wy_pr rfl) wt_237 (M2 := fun _ => False) rfl at_M_error ⟨_, rfl⟩ rfl rfl ⟨trivial, trivial, trivial, trivial, (Or.inr ⟨wy_pr rfl, fun q => q⟩), trivial, trivial, trivial, trivial⟩ trivial (fun _ _ q => False.elim q) ?_ (fun _ _ _ q => q)
                refine wa_aload_n (n := 0) rfl ?_
                refine wb_gf4 237 rfl (wy_pr rfl) wt_237 wf_15_1 (v := 238) wl_237_1 ?_
                refine wa_iload_n (n := 1) rfl ?_
                refine wa_iconst ?_
                refine wa_cv 238 rfl (wy_pr rfl) wt_238 (M2 := fun _ => False) rfl at_MH_of ⟨_, rfl⟩ rfl rfl ⟨(Or.inr ⟨wy_pr rfl, fun q => q⟩), trivial, trivial⟩ trivial (fun _ _ q => False.elim q) ?_ (fun _ _ _ q => q)
                refine wa_aload_n (n := 0) rfl ?_
                refine wa_iload_n (n := 1) rfl ?_
                refine wb_pfi 238 rfl (wy_pr rfl) wt_238 wf_11_5 (n := 5) rfl ⟨(by omega), (by omega)⟩ ?_
                refine wa_aload_n (n := 0) rfl ?_
                refine wa_iload_n (n := 2) rfl ?_
                refine wb_pfi 238 rfl (wy_pr rfl) wt_238 wf_11_6 (n := 6) rfl ⟨(by omega), (by omega)⟩ ?_
                refine wa_aload_n (n := 0) rfl ?_
                refine wa_oreturn rfl ?_
                show wJ _ _ _ _ _ _ _ _ _ _
                refine wa_th (j := 238) ?_
                refine ⟨rfl, ?_⟩
                have hFe : (FA T cs ms os c am 1 (wnW [115, 101, 116] W)) = [] := hF4.mp (by omega)
                have ewh : (if (FA T cs ms os c am 1 (wnW [115, 101, 116] W)) = [] then fd else rv) = fd := if_pos hFe
                have emn : (if (FA T cs ms os c am 1 (wnW [115, 101, 116] W)) = [] then 0 else 1 : Int) = 0 := if_pos hFe
                have ech : chN CH wo mo (c, am, 1, (wnW [115, 101, 116] W), tl) (FA T cs ms os c am 1 (wnW [115, 101, 116] W)) = (CH, wo) := if_pos (Or.inl hFe)
                rw [ewh, emn]
                rw [ech]
                exact ⟨fun z => absurd z (by omega), fun _ => ⟨rfl, (((w_up_at (by first | decide | omega)).trans (w_up_same _ _ _ _)) : (w_up (w_up (w_up Sq26 237 170 fd) 238 5 4) 238 6 0) 238 5 = _).trans (if_pos (by omega)).symm, (w_up_same _ _ _ _)⟩, ((w_up_no (by omega)).trans ((w_up_no (by omega)).trans ((w_up_no (by omega)).trans ((hf26 237 167 (by unfold wtM; omega)).trans ((hf22 237 167 (by unfold cdM; omega) (by unfold odM; omega)).trans ((hf20 237 167 (by unfold wtM; omega)).trans (w_up_same _ _ _ _))))))), rCh_ag hC (fun j x hj => ((w_up_no (by unfold chM at hj; omega)).trans ((w_up_no (by unfold chM at hj; omega)).trans ((w_up_no (by unfold chM at hj; omega)).trans ((hf26 j x (lh_id hj).1).trans ((hf22 j x (lh_id hj).2.1 (lh_id hj).2.2.1).trans ((hf20 j x (lh_id hj).1).trans (w_up_no (by unfold chM at hj; omega))))))))), fun j x hj => ((w_up_no (by unfold lhM at hj; omega)).trans ((w_up_no (by unfold lhM at hj; omega)).trans ((w_up_no (by unfold lhM at hj; omega)).trans (fS26 j x hj))))⟩
            · skip
              refine wa_aload_n (n := 0) rfl ?_
              refine wa_iconst ?_
              have fb5 : ∀ (j : Nat) (x : Int), ¬ lhM j x → Sq22 j x = S j x := fun j x hj => (fS22 j x hj)
              have hMb5 : w_ML Sq22 := ML_w hM fb5 (fun j => lhM_1)
              have hKb5 : KR 261 T n cs ms Sq22 := KR_ag hK (fun j x hj => fb5 j x (by unfold lhM; omega))
              have hty1 := rty (xs := xs) (M := fun _ => False) (d := d + 64) (S := Sq22) (r := r) (tl := tl) hMb5 ((fb5 237 173 (by unfold lhM; omega)).trans h73) hr (rCl_a9 hcl (fun j x hj => fb5 j x (by unfold lhM; omega))) h8
              rw [show (tl.length : Int) = 1 by omega] at hty1
              refine wa_cv 237 rfl (wy_pr rfl) wt_237 (M2 := fun _ => False) rfl at_M_typesOfEs ⟨_, rfl⟩ rfl rfl ⟨trivial, trivial, trivial, trivial, (Or.inr ⟨wy_pr rfl, fun q => q⟩), trivial, trivial, trivial, trivial⟩ trivial (fun _ _ q => False.elim q) (hty1) (fun oq32 Sq32 hp33 q32 => ?_)
              rcases q32 with ⟨rfl, ht32, hmn32, hf32⟩
              show wJ _ _ _ _ _ _ _ _ _ _
              have hq32 : ∀ (j : Nat) (x : Int), ¬ lhM j x → Sq32 j x = Sq22 j x := fun j x hj => hf32 j x (lhM_ty hj)
              have fS32 : ∀ (j : Nat) (x : Int), ¬ lhM j x → Sq32 j x = S j x := fun j x hj => (hq32 j x hj).trans (fb5 j x hj)
              have hcd32 : cdI (FA T cs ms os c am 1 (wnW [115, 101, 116] W)) Sq32 := cdI_ag hcd22 (fun j x hj => hf32 j x (by unfold tyM; unfold cdM at hj; omega))
              have hnc32 : Sq32 355 0 = (FA T cs ms os c am 1 (wnW [115, 101, 116] W)).getD 0 (-1) := (hcd32.2.1 0 (by omega)).trans (by rw [List.getD_eq_getElem?_getD, List.getD_eq_getElem?_getD, List.getElem?_eq_getElem (show 0 < (FA T cs ms os c am 1 (wnW [115, 101, 116] W)).length by omega)]; rfl)
              refine wa_aload_n (n := 0) rfl ?_
              refine wa_iload (n := 5) rfl ?_
              refine wa_iload (n := 6) rfl ?_
              refine wa_iconst ?_
              refine wa_iadd ?_
              refine wa_aload_n (n := 0) rfl ?_
              refine wb_gf4 237 rfl (wy_pr rfl) wt_237 wf_15_129 (v := 355) wl_237_129 ?_
              refine wa_iconst ?_
              refine wb_iald 355 rfl (wy_pr rfl) wt_355 (n := 400) (((hq32 355 (-1) (by unfold lhM; omega)).trans (((hq22 355 (-1) (by unfold lhM; omega)).trans (((hq20 355 (-1) (by unfold lhM; omega)).trans ((w_up_slot (by decide)).trans ((ml_355 hM))))))))) (by omega) (by omega) (v := ((FA T cs ms os c am 1 (wnW [115, 101, 116] W)).getD 0 (-1))) (hnc32) (fun r34 => ?_)
              refine wa_iload_n (n := 3) rfl ?_
              have fb6 : ∀ (j : Nat) (x : Int), ¬ lhM j x → Sq32 j x = S j x := fun j x hj => (fS32 j x hj)
              have hMb6 : w_ML Sq32 := ML_w hM fb6 (fun j => lhM_1)
              have hKb6 : KR 261 T n cs ms Sq32 := KR_ag hK (fun j x hj => fb6 j x (by unfold lhM; omega))
              have hC35 : rCh T cs ms os N CH wo mo Sq32 := rCh_ag hC (fun j x hj => ((hf32 j x (lh_id hj).2.2.2.1).trans ((hf22 j x (lh_id hj).2.1 (lh_id hj).2.2.1).trans ((hf20 j x (lh_id hj).1).trans (w_up_no (lh_id hj).2.2.2.2)))))
              have hFn : (FA T cs ms os c am 1 (wnW [115, 101, 116] W)) ≠ [] := fun z => by have y := hF4.mpr z; omega
              have hqk : qRk T cs ms os N (c, am, 1, (wnW [115, 101, 116] W), tl) := ⟨hc, ⟨by show (0 : Int) ≤ am; omega, by show am ≤ (2 : Int); omega⟩, Or.inr rfl, (fun z => absurd z (by show ¬ am = 2; omega)), (fun _ z => absurd z (by show ¬ (1 : Int) = 0; decide)), h8, hFn⟩
              have hnb : -1 ≤ (FA T cs ms os c am 1 (wnW [115, 101, 116] W)).getD 0 (-1) ∧ (FA T cs ms os c am 1 (wnW [115, 101, 116] W)).getD 0 (-1) ≤ 4000 := by have z : (FA T cs ms os c am 1 (wnW [115, 101, 116] W)).getD 0 (-1) ∈ (FA T cs ms os c am 1 (wnW [115, 101, 116] W)) := (by rw [List.getD_eq_getElem?_getD, List.getElem?_eq_getElem (show 0 < (FA T cs ms os c am 1 (wnW [115, 101, 116] W)).length by omega)]; exact List.getElem_mem _); have y := hFm _ z; omega
              have hrc := rcs1_261 (xs := xs) (M := fun _ => False) (d := d + 59) (S := Sq32) (c := c) (am := am) (fs := 1) (md := (am + 4)) (nc := ((FA T cs ms os c am 1 (wnW [115, 101, 116] W)).getD 0 (-1))) (WW := (wnW [115, 101, 116] W)) (tl := tl) (F := (FA T cs ms os c am 1 (wnW [115, 101, 116] W))) hMb6 hKb6 hw hC35 ht32 hqk (by show _ = (if am = 2 then 2 else am + 4 * 1 : Int); rw [if_neg (by omega)]; omega) (by show _ = (if am = 2 then -1 else if (1 : Int) = 1 then (FA T cs ms os c am 1 (wnW [115, 101, 116] W)).getD 0 (-1) else _ : Int); rw [if_neg (by omega), if_pos rfl]) ⟨by omega, by omega⟩ ⟨by omega, by omega⟩ hes hty hcd32 hFm rfl hwo
              rw [← hrv] at hrc
              refine wa_cv 237 rfl (wy_pr rfl) wt_237 (M2 := fun _ => False) rfl at_M_chooses ⟨_, rfl⟩ rfl rfl ⟨trivial, trivial, trivial, trivial, (Or.inr ⟨wy_pr rfl, fun q => q⟩), trivial, trivial, trivial, trivial⟩ trivial (fun _ _ q => False.elim q) (hrc) (fun oq35 Sq35 hp36 q35 => ?_)
              rcases q35 with ⟨ha35, hb35, hcz35, hf35⟩
              have hqx : ∀ (j : Nat) (x : Int), ¬ lhM j x → Sq35 j x = S j x := fun j x hj => (hf35 j x (lhM_cs hj)).trans (fb6 j x hj)
              have ewh : (if (FA T cs ms os c am 1 (wnW [115, 101, 116] W)) = [] then fd else rv) = rv := if_neg hFn
              have emn : (if (FA T cs ms os c am 1 (wnW [115, 101, 116] W)) = [] then 0 else 1 : Int) = 1 := if_neg hFn
              rw [ewh, emn]
              have e167 : Sq35 237 167 = c := (hf35 237 167 (by unfold csM chM; omega)).trans (((hf32 237 167 (by unfold tyM; omega)).trans ((hf22 237 167 (by unfold cdM; omega) (by unfold odM; omega)).trans ((hf20 237 167 (by unfold wtM; omega)).trans (w_up_same _ _ _ _)))))
              have e172 : Sq35 237 172 = 1 := (hf35 237 172 (by unfold csM chM; omega)).trans hmn32
              have hneg : rv ≠ -1 := fun z => hFn (hr1.mp z)
              by_cases crv : 0 ≤ rv
              · obtain ⟨z1, z2⟩ := ha35 crv
                subst z1
                show wJ _ _ _ _ _ _ _ _ _ _
                refine wa_goto ⟨_, rfl⟩ ?_
                refine wa_return rfl ?_
                exact ⟨fun _ => ⟨rfl, z2, e172⟩, fun z => absurd z (by omega), e167, hcz35, hqx⟩
              · obtain ⟨z1, z2, z3⟩ := hb35 (by omega)
                subst z1
                refine ⟨rfl, ?_⟩
                exact ⟨fun z => absurd z (by omega), fun _ => ⟨rfl, by rw [if_neg hneg]; exact z2, z3⟩, e167, hcz35, hqx⟩
        · skip
          exact absurd c18 (by omega)
      · skip
        exact absurd c16 (by omega)
    · skip
      exfalso; omega
  · skip
    refine wa_iconst ?_
    refine wa_goto ⟨_, rfl⟩ ?_
    refine wJ_top (show 1 = am by omega) ?_
    refine wa_istore (n := 4) rfl ?_
    refine wa_iload (n := 4) rfl ?_
    refine wa_ifeq (w_rg0 (by omega) (by omega)) ⟨_, rfl⟩ (fun c37 => ?_) (fun c37 => ?_)
    · skip
      exfalso; omega
    · skip
      have hgbc : gb = c := by omega
      refine wa_aload_n (n := 0) rfl ?_
      refine wb_gfl 237 rfl (wy_pr rfl) wt_237 wf_15_175 (v := gb) (h75) (fun r38 => ?_)
      refine wb_l2i_r (wb_l2i_id ⟨(by omega), (by omega)⟩) ?_
      refine wa_goto ⟨_, rfl⟩ ?_
      refine wJ_top (show gb = c by omega) ?_
      refine wa_istore (n := 5) rfl ?_
      refine wa_iload (n := 4) rfl ?_
      refine wa_ifeq (w_rg0 (by omega) (by omega)) ⟨_, rfl⟩ (fun c39 => ?_) (fun c39 => ?_)
      · skip
        exact absurd c39 (by omega)
      · skip
        refine wa_iconst ?_
        refine wa_goto ⟨_, rfl⟩ ?_
        refine wJ_top (show 1 = am by omega) ?_
        refine wa_istore (n := 6) rfl ?_
        refine wa_aload_n (n := 0) rfl ?_
        refine wa_iload (n := 5) rfl ?_
        refine wb_pfi 237 rfl (wy_pr rfl) wt_237 wf_15_167 (n := 167) rfl ⟨(by omega), (by omega)⟩ ?_
        refine wa_aload_n (n := 0) rfl ?_
        refine wb_gf4 237 rfl (wy_pr rfl) wt_237 wf_15_50 (v := 305) wl_237_50 ?_
        refine wa_iload_n (n := 1) rfl ?_
        refine wb_iald 305 rfl (wy_pr rfl) wt_305 (n := 4000) ((w_up_slot (by decide)).trans ((ml_305 hM))) (by omega) (by omega) (v := nms) ((w_up_slot (by decide)).trans (h05)) (fun r40 => ?_)
        refine wa_istore (n := 7) rfl ?_
        refine wa_iload_n (n := 2) rfl ?_
        refine wa_ifne (w_rg0 (by omega) (by omega)) ⟨_, rfl⟩ (fun c41 => ?_) (fun c41 => ?_)
        · skip
          refine wa_iload_n (n := 2) rfl ?_
          refine wa_iconst ?_
          refine wa_icmpne (w_rg0 (by omega) (by omega)) (w_rg0 (by omega) (by omega)) ⟨_, rfl⟩ (fun c42 => ?_) (fun c42 => ?_)
          · skip
            exact absurd c42 (by omega)
          · skip
            refine wa_aload_n (n := 0) rfl ?_
            refine wa_ks ?_
            refine wa_iload (n := 7) rfl ?_
            have fb7 : ∀ (j : Nat) (x : Int), ¬ lhM j x → (w_up S 237 167 c) j x = S j x := fun j x hj => (w_up_no (by unfold lhM at hj; omega))
            have hMb7 : w_ML (w_up S 237 167 c) := ML_w hM fb7 (fun j => lhM_1)
            have hKb7 : KR 261 T n cs ms (w_up S 237 167 c) := KR_ag hK (fun j x hj => fb7 j x (by unfold lhM; omega))
            refine wa_cv 237 rfl (wy_pr rfl) wt_237 (M2 := fun _ => False) rfl at_M_wants ⟨_, rfl⟩ rfl rfl ⟨trivial, trivial, trivial, trivial, (Or.inr ⟨wy_pr rfl, fun q => q⟩), trivial, trivial, trivial, trivial⟩ trivial (fun _ _ q => False.elim q) (rwt51 (S := (w_up S 237 167 c)) hX hMb7 hnm ((fb7 282 nms (by unfold lhM; omega)).trans h82) hWl (fun x hx => (fb7 281 _ (by unfold lhM; omega)).trans (h81 x hx))) (fun oq43 Sq43 hp44 q43 => ?_)
            rcases q43 with ⟨rfl, hw43, hf43⟩
            show wJ _ _ _ _ _ _ _ _ _ _
            have hq43 : ∀ (j : Nat) (x : Int), ¬ lhM j x → Sq43 j x = (w_up S 237 167 c) j x := fun j x hj => hf43 j x (lhM_wt hj)
            have fS43 : ∀ (j : Nat) (x : Int), ¬ lhM j x → Sq43 j x = S j x := fun j x hj => (hq43 j x hj).trans (fb7 j x hj)
            refine wa_aload_n (n := 0) rfl ?_
            refine wa_iload (n := 5) rfl ?_
            refine wa_iload (n := 4) rfl ?_
            refine wa_iconst ?_
            have fb8 : ∀ (j : Nat) (x : Int), ¬ lhM j x → Sq43 j x = S j x := fun j x hj => (fS43 j x hj)
            have hMb8 : w_ML Sq43 := ML_w hM fb8 (fun j => lhM_1)
            have hKb8 : KR 261 T n cs ms Sq43 := KR_ag hK (fun j x hj => fb8 j x (by unfold lhM; omega))
            refine wa_cv 237 rfl (wy_pr rfl) wt_237 (M2 := fun _ => False) rfl at_M_collects ⟨_, rfl⟩ rfl rfl ⟨trivial, trivial, trivial, trivial, (Or.inr ⟨wy_pr rfl, fun q => q⟩), trivial, trivial, trivial, trivial⟩ trivial (fun _ _ q => False.elim q) (rco_261 (S := Sq43) (c := c) (st := am) (pc := 1) (WW := (wnW [115, 101, 116] W)) hMb8 hKb8 hw hO hA hst (by omega) hw43 hc) (fun oq45 Sq45 hp46 q45 => ?_)
            rcases q45 with ⟨rfl, hcd45, hf45⟩
            show wJ _ _ _ _ _ _ _ _ _ _
            have hq45 : ∀ (j : Nat) (x : Int), ¬ lhM j x → Sq45 j x = Sq43 j x := fun j x hj => hf45 j x (lhM_cd hj) (lhM_od hj)
            have fS45 : ∀ (j : Nat) (x : Int), ¬ lhM j x → Sq45 j x = S j x := fun j x hj => (hq45 j x hj).trans (fb8 j x hj)
            rw [hFa] at hcd45
            have hcl45 := hcd45.2.2
            refine wa_aload_n (n := 0) rfl ?_
            refine wb_gfi 237 rfl (wy_pr rfl) wt_237 wf_15_128 (v := ((FA T cs ms os c am 1 (wnW [115, 101, 116] W)).length : Int)) (hcd45.1) (fun r47 => ?_)
            refine wa_ifle (w_rg0 (by omega) (by omega)) ⟨_, rfl⟩ (fun c48 => ?_) (fun c48 => ?_)
            · skip
              refine wa_aload_n (n := 0) rfl ?_
              refine wa_ks ?_
              refine wa_iload (n := 7) rfl ?_
              have fb9 : ∀ (j : Nat) (x : Int), ¬ lhM j x → Sq45 j x = S j x := fun j x hj => (fS45 j x hj)
              have hMb9 : w_ML Sq45 := ML_w hM fb9 (fun j => lhM_1)
              have hKb9 : KR 261 T n cs ms Sq45 := KR_ag hK (fun j x hj => fb9 j x (by unfold lhM; omega))
              refine wa_cv 237 rfl (wy_pr rfl) wt_237 (M2 := fun _ => False) rfl at_M_wants ⟨_, rfl⟩ rfl rfl ⟨trivial, trivial, trivial, trivial, (Or.inr ⟨wy_pr rfl, fun q => q⟩), trivial, trivial, trivial, trivial⟩ trivial (fun _ _ q => False.elim q) (rwt53 (S := Sq45) hX hMb9 hnm ((fb9 282 nms (by unfold lhM; omega)).trans h82) hWl (fun x hx => (fb9 281 _ (by unfold lhM; omega)).trans (h81 x hx))) (fun oq49 Sq49 hp50 q49 => ?_)
              rcases q49 with ⟨rfl, hw49, hf49⟩
              show wJ _ _ _ _ _ _ _ _ _ _
              have hq49 : ∀ (j : Nat) (x : Int), ¬ lhM j x → Sq49 j x = Sq45 j x := fun j x hj => hf49 j x (lhM_wt hj)
              have fS49 : ∀ (j : Nat) (x : Int), ¬ lhM j x → Sq49 j x = S j x := fun j x hj => (hq49 j x hj).trans (fb9 j x hj)
              refine wa_aload_n (n := 0) rfl ?_
              refine wa_aload_n (n := 0) rfl ?_
              refine wa_iload (n := 5) rfl ?_
              refine wa_iload (n := 6) rfl ?_
              have fb10 : ∀ (j : Nat) (x : Int), ¬ lhM j x → Sq49 j x = S j x := fun j x hj => (fS49 j x hj)
              have hMb10 : w_ML Sq49 := ML_w hM fb10 (fun j => lhM_1)
              have hKb10 : KR 261 T n cs ms Sq49 := KR_ag hK (fun j x hj => fb10 j x (by unfold lhM; omega))
              have hwn : wtI W Sq49 := by have z := hw49; rw [show wnW ([] : List Int) W = W from if_pos rfl] at z; exact z
              refine wa_cv 237 rfl (wy_pr rfl) wt_237 (M2 := fun _ => False) rfl at_M_field ⟨_, rfl⟩ rfl rfl ⟨trivial, trivial, trivial, trivial, (Or.inr ⟨wy_pr rfl, fun q => q⟩), trivial, trivial, trivial, trivial⟩ ⟨(Or.inr ⟨wy_pr rfl, fun q => q⟩), trivial⟩ (fun _ _ q => False.elim q) (wJ_mono (rfd_261 (S := Sq49) (c := c) (st := am) (WW := W) hMb10 hKb10 hw ⟨by omega, by omega⟩ hwn hc) (fun o Z hz => (⟨hz.1, by rw [hfd]; exact hz.2⟩ : Sq49 = Z ∧ o = .inl (some (0, fd))))) (fun oq51 Sq51 hp52 q51 => ?_)
              rcases q51 with ⟨rfl, rfl⟩
              show wJ _ _ _ _ _ _ _ _ _ _
              refine wb_pfi 237 rfl (wy_pr rfl) wt_237 wf_15_170 (n := 170) rfl ⟨(by omega), (by omega)⟩ ?_
              refine wa_aload_n (n := 0) rfl ?_
              refine wb_gfi 237 rfl (wy_pr rfl) wt_237 wf_15_170 (v := fd) (w_up_same _ _ _ _) (fun r53 => ?_)
              refine wa_ifge (w_rg0 (by omega) (by omega)) ⟨_, rfl⟩ (fun c54 => ?_) (fun c54 => ?_)
              · skip
                refine wa_return rfl ?_
                have hFe : (FA T cs ms os c am 1 (wnW [115, 101, 116] W)) = [] := hF4.mp (by omega)
                have ewh : (if (FA T cs ms os c am 1 (wnW [115, 101, 116] W)) = [] then fd else rv) = fd := if_pos hFe
                have emn : (if (FA T cs ms os c am 1 (wnW [115, 101, 116] W)) = [] then 0 else 1 : Int) = 0 := if_pos hFe
                have ech : chN CH wo mo (c, am, 1, (wnW [115, 101, 116] W), tl) (FA T cs ms os c am 1 (wnW [115, 101, 116] W)) = (CH, wo) := if_pos (Or.inl hFe)
                rw [ewh, emn]
                rw [ech]
                exact ⟨fun _ => ⟨rfl, (w_up_same _ _ _ _), ((w_up_no (by omega)).trans ((hf49 237 172 (by unfold wtM; omega)).trans ((hf45 237 172 (by unfold cdM; omega) (by unfold odM; omega)).trans ((hf43 237 172 (by unfold wtM; omega)).trans ((w_up_no (by omega)).trans (h172))))))⟩, fun z => absurd z (by omega), ((w_up_no (by omega)).trans ((hf49 237 167 (by unfold wtM; omega)).trans ((hf45 237 167 (by unfold cdM; omega) (by unfold odM; omega)).trans ((hf43 237 167 (by unfold wtM; omega)).trans (w_up_same _ _ _ _))))), rCh_ag hC (fun j x hj => ((w_up_no (by unfold chM at hj; omega)).trans ((hf49 j x (lh_id hj).1).trans ((hf45 j x (lh_id hj).2.1 (lh_id hj).2.2.1).trans ((hf43 j x (lh_id hj).1).trans (w_up_no (by unfold chM at hj; omega))))))), fun j x hj => ((w_up_no (by unfold lhM at hj; omega)).trans (fS49 j x hj))⟩
              · skip
                refine wa_aload_n (n := 0) rfl ?_
                refine wa_iconst ?_
                refine wa_cv 237 rfl (wy_pr rfl) wt_237 (M2 := fun _ => False) rfl at_M_error ⟨_, rfl⟩ rfl rfl ⟨trivial, trivial, trivial, trivial, (Or.inr ⟨wy_pr rfl, fun q => q⟩), trivial, trivial, trivial, trivial⟩ trivial (fun _ _ q => False.elim q) ?_ (fun _ _ _ q => q)
                refine wa_aload_n (n := 0) rfl ?_
                refine wb_gf4 237 rfl (wy_pr rfl) wt_237 wf_15_1 (v := 238) wl_237_1 ?_
                refine wa_iload_n (n := 1) rfl ?_
                refine wa_iconst ?_
                refine wa_cv 238 rfl (wy_pr rfl) wt_238 (M2 := fun _ => False) rfl at_MH_of ⟨_, rfl⟩ rfl rfl ⟨(Or.inr ⟨wy_pr rfl, fun q => q⟩), trivial, trivial⟩ trivial (fun _ _ q => False.elim q) ?_ (fun _ _ _ q => q)
                refine wa_aload_n (n := 0) rfl ?_
                refine wa_iload_n (n := 1) rfl ?_
                refine wb_pfi 238 rfl (wy_pr rfl) wt_238 wf_11_5 (n := 5) rfl ⟨(by omega), (by omega)⟩ ?_
                refine wa_aload_n (n := 0) rfl ?_
                refine wa_iload_n (n := 2) rfl ?_
                refine wb_pfi 238 rfl (wy_pr rfl) wt_238 wf_11_6 (n := 6) rfl ⟨(by omega), (by omega)⟩ ?_
                refine wa_aload_n (n := 0) rfl ?_
                refine wa_oreturn rfl ?_
                show wJ _ _ _ _ _ _ _ _ _ _
                refine wa_th (j := 238) ?_
                refine ⟨rfl, ?_⟩
                have hFe : (FA T cs ms os c am 1 (wnW [115, 101, 116] W)) = [] := hF4.mp (by omega)
                have ewh : (if (FA T cs ms os c am 1 (wnW [115, 101, 116] W)) = [] then fd else rv) = fd := if_pos hFe
                have emn : (if (FA T cs ms os c am 1 (wnW [115, 101, 116] W)) = [] then 0 else 1 : Int) = 0 := if_pos hFe
                have ech : chN CH wo mo (c, am, 1, (wnW [115, 101, 116] W), tl) (FA T cs ms os c am 1 (wnW [115, 101, 116] W)) = (CH, wo) := if_pos (Or.inl hFe)
                rw [ewh, emn]
                rw [ech]
                exact ⟨fun z => absurd z (by omega), fun _ => ⟨rfl, (((w_up_at (by first | decide | omega)).trans (w_up_same _ _ _ _)) : (w_up (w_up (w_up Sq49 237 170 fd) 238 5 4) 238 6 0) 238 5 = _).trans (if_pos (by omega)).symm, (w_up_same _ _ _ _)⟩, ((w_up_no (by omega)).trans ((w_up_no (by omega)).trans ((w_up_no (by omega)).trans ((hf49 237 167 (by unfold wtM; omega)).trans ((hf45 237 167 (by unfold cdM; omega) (by unfold odM; omega)).trans ((hf43 237 167 (by unfold wtM; omega)).trans (w_up_same _ _ _ _))))))), rCh_ag hC (fun j x hj => ((w_up_no (by unfold chM at hj; omega)).trans ((w_up_no (by unfold chM at hj; omega)).trans ((w_up_no (by unfold chM at hj; omega)).trans ((hf49 j x (lh_id hj).1).trans ((hf45 j x (lh_id hj).2.1 (lh_id hj).2.2.1).trans ((hf43 j x (lh_id hj).1).trans (w_up_no (by unfold chM at hj; omega))))))))), fun j x hj => ((w_up_no (by unfold lhM at hj; omega)).trans ((w_up_no (by unfold lhM at hj; omega)).trans ((w_up_no (by unfold lhM at hj; omega)).trans (fS49 j x hj))))⟩
            · skip
              refine wa_aload_n (n := 0) rfl ?_
              refine wa_iconst ?_
              have fb11 : ∀ (j : Nat) (x : Int), ¬ lhM j x → Sq45 j x = S j x := fun j x hj => (fS45 j x hj)
              have hMb11 : w_ML Sq45 := ML_w hM fb11 (fun j => lhM_1)
              have hKb11 : KR 261 T n cs ms Sq45 := KR_ag hK (fun j x hj => fb11 j x (by unfold lhM; omega))
              have hty1 := rty (xs := xs) (M := fun _ => False) (d := d + 64) (S := Sq45) (r := r) (tl := tl) hMb11 ((fb11 237 173 (by unfold lhM; omega)).trans h73) hr (rCl_a9 hcl (fun j x hj => fb11 j x (by unfold lhM; omega))) h8
              rw [show (tl.length : Int) = 1 by omega] at hty1
              refine wa_cv 237 rfl (wy_pr rfl) wt_237 (M2 := fun _ => False) rfl at_M_typesOfEs ⟨_, rfl⟩ rfl rfl ⟨trivial, trivial, trivial, trivial, (Or.inr ⟨wy_pr rfl, fun q => q⟩), trivial, trivial, trivial, trivial⟩ trivial (fun _ _ q => False.elim q) (hty1) (fun oq55 Sq55 hp56 q55 => ?_)
              rcases q55 with ⟨rfl, ht55, hmn55, hf55⟩
              show wJ _ _ _ _ _ _ _ _ _ _
              have hq55 : ∀ (j : Nat) (x : Int), ¬ lhM j x → Sq55 j x = Sq45 j x := fun j x hj => hf55 j x (lhM_ty hj)
              have fS55 : ∀ (j : Nat) (x : Int), ¬ lhM j x → Sq55 j x = S j x := fun j x hj => (hq55 j x hj).trans (fb11 j x hj)
              have hcd55 : cdI (FA T cs ms os c am 1 (wnW [115, 101, 116] W)) Sq55 := cdI_ag hcd45 (fun j x hj => hf55 j x (by unfold tyM; unfold cdM at hj; omega))
              have hnc55 : Sq55 355 0 = (FA T cs ms os c am 1 (wnW [115, 101, 116] W)).getD 0 (-1) := (hcd55.2.1 0 (by omega)).trans (by rw [List.getD_eq_getElem?_getD, List.getD_eq_getElem?_getD, List.getElem?_eq_getElem (show 0 < (FA T cs ms os c am 1 (wnW [115, 101, 116] W)).length by omega)]; rfl)
              refine wa_aload_n (n := 0) rfl ?_
              refine wa_iload (n := 5) rfl ?_
              refine wa_iload (n := 6) rfl ?_
              refine wa_iconst ?_
              refine wa_iadd ?_
              refine wa_aload_n (n := 0) rfl ?_
              refine wb_gf4 237 rfl (wy_pr rfl) wt_237 wf_15_129 (v := 355) wl_237_129 ?_
              refine wa_iconst ?_
              refine wb_iald 355 rfl (wy_pr rfl) wt_355 (n := 400) (((hq55 355 (-1) (by unfold lhM; omega)).trans (((hq45 355 (-1) (by unfold lhM; omega)).trans (((hq43 355 (-1) (by unfold lhM; omega)).trans ((w_up_slot (by decide)).trans ((ml_355 hM))))))))) (by omega) (by omega) (v := ((FA T cs ms os c am 1 (wnW [115, 101, 116] W)).getD 0 (-1))) (hnc55) (fun r57 => ?_)
              refine wa_iload_n (n := 3) rfl ?_
              have fb12 : ∀ (j : Nat) (x : Int), ¬ lhM j x → Sq55 j x = S j x := fun j x hj => (fS55 j x hj)
              have hMb12 : w_ML Sq55 := ML_w hM fb12 (fun j => lhM_1)
              have hKb12 : KR 261 T n cs ms Sq55 := KR_ag hK (fun j x hj => fb12 j x (by unfold lhM; omega))
              have hC58 : rCh T cs ms os N CH wo mo Sq55 := rCh_ag hC (fun j x hj => ((hf55 j x (lh_id hj).2.2.2.1).trans ((hf45 j x (lh_id hj).2.1 (lh_id hj).2.2.1).trans ((hf43 j x (lh_id hj).1).trans (w_up_no (lh_id hj).2.2.2.2)))))
              have hFn : (FA T cs ms os c am 1 (wnW [115, 101, 116] W)) ≠ [] := fun z => by have y := hF4.mpr z; omega
              have hqk : qRk T cs ms os N (c, am, 1, (wnW [115, 101, 116] W), tl) := ⟨hc, ⟨by show (0 : Int) ≤ am; omega, by show am ≤ (2 : Int); omega⟩, Or.inr rfl, (fun z => absurd z (by show ¬ am = 2; omega)), (fun _ z => absurd z (by show ¬ (1 : Int) = 0; decide)), h8, hFn⟩
              have hnb : -1 ≤ (FA T cs ms os c am 1 (wnW [115, 101, 116] W)).getD 0 (-1) ∧ (FA T cs ms os c am 1 (wnW [115, 101, 116] W)).getD 0 (-1) ≤ 4000 := by have z : (FA T cs ms os c am 1 (wnW [115, 101, 116] W)).getD 0 (-1) ∈ (FA T cs ms os c am 1 (wnW [115, 101, 116] W)) := (by rw [List.getD_eq_getElem?_getD, List.getElem?_eq_getElem (show 0 < (FA T cs ms os c am 1 (wnW [115, 101, 116] W)).length by omega)]; exact List.getElem_mem _); have y := hFm _ z; omega
              have hrc := rcs1_261 (xs := xs) (M := fun _ => False) (d := d + 59) (S := Sq55) (c := c) (am := am) (fs := 1) (md := (am + 4)) (nc := ((FA T cs ms os c am 1 (wnW [115, 101, 116] W)).getD 0 (-1))) (WW := (wnW [115, 101, 116] W)) (tl := tl) (F := (FA T cs ms os c am 1 (wnW [115, 101, 116] W))) hMb12 hKb12 hw hC58 ht55 hqk (by show _ = (if am = 2 then 2 else am + 4 * 1 : Int); rw [if_neg (by omega)]; omega) (by show _ = (if am = 2 then -1 else if (1 : Int) = 1 then (FA T cs ms os c am 1 (wnW [115, 101, 116] W)).getD 0 (-1) else _ : Int); rw [if_neg (by omega), if_pos rfl]) ⟨by omega, by omega⟩ ⟨by omega, by omega⟩ hes hty hcd55 hFm rfl hwo
              rw [← hrv] at hrc
              refine wa_cv 237 rfl (wy_pr rfl) wt_237 (M2 := fun _ => False) rfl at_M_chooses ⟨_, rfl⟩ rfl rfl ⟨trivial, trivial, trivial, trivial, (Or.inr ⟨wy_pr rfl, fun q => q⟩), trivial, trivial, trivial, trivial⟩ trivial (fun _ _ q => False.elim q) (hrc) (fun oq58 Sq58 hp59 q58 => ?_)
              rcases q58 with ⟨ha58, hb58, hcz58, hf58⟩
              have hqx : ∀ (j : Nat) (x : Int), ¬ lhM j x → Sq58 j x = S j x := fun j x hj => (hf58 j x (lhM_cs hj)).trans (fb12 j x hj)
              have ewh : (if (FA T cs ms os c am 1 (wnW [115, 101, 116] W)) = [] then fd else rv) = rv := if_neg hFn
              have emn : (if (FA T cs ms os c am 1 (wnW [115, 101, 116] W)) = [] then 0 else 1 : Int) = 1 := if_neg hFn
              rw [ewh, emn]
              have e167 : Sq58 237 167 = c := (hf58 237 167 (by unfold csM chM; omega)).trans (((hf55 237 167 (by unfold tyM; omega)).trans ((hf45 237 167 (by unfold cdM; omega) (by unfold odM; omega)).trans ((hf43 237 167 (by unfold wtM; omega)).trans (w_up_same _ _ _ _)))))
              have e172 : Sq58 237 172 = 1 := (hf58 237 172 (by unfold csM chM; omega)).trans hmn55
              have hneg : rv ≠ -1 := fun z => hFn (hr1.mp z)
              by_cases crv : 0 ≤ rv
              · obtain ⟨z1, z2⟩ := ha58 crv
                subst z1
                show wJ _ _ _ _ _ _ _ _ _ _
                refine wa_goto ⟨_, rfl⟩ ?_
                refine wa_return rfl ?_
                exact ⟨fun _ => ⟨rfl, z2, e172⟩, fun z => absurd z (by omega), e167, hcz58, hqx⟩
              · obtain ⟨z1, z2, z3⟩ := hb58 (by omega)
                subst z1
                refine ⟨rfl, ?_⟩
                exact ⟨fun z => absurd z (by omega), fun _ => ⟨rfl, by rw [if_neg hneg]; exact z2, z3⟩, e167, hcz58, hqx⟩
        · skip
          exact absurd c41 (by omega)
set_option maxHeartbeats 4000000 in
theorem lhs0_261 {s gk gb c am nms r ct : Int} {W tl : List Int} (hM : w_ML S) (hK : KR 261 T n cs ms S) (hw : wHo cs ms os) (hX : w_X xs) (hnm : 0 ≤ nms ∧ nms < 4000) (h82 : S 282 nms = (W.length : Int)) (hWl : W.length ≤ 60) (h81 : ∀ x : Nat, x < W.length → S 281 (60 * nms + (x : Int)) = W.getD x 0) (hO : wOs cs os) (hA : wAb cs) (hc : 0 ≤ c ∧ c < (cs.length : Int)) (hst : am = 0 ∨ am = 1) (hs : 0 ≤ s ∧ s < 4000) (h05 : S 305 s = nms) (h74 : S 237 174 = gk) (h75 : S 237 175 = gb) (hgk : (gk = 7 ∧ am = 0 ∧ (0 ≤ gb ∧ gb < 8000) ∧ S 321 gb = c) ∨ (gk = 8 ∧ am = 1 ∧ gb = c)) (h172 : S 237 172 = 0) (hC : rCh T cs ms os N CH wo mo S) (h73 : S 237 173 = r) (hr : 0 ≤ r ∧ r + 1 + (tl.length : Int) ≤ 4200) (hcl : rCl S r tl) (h8 : tl.length ≤ 8) (hes : esOk tl) (hty : ∀ c ∈ tl, c < 9 + (cs.length : Int)) (hwo : wo < 10000000) (htl1 : tl.length = 1) : wJ (pe_GA xs) wY0 M (d + 66) t_M_looksAtHost ((pe_at t_M_looksAtHost.bl 0).getD (0, [])).2 [(0, (2, 237)), (1, (0, s)), (2, (0, 1)), (3, (0, 0))] [] S (lrQ T cs ms os N CH wo mo c (if (FA T cs ms os c am 1 (wnW [115, 101, 116] W)) = [] then fdA T cs ms am W c else (rvA T cs ms os (c, am, 1, (wnW [115, 101, 116] W), tl))) (if (FA T cs ms os c am 1 (wnW [115, 101, 116] W)) = [] then 0 else 1) S) := by
  have h13 : S 237 13 = 261 := hK.1
  have h60 := hw.1
  have hFm := FA_v (T := T) (am := am) (fs := 1) (WW := (wnW [115, 101, 116] W)) hw hc
  obtain ⟨rv, hrv⟩ : ∃ r : Int, r = (rvA T cs ms os (c, am, 1, (wnW [115, 101, 116] W), tl)) := ⟨_, rfl⟩
  have hrr := rvA_rg (T := T) (q := (c, am, 1, (wnW [115, 101, 116] W), tl)) hw hc
  have hr1 := rv_m1 (T := T) (q := (c, am, 1, (wnW [115, 101, 116] W), tl)) hw hc
  rw [← hrv] at hrr hr1 ⊢
  replace hr1 : rv = -1 ↔ (FA T cs ms os c am 1 (wnW [115, 101, 116] W)) = [] := hr1
  have hF4 : (FA T cs ms os c am 1 (wnW [115, 101, 116] W)).length = 0 ↔ (FA T cs ms os c am 1 (wnW [115, 101, 116] W)) = [] := ⟨fun z => List.eq_nil_of_length_eq_zero z, fun z => by rw [z]; rfl⟩
  obtain ⟨fd, hfd⟩ : ∃ r : Int, r = fdA T cs ms am W c := ⟨_, rfl⟩
  have hfr := fdA_rg (T := T) (st := am) (W := W) hw hc
  rw [← hfd] at hfr ⊢
  have hFa : cdA ms (okM T ms 1 am 1 (wnW [115, 101, 116] W)) [] (mOr cs (os c)) = (FA T cs ms os c am 1 (wnW [115, 101, 116] W)) := by
    unfold FA
    rw [if_neg (show ¬ am = 2 by omega), if_neg (show ¬ am = 2 by omega), if_pos (show (1 : Int) = 1 from rfl), show (if am = 1 then 1 else 0 : Int) = am by split <;> omega]
  refine wa_aload_n (n := 0) rfl ?_
  refine wb_gfi 237 rfl (wy_pr rfl) wt_237 wf_15_174 (v := gk) (h74) (fun r11 => ?_)
  refine wa_bipush (w_rg2 (by omega) (by omega)) ?_
  refine wa_icmpne (w_rg0 (by omega) (by omega)) (w_rg0 (by omega) (by omega)) ⟨_, rfl⟩ (fun c12 => ?_) (fun c12 => ?_)
  · skip
    refine wa_iconst ?_
    refine wa_fall ⟨_, rfl⟩ ?_
    refine wJ_top (show 0 = am by omega) ?_
    refine wa_istore (n := 4) rfl ?_
    refine wa_iload (n := 4) rfl ?_
    refine wa_ifeq (w_rg0 (by omega) (by omega)) ⟨_, rfl⟩ (fun c13 => ?_) (fun c13 => ?_)
    · skip
      have h21 : S 321 gb = c := by rcases hgk with z | z; exact z.2.2.2; omega
      have hgb0 : 0 ≤ gb ∧ gb < 8000 := by omega
      refine wa_aload_n (n := 0) rfl ?_
      refine wb_gf4 237 rfl (wy_pr rfl) wt_237 wf_15_77 (v := 321) wl_237_77 ?_
      refine wa_aload_n (n := 0) rfl ?_
      refine wb_gfl 237 rfl (wy_pr rfl) wt_237 wf_15_175 (v := gb) (h75) (fun r14 => ?_)
      refine wb_l2i_r (wb_l2i_id ⟨(by omega), (by omega)⟩) ?_
      refine wb_iald 321 rfl (wy_pr rfl) wt_321 (n := 8000) ((ml_321 hM)) (by omega) (by omega) (v := c) (h21) (fun r15 => ?_)
      refine wa_fall ⟨_, rfl⟩ ?_
      refine wa_istore (n := 5) rfl ?_
      refine wa_iload (n := 4) rfl ?_
      refine wa_ifeq (w_rg0 (by omega) (by omega)) ⟨_, rfl⟩ (fun c16 => ?_) (fun c16 => ?_)
      · skip
        refine wa_iconst ?_
        refine wa_fall ⟨_, rfl⟩ ?_
        refine wJ_top (show 0 = am by omega) ?_
        refine wa_istore (n := 6) rfl ?_
        refine wa_aload_n (n := 0) rfl ?_
        refine wa_iload (n := 5) rfl ?_
        refine wb_pfi 237 rfl (wy_pr rfl) wt_237 wf_15_167 (n := 167) rfl ⟨(by omega), (by omega)⟩ ?_
        refine wa_aload_n (n := 0) rfl ?_
        refine wb_gf4 237 rfl (wy_pr rfl) wt_237 wf_15_50 (v := 305) wl_237_50 ?_
        refine wa_iload_n (n := 1) rfl ?_
        refine wb_iald 305 rfl (wy_pr rfl) wt_305 (n := 4000) ((w_up_slot (by decide)).trans ((ml_305 hM))) (by omega) (by omega) (v := nms) ((w_up_slot (by decide)).trans (h05)) (fun r17 => ?_)
        refine wa_istore (n := 7) rfl ?_
        refine wa_iload_n (n := 2) rfl ?_
        refine wa_ifne (w_rg0 (by omega) (by omega)) ⟨_, rfl⟩ (fun c18 => ?_) (fun c18 => ?_)
        · skip
          refine wa_iload_n (n := 2) rfl ?_
          refine wa_iconst ?_
          refine wa_icmpne (w_rg0 (by omega) (by omega)) (w_rg0 (by omega) (by omega)) ⟨_, rfl⟩ (fun c19 => ?_) (fun c19 => ?_)
          · skip
            exact absurd c19 (by omega)
          · skip
            refine wa_aload_n (n := 0) rfl ?_
            refine wa_ks ?_
            refine wa_iload (n := 7) rfl ?_
            have fb1 : ∀ (j : Nat) (x : Int), ¬ lhM j x → (w_up S 237 167 c) j x = S j x := fun j x hj => (w_up_no (by unfold lhM at hj; omega))
            have hMb1 : w_ML (w_up S 237 167 c) := ML_w hM fb1 (fun j => lhM_1)
            have hKb1 : KR 261 T n cs ms (w_up S 237 167 c) := KR_ag hK (fun j x hj => fb1 j x (by unfold lhM; omega))
            refine wa_cv 237 rfl (wy_pr rfl) wt_237 (M2 := fun _ => False) rfl at_M_wants ⟨_, rfl⟩ rfl rfl ⟨trivial, trivial, trivial, trivial, (Or.inr ⟨wy_pr rfl, fun q => q⟩), trivial, trivial, trivial, trivial⟩ trivial (fun _ _ q => False.elim q) (rwt51 (S := (w_up S 237 167 c)) hX hMb1 hnm ((fb1 282 nms (by unfold lhM; omega)).trans h82) hWl (fun x hx => (fb1 281 _ (by unfold lhM; omega)).trans (h81 x hx))) (fun oq20 Sq20 hp21 q20 => ?_)
            rcases q20 with ⟨rfl, hw20, hf20⟩
            show wJ _ _ _ _ _ _ _ _ _ _
            have hq20 : ∀ (j : Nat) (x : Int), ¬ lhM j x → Sq20 j x = (w_up S 237 167 c) j x := fun j x hj => hf20 j x (lhM_wt hj)
            have fS20 : ∀ (j : Nat) (x : Int), ¬ lhM j x → Sq20 j x = S j x := fun j x hj => (hq20 j x hj).trans (fb1 j x hj)
            refine wa_aload_n (n := 0) rfl ?_
            refine wa_iload (n := 5) rfl ?_
            refine wa_iload (n := 4) rfl ?_
            refine wa_iconst ?_
            have fb2 : ∀ (j : Nat) (x : Int), ¬ lhM j x → Sq20 j x = S j x := fun j x hj => (fS20 j x hj)
            have hMb2 : w_ML Sq20 := ML_w hM fb2 (fun j => lhM_1)
            have hKb2 : KR 261 T n cs ms Sq20 := KR_ag hK (fun j x hj => fb2 j x (by unfold lhM; omega))
            refine wa_cv 237 rfl (wy_pr rfl) wt_237 (M2 := fun _ => False) rfl at_M_collects ⟨_, rfl⟩ rfl rfl ⟨trivial, trivial, trivial, trivial, (Or.inr ⟨wy_pr rfl, fun q => q⟩), trivial, trivial, trivial, trivial⟩ trivial (fun _ _ q => False.elim q) (rco_261 (S := Sq20) (c := c) (st := am) (pc := 1) (WW := (wnW [115, 101, 116] W)) hMb2 hKb2 hw hO hA hst (by omega) hw20 hc) (fun oq22 Sq22 hp23 q22 => ?_)
            rcases q22 with ⟨rfl, hcd22, hf22⟩
            show wJ _ _ _ _ _ _ _ _ _ _
            have hq22 : ∀ (j : Nat) (x : Int), ¬ lhM j x → Sq22 j x = Sq20 j x := fun j x hj => hf22 j x (lhM_cd hj) (lhM_od hj)
            have fS22 : ∀ (j : Nat) (x : Int), ¬ lhM j x → Sq22 j x = S j x := fun j x hj => (hq22 j x hj).trans (fb2 j x hj)
            rw [hFa] at hcd22
            have hcl22 := hcd22.2.2
            refine wa_aload_n (n := 0) rfl ?_
            refine wb_gfi 237 rfl (wy_pr rfl) wt_237 wf_15_128 (v := ((FA T cs ms os c am 1 (wnW [115, 101, 116] W)).length : Int)) (hcd22.1) (fun r24 => ?_)
            refine wa_ifle (w_rg0 (by omega) (by omega)) ⟨_, rfl⟩ (fun c25 => ?_) (fun c25 => ?_)
            · skip
              refine wa_aload_n (n := 0) rfl ?_
              refine wa_ks ?_
              refine wa_iload (n := 7) rfl ?_
              have fb3 : ∀ (j : Nat) (x : Int), ¬ lhM j x → Sq22 j x = S j x := fun j x hj => (fS22 j x hj)
              have hMb3 : w_ML Sq22 := ML_w hM fb3 (fun j => lhM_1)
              have hKb3 : KR 261 T n cs ms Sq22 := KR_ag hK (fun j x hj => fb3 j x (by unfold lhM; omega))
              refine wa_cv 237 rfl (wy_pr rfl) wt_237 (M2 := fun _ => False) rfl at_M_wants ⟨_, rfl⟩ rfl rfl ⟨trivial, trivial, trivial, trivial, (Or.inr ⟨wy_pr rfl, fun q => q⟩), trivial, trivial, trivial, trivial⟩ trivial (fun _ _ q => False.elim q) (rwt53 (S := Sq22) hX hMb3 hnm ((fb3 282 nms (by unfold lhM; omega)).trans h82) hWl (fun x hx => (fb3 281 _ (by unfold lhM; omega)).trans (h81 x hx))) (fun oq26 Sq26 hp27 q26 => ?_)
              rcases q26 with ⟨rfl, hw26, hf26⟩
              show wJ _ _ _ _ _ _ _ _ _ _
              have hq26 : ∀ (j : Nat) (x : Int), ¬ lhM j x → Sq26 j x = Sq22 j x := fun j x hj => hf26 j x (lhM_wt hj)
              have fS26 : ∀ (j : Nat) (x : Int), ¬ lhM j x → Sq26 j x = S j x := fun j x hj => (hq26 j x hj).trans (fb3 j x hj)
              refine wa_aload_n (n := 0) rfl ?_
              refine wa_aload_n (n := 0) rfl ?_
              refine wa_iload (n := 5) rfl ?_
              refine wa_iload (n := 6) rfl ?_
              have fb4 : ∀ (j : Nat) (x : Int), ¬ lhM j x → Sq26 j x = S j x := fun j x hj => (fS26 j x hj)
              have hMb4 : w_ML Sq26 := ML_w hM fb4 (fun j => lhM_1)
              have hKb4 : KR 261 T n cs ms Sq26 := KR_ag hK (fun j x hj => fb4 j x (by unfold lhM; omega))
              have hwn : wtI W Sq26 := by have z := hw26; rw [show wnW ([] : List Int) W = W from if_pos rfl] at z; exact z
              refine wa_cv 237 rfl (wy_pr rfl) wt_237 (M2 := fun _ => False) rfl at_M_field ⟨_, rfl⟩ rfl rfl ⟨trivial, trivial, trivial, trivial, (Or.inr ⟨wy_pr rfl, fun q => q⟩), trivial, trivial, trivial, trivial⟩ ⟨(Or.inr ⟨wy_pr rfl, fun q => q⟩), trivial⟩ (fun _ _ q => False.elim q) (wJ_mono (rfd_261 (S := Sq26) (c := c) (st := am) (WW := W) hMb4 hKb4 hw ⟨by omega, by omega⟩ hwn hc) (fun o Z hz => (⟨hz.1, by rw [hfd]; exact hz.2⟩ : Sq26 = Z ∧ o = .inl (some (0, fd))))) (fun oq28 Sq28 hp29 q28 => ?_)
              rcases q28 with ⟨rfl, rfl⟩
              show wJ _ _ _ _ _ _ _ _ _ _
              refine wb_pfi 237 rfl (wy_pr rfl) wt_237 wf_15_170 (n := 170) rfl ⟨(by omega), (by omega)⟩ ?_
              refine wa_aload_n (n := 0) rfl ?_
              refine wb_gfi 237 rfl (wy_pr rfl) wt_237 wf_15_170 (v := fd) (w_up_same _ _ _ _) (fun r30 => ?_)
              refine wa_ifge (w_rg0 (by omega) (by omega)) ⟨_, rfl⟩ (fun c31 => ?_) (fun c31 => ?_)
              · skip
                refine wa_return rfl ?_
                have hFe : (FA T cs ms os c am 1 (wnW [115, 101, 116] W)) = [] := hF4.mp (by omega)
                have ewh : (if (FA T cs ms os c am 1 (wnW [115, 101, 116] W)) = [] then fd else rv) = fd := if_pos hFe
                have emn : (if (FA T cs ms os c am 1 (wnW [115, 101, 116] W)) = [] then 0 else 1 : Int) = 0 := if_pos hFe
                have ech : chN CH wo mo (c, am, 1, (wnW [115, 101, 116] W), tl) (FA T cs ms os c am 1 (wnW [115, 101, 116] W)) = (CH, wo) := if_pos (Or.inl hFe)
                rw [ewh, emn]
                exact ⟨fun _ => ⟨rfl, (w_up_same _ _ _ _), ((w_up_no (by omega)).trans ((hf26 237 172 (by unfold wtM; omega)).trans ((hf22 237 172 (by unfold cdM; omega) (by unfold odM; omega)).trans ((hf20 237 172 (by unfold wtM; omega)).trans ((w_up_no (by omega)).trans (h172))))))⟩, fun z => absurd z (by omega), ((w_up_no (by omega)).trans ((hf26 237 167 (by unfold wtM; omega)).trans ((hf22 237 167 (by unfold cdM; omega) (by unfold odM; omega)).trans ((hf20 237 167 (by unfold wtM; omega)).trans (w_up_same _ _ _ _))))), rCh_ag hC (fun j x hj => ((w_up_no (by unfold chM at hj; omega)).trans ((hf26 j x (lh_id hj).1).trans ((hf22 j x (lh_id hj).2.1 (lh_id hj).2.2.1).trans ((hf20 j x (lh_id hj).1).trans (w_up_no (by unfold chM at hj; omega))))))), fun j x hj => ((w_up_no (by unfold lhM at hj; omega)).trans (fS26 j x hj))⟩
              · skip
                refine wa_aload_n (n := 0) rfl ?_
                refine wa_iconst ?_
                refine wa_cv 237 rfl (wy_pr rfl) wt_237 (M2 := fun _ => False) rfl at_M_error ⟨_, rfl⟩ rfl rfl ⟨trivial, trivial, trivial, trivial, (Or.inr ⟨wy_pr rfl, fun q => q⟩), trivial, trivial, trivial, trivial⟩ trivial (fun _ _ q => False.elim q) ?_ (fun _ _ _ q => q)
                refine wa_aload_n (n := 0) rfl ?_
                refine wb_gf4 237 rfl (wy_pr rfl) wt_237 wf_15_1 (v := 238) wl_237_1 ?_
                refine wa_iload_n (n := 1) rfl ?_
                refine wa_iconst ?_
                refine wa_cv 238 rfl (wy_pr rfl) wt_238 (M2 := fun _ => False) rfl at_MH_of ⟨_, rfl⟩ rfl rfl ⟨(Or.inr ⟨wy_pr rfl, fun q => q⟩), trivial, trivial⟩ trivial (fun _ _ q => False.elim q) ?_ (fun _ _ _ q => q)
                refine wa_aload_n (n := 0) rfl ?_
                refine wa_iload_n (n := 1) rfl ?_
                refine wb_pfi 238 rfl (wy_pr rfl) wt_238 wf_11_5 (n := 5) rfl ⟨(by omega), (by omega)⟩ ?_
                refine wa_aload_n (n := 0) rfl ?_
                refine wa_iload_n (n := 2) rfl ?_
                refine wb_pfi 238 rfl (wy_pr rfl) wt_238 wf_11_6 (n := 6) rfl ⟨(by omega), (by omega)⟩ ?_
                refine wa_aload_n (n := 0) rfl ?_
                refine wa_oreturn rfl ?_
                show wJ _ _ _ _ _ _ _ _ _ _
                refine wa_th (j := 238) ?_
                refine ⟨rfl, ?_⟩
                have hFe : (FA T cs ms os c am 1 (wnW [115, 101, 116] W)) = [] := hF4.mp (by omega)
                have ewh : (if (FA T cs ms os c am 1 (wnW [115, 101, 116] W)) = [] then fd else rv) = fd := if_pos hFe
                have emn : (if (FA T cs ms os c am 1 (wnW [115, 101, 116] W)) = [] then 0 else 1 : Int) = 0 := if_pos hFe
                have ech : chN CH wo mo (c, am, 1, (wnW [115, 101, 116] W), tl) (FA T cs ms os c am 1 (wnW [115, 101, 116] W)) = (CH, wo) := if_pos (Or.inl hFe)
                rw [ewh, emn]
                exact ⟨fun z => absurd z (by omega), fun _ => ⟨rfl, (((w_up_at (by first | decide | omega)).trans (w_up_same _ _ _ _)) : (w_up (w_up (w_up Sq26 237 170 fd) 238 5 4) 238 6 0) 238 5 = _).trans (if_pos (by omega)).symm, (w_up_same _ _ _ _)⟩, ((w_up_no (by omega)).trans ((w_up_no (by omega)).trans ((w_up_no (by omega)).trans ((hf26 237 167 (by unfold wtM; omega)).trans ((hf22 237 167 (by unfold cdM; omega) (by unfold odM; omega)).trans ((hf20 237 167 (by unfold wtM; omega)).trans (w_up_same _ _ _ _))))))), rCh_ag hC (fun j x hj => ((w_up_no (by unfold chM at hj; omega)).trans ((w_up_no (by unfold chM at hj; omega)).trans ((w_up_no (by unfold chM at hj; omega)).trans ((hf26 j x (lh_id hj).1).trans ((hf22 j x (lh_id hj).2.1 (lh_id hj).2.2.1).trans ((hf20 j x (lh_id hj).1).trans (w_up_no (by unfold chM at hj; omega))))))))), fun j x hj => ((w_up_no (by unfold lhM at hj; omega)).trans ((w_up_no (by unfold lhM at hj; omega)).trans ((w_up_no (by unfold lhM at hj; omega)).trans (fS26 j x hj))))⟩
            · skip
              refine wa_aload_n (n := 0) rfl ?_
              refine wa_iconst ?_
              have fb5 : ∀ (j : Nat) (x : Int), ¬ lhM j x → Sq22 j x = S j x := fun j x hj => (fS22 j x hj)
              have hMb5 : w_ML Sq22 := ML_w hM fb5 (fun j => lhM_1)
              have hKb5 : KR 261 T n cs ms Sq22 := KR_ag hK (fun j x hj => fb5 j x (by unfold lhM; omega))
              have hty1 := rty (xs := xs) (M := fun _ => False) (d := d + 64) (S := Sq22) (r := r) (tl := tl) hMb5 ((fb5 237 173 (by unfold lhM; omega)).trans h73) hr (rCl_a9 hcl (fun j x hj => fb5 j x (by unfold lhM; omega))) h8
              rw [show (tl.length : Int) = 1 by omega] at hty1
              refine wa_cv 237 rfl (wy_pr rfl) wt_237 (M2 := fun _ => False) rfl at_M_typesOfEs ⟨_, rfl⟩ rfl rfl ⟨trivial, trivial, trivial, trivial, (Or.inr ⟨wy_pr rfl, fun q => q⟩), trivial, trivial, trivial, trivial⟩ trivial (fun _ _ q => False.elim q) (hty1) (fun oq32 Sq32 hp33 q32 => ?_)
              rcases q32 with ⟨rfl, ht32, hmn32, hf32⟩
              show wJ _ _ _ _ _ _ _ _ _ _
              have hq32 : ∀ (j : Nat) (x : Int), ¬ lhM j x → Sq32 j x = Sq22 j x := fun j x hj => hf32 j x (lhM_ty hj)
              have fS32 : ∀ (j : Nat) (x : Int), ¬ lhM j x → Sq32 j x = S j x := fun j x hj => (hq32 j x hj).trans (fb5 j x hj)
              have hcd32 : cdI (FA T cs ms os c am 1 (wnW [115, 101, 116] W)) Sq32 := cdI_ag hcd22 (fun j x hj => hf32 j x (by unfold tyM; unfold cdM at hj; omega))
              have hnc32 : Sq32 355 0 = (FA T cs ms os c am 1 (wnW [115, 101, 116] W)).getD 0 (-1) := (hcd32.2.1 0 (by omega)).trans (by rw [List.getD_eq_getElem?_getD, List.getD_eq_getElem?_getD, List.getElem?_eq_getElem (show 0 < (FA T cs ms os c am 1 (wnW [115, 101, 116] W)).length by omega)]; rfl)
              refine wa_aload_n (n := 0) rfl ?_
              refine wa_iload (n := 5) rfl ?_
              refine wa_iload (n := 6) rfl ?_
              refine wa_iconst ?_
              refine wa_iadd ?_
              refine wa_aload_n (n := 0) rfl ?_
              refine wb_gf4 237 rfl (wy_pr rfl) wt_237 wf_15_129 (v := 355) wl_237_129 ?_
              refine wa_iconst ?_
              refine wb_iald 355 rfl (wy_pr rfl) wt_355 (n := 400) (((hq32 355 (-1) (by unfold lhM; omega)).trans (((hq22 355 (-1) (by unfold lhM; omega)).trans (((hq20 355 (-1) (by unfold lhM; omega)).trans ((w_up_slot (by decide)).trans ((ml_355 hM))))))))) (by omega) (by omega) (v := ((FA T cs ms os c am 1 (wnW [115, 101, 116] W)).getD 0 (-1))) (hnc32) (fun r34 => ?_)
              refine wa_iload_n (n := 3) rfl ?_
              have fb6 : ∀ (j : Nat) (x : Int), ¬ lhM j x → Sq32 j x = S j x := fun j x hj => (fS32 j x hj)
              have hMb6 : w_ML Sq32 := ML_w hM fb6 (fun j => lhM_1)
              have hKb6 : KR 261 T n cs ms Sq32 := KR_ag hK (fun j x hj => fb6 j x (by unfold lhM; omega))
              have hC35 : rCh T cs ms os N CH wo mo Sq32 := rCh_ag hC (fun j x hj => ((hf32 j x (lh_id hj).2.2.2.1).trans ((hf22 j x (lh_id hj).2.1 (lh_id hj).2.2.1).trans ((hf20 j x (lh_id hj).1).trans (w_up_no (lh_id hj).2.2.2.2)))))
              have hFn : (FA T cs ms os c am 1 (wnW [115, 101, 116] W)) ≠ [] := fun z => by have y := hF4.mpr z; omega
              have hqk : qRk T cs ms os N (c, am, 1, (wnW [115, 101, 116] W), tl) := ⟨hc, ⟨by show (0 : Int) ≤ am; omega, by show am ≤ (2 : Int); omega⟩, Or.inr rfl, (fun z => absurd z (by show ¬ am = 2; omega)), (fun _ z => absurd z (by show ¬ (1 : Int) = 0; decide)), h8, hFn⟩
              have hnb : -1 ≤ (FA T cs ms os c am 1 (wnW [115, 101, 116] W)).getD 0 (-1) ∧ (FA T cs ms os c am 1 (wnW [115, 101, 116] W)).getD 0 (-1) ≤ 4000 := by have z : (FA T cs ms os c am 1 (wnW [115, 101, 116] W)).getD 0 (-1) ∈ (FA T cs ms os c am 1 (wnW [115, 101, 116] W)) := (by rw [List.getD_eq_getElem?_getD, List.getElem?_eq_getElem (show 0 < (FA T cs ms os c am 1 (wnW [115, 101, 116] W)).length by omega)]; exact List.getElem_mem _); have y := hFm _ z; omega
              have hrc := rcs0_261 (xs := xs) (M := fun _ => False) (d := d + 59) (S := Sq32) (c := c) (am := am) (fs := 1) (md := (am + 4)) (nc := ((FA T cs ms os c am 1 (wnW [115, 101, 116] W)).getD 0 (-1))) (WW := (wnW [115, 101, 116] W)) (tl := tl) (F := (FA T cs ms os c am 1 (wnW [115, 101, 116] W))) hMb6 hKb6 hw hC35 ht32 hqk (by show _ = (if am = 2 then 2 else am + 4 * 1 : Int); rw [if_neg (by omega)]; omega) (by show _ = (if am = 2 then -1 else if (1 : Int) = 1 then (FA T cs ms os c am 1 (wnW [115, 101, 116] W)).getD 0 (-1) else _ : Int); rw [if_neg (by omega), if_pos rfl]) ⟨by omega, by omega⟩ ⟨by omega, by omega⟩ hes hty hcd32 hFm rfl hwo
              rw [← hrv] at hrc
              refine wa_cv 237 rfl (wy_pr rfl) wt_237 (M2 := fun _ => False) rfl at_M_chooses ⟨_, rfl⟩ rfl rfl ⟨trivial, trivial, trivial, trivial, (Or.inr ⟨wy_pr rfl, fun q => q⟩), trivial, trivial, trivial, trivial⟩ trivial (fun _ _ q => False.elim q) (hrc) (fun oq35 Sq35 hp36 q35 => ?_)
              rcases q35 with ⟨ha35, hb35, hcz35, hf35⟩
              have hqx : ∀ (j : Nat) (x : Int), ¬ lhM j x → Sq35 j x = S j x := fun j x hj => (hf35 j x (lhM_cs hj)).trans (fb6 j x hj)
              have ewh : (if (FA T cs ms os c am 1 (wnW [115, 101, 116] W)) = [] then fd else rv) = rv := if_neg hFn
              have emn : (if (FA T cs ms os c am 1 (wnW [115, 101, 116] W)) = [] then 0 else 1 : Int) = 1 := if_neg hFn
              rw [ewh, emn]
              have e167 : Sq35 237 167 = c := (hf35 237 167 (by unfold csM chM; omega)).trans (((hf32 237 167 (by unfold tyM; omega)).trans ((hf22 237 167 (by unfold cdM; omega) (by unfold odM; omega)).trans ((hf20 237 167 (by unfold wtM; omega)).trans (w_up_same _ _ _ _)))))
              have e172 : Sq35 237 172 = 1 := (hf35 237 172 (by unfold csM chM; omega)).trans hmn32
              have hneg : rv ≠ -1 := fun z => hFn (hr1.mp z)
              by_cases crv : 0 ≤ rv
              · obtain ⟨z1, z2⟩ := ha35 crv
                subst z1
                show wJ _ _ _ _ _ _ _ _ _ _
                refine wa_goto ⟨_, rfl⟩ ?_
                refine wa_return rfl ?_
                exact ⟨fun _ => ⟨rfl, z2, e172⟩, fun z => absurd z (by omega), e167, hcz35, hqx⟩
              · obtain ⟨z1, z2, z3⟩ := hb35 (by omega)
                subst z1
                refine ⟨rfl, ?_⟩
                exact ⟨fun z => absurd z (by omega), fun _ => ⟨rfl, by rw [if_neg hneg]; exact z2, z3⟩, e167, hcz35, hqx⟩
        · skip
          exact absurd c18 (by omega)
      · skip
        exact absurd c16 (by omega)
    · skip
      exfalso; omega
  · skip
    refine wa_iconst ?_
    refine wa_goto ⟨_, rfl⟩ ?_
    refine wJ_top (show 1 = am by omega) ?_
    refine wa_istore (n := 4) rfl ?_
    refine wa_iload (n := 4) rfl ?_
    refine wa_ifeq (w_rg0 (by omega) (by omega)) ⟨_, rfl⟩ (fun c37 => ?_) (fun c37 => ?_)
    · skip
      exfalso; omega
    · skip
      have hgbc : gb = c := by omega
      refine wa_aload_n (n := 0) rfl ?_
      refine wb_gfl 237 rfl (wy_pr rfl) wt_237 wf_15_175 (v := gb) (h75) (fun r38 => ?_)
      refine wb_l2i_r (wb_l2i_id ⟨(by omega), (by omega)⟩) ?_
      refine wa_goto ⟨_, rfl⟩ ?_
      refine wJ_top (show gb = c by omega) ?_
      refine wa_istore (n := 5) rfl ?_
      refine wa_iload (n := 4) rfl ?_
      refine wa_ifeq (w_rg0 (by omega) (by omega)) ⟨_, rfl⟩ (fun c39 => ?_) (fun c39 => ?_)
      · skip
        exact absurd c39 (by omega)
      · skip
        refine wa_iconst ?_
        refine wa_goto ⟨_, rfl⟩ ?_
        refine wJ_top (show 1 = am by omega) ?_
        refine wa_istore (n := 6) rfl ?_
        refine wa_aload_n (n := 0) rfl ?_
        refine wa_iload (n := 5) rfl ?_
        refine wb_pfi 237 rfl (wy_pr rfl) wt_237 wf_15_167 (n := 167) rfl ⟨(by omega), (by omega)⟩ ?_
        refine wa_aload_n (n := 0) rfl ?_
        refine wb_gf4 237 rfl (wy_pr rfl) wt_237 wf_15_50 (v := 305) wl_237_50 ?_
        refine wa_iload_n (n := 1) rfl ?_
        refine wb_iald 305 rfl (wy_pr rfl) wt_305 (n := 4000) ((w_up_slot (by decide)).trans ((ml_305 hM))) (by omega) (by omega) (v := nms) ((w_up_slot (by decide)).trans (h05)) (fun r40 => ?_)
        refine wa_istore (n := 7) rfl ?_
        refine wa_iload_n (n := 2) rfl ?_
        refine wa_ifne (w_rg0 (by omega) (by omega)) ⟨_, rfl⟩ (fun c41 => ?_) (fun c41 => ?_)
        · skip
          refine wa_iload_n (n := 2) rfl ?_
          refine wa_iconst ?_
          refine wa_icmpne (w_rg0 (by omega) (by omega)) (w_rg0 (by omega) (by omega)) ⟨_, rfl⟩ (fun c42 => ?_) (fun c42 => ?_)
          · skip
            exact absurd c42 (by omega)
          · skip
            refine wa_aload_n (n := 0) rfl ?_
            refine wa_ks ?_
            refine wa_iload (n := 7) rfl ?_
            have fb7 : ∀ (j : Nat) (x : Int), ¬ lhM j x → (w_up S 237 167 c) j x = S j x := fun j x hj => (w_up_no (by unfold lhM at hj; omega))
            have hMb7 : w_ML (w_up S 237 167 c) := ML_w hM fb7 (fun j => lhM_1)
            have hKb7 : KR 261 T n cs ms (w_up S 237 167 c) := KR_ag hK (fun j x hj => fb7 j x (by unfold lhM; omega))
            refine wa_cv 237 rfl (wy_pr rfl) wt_237 (M2 := fun _ => False) rfl at_M_wants ⟨_, rfl⟩ rfl rfl ⟨trivial, trivial, trivial, trivial, (Or.inr ⟨wy_pr rfl, fun q => q⟩), trivial, trivial, trivial, trivial⟩ trivial (fun _ _ q => False.elim q) (rwt51 (S := (w_up S 237 167 c)) hX hMb7 hnm ((fb7 282 nms (by unfold lhM; omega)).trans h82) hWl (fun x hx => (fb7 281 _ (by unfold lhM; omega)).trans (h81 x hx))) (fun oq43 Sq43 hp44 q43 => ?_)
            rcases q43 with ⟨rfl, hw43, hf43⟩
            show wJ _ _ _ _ _ _ _ _ _ _
            have hq43 : ∀ (j : Nat) (x : Int), ¬ lhM j x → Sq43 j x = (w_up S 237 167 c) j x := fun j x hj => hf43 j x (lhM_wt hj)
            have fS43 : ∀ (j : Nat) (x : Int), ¬ lhM j x → Sq43 j x = S j x := fun j x hj => (hq43 j x hj).trans (fb7 j x hj)
            refine wa_aload_n (n := 0) rfl ?_
            refine wa_iload (n := 5) rfl ?_
            refine wa_iload (n := 4) rfl ?_
            refine wa_iconst ?_
            have fb8 : ∀ (j : Nat) (x : Int), ¬ lhM j x → Sq43 j x = S j x := fun j x hj => (fS43 j x hj)
            have hMb8 : w_ML Sq43 := ML_w hM fb8 (fun j => lhM_1)
            have hKb8 : KR 261 T n cs ms Sq43 := KR_ag hK (fun j x hj => fb8 j x (by unfold lhM; omega))
            refine wa_cv 237 rfl (wy_pr rfl) wt_237 (M2 := fun _ => False) rfl at_M_collects ⟨_, rfl⟩ rfl rfl ⟨trivial, trivial, trivial, trivial, (Or.inr ⟨wy_pr rfl, fun q => q⟩), trivial, trivial, trivial, trivial⟩ trivial (fun _ _ q => False.elim q) (rco_261 (S := Sq43) (c := c) (st := am) (pc := 1) (WW := (wnW [115, 101, 116] W)) hMb8 hKb8 hw hO hA hst (by omega) hw43 hc) (fun oq45 Sq45 hp46 q45 => ?_)
            rcases q45 with ⟨rfl, hcd45, hf45⟩
            show wJ _ _ _ _ _ _ _ _ _ _
            have hq45 : ∀ (j : Nat) (x : Int), ¬ lhM j x → Sq45 j x = Sq43 j x := fun j x hj => hf45 j x (lhM_cd hj) (lhM_od hj)
            have fS45 : ∀ (j : Nat) (x : Int), ¬ lhM j x → Sq45 j x = S j x := fun j x hj => (hq45 j x hj).trans (fb8 j x hj)
            rw [hFa] at hcd45
            have hcl45 := hcd45.2.2
            refine wa_aload_n (n := 0) rfl ?_
            refine wb_gfi 237 rfl (wy_pr rfl) wt_237 wf_15_128 (v := ((FA T cs ms os c am 1 (wnW [115, 101, 116] W)).length : Int)) (hcd45.1) (fun r47 => ?_)
            refine wa_ifle (w_rg0 (by omega) (by omega)) ⟨_, rfl⟩ (fun c48 => ?_) (fun c48 => ?_)
            · skip
              refine wa_aload_n (n := 0) rfl ?_
              refine wa_ks ?_
              refine wa_iload (n := 7) rfl ?_
              have fb9 : ∀ (j : Nat) (x : Int), ¬ lhM j x → Sq45 j x = S j x := fun j x hj => (fS45 j x hj)
              have hMb9 : w_ML Sq45 := ML_w hM fb9 (fun j => lhM_1)
              have hKb9 : KR 261 T n cs ms Sq45 := KR_ag hK (fun j x hj => fb9 j x (by unfold lhM; omega))
              refine wa_cv 237 rfl (wy_pr rfl) wt_237 (M2 := fun _ => False) rfl at_M_wants ⟨_, rfl⟩ rfl rfl ⟨trivial, trivial, trivial, trivial, (Or.inr ⟨wy_pr rfl, fun q => q⟩), trivial, trivial, trivial, trivial⟩ trivial (fun _ _ q => False.elim q) (rwt53 (S := Sq45) hX hMb9 hnm ((fb9 282 nms (by unfold lhM; omega)).trans h82) hWl (fun x hx => (fb9 281 _ (by unfold lhM; omega)).trans (h81 x hx))) (fun oq49 Sq49 hp50 q49 => ?_)
              rcases q49 with ⟨rfl, hw49, hf49⟩
              show wJ _ _ _ _ _ _ _ _ _ _
              have hq49 : ∀ (j : Nat) (x : Int), ¬ lhM j x → Sq49 j x = Sq45 j x := fun j x hj => hf49 j x (lhM_wt hj)
              have fS49 : ∀ (j : Nat) (x : Int), ¬ lhM j x → Sq49 j x = S j x := fun j x hj => (hq49 j x hj).trans (fb9 j x hj)
              refine wa_aload_n (n := 0) rfl ?_
              refine wa_aload_n (n := 0) rfl ?_
              refine wa_iload (n := 5) rfl ?_
              refine wa_iload (n := 6) rfl ?_
              have fb10 : ∀ (j : Nat) (x : Int), ¬ lhM j x → Sq49 j x = S j x := fun j x hj => (fS49 j x hj)
              have hMb10 : w_ML Sq49 := ML_w hM fb10 (fun j => lhM_1)
              have hKb10 : KR 261 T n cs ms Sq49 := KR_ag hK (fun j x hj => fb10 j x (by unfold lhM; omega))
              have hwn : wtI W Sq49 := by have z := hw49; rw [show wnW ([] : List Int) W = W from if_pos rfl] at z; exact z
              refine wa_cv 237 rfl (wy_pr rfl) wt_237 (M2 := fun _ => False) rfl at_M_field ⟨_, rfl⟩ rfl rfl ⟨trivial, trivial, trivial, trivial, (Or.inr ⟨wy_pr rfl, fun q => q⟩), trivial, trivial, trivial, trivial⟩ ⟨(Or.inr ⟨wy_pr rfl, fun q => q⟩), trivial⟩ (fun _ _ q => False.elim q) (wJ_mono (rfd_261 (S := Sq49) (c := c) (st := am) (WW := W) hMb10 hKb10 hw ⟨by omega, by omega⟩ hwn hc) (fun o Z hz => (⟨hz.1, by rw [hfd]; exact hz.2⟩ : Sq49 = Z ∧ o = .inl (some (0, fd))))) (fun oq51 Sq51 hp52 q51 => ?_)
              rcases q51 with ⟨rfl, rfl⟩
              show wJ _ _ _ _ _ _ _ _ _ _
              refine wb_pfi 237 rfl (wy_pr rfl) wt_237 wf_15_170 (n := 170) rfl ⟨(by omega), (by omega)⟩ ?_
              refine wa_aload_n (n := 0) rfl ?_
              refine wb_gfi 237 rfl (wy_pr rfl) wt_237 wf_15_170 (v := fd) (w_up_same _ _ _ _) (fun r53 => ?_)
              refine wa_ifge (w_rg0 (by omega) (by omega)) ⟨_, rfl⟩ (fun c54 => ?_) (fun c54 => ?_)
              · skip
                refine wa_return rfl ?_
                have hFe : (FA T cs ms os c am 1 (wnW [115, 101, 116] W)) = [] := hF4.mp (by omega)
                have ewh : (if (FA T cs ms os c am 1 (wnW [115, 101, 116] W)) = [] then fd else rv) = fd := if_pos hFe
                have emn : (if (FA T cs ms os c am 1 (wnW [115, 101, 116] W)) = [] then 0 else 1 : Int) = 0 := if_pos hFe
                have ech : chN CH wo mo (c, am, 1, (wnW [115, 101, 116] W), tl) (FA T cs ms os c am 1 (wnW [115, 101, 116] W)) = (CH, wo) := if_pos (Or.inl hFe)
                rw [ewh, emn]
                exact ⟨fun _ => ⟨rfl, (w_up_same _ _ _ _), ((w_up_no (by omega)).trans ((hf49 237 172 (by unfold wtM; omega)).trans ((hf45 237 172 (by unfold cdM; omega) (by unfold odM; omega)).trans ((hf43 237 172 (by unfold wtM; omega)).trans ((w_up_no (by omega)).trans (h172))))))⟩, fun z => absurd z (by omega), ((w_up_no (by omega)).trans ((hf49 237 167 (by unfold wtM; omega)).trans ((hf45 237 167 (by unfold cdM; omega) (by unfold odM; omega)).trans ((hf43 237 167 (by unfold wtM; omega)).trans (w_up_same _ _ _ _))))), rCh_ag hC (fun j x hj => ((w_up_no (by unfold chM at hj; omega)).trans ((hf49 j x (lh_id hj).1).trans ((hf45 j x (lh_id hj).2.1 (lh_id hj).2.2.1).trans ((hf43 j x (lh_id hj).1).trans (w_up_no (by unfold chM at hj; omega))))))), fun j x hj => ((w_up_no (by unfold lhM at hj; omega)).trans (fS49 j x hj))⟩
              · skip
                refine wa_aload_n (n := 0) rfl ?_
                refine wa_iconst ?_
                refine wa_cv 237 rfl (wy_pr rfl) wt_237 (M2 := fun _ => False) rfl at_M_error ⟨_, rfl⟩ rfl rfl ⟨trivial, trivial, trivial, trivial, (Or.inr ⟨wy_pr rfl, fun q => q⟩), trivial, trivial, trivial, trivial⟩ trivial (fun _ _ q => False.elim q) ?_ (fun _ _ _ q => q)
                refine wa_aload_n (n := 0) rfl ?_
                refine wb_gf4 237 rfl (wy_pr rfl) wt_237 wf_15_1 (v := 238) wl_237_1 ?_
                refine wa_iload_n (n := 1) rfl ?_
                refine wa_iconst ?_
                refine wa_cv 238 rfl (wy_pr rfl) wt_238 (M2 := fun _ => False) rfl at_MH_of ⟨_, rfl⟩ rfl rfl ⟨(Or.inr ⟨wy_pr rfl, fun q => q⟩), trivial, trivial⟩ trivial (fun _ _ q => False.elim q) ?_ (fun _ _ _ q => q)
                refine wa_aload_n (n := 0) rfl ?_
                refine wa_iload_n (n := 1) rfl ?_
                refine wb_pfi 238 rfl (wy_pr rfl) wt_238 wf_11_5 (n := 5) rfl ⟨(by omega), (by omega)⟩ ?_
                refine wa_aload_n (n := 0) rfl ?_
                refine wa_iload_n (n := 2) rfl ?_
                refine wb_pfi 238 rfl (wy_pr rfl) wt_238 wf_11_6 (n := 6) rfl ⟨(by omega), (by omega)⟩ ?_
                refine wa_aload_n (n := 0) rfl ?_
                refine wa_oreturn rfl ?_
                show wJ _ _ _ _ _ _ _ _ _ _
                refine wa_th (j := 238) ?_
                refine ⟨rfl, ?_⟩
                have hFe : (FA T cs ms os c am 1 (wnW [115, 101, 116] W)) = [] := hF4.mp (by omega)
                have ewh : (if (FA T cs ms os c am 1 (wnW [115, 101, 116] W)) = [] then fd else rv) = fd := if_pos hFe
                have emn : (if (FA T cs ms os c am 1 (wnW [115, 101, 116] W)) = [] then 0 else 1 : Int) = 0 := if_pos hFe
                have ech : chN CH wo mo (c, am, 1, (wnW [115, 101, 116] W), tl) (FA T cs ms os c am 1 (wnW [115, 101, 116] W)) = (CH, wo) := if_pos (Or.inl hFe)
                rw [ewh, emn]
                exact ⟨fun z => absurd z (by omega), fun _ => ⟨rfl, (((w_up_at (by first | decide | omega)).trans (w_up_same _ _ _ _)) : (w_up (w_up (w_up Sq49 237 170 fd) 238 5 4) 238 6 0) 238 5 = _).trans (if_pos (by omega)).symm, (w_up_same _ _ _ _)⟩, ((w_up_no (by omega)).trans ((w_up_no (by omega)).trans ((w_up_no (by omega)).trans ((hf49 237 167 (by unfold wtM; omega)).trans ((hf45 237 167 (by unfold cdM; omega) (by unfold odM; omega)).trans ((hf43 237 167 (by unfold wtM; omega)).trans (w_up_same _ _ _ _))))))), rCh_ag hC (fun j x hj => ((w_up_no (by unfold chM at hj; omega)).trans ((w_up_no (by unfold chM at hj; omega)).trans ((w_up_no (by unfold chM at hj; omega)).trans ((hf49 j x (lh_id hj).1).trans ((hf45 j x (lh_id hj).2.1 (lh_id hj).2.2.1).trans ((hf43 j x (lh_id hj).1).trans (w_up_no (by unfold chM at hj; omega))))))))), fun j x hj => ((w_up_no (by unfold lhM at hj; omega)).trans ((w_up_no (by unfold lhM at hj; omega)).trans ((w_up_no (by unfold lhM at hj; omega)).trans (fS49 j x hj))))⟩
            · skip
              refine wa_aload_n (n := 0) rfl ?_
              refine wa_iconst ?_
              have fb11 : ∀ (j : Nat) (x : Int), ¬ lhM j x → Sq45 j x = S j x := fun j x hj => (fS45 j x hj)
              have hMb11 : w_ML Sq45 := ML_w hM fb11 (fun j => lhM_1)
              have hKb11 : KR 261 T n cs ms Sq45 := KR_ag hK (fun j x hj => fb11 j x (by unfold lhM; omega))
              have hty1 := rty (xs := xs) (M := fun _ => False) (d := d + 64) (S := Sq45) (r := r) (tl := tl) hMb11 ((fb11 237 173 (by unfold lhM; omega)).trans h73) hr (rCl_a9 hcl (fun j x hj => fb11 j x (by unfold lhM; omega))) h8
              rw [show (tl.length : Int) = 1 by omega] at hty1
              refine wa_cv 237 rfl (wy_pr rfl) wt_237 (M2 := fun _ => False) rfl at_M_typesOfEs ⟨_, rfl⟩ rfl rfl ⟨trivial, trivial, trivial, trivial, (Or.inr ⟨wy_pr rfl, fun q => q⟩), trivial, trivial, trivial, trivial⟩ trivial (fun _ _ q => False.elim q) (hty1) (fun oq55 Sq55 hp56 q55 => ?_)
              rcases q55 with ⟨rfl, ht55, hmn55, hf55⟩
              show wJ _ _ _ _ _ _ _ _ _ _
              have hq55 : ∀ (j : Nat) (x : Int), ¬ lhM j x → Sq55 j x = Sq45 j x := fun j x hj => hf55 j x (lhM_ty hj)
              have fS55 : ∀ (j : Nat) (x : Int), ¬ lhM j x → Sq55 j x = S j x := fun j x hj => (hq55 j x hj).trans (fb11 j x hj)
              have hcd55 : cdI (FA T cs ms os c am 1 (wnW [115, 101, 116] W)) Sq55 := cdI_ag hcd45 (fun j x hj => hf55 j x (by unfold tyM; unfold cdM at hj; omega))
              have hnc55 : Sq55 355 0 = (FA T cs ms os c am 1 (wnW [115, 101, 116] W)).getD 0 (-1) := (hcd55.2.1 0 (by omega)).trans (by rw [List.getD_eq_getElem?_getD, List.getD_eq_getElem?_getD, List.getElem?_eq_getElem (show 0 < (FA T cs ms os c am 1 (wnW [115, 101, 116] W)).length by omega)]; rfl)
              refine wa_aload_n (n := 0) rfl ?_
              refine wa_iload (n := 5) rfl ?_
              refine wa_iload (n := 6) rfl ?_
              refine wa_iconst ?_
              refine wa_iadd ?_
              refine wa_aload_n (n := 0) rfl ?_
              refine wb_gf4 237 rfl (wy_pr rfl) wt_237 wf_15_129 (v := 355) wl_237_129 ?_
              refine wa_iconst ?_
              refine wb_iald 355 rfl (wy_pr rfl) wt_355 (n := 400) (((hq55 355 (-1) (by unfold lhM; omega)).trans (((hq45 355 (-1) (by unfold lhM; omega)).trans (((hq43 355 (-1) (by unfold lhM; omega)).trans ((w_up_slot (by decide)).trans ((ml_355 hM))))))))) (by omega) (by omega) (v := ((FA T cs ms os c am 1 (wnW [115, 101, 116] W)).getD 0 (-1))) (hnc55) (fun r57 => ?_)
              refine wa_iload_n (n := 3) rfl ?_
              have fb12 : ∀ (j : Nat) (x : Int), ¬ lhM j x → Sq55 j x = S j x := fun j x hj => (fS55 j x hj)
              have hMb12 : w_ML Sq55 := ML_w hM fb12 (fun j => lhM_1)
              have hKb12 : KR 261 T n cs ms Sq55 := KR_ag hK (fun j x hj => fb12 j x (by unfold lhM; omega))
              have hC58 : rCh T cs ms os N CH wo mo Sq55 := rCh_ag hC (fun j x hj => ((hf55 j x (lh_id hj).2.2.2.1).trans ((hf45 j x (lh_id hj).2.1 (lh_id hj).2.2.1).trans ((hf43 j x (lh_id hj).1).trans (w_up_no (lh_id hj).2.2.2.2)))))
              have hFn : (FA T cs ms os c am 1 (wnW [115, 101, 116] W)) ≠ [] := fun z => by have y := hF4.mpr z; omega
              have hqk : qRk T cs ms os N (c, am, 1, (wnW [115, 101, 116] W), tl) := ⟨hc, ⟨by show (0 : Int) ≤ am; omega, by show am ≤ (2 : Int); omega⟩, Or.inr rfl, (fun z => absurd z (by show ¬ am = 2; omega)), (fun _ z => absurd z (by show ¬ (1 : Int) = 0; decide)), h8, hFn⟩
              have hnb : -1 ≤ (FA T cs ms os c am 1 (wnW [115, 101, 116] W)).getD 0 (-1) ∧ (FA T cs ms os c am 1 (wnW [115, 101, 116] W)).getD 0 (-1) ≤ 4000 := by have z : (FA T cs ms os c am 1 (wnW [115, 101, 116] W)).getD 0 (-1) ∈ (FA T cs ms os c am 1 (wnW [115, 101, 116] W)) := (by rw [List.getD_eq_getElem?_getD, List.getElem?_eq_getElem (show 0 < (FA T cs ms os c am 1 (wnW [115, 101, 116] W)).length by omega)]; exact List.getElem_mem _); have y := hFm _ z; omega
              have hrc := rcs0_261 (xs := xs) (M := fun _ => False) (d := d + 59) (S := Sq55) (c := c) (am := am) (fs := 1) (md := (am + 4)) (nc := ((FA T cs ms os c am 1 (wnW [115, 101, 116] W)).getD 0 (-1))) (WW := (wnW [115, 101, 116] W)) (tl := tl) (F := (FA T cs ms os c am 1 (wnW [115, 101, 116] W))) hMb12 hKb12 hw hC58 ht55 hqk (by show _ = (if am = 2 then 2 else am + 4 * 1 : Int); rw [if_neg (by omega)]; omega) (by show _ = (if am = 2 then -1 else if (1 : Int) = 1 then (FA T cs ms os c am 1 (wnW [115, 101, 116] W)).getD 0 (-1) else _ : Int); rw [if_neg (by omega), if_pos rfl]) ⟨by omega, by omega⟩ ⟨by omega, by omega⟩ hes hty hcd55 hFm rfl hwo
              rw [← hrv] at hrc
              refine wa_cv 237 rfl (wy_pr rfl) wt_237 (M2 := fun _ => False) rfl at_M_chooses ⟨_, rfl⟩ rfl rfl ⟨trivial, trivial, trivial, trivial, (Or.inr ⟨wy_pr rfl, fun q => q⟩), trivial, trivial, trivial, trivial⟩ trivial (fun _ _ q => False.elim q) (hrc) (fun oq58 Sq58 hp59 q58 => ?_)
              rcases q58 with ⟨ha58, hb58, hcz58, hf58⟩
              have hqx : ∀ (j : Nat) (x : Int), ¬ lhM j x → Sq58 j x = S j x := fun j x hj => (hf58 j x (lhM_cs hj)).trans (fb12 j x hj)
              have ewh : (if (FA T cs ms os c am 1 (wnW [115, 101, 116] W)) = [] then fd else rv) = rv := if_neg hFn
              have emn : (if (FA T cs ms os c am 1 (wnW [115, 101, 116] W)) = [] then 0 else 1 : Int) = 1 := if_neg hFn
              rw [ewh, emn]
              have e167 : Sq58 237 167 = c := (hf58 237 167 (by unfold csM chM; omega)).trans (((hf55 237 167 (by unfold tyM; omega)).trans ((hf45 237 167 (by unfold cdM; omega) (by unfold odM; omega)).trans ((hf43 237 167 (by unfold wtM; omega)).trans (w_up_same _ _ _ _)))))
              have e172 : Sq58 237 172 = 1 := (hf58 237 172 (by unfold csM chM; omega)).trans hmn55
              have hneg : rv ≠ -1 := fun z => hFn (hr1.mp z)
              by_cases crv : 0 ≤ rv
              · obtain ⟨z1, z2⟩ := ha58 crv
                subst z1
                show wJ _ _ _ _ _ _ _ _ _ _
                refine wa_goto ⟨_, rfl⟩ ?_
                refine wa_return rfl ?_
                exact ⟨fun _ => ⟨rfl, z2, e172⟩, fun z => absurd z (by omega), e167, hcz58, hqx⟩
              · obtain ⟨z1, z2, z3⟩ := hb58 (by omega)
                subst z1
                refine ⟨rfl, ?_⟩
                exact ⟨fun z => absurd z (by omega), fun _ => ⟨rfl, by rw [if_neg hneg]; exact z2, z3⟩, e167, hcz58, hqx⟩
        · skip
          exact absurd c41 (by omega)
set_option maxHeartbeats 4000000 in
theorem lhm1_261 {s gk gb c am nms r ct : Int} {W tl : List Int} (hM : w_ML S) (hK : KR 261 T n cs ms S) (hw : wHo cs ms os) (hX : w_X xs) (hnm : 0 ≤ nms ∧ nms < 4000) (h82 : S 282 nms = (W.length : Int)) (hWl : W.length ≤ 60) (h81 : ∀ x : Nat, x < W.length → S 281 (60 * nms + (x : Int)) = W.getD x 0) (hO : wOs cs os) (hA : wAb cs) (hc : 0 ≤ c ∧ c < (cs.length : Int)) (hst : am = 0 ∨ am = 1) (hs : 0 ≤ s ∧ s < 4000) (h05 : S 305 s = nms) (h74 : S 237 174 = gk) (h75 : S 237 175 = gb) (hgk : (gk = 7 ∧ am = 0 ∧ (0 ≤ gb ∧ gb < 8000) ∧ S 321 gb = c) ∨ (gk = 8 ∧ am = 1 ∧ gb = c)) (h172 : S 237 172 = 0) (hC : rCh T cs ms os N CH wo mo S) (h73 : S 237 173 = r) (hr : 0 ≤ r ∧ r + 1 + (tl.length : Int) ≤ 4200) (hcl : rCl S r tl) (h8 : tl.length ≤ 8) (hes : esOk tl) (hty : ∀ c ∈ tl, c < 9 + (cs.length : Int)) (hwo : wo < 10000000) (h06 : S 306 s = (tl.length : Int)) (hWN : W ∈ N) (hix : ixL N W = nms) : wJ (pe_GA xs) wY0 M (d + 66) t_M_looksAtHost ((pe_at t_M_looksAtHost.bl 0).getD (0, [])).2 [(0, (2, 237)), (1, (0, s)), (2, (0, 5)), (3, (0, 1))] [] S (lrQ T cs ms os N (chN CH wo mo (c, am, 0, (wnW ([] : List Int) W), tl) (FA T cs ms os c am 0 (wnW ([] : List Int) W))).1 (chN CH wo mo (c, am, 0, (wnW ([] : List Int) W), tl) (FA T cs ms os c am 0 (wnW ([] : List Int) W))).2 mo c (rvA T cs ms os (c, am, 0, (wnW ([] : List Int) W), tl)) (tl.length : Int) S) := by
  have h13 : S 237 13 = 261 := hK.1
  have h60 := hw.1
  have hFm := FA_v (T := T) (am := am) (fs := 0) (WW := (wnW ([] : List Int) W)) hw hc
  obtain ⟨rv, hrv⟩ : ∃ r : Int, r = (rvA T cs ms os (c, am, 0, (wnW ([] : List Int) W), tl)) := ⟨_, rfl⟩
  have hrr := rvA_rg (T := T) (q := (c, am, 0, (wnW ([] : List Int) W), tl)) hw hc
  have hr1 := rv_m1 (T := T) (q := (c, am, 0, (wnW ([] : List Int) W), tl)) hw hc
  rw [← hrv] at hrr hr1 ⊢
  replace hr1 : rv = -1 ↔ (FA T cs ms os c am 0 (wnW ([] : List Int) W)) = [] := hr1
  have hF4 : (FA T cs ms os c am 0 (wnW ([] : List Int) W)).length = 0 ↔ (FA T cs ms os c am 0 (wnW ([] : List Int) W)) = [] := ⟨fun z => List.eq_nil_of_length_eq_zero z, fun z => by rw [z]; rfl⟩
  have hFa : cdA ms (okM T ms 1 am (-1) (wnW ([] : List Int) W)) [] (mOr cs (os c)) = (FA T cs ms os c am 0 (wnW ([] : List Int) W)) := by
    unfold FA
    rw [if_neg (show ¬ am = 2 by omega), if_neg (show ¬ am = 2 by omega), if_neg (show ¬ (0 : Int) = 1 by decide), show (if am = 1 then 1 else 0 : Int) = am by split <;> omega]
  refine wa_aload_n (n := 0) rfl ?_
  refine wb_gfi 237 rfl (wy_pr rfl) wt_237 wf_15_174 (v := gk) (h74) (fun r11 => ?_)
  refine wa_bipush (w_rg2 (by omega) (by omega)) ?_
  refine wa_icmpne (w_rg0 (by omega) (by omega)) (w_rg0 (by omega) (by omega)) ⟨_, rfl⟩ (fun c12 => ?_) (fun c12 => ?_)
  · skip
    refine wa_iconst ?_
    refine wa_fall ⟨_, rfl⟩ ?_
    refine wJ_top (show 0 = am by omega) ?_
    refine wa_istore (n := 4) rfl ?_
    refine wa_iload (n := 4) rfl ?_
    refine wa_ifeq (w_rg0 (by omega) (by omega)) ⟨_, rfl⟩ (fun c13 => ?_) (fun c13 => ?_)
    · skip
      have h21 : S 321 gb = c := by rcases hgk with z | z; exact z.2.2.2; omega
      have hgb0 : 0 ≤ gb ∧ gb < 8000 := by omega
      refine wa_aload_n (n := 0) rfl ?_
      refine wb_gf4 237 rfl (wy_pr rfl) wt_237 wf_15_77 (v := 321) wl_237_77 ?_
      refine wa_aload_n (n := 0) rfl ?_
      refine wb_gfl 237 rfl (wy_pr rfl) wt_237 wf_15_175 (v := gb) (h75) (fun r14 => ?_)
      refine wb_l2i_r (wb_l2i_id ⟨(by omega), (by omega)⟩) ?_
      refine wb_iald 321 rfl (wy_pr rfl) wt_321 (n := 8000) ((ml_321 hM)) (by omega) (by omega) (v := c) (h21) (fun r15 => ?_)
      refine wa_fall ⟨_, rfl⟩ ?_
      refine wa_istore (n := 5) rfl ?_
      refine wa_iload (n := 4) rfl ?_
      refine wa_ifeq (w_rg0 (by omega) (by omega)) ⟨_, rfl⟩ (fun c16 => ?_) (fun c16 => ?_)
      · skip
        refine wa_iconst ?_
        refine wa_fall ⟨_, rfl⟩ ?_
        refine wJ_top (show 0 = am by omega) ?_
        refine wa_istore (n := 6) rfl ?_
        refine wa_aload_n (n := 0) rfl ?_
        refine wa_iload (n := 5) rfl ?_
        refine wb_pfi 237 rfl (wy_pr rfl) wt_237 wf_15_167 (n := 167) rfl ⟨(by omega), (by omega)⟩ ?_
        refine wa_aload_n (n := 0) rfl ?_
        refine wb_gf4 237 rfl (wy_pr rfl) wt_237 wf_15_50 (v := 305) wl_237_50 ?_
        refine wa_iload_n (n := 1) rfl ?_
        refine wb_iald 305 rfl (wy_pr rfl) wt_305 (n := 4000) ((w_up_slot (by decide)).trans ((ml_305 hM))) (by omega) (by omega) (v := nms) ((w_up_slot (by decide)).trans (h05)) (fun r17 => ?_)
        refine wa_istore (n := 7) rfl ?_
        refine wa_iload_n (n := 2) rfl ?_
        refine wa_ifne (w_rg0 (by omega) (by omega)) ⟨_, rfl⟩ (fun c18 => ?_) (fun c18 => ?_)
        · skip
          refine wa_iload_n (n := 2) rfl ?_
          refine wa_iconst ?_
          refine wa_icmpne (w_rg0 (by omega) (by omega)) (w_rg0 (by omega) (by omega)) ⟨_, rfl⟩ (fun c19 => ?_) (fun c19 => ?_)
          · skip
            refine wa_iload_n (n := 2) rfl ?_
            refine wa_iconst ?_
            refine wa_icmpne (w_rg0 (by omega) (by omega)) (w_rg0 (by omega) (by omega)) ⟨_, rfl⟩ (fun c20 => ?_) (fun c20 => ?_)
            · skip
              exact absurd c20 (by omega)
            · skip
              refine wa_aload_n (n := 0) rfl ?_
              refine wa_ks ?_
              refine wa_iload (n := 7) rfl ?_
              have fb1 : ∀ (j : Nat) (x : Int), ¬ lhM j x → (w_up S 237 167 c) j x = S j x := fun j x hj => (w_up_no (by unfold lhM at hj; omega))
              have hMb1 : w_ML (w_up S 237 167 c) := ML_w hM fb1 (fun j => lhM_1)
              have hKb1 : KR 261 T n cs ms (w_up S 237 167 c) := KR_ag hK (fun j x hj => fb1 j x (by unfold lhM; omega))
              refine wa_cv 237 rfl (wy_pr rfl) wt_237 (M2 := fun _ => False) rfl at_M_wants ⟨_, rfl⟩ rfl rfl ⟨trivial, trivial, trivial, trivial, (Or.inr ⟨wy_pr rfl, fun q => q⟩), trivial, trivial, trivial, trivial⟩ trivial (fun _ _ q => False.elim q) (rwt53 (S := (w_up S 237 167 c)) hX hMb1 hnm ((fb1 282 nms (by unfold lhM; omega)).trans h82) hWl (fun x hx => (fb1 281 _ (by unfold lhM; omega)).trans (h81 x hx))) (fun oq21 Sq21 hp22 q21 => ?_)
              rcases q21 with ⟨rfl, hw21, hf21⟩
              show wJ _ _ _ _ _ _ _ _ _ _
              have hq21 : ∀ (j : Nat) (x : Int), ¬ lhM j x → Sq21 j x = (w_up S 237 167 c) j x := fun j x hj => hf21 j x (lhM_wt hj)
              have fS21 : ∀ (j : Nat) (x : Int), ¬ lhM j x → Sq21 j x = S j x := fun j x hj => (hq21 j x hj).trans (fb1 j x hj)
              refine wa_aload_n (n := 0) rfl ?_
              refine wa_iload (n := 5) rfl ?_
              refine wa_iload (n := 4) rfl ?_
              refine wa_iconst ?_
              have fb2 : ∀ (j : Nat) (x : Int), ¬ lhM j x → Sq21 j x = S j x := fun j x hj => (fS21 j x hj)
              have hMb2 : w_ML Sq21 := ML_w hM fb2 (fun j => lhM_1)
              have hKb2 : KR 261 T n cs ms Sq21 := KR_ag hK (fun j x hj => fb2 j x (by unfold lhM; omega))
              refine wa_cv 237 rfl (wy_pr rfl) wt_237 (M2 := fun _ => False) rfl at_M_collects ⟨_, rfl⟩ rfl rfl ⟨trivial, trivial, trivial, trivial, (Or.inr ⟨wy_pr rfl, fun q => q⟩), trivial, trivial, trivial, trivial⟩ trivial (fun _ _ q => False.elim q) (rco_261 (S := Sq21) (c := c) (st := am) (pc := (-1)) (WW := (wnW ([] : List Int) W)) hMb2 hKb2 hw hO hA hst (by omega) hw21 hc) (fun oq23 Sq23 hp24 q23 => ?_)
              rcases q23 with ⟨rfl, hcd23, hf23⟩
              show wJ _ _ _ _ _ _ _ _ _ _
              have hq23 : ∀ (j : Nat) (x : Int), ¬ lhM j x → Sq23 j x = Sq21 j x := fun j x hj => hf23 j x (lhM_cd hj) (lhM_od hj)
              have fS23 : ∀ (j : Nat) (x : Int), ¬ lhM j x → Sq23 j x = S j x := fun j x hj => (hq23 j x hj).trans (fb2 j x hj)
              rw [hFa] at hcd23
              have hcl23 := hcd23.2.2
              refine wa_aload_n (n := 0) rfl ?_
              refine wb_gfi 237 rfl (wy_pr rfl) wt_237 wf_15_128 (v := ((FA T cs ms os c am 0 (wnW ([] : List Int) W)).length : Int)) (hcd23.1) (fun r25 => ?_)
              refine wa_ifne (w_rg0 (by omega) (by omega)) ⟨_, rfl⟩ (fun c26 => ?_) (fun c26 => ?_)
              · skip
                refine wa_aload_n (n := 0) rfl ?_
                refine wa_aload_n (n := 0) rfl ?_
                refine wb_gf4 237 rfl (wy_pr rfl) wt_237 wf_15_51 (v := 306) wl_237_51 ?_
                refine wa_iload_n (n := 1) rfl ?_
                refine wb_iald 306 rfl (wy_pr rfl) wt_306 (n := 4000) (((hq23 306 (-1) (by unfold lhM; omega)).trans (((hq21 306 (-1) (by unfold lhM; omega)).trans ((w_up_slot (by decide)).trans ((ml_306 hM))))))) (by omega) (by omega) (v := (tl.length : Int)) (((hq23 306 s (by unfold lhM; omega)).trans (((hq21 306 s (by unfold lhM; omega)).trans ((w_up_slot (by decide)).trans (h06)))))) (fun r27 => ?_)
                have fb3 : ∀ (j : Nat) (x : Int), ¬ lhM j x → Sq23 j x = S j x := fun j x hj => (fS23 j x hj)
                have hMb3 : w_ML Sq23 := ML_w hM fb3 (fun j => lhM_1)
                have hKb3 : KR 261 T n cs ms Sq23 := KR_ag hK (fun j x hj => fb3 j x (by unfold lhM; omega))
                refine wa_cv 237 rfl (wy_pr rfl) wt_237 (M2 := fun _ => False) rfl at_M_typesOfEs ⟨_, rfl⟩ rfl rfl ⟨trivial, trivial, trivial, trivial, (Or.inr ⟨wy_pr rfl, fun q => q⟩), trivial, trivial, trivial, trivial⟩ trivial (fun _ _ q => False.elim q) (rty (S := Sq23) (r := r) (tl := tl) hMb3 ((fb3 237 173 (by unfold lhM; omega)).trans h73) hr (rCl_a9 hcl (fun j x hj => fb3 j x (by unfold lhM; omega))) h8) (fun oq28 Sq28 hp29 q28 => ?_)
                rcases q28 with ⟨rfl, ht28, hmn28, hf28⟩
                show wJ _ _ _ _ _ _ _ _ _ _
                have hq28 : ∀ (j : Nat) (x : Int), ¬ lhM j x → Sq28 j x = Sq23 j x := fun j x hj => hf28 j x (lhM_ty hj)
                have fS28 : ∀ (j : Nat) (x : Int), ¬ lhM j x → Sq28 j x = S j x := fun j x hj => (hq28 j x hj).trans (fb3 j x hj)
                have hcd28 : cdI (FA T cs ms os c am 0 (wnW ([] : List Int) W)) Sq28 := cdI_ag hcd23 (fun j x hj => hf28 j x (by unfold tyM; unfold cdM at hj; omega))
                refine wa_aload_n (n := 0) rfl ?_
                refine wa_iload (n := 5) rfl ?_
                refine wa_iload (n := 6) rfl ?_
                refine wa_iload (n := 7) rfl ?_
                refine wa_iload_n (n := 3) rfl ?_
                have fb4 : ∀ (j : Nat) (x : Int), ¬ lhM j x → Sq28 j x = S j x := fun j x hj => (fS28 j x hj)
                have hMb4 : w_ML Sq28 := ML_w hM fb4 (fun j => lhM_1)
                have hKb4 : KR 261 T n cs ms Sq28 := KR_ag hK (fun j x hj => fb4 j x (by unfold lhM; omega))
                have hC30 : rCh T cs ms os N CH wo mo Sq28 := rCh_ag hC (fun j x hj => ((hf28 j x (lh_id hj).2.2.2.1).trans ((hf23 j x (lh_id hj).2.1 (lh_id hj).2.2.1).trans ((hf21 j x (lh_id hj).1).trans (w_up_no (lh_id hj).2.2.2.2)))))
                have hFn : (FA T cs ms os c am 0 (wnW ([] : List Int) W)) ≠ [] := fun z => by have y := hF4.mpr z; omega
                have hqk : qRk T cs ms os N (c, am, 0, (wnW ([] : List Int) W), tl) := ⟨hc, ⟨by show (0 : Int) ≤ am; omega, by show am ≤ (2 : Int); omega⟩, Or.inl rfl, (fun z => absurd z (by show ¬ am = 2; omega)), (fun _ _ => by show wnW ([] : List Int) W ∈ N; rw [show wnW ([] : List Int) W = W from if_pos rfl]; exact hWN), h8, hFn⟩
                have hrc := rcs1_261 (xs := xs) (M := fun _ => False) (d := d + 59) (S := Sq28) (c := c) (am := am) (fs := 0) (md := am) (nc := nms) (WW := (wnW ([] : List Int) W)) (tl := tl) (F := (FA T cs ms os c am 0 (wnW ([] : List Int) W))) hMb4 hKb4 hw hC30 ht28 hqk (by show _ = (if am = 2 then 2 else am + 4 * 0 : Int); rw [if_neg (by omega)]; omega) (by show _ = (if am = 2 then -1 else if (0 : Int) = 1 then _ else ixL N (wnW ([] : List Int) W) : Int); rw [if_neg (by omega), if_neg (by first | decide | omega), show wnW ([] : List Int) W = W from if_pos rfl, hix]) ⟨by omega, by omega⟩ ⟨by omega, by omega⟩ hes hty hcd28 hFm rfl hwo
                rw [← hrv] at hrc
                refine wa_cv 237 rfl (wy_pr rfl) wt_237 (M2 := fun _ => False) rfl at_M_chooses ⟨_, rfl⟩ rfl rfl ⟨trivial, trivial, trivial, trivial, (Or.inr ⟨wy_pr rfl, fun q => q⟩), trivial, trivial, trivial, trivial⟩ trivial (fun _ _ q => False.elim q) (hrc) (fun oq30 Sq30 hp31 q30 => ?_)
                rcases q30 with ⟨ha30, hb30, hcz30, hf30⟩
                have hqx : ∀ (j : Nat) (x : Int), ¬ lhM j x → Sq30 j x = S j x := fun j x hj => (hf30 j x (lhM_cs hj)).trans (fb4 j x hj)
                have e167 : Sq30 237 167 = c := (hf30 237 167 (by unfold csM chM; omega)).trans (((hf28 237 167 (by unfold tyM; omega)).trans ((hf23 237 167 (by unfold cdM; omega) (by unfold odM; omega)).trans ((hf21 237 167 (by unfold wtM; omega)).trans (w_up_same _ _ _ _)))))
                have e172 : Sq30 237 172 = (tl.length : Int) := (hf30 237 172 (by unfold csM chM; omega)).trans hmn28
                have hneg : rv ≠ -1 := fun z => hFn (hr1.mp z)
                by_cases crv : 0 ≤ rv
                · obtain ⟨z1, z2⟩ := ha30 crv
                  subst z1
                  show wJ _ _ _ _ _ _ _ _ _ _
                  refine wa_goto ⟨_, rfl⟩ ?_
                  refine wa_return rfl ?_
                  exact ⟨fun _ => ⟨rfl, z2, e172⟩, fun z => absurd z (by omega), e167, hcz30, hqx⟩
                · obtain ⟨z1, z2, z3⟩ := hb30 (by omega)
                  subst z1
                  refine ⟨rfl, ?_⟩
                  exact ⟨fun z => absurd z (by omega), fun _ => ⟨rfl, by rw [if_neg hneg]; exact z2, z3⟩, e167, hcz30, hqx⟩
              · skip
                refine wa_aload_n (n := 0) rfl ?_
                refine wa_iconst ?_
                refine wa_cv 237 rfl (wy_pr rfl) wt_237 (M2 := fun _ => False) rfl at_M_error ⟨_, rfl⟩ rfl rfl ⟨trivial, trivial, trivial, trivial, (Or.inr ⟨wy_pr rfl, fun q => q⟩), trivial, trivial, trivial, trivial⟩ trivial (fun _ _ q => False.elim q) ?_ (fun _ _ _ q => q)
                refine wa_aload_n (n := 0) rfl ?_
                refine wb_gf4 237 rfl (wy_pr rfl) wt_237 wf_15_1 (v := 238) wl_237_1 ?_
                refine wa_iload_n (n := 1) rfl ?_
                refine wa_iconst ?_
                refine wa_cv 238 rfl (wy_pr rfl) wt_238 (M2 := fun _ => False) rfl at_MH_of ⟨_, rfl⟩ rfl rfl ⟨(Or.inr ⟨wy_pr rfl, fun q => q⟩), trivial, trivial⟩ trivial (fun _ _ q => False.elim q) ?_ (fun _ _ _ q => q)
                refine wa_aload_n (n := 0) rfl ?_
                refine wa_iload_n (n := 1) rfl ?_
                refine wb_pfi 238 rfl (wy_pr rfl) wt_238 wf_11_5 (n := 5) rfl ⟨(by omega), (by omega)⟩ ?_
                refine wa_aload_n (n := 0) rfl ?_
                refine wa_iload_n (n := 2) rfl ?_
                refine wb_pfi 238 rfl (wy_pr rfl) wt_238 wf_11_6 (n := 6) rfl ⟨(by omega), (by omega)⟩ ?_
                refine wa_aload_n (n := 0) rfl ?_
                refine wa_oreturn rfl ?_
                show wJ _ _ _ _ _ _ _ _ _ _
                refine wa_th (j := 238) ?_
                refine ⟨rfl, ?_⟩
                have hFe : (FA T cs ms os c am 0 (wnW ([] : List Int) W)) = [] := hF4.mp (by omega)
                have hrm : rv = -1 := hr1.mpr hFe
                have ech : chN CH wo mo (c, am, 0, (wnW ([] : List Int) W), tl) (FA T cs ms os c am 0 (wnW ([] : List Int) W)) = (CH, wo) := if_pos (Or.inl hFe)
                rw [ech]
                exact ⟨fun z => absurd z (by omega), fun _ => ⟨rfl, (((w_up_at (by first | decide | omega)).trans (w_up_same _ _ _ _)) : (w_up (w_up Sq23 238 5 4) 238 6 0) 238 5 = _).trans (if_pos (by omega)).symm, (w_up_same _ _ _ _)⟩, ((w_up_no (by omega)).trans ((w_up_no (by omega)).trans ((hf23 237 167 (by unfold cdM; omega) (by unfold odM; omega)).trans ((hf21 237 167 (by unfold wtM; omega)).trans (w_up_same _ _ _ _))))), rCh_ag hC (fun j x hj => ((w_up_no (by unfold chM at hj; omega)).trans ((w_up_no (by unfold chM at hj; omega)).trans ((hf23 j x (lh_id hj).2.1 (lh_id hj).2.2.1).trans ((hf21 j x (lh_id hj).1).trans (w_up_no (by unfold chM at hj; omega))))))), fun j x hj => ((w_up_no (by unfold lhM at hj; omega)).trans ((w_up_no (by unfold lhM at hj; omega)).trans (fS23 j x hj)))⟩
          · skip
            exact absurd c19 (by omega)
        · skip
          exact absurd c18 (by omega)
      · skip
        exact absurd c16 (by omega)
    · skip
      exfalso; omega
  · skip
    refine wa_iconst ?_
    refine wa_goto ⟨_, rfl⟩ ?_
    refine wJ_top (show 1 = am by omega) ?_
    refine wa_istore (n := 4) rfl ?_
    refine wa_iload (n := 4) rfl ?_
    refine wa_ifeq (w_rg0 (by omega) (by omega)) ⟨_, rfl⟩ (fun c32 => ?_) (fun c32 => ?_)
    · skip
      exfalso; omega
    · skip
      have hgbc : gb = c := by omega
      refine wa_aload_n (n := 0) rfl ?_
      refine wb_gfl 237 rfl (wy_pr rfl) wt_237 wf_15_175 (v := gb) (h75) (fun r33 => ?_)
      refine wb_l2i_r (wb_l2i_id ⟨(by omega), (by omega)⟩) ?_
      refine wa_goto ⟨_, rfl⟩ ?_
      refine wJ_top (show gb = c by omega) ?_
      refine wa_istore (n := 5) rfl ?_
      refine wa_iload (n := 4) rfl ?_
      refine wa_ifeq (w_rg0 (by omega) (by omega)) ⟨_, rfl⟩ (fun c34 => ?_) (fun c34 => ?_)
      · skip
        exact absurd c34 (by omega)
      · skip
        refine wa_iconst ?_
        refine wa_goto ⟨_, rfl⟩ ?_
        refine wJ_top (show 1 = am by omega) ?_
        refine wa_istore (n := 6) rfl ?_
        refine wa_aload_n (n := 0) rfl ?_
        refine wa_iload (n := 5) rfl ?_
        refine wb_pfi 237 rfl (wy_pr rfl) wt_237 wf_15_167 (n := 167) rfl ⟨(by omega), (by omega)⟩ ?_
        refine wa_aload_n (n := 0) rfl ?_
        refine wb_gf4 237 rfl (wy_pr rfl) wt_237 wf_15_50 (v := 305) wl_237_50 ?_
        refine wa_iload_n (n := 1) rfl ?_
        refine wb_iald 305 rfl (wy_pr rfl) wt_305 (n := 4000) ((w_up_slot (by decide)).trans ((ml_305 hM))) (by omega) (by omega) (v := nms) ((w_up_slot (by decide)).trans (h05)) (fun r35 => ?_)
        refine wa_istore (n := 7) rfl ?_
        refine wa_iload_n (n := 2) rfl ?_
        refine wa_ifne (w_rg0 (by omega) (by omega)) ⟨_, rfl⟩ (fun c36 => ?_) (fun c36 => ?_)
        · skip
          refine wa_iload_n (n := 2) rfl ?_
          refine wa_iconst ?_
          refine wa_icmpne (w_rg0 (by omega) (by omega)) (w_rg0 (by omega) (by omega)) ⟨_, rfl⟩ (fun c37 => ?_) (fun c37 => ?_)
          · skip
            refine wa_iload_n (n := 2) rfl ?_
            refine wa_iconst ?_
            refine wa_icmpne (w_rg0 (by omega) (by omega)) (w_rg0 (by omega) (by omega)) ⟨_, rfl⟩ (fun c38 => ?_) (fun c38 => ?_)
            · skip
              exact absurd c38 (by omega)
            · skip
              refine wa_aload_n (n := 0) rfl ?_
              refine wa_ks ?_
              refine wa_iload (n := 7) rfl ?_
              have fb5 : ∀ (j : Nat) (x : Int), ¬ lhM j x → (w_up S 237 167 c) j x = S j x := fun j x hj => (w_up_no (by unfold lhM at hj; omega))
              have hMb5 : w_ML (w_up S 237 167 c) := ML_w hM fb5 (fun j => lhM_1)
              have hKb5 : KR 261 T n cs ms (w_up S 237 167 c) := KR_ag hK (fun j x hj => fb5 j x (by unfold lhM; omega))
              refine wa_cv 237 rfl (wy_pr rfl) wt_237 (M2 := fun _ => False) rfl at_M_wants ⟨_, rfl⟩ rfl rfl ⟨trivial, trivial, trivial, trivial, (Or.inr ⟨wy_pr rfl, fun q => q⟩), trivial, trivial, trivial, trivial⟩ trivial (fun _ _ q => False.elim q) (rwt53 (S := (w_up S 237 167 c)) hX hMb5 hnm ((fb5 282 nms (by unfold lhM; omega)).trans h82) hWl (fun x hx => (fb5 281 _ (by unfold lhM; omega)).trans (h81 x hx))) (fun oq39 Sq39 hp40 q39 => ?_)
              rcases q39 with ⟨rfl, hw39, hf39⟩
              show wJ _ _ _ _ _ _ _ _ _ _
              have hq39 : ∀ (j : Nat) (x : Int), ¬ lhM j x → Sq39 j x = (w_up S 237 167 c) j x := fun j x hj => hf39 j x (lhM_wt hj)
              have fS39 : ∀ (j : Nat) (x : Int), ¬ lhM j x → Sq39 j x = S j x := fun j x hj => (hq39 j x hj).trans (fb5 j x hj)
              refine wa_aload_n (n := 0) rfl ?_
              refine wa_iload (n := 5) rfl ?_
              refine wa_iload (n := 4) rfl ?_
              refine wa_iconst ?_
              have fb6 : ∀ (j : Nat) (x : Int), ¬ lhM j x → Sq39 j x = S j x := fun j x hj => (fS39 j x hj)
              have hMb6 : w_ML Sq39 := ML_w hM fb6 (fun j => lhM_1)
              have hKb6 : KR 261 T n cs ms Sq39 := KR_ag hK (fun j x hj => fb6 j x (by unfold lhM; omega))
              refine wa_cv 237 rfl (wy_pr rfl) wt_237 (M2 := fun _ => False) rfl at_M_collects ⟨_, rfl⟩ rfl rfl ⟨trivial, trivial, trivial, trivial, (Or.inr ⟨wy_pr rfl, fun q => q⟩), trivial, trivial, trivial, trivial⟩ trivial (fun _ _ q => False.elim q) (rco_261 (S := Sq39) (c := c) (st := am) (pc := (-1)) (WW := (wnW ([] : List Int) W)) hMb6 hKb6 hw hO hA hst (by omega) hw39 hc) (fun oq41 Sq41 hp42 q41 => ?_)
              rcases q41 with ⟨rfl, hcd41, hf41⟩
              show wJ _ _ _ _ _ _ _ _ _ _
              have hq41 : ∀ (j : Nat) (x : Int), ¬ lhM j x → Sq41 j x = Sq39 j x := fun j x hj => hf41 j x (lhM_cd hj) (lhM_od hj)
              have fS41 : ∀ (j : Nat) (x : Int), ¬ lhM j x → Sq41 j x = S j x := fun j x hj => (hq41 j x hj).trans (fb6 j x hj)
              rw [hFa] at hcd41
              have hcl41 := hcd41.2.2
              refine wa_aload_n (n := 0) rfl ?_
              refine wb_gfi 237 rfl (wy_pr rfl) wt_237 wf_15_128 (v := ((FA T cs ms os c am 0 (wnW ([] : List Int) W)).length : Int)) (hcd41.1) (fun r43 => ?_)
              refine wa_ifne (w_rg0 (by omega) (by omega)) ⟨_, rfl⟩ (fun c44 => ?_) (fun c44 => ?_)
              · skip
                refine wa_aload_n (n := 0) rfl ?_
                refine wa_aload_n (n := 0) rfl ?_
                refine wb_gf4 237 rfl (wy_pr rfl) wt_237 wf_15_51 (v := 306) wl_237_51 ?_
                refine wa_iload_n (n := 1) rfl ?_
                refine wb_iald 306 rfl (wy_pr rfl) wt_306 (n := 4000) (((hq41 306 (-1) (by unfold lhM; omega)).trans (((hq39 306 (-1) (by unfold lhM; omega)).trans ((w_up_slot (by decide)).trans ((ml_306 hM))))))) (by omega) (by omega) (v := (tl.length : Int)) (((hq41 306 s (by unfold lhM; omega)).trans (((hq39 306 s (by unfold lhM; omega)).trans ((w_up_slot (by decide)).trans (h06)))))) (fun r45 => ?_)
                have fb7 : ∀ (j : Nat) (x : Int), ¬ lhM j x → Sq41 j x = S j x := fun j x hj => (fS41 j x hj)
                have hMb7 : w_ML Sq41 := ML_w hM fb7 (fun j => lhM_1)
                have hKb7 : KR 261 T n cs ms Sq41 := KR_ag hK (fun j x hj => fb7 j x (by unfold lhM; omega))
                refine wa_cv 237 rfl (wy_pr rfl) wt_237 (M2 := fun _ => False) rfl at_M_typesOfEs ⟨_, rfl⟩ rfl rfl ⟨trivial, trivial, trivial, trivial, (Or.inr ⟨wy_pr rfl, fun q => q⟩), trivial, trivial, trivial, trivial⟩ trivial (fun _ _ q => False.elim q) (rty (S := Sq41) (r := r) (tl := tl) hMb7 ((fb7 237 173 (by unfold lhM; omega)).trans h73) hr (rCl_a9 hcl (fun j x hj => fb7 j x (by unfold lhM; omega))) h8) (fun oq46 Sq46 hp47 q46 => ?_)
                rcases q46 with ⟨rfl, ht46, hmn46, hf46⟩
                show wJ _ _ _ _ _ _ _ _ _ _
                have hq46 : ∀ (j : Nat) (x : Int), ¬ lhM j x → Sq46 j x = Sq41 j x := fun j x hj => hf46 j x (lhM_ty hj)
                have fS46 : ∀ (j : Nat) (x : Int), ¬ lhM j x → Sq46 j x = S j x := fun j x hj => (hq46 j x hj).trans (fb7 j x hj)
                have hcd46 : cdI (FA T cs ms os c am 0 (wnW ([] : List Int) W)) Sq46 := cdI_ag hcd41 (fun j x hj => hf46 j x (by unfold tyM; unfold cdM at hj; omega))
                refine wa_aload_n (n := 0) rfl ?_
                refine wa_iload (n := 5) rfl ?_
                refine wa_iload (n := 6) rfl ?_
                refine wa_iload (n := 7) rfl ?_
                refine wa_iload_n (n := 3) rfl ?_
                have fb8 : ∀ (j : Nat) (x : Int), ¬ lhM j x → Sq46 j x = S j x := fun j x hj => (fS46 j x hj)
                have hMb8 : w_ML Sq46 := ML_w hM fb8 (fun j => lhM_1)
                have hKb8 : KR 261 T n cs ms Sq46 := KR_ag hK (fun j x hj => fb8 j x (by unfold lhM; omega))
                have hC48 : rCh T cs ms os N CH wo mo Sq46 := rCh_ag hC (fun j x hj => ((hf46 j x (lh_id hj).2.2.2.1).trans ((hf41 j x (lh_id hj).2.1 (lh_id hj).2.2.1).trans ((hf39 j x (lh_id hj).1).trans (w_up_no (lh_id hj).2.2.2.2)))))
                have hFn : (FA T cs ms os c am 0 (wnW ([] : List Int) W)) ≠ [] := fun z => by have y := hF4.mpr z; omega
                have hqk : qRk T cs ms os N (c, am, 0, (wnW ([] : List Int) W), tl) := ⟨hc, ⟨by show (0 : Int) ≤ am; omega, by show am ≤ (2 : Int); omega⟩, Or.inl rfl, (fun z => absurd z (by show ¬ am = 2; omega)), (fun _ _ => by show wnW ([] : List Int) W ∈ N; rw [show wnW ([] : List Int) W = W from if_pos rfl]; exact hWN), h8, hFn⟩
                have hrc := rcs1_261 (xs := xs) (M := fun _ => False) (d := d + 59) (S := Sq46) (c := c) (am := am) (fs := 0) (md := am) (nc := nms) (WW := (wnW ([] : List Int) W)) (tl := tl) (F := (FA T cs ms os c am 0 (wnW ([] : List Int) W))) hMb8 hKb8 hw hC48 ht46 hqk (by show _ = (if am = 2 then 2 else am + 4 * 0 : Int); rw [if_neg (by omega)]; omega) (by show _ = (if am = 2 then -1 else if (0 : Int) = 1 then _ else ixL N (wnW ([] : List Int) W) : Int); rw [if_neg (by omega), if_neg (by first | decide | omega), show wnW ([] : List Int) W = W from if_pos rfl, hix]) ⟨by omega, by omega⟩ ⟨by omega, by omega⟩ hes hty hcd46 hFm rfl hwo
                rw [← hrv] at hrc
                refine wa_cv 237 rfl (wy_pr rfl) wt_237 (M2 := fun _ => False) rfl at_M_chooses ⟨_, rfl⟩ rfl rfl ⟨trivial, trivial, trivial, trivial, (Or.inr ⟨wy_pr rfl, fun q => q⟩), trivial, trivial, trivial, trivial⟩ trivial (fun _ _ q => False.elim q) (hrc) (fun oq48 Sq48 hp49 q48 => ?_)
                rcases q48 with ⟨ha48, hb48, hcz48, hf48⟩
                have hqx : ∀ (j : Nat) (x : Int), ¬ lhM j x → Sq48 j x = S j x := fun j x hj => (hf48 j x (lhM_cs hj)).trans (fb8 j x hj)
                have e167 : Sq48 237 167 = c := (hf48 237 167 (by unfold csM chM; omega)).trans (((hf46 237 167 (by unfold tyM; omega)).trans ((hf41 237 167 (by unfold cdM; omega) (by unfold odM; omega)).trans ((hf39 237 167 (by unfold wtM; omega)).trans (w_up_same _ _ _ _)))))
                have e172 : Sq48 237 172 = (tl.length : Int) := (hf48 237 172 (by unfold csM chM; omega)).trans hmn46
                have hneg : rv ≠ -1 := fun z => hFn (hr1.mp z)
                by_cases crv : 0 ≤ rv
                · obtain ⟨z1, z2⟩ := ha48 crv
                  subst z1
                  show wJ _ _ _ _ _ _ _ _ _ _
                  refine wa_goto ⟨_, rfl⟩ ?_
                  refine wa_return rfl ?_
                  exact ⟨fun _ => ⟨rfl, z2, e172⟩, fun z => absurd z (by omega), e167, hcz48, hqx⟩
                · obtain ⟨z1, z2, z3⟩ := hb48 (by omega)
                  subst z1
                  refine ⟨rfl, ?_⟩
                  exact ⟨fun z => absurd z (by omega), fun _ => ⟨rfl, by rw [if_neg hneg]; exact z2, z3⟩, e167, hcz48, hqx⟩
              · skip
                refine wa_aload_n (n := 0) rfl ?_
                refine wa_iconst ?_
                refine wa_cv 237 rfl (wy_pr rfl) wt_237 (M2 := fun _ => False) rfl at_M_error ⟨_, rfl⟩ rfl rfl ⟨trivial, trivial, trivial, trivial, (Or.inr ⟨wy_pr rfl, fun q => q⟩), trivial, trivial, trivial, trivial⟩ trivial (fun _ _ q => False.elim q) ?_ (fun _ _ _ q => q)
                refine wa_aload_n (n := 0) rfl ?_
                refine wb_gf4 237 rfl (wy_pr rfl) wt_237 wf_15_1 (v := 238) wl_237_1 ?_
                refine wa_iload_n (n := 1) rfl ?_
                refine wa_iconst ?_
                refine wa_cv 238 rfl (wy_pr rfl) wt_238 (M2 := fun _ => False) rfl at_MH_of ⟨_, rfl⟩ rfl rfl ⟨(Or.inr ⟨wy_pr rfl, fun q => q⟩), trivial, trivial⟩ trivial (fun _ _ q => False.elim q) ?_ (fun _ _ _ q => q)
                refine wa_aload_n (n := 0) rfl ?_
                refine wa_iload_n (n := 1) rfl ?_
                refine wb_pfi 238 rfl (wy_pr rfl) wt_238 wf_11_5 (n := 5) rfl ⟨(by omega), (by omega)⟩ ?_
                refine wa_aload_n (n := 0) rfl ?_
                refine wa_iload_n (n := 2) rfl ?_
                refine wb_pfi 238 rfl (wy_pr rfl) wt_238 wf_11_6 (n := 6) rfl ⟨(by omega), (by omega)⟩ ?_
                refine wa_aload_n (n := 0) rfl ?_
                refine wa_oreturn rfl ?_
                show wJ _ _ _ _ _ _ _ _ _ _
                refine wa_th (j := 238) ?_
                refine ⟨rfl, ?_⟩
                have hFe : (FA T cs ms os c am 0 (wnW ([] : List Int) W)) = [] := hF4.mp (by omega)
                have hrm : rv = -1 := hr1.mpr hFe
                have ech : chN CH wo mo (c, am, 0, (wnW ([] : List Int) W), tl) (FA T cs ms os c am 0 (wnW ([] : List Int) W)) = (CH, wo) := if_pos (Or.inl hFe)
                rw [ech]
                exact ⟨fun z => absurd z (by omega), fun _ => ⟨rfl, (((w_up_at (by first | decide | omega)).trans (w_up_same _ _ _ _)) : (w_up (w_up Sq41 238 5 4) 238 6 0) 238 5 = _).trans (if_pos (by omega)).symm, (w_up_same _ _ _ _)⟩, ((w_up_no (by omega)).trans ((w_up_no (by omega)).trans ((hf41 237 167 (by unfold cdM; omega) (by unfold odM; omega)).trans ((hf39 237 167 (by unfold wtM; omega)).trans (w_up_same _ _ _ _))))), rCh_ag hC (fun j x hj => ((w_up_no (by unfold chM at hj; omega)).trans ((w_up_no (by unfold chM at hj; omega)).trans ((hf41 j x (lh_id hj).2.1 (lh_id hj).2.2.1).trans ((hf39 j x (lh_id hj).1).trans (w_up_no (by unfold chM at hj; omega))))))), fun j x hj => ((w_up_no (by unfold lhM at hj; omega)).trans ((w_up_no (by unfold lhM at hj; omega)).trans (fS41 j x hj)))⟩
          · skip
            exact absurd c37 (by omega)
        · skip
          exact absurd c36 (by omega)
set_option maxHeartbeats 4000000 in
theorem lhm0_261 {s gk gb c am nms r ct : Int} {W tl : List Int} (hM : w_ML S) (hK : KR 261 T n cs ms S) (hw : wHo cs ms os) (hX : w_X xs) (hnm : 0 ≤ nms ∧ nms < 4000) (h82 : S 282 nms = (W.length : Int)) (hWl : W.length ≤ 60) (h81 : ∀ x : Nat, x < W.length → S 281 (60 * nms + (x : Int)) = W.getD x 0) (hO : wOs cs os) (hA : wAb cs) (hc : 0 ≤ c ∧ c < (cs.length : Int)) (hst : am = 0 ∨ am = 1) (hs : 0 ≤ s ∧ s < 4000) (h05 : S 305 s = nms) (h74 : S 237 174 = gk) (h75 : S 237 175 = gb) (hgk : (gk = 7 ∧ am = 0 ∧ (0 ≤ gb ∧ gb < 8000) ∧ S 321 gb = c) ∨ (gk = 8 ∧ am = 1 ∧ gb = c)) (h172 : S 237 172 = 0) (hC : rCh T cs ms os N CH wo mo S) (h73 : S 237 173 = r) (hr : 0 ≤ r ∧ r + 1 + (tl.length : Int) ≤ 4200) (hcl : rCl S r tl) (h8 : tl.length ≤ 8) (hes : esOk tl) (hty : ∀ c ∈ tl, c < 9 + (cs.length : Int)) (hwo : wo < 10000000) (h06 : S 306 s = (tl.length : Int)) (hWN : W ∈ N) (hix : ixL N W = nms) : wJ (pe_GA xs) wY0 M (d + 66) t_M_looksAtHost ((pe_at t_M_looksAtHost.bl 0).getD (0, [])).2 [(0, (2, 237)), (1, (0, s)), (2, (0, 5)), (3, (0, 0))] [] S (lrQ T cs ms os N CH wo mo c (rvA T cs ms os (c, am, 0, (wnW ([] : List Int) W), tl)) (tl.length : Int) S) := by
  have h13 : S 237 13 = 261 := hK.1
  have h60 := hw.1
  have hFm := FA_v (T := T) (am := am) (fs := 0) (WW := (wnW ([] : List Int) W)) hw hc
  obtain ⟨rv, hrv⟩ : ∃ r : Int, r = (rvA T cs ms os (c, am, 0, (wnW ([] : List Int) W), tl)) := ⟨_, rfl⟩
  have hrr := rvA_rg (T := T) (q := (c, am, 0, (wnW ([] : List Int) W), tl)) hw hc
  have hr1 := rv_m1 (T := T) (q := (c, am, 0, (wnW ([] : List Int) W), tl)) hw hc
  rw [← hrv] at hrr hr1 ⊢
  replace hr1 : rv = -1 ↔ (FA T cs ms os c am 0 (wnW ([] : List Int) W)) = [] := hr1
  have hF4 : (FA T cs ms os c am 0 (wnW ([] : List Int) W)).length = 0 ↔ (FA T cs ms os c am 0 (wnW ([] : List Int) W)) = [] := ⟨fun z => List.eq_nil_of_length_eq_zero z, fun z => by rw [z]; rfl⟩
  have hFa : cdA ms (okM T ms 1 am (-1) (wnW ([] : List Int) W)) [] (mOr cs (os c)) = (FA T cs ms os c am 0 (wnW ([] : List Int) W)) := by
    unfold FA
    rw [if_neg (show ¬ am = 2 by omega), if_neg (show ¬ am = 2 by omega), if_neg (show ¬ (0 : Int) = 1 by decide), show (if am = 1 then 1 else 0 : Int) = am by split <;> omega]
  refine wa_aload_n (n := 0) rfl ?_
  refine wb_gfi 237 rfl (wy_pr rfl) wt_237 wf_15_174 (v := gk) (h74) (fun r11 => ?_)
  refine wa_bipush (w_rg2 (by omega) (by omega)) ?_
  refine wa_icmpne (w_rg0 (by omega) (by omega)) (w_rg0 (by omega) (by omega)) ⟨_, rfl⟩ (fun c12 => ?_) (fun c12 => ?_)
  · skip
    refine wa_iconst ?_
    refine wa_fall ⟨_, rfl⟩ ?_
    refine wJ_top (show 0 = am by omega) ?_
    refine wa_istore (n := 4) rfl ?_
    refine wa_iload (n := 4) rfl ?_
    refine wa_ifeq (w_rg0 (by omega) (by omega)) ⟨_, rfl⟩ (fun c13 => ?_) (fun c13 => ?_)
    · skip
      have h21 : S 321 gb = c := by rcases hgk with z | z; exact z.2.2.2; omega
      have hgb0 : 0 ≤ gb ∧ gb < 8000 := by omega
      refine wa_aload_n (n := 0) rfl ?_
      refine wb_gf4 237 rfl (wy_pr rfl) wt_237 wf_15_77 (v := 321) wl_237_77 ?_
      refine wa_aload_n (n := 0) rfl ?_
      refine wb_gfl 237 rfl (wy_pr rfl) wt_237 wf_15_175 (v := gb) (h75) (fun r14 => ?_)
      refine wb_l2i_r (wb_l2i_id ⟨(by omega), (by omega)⟩) ?_
      refine wb_iald 321 rfl (wy_pr rfl) wt_321 (n := 8000) ((ml_321 hM)) (by omega) (by omega) (v := c) (h21) (fun r15 => ?_)
      refine wa_fall ⟨_, rfl⟩ ?_
      refine wa_istore (n := 5) rfl ?_
      refine wa_iload (n := 4) rfl ?_
      refine wa_ifeq (w_rg0 (by omega) (by omega)) ⟨_, rfl⟩ (fun c16 => ?_) (fun c16 => ?_)
      · skip
        refine wa_iconst ?_
        refine wa_fall ⟨_, rfl⟩ ?_
        refine wJ_top (show 0 = am by omega) ?_
        refine wa_istore (n := 6) rfl ?_
        refine wa_aload_n (n := 0) rfl ?_
        refine wa_iload (n := 5) rfl ?_
        refine wb_pfi 237 rfl (wy_pr rfl) wt_237 wf_15_167 (n := 167) rfl ⟨(by omega), (by omega)⟩ ?_
        refine wa_aload_n (n := 0) rfl ?_
        refine wb_gf4 237 rfl (wy_pr rfl) wt_237 wf_15_50 (v := 305) wl_237_50 ?_
        refine wa_iload_n (n := 1) rfl ?_
        refine wb_iald 305 rfl (wy_pr rfl) wt_305 (n := 4000) ((w_up_slot (by decide)).trans ((ml_305 hM))) (by omega) (by omega) (v := nms) ((w_up_slot (by decide)).trans (h05)) (fun r17 => ?_)
        refine wa_istore (n := 7) rfl ?_
        refine wa_iload_n (n := 2) rfl ?_
        refine wa_ifne (w_rg0 (by omega) (by omega)) ⟨_, rfl⟩ (fun c18 => ?_) (fun c18 => ?_)
        · skip
          refine wa_iload_n (n := 2) rfl ?_
          refine wa_iconst ?_
          refine wa_icmpne (w_rg0 (by omega) (by omega)) (w_rg0 (by omega) (by omega)) ⟨_, rfl⟩ (fun c19 => ?_) (fun c19 => ?_)
          · skip
            refine wa_iload_n (n := 2) rfl ?_
            refine wa_iconst ?_
            refine wa_icmpne (w_rg0 (by omega) (by omega)) (w_rg0 (by omega) (by omega)) ⟨_, rfl⟩ (fun c20 => ?_) (fun c20 => ?_)
            · skip
              exact absurd c20 (by omega)
            · skip
              refine wa_aload_n (n := 0) rfl ?_
              refine wa_ks ?_
              refine wa_iload (n := 7) rfl ?_
              have fb1 : ∀ (j : Nat) (x : Int), ¬ lhM j x → (w_up S 237 167 c) j x = S j x := fun j x hj => (w_up_no (by unfold lhM at hj; omega))
              have hMb1 : w_ML (w_up S 237 167 c) := ML_w hM fb1 (fun j => lhM_1)
              have hKb1 : KR 261 T n cs ms (w_up S 237 167 c) := KR_ag hK (fun j x hj => fb1 j x (by unfold lhM; omega))
              refine wa_cv 237 rfl (wy_pr rfl) wt_237 (M2 := fun _ => False) rfl at_M_wants ⟨_, rfl⟩ rfl rfl ⟨trivial, trivial, trivial, trivial, (Or.inr ⟨wy_pr rfl, fun q => q⟩), trivial, trivial, trivial, trivial⟩ trivial (fun _ _ q => False.elim q) (rwt53 (S := (w_up S 237 167 c)) hX hMb1 hnm ((fb1 282 nms (by unfold lhM; omega)).trans h82) hWl (fun x hx => (fb1 281 _ (by unfold lhM; omega)).trans (h81 x hx))) (fun oq21 Sq21 hp22 q21 => ?_)
              rcases q21 with ⟨rfl, hw21, hf21⟩
              show wJ _ _ _ _ _ _ _ _ _ _
              have hq21 : ∀ (j : Nat) (x : Int), ¬ lhM j x → Sq21 j x = (w_up S 237 167 c) j x := fun j x hj => hf21 j x (lhM_wt hj)
              have fS21 : ∀ (j : Nat) (x : Int), ¬ lhM j x → Sq21 j x = S j x := fun j x hj => (hq21 j x hj).trans (fb1 j x hj)
              refine wa_aload_n (n := 0) rfl ?_
              refine wa_iload (n := 5) rfl ?_
              refine wa_iload (n := 4) rfl ?_
              refine wa_iconst ?_
              have fb2 : ∀ (j : Nat) (x : Int), ¬ lhM j x → Sq21 j x = S j x := fun j x hj => (fS21 j x hj)
              have hMb2 : w_ML Sq21 := ML_w hM fb2 (fun j => lhM_1)
              have hKb2 : KR 261 T n cs ms Sq21 := KR_ag hK (fun j x hj => fb2 j x (by unfold lhM; omega))
              refine wa_cv 237 rfl (wy_pr rfl) wt_237 (M2 := fun _ => False) rfl at_M_collects ⟨_, rfl⟩ rfl rfl ⟨trivial, trivial, trivial, trivial, (Or.inr ⟨wy_pr rfl, fun q => q⟩), trivial, trivial, trivial, trivial⟩ trivial (fun _ _ q => False.elim q) (rco_261 (S := Sq21) (c := c) (st := am) (pc := (-1)) (WW := (wnW ([] : List Int) W)) hMb2 hKb2 hw hO hA hst (by omega) hw21 hc) (fun oq23 Sq23 hp24 q23 => ?_)
              rcases q23 with ⟨rfl, hcd23, hf23⟩
              show wJ _ _ _ _ _ _ _ _ _ _
              have hq23 : ∀ (j : Nat) (x : Int), ¬ lhM j x → Sq23 j x = Sq21 j x := fun j x hj => hf23 j x (lhM_cd hj) (lhM_od hj)
              have fS23 : ∀ (j : Nat) (x : Int), ¬ lhM j x → Sq23 j x = S j x := fun j x hj => (hq23 j x hj).trans (fb2 j x hj)
              rw [hFa] at hcd23
              have hcl23 := hcd23.2.2
              refine wa_aload_n (n := 0) rfl ?_
              refine wb_gfi 237 rfl (wy_pr rfl) wt_237 wf_15_128 (v := ((FA T cs ms os c am 0 (wnW ([] : List Int) W)).length : Int)) (hcd23.1) (fun r25 => ?_)
              refine wa_ifne (w_rg0 (by omega) (by omega)) ⟨_, rfl⟩ (fun c26 => ?_) (fun c26 => ?_)
              · skip
                refine wa_aload_n (n := 0) rfl ?_
                refine wa_aload_n (n := 0) rfl ?_
                refine wb_gf4 237 rfl (wy_pr rfl) wt_237 wf_15_51 (v := 306) wl_237_51 ?_
                refine wa_iload_n (n := 1) rfl ?_
                refine wb_iald 306 rfl (wy_pr rfl) wt_306 (n := 4000) (((hq23 306 (-1) (by unfold lhM; omega)).trans (((hq21 306 (-1) (by unfold lhM; omega)).trans ((w_up_slot (by decide)).trans ((ml_306 hM))))))) (by omega) (by omega) (v := (tl.length : Int)) (((hq23 306 s (by unfold lhM; omega)).trans (((hq21 306 s (by unfold lhM; omega)).trans ((w_up_slot (by decide)).trans (h06)))))) (fun r27 => ?_)
                have fb3 : ∀ (j : Nat) (x : Int), ¬ lhM j x → Sq23 j x = S j x := fun j x hj => (fS23 j x hj)
                have hMb3 : w_ML Sq23 := ML_w hM fb3 (fun j => lhM_1)
                have hKb3 : KR 261 T n cs ms Sq23 := KR_ag hK (fun j x hj => fb3 j x (by unfold lhM; omega))
                refine wa_cv 237 rfl (wy_pr rfl) wt_237 (M2 := fun _ => False) rfl at_M_typesOfEs ⟨_, rfl⟩ rfl rfl ⟨trivial, trivial, trivial, trivial, (Or.inr ⟨wy_pr rfl, fun q => q⟩), trivial, trivial, trivial, trivial⟩ trivial (fun _ _ q => False.elim q) (rty (S := Sq23) (r := r) (tl := tl) hMb3 ((fb3 237 173 (by unfold lhM; omega)).trans h73) hr (rCl_a9 hcl (fun j x hj => fb3 j x (by unfold lhM; omega))) h8) (fun oq28 Sq28 hp29 q28 => ?_)
                rcases q28 with ⟨rfl, ht28, hmn28, hf28⟩
                show wJ _ _ _ _ _ _ _ _ _ _
                have hq28 : ∀ (j : Nat) (x : Int), ¬ lhM j x → Sq28 j x = Sq23 j x := fun j x hj => hf28 j x (lhM_ty hj)
                have fS28 : ∀ (j : Nat) (x : Int), ¬ lhM j x → Sq28 j x = S j x := fun j x hj => (hq28 j x hj).trans (fb3 j x hj)
                have hcd28 : cdI (FA T cs ms os c am 0 (wnW ([] : List Int) W)) Sq28 := cdI_ag hcd23 (fun j x hj => hf28 j x (by unfold tyM; unfold cdM at hj; omega))
                refine wa_aload_n (n := 0) rfl ?_
                refine wa_iload (n := 5) rfl ?_
                refine wa_iload (n := 6) rfl ?_
                refine wa_iload (n := 7) rfl ?_
                refine wa_iload_n (n := 3) rfl ?_
                have fb4 : ∀ (j : Nat) (x : Int), ¬ lhM j x → Sq28 j x = S j x := fun j x hj => (fS28 j x hj)
                have hMb4 : w_ML Sq28 := ML_w hM fb4 (fun j => lhM_1)
                have hKb4 : KR 261 T n cs ms Sq28 := KR_ag hK (fun j x hj => fb4 j x (by unfold lhM; omega))
                have hC30 : rCh T cs ms os N CH wo mo Sq28 := rCh_ag hC (fun j x hj => ((hf28 j x (lh_id hj).2.2.2.1).trans ((hf23 j x (lh_id hj).2.1 (lh_id hj).2.2.1).trans ((hf21 j x (lh_id hj).1).trans (w_up_no (lh_id hj).2.2.2.2)))))
                have hFn : (FA T cs ms os c am 0 (wnW ([] : List Int) W)) ≠ [] := fun z => by have y := hF4.mpr z; omega
                have hqk : qRk T cs ms os N (c, am, 0, (wnW ([] : List Int) W), tl) := ⟨hc, ⟨by show (0 : Int) ≤ am; omega, by show am ≤ (2 : Int); omega⟩, Or.inl rfl, (fun z => absurd z (by show ¬ am = 2; omega)), (fun _ _ => by show wnW ([] : List Int) W ∈ N; rw [show wnW ([] : List Int) W = W from if_pos rfl]; exact hWN), h8, hFn⟩
                have hrc := rcs0_261 (xs := xs) (M := fun _ => False) (d := d + 59) (S := Sq28) (c := c) (am := am) (fs := 0) (md := am) (nc := nms) (WW := (wnW ([] : List Int) W)) (tl := tl) (F := (FA T cs ms os c am 0 (wnW ([] : List Int) W))) hMb4 hKb4 hw hC30 ht28 hqk (by show _ = (if am = 2 then 2 else am + 4 * 0 : Int); rw [if_neg (by omega)]; omega) (by show _ = (if am = 2 then -1 else if (0 : Int) = 1 then _ else ixL N (wnW ([] : List Int) W) : Int); rw [if_neg (by omega), if_neg (by first | decide | omega), show wnW ([] : List Int) W = W from if_pos rfl, hix]) ⟨by omega, by omega⟩ ⟨by omega, by omega⟩ hes hty hcd28 hFm rfl hwo
                rw [← hrv] at hrc
                refine wa_cv 237 rfl (wy_pr rfl) wt_237 (M2 := fun _ => False) rfl at_M_chooses ⟨_, rfl⟩ rfl rfl ⟨trivial, trivial, trivial, trivial, (Or.inr ⟨wy_pr rfl, fun q => q⟩), trivial, trivial, trivial, trivial⟩ trivial (fun _ _ q => False.elim q) (hrc) (fun oq30 Sq30 hp31 q30 => ?_)
                rcases q30 with ⟨ha30, hb30, hcz30, hf30⟩
                have hqx : ∀ (j : Nat) (x : Int), ¬ lhM j x → Sq30 j x = S j x := fun j x hj => (hf30 j x (lhM_cs hj)).trans (fb4 j x hj)
                have e167 : Sq30 237 167 = c := (hf30 237 167 (by unfold csM chM; omega)).trans (((hf28 237 167 (by unfold tyM; omega)).trans ((hf23 237 167 (by unfold cdM; omega) (by unfold odM; omega)).trans ((hf21 237 167 (by unfold wtM; omega)).trans (w_up_same _ _ _ _)))))
                have e172 : Sq30 237 172 = (tl.length : Int) := (hf30 237 172 (by unfold csM chM; omega)).trans hmn28
                have hneg : rv ≠ -1 := fun z => hFn (hr1.mp z)
                by_cases crv : 0 ≤ rv
                · obtain ⟨z1, z2⟩ := ha30 crv
                  subst z1
                  show wJ _ _ _ _ _ _ _ _ _ _
                  refine wa_goto ⟨_, rfl⟩ ?_
                  refine wa_return rfl ?_
                  exact ⟨fun _ => ⟨rfl, z2, e172⟩, fun z => absurd z (by omega), e167, hcz30, hqx⟩
                · obtain ⟨z1, z2, z3⟩ := hb30 (by omega)
                  subst z1
                  refine ⟨rfl, ?_⟩
                  exact ⟨fun z => absurd z (by omega), fun _ => ⟨rfl, by rw [if_neg hneg]; exact z2, z3⟩, e167, hcz30, hqx⟩
              · skip
                refine wa_aload_n (n := 0) rfl ?_
                refine wa_iconst ?_
                refine wa_cv 237 rfl (wy_pr rfl) wt_237 (M2 := fun _ => False) rfl at_M_error ⟨_, rfl⟩ rfl rfl ⟨trivial, trivial, trivial, trivial, (Or.inr ⟨wy_pr rfl, fun q => q⟩), trivial, trivial, trivial, trivial⟩ trivial (fun _ _ q => False.elim q) ?_ (fun _ _ _ q => q)
                refine wa_aload_n (n := 0) rfl ?_
                refine wb_gf4 237 rfl (wy_pr rfl) wt_237 wf_15_1 (v := 238) wl_237_1 ?_
                refine wa_iload_n (n := 1) rfl ?_
                refine wa_iconst ?_
                refine wa_cv 238 rfl (wy_pr rfl) wt_238 (M2 := fun _ => False) rfl at_MH_of ⟨_, rfl⟩ rfl rfl ⟨(Or.inr ⟨wy_pr rfl, fun q => q⟩), trivial, trivial⟩ trivial (fun _ _ q => False.elim q) ?_ (fun _ _ _ q => q)
                refine wa_aload_n (n := 0) rfl ?_
                refine wa_iload_n (n := 1) rfl ?_
                refine wb_pfi 238 rfl (wy_pr rfl) wt_238 wf_11_5 (n := 5) rfl ⟨(by omega), (by omega)⟩ ?_
                refine wa_aload_n (n := 0) rfl ?_
                refine wa_iload_n (n := 2) rfl ?_
                refine wb_pfi 238 rfl (wy_pr rfl) wt_238 wf_11_6 (n := 6) rfl ⟨(by omega), (by omega)⟩ ?_
                refine wa_aload_n (n := 0) rfl ?_
                refine wa_oreturn rfl ?_
                show wJ _ _ _ _ _ _ _ _ _ _
                refine wa_th (j := 238) ?_
                refine ⟨rfl, ?_⟩
                have hFe : (FA T cs ms os c am 0 (wnW ([] : List Int) W)) = [] := hF4.mp (by omega)
                have hrm : rv = -1 := hr1.mpr hFe
                have ech : chN CH wo mo (c, am, 0, (wnW ([] : List Int) W), tl) (FA T cs ms os c am 0 (wnW ([] : List Int) W)) = (CH, wo) := if_pos (Or.inl hFe)
                exact ⟨fun z => absurd z (by omega), fun _ => ⟨rfl, (((w_up_at (by first | decide | omega)).trans (w_up_same _ _ _ _)) : (w_up (w_up Sq23 238 5 4) 238 6 0) 238 5 = _).trans (if_pos (by omega)).symm, (w_up_same _ _ _ _)⟩, ((w_up_no (by omega)).trans ((w_up_no (by omega)).trans ((hf23 237 167 (by unfold cdM; omega) (by unfold odM; omega)).trans ((hf21 237 167 (by unfold wtM; omega)).trans (w_up_same _ _ _ _))))), rCh_ag hC (fun j x hj => ((w_up_no (by unfold chM at hj; omega)).trans ((w_up_no (by unfold chM at hj; omega)).trans ((hf23 j x (lh_id hj).2.1 (lh_id hj).2.2.1).trans ((hf21 j x (lh_id hj).1).trans (w_up_no (by unfold chM at hj; omega))))))), fun j x hj => ((w_up_no (by unfold lhM at hj; omega)).trans ((w_up_no (by unfold lhM at hj; omega)).trans (fS23 j x hj)))⟩
          · skip
            exact absurd c19 (by omega)
        · skip
          exact absurd c18 (by omega)
      · skip
        exact absurd c16 (by omega)
    · skip
      exfalso; omega
  · skip
    refine wa_iconst ?_
    refine wa_goto ⟨_, rfl⟩ ?_
    refine wJ_top (show 1 = am by omega) ?_
    refine wa_istore (n := 4) rfl ?_
    refine wa_iload (n := 4) rfl ?_
    refine wa_ifeq (w_rg0 (by omega) (by omega)) ⟨_, rfl⟩ (fun c32 => ?_) (fun c32 => ?_)
    · skip
      exfalso; omega
    · skip
      have hgbc : gb = c := by omega
      refine wa_aload_n (n := 0) rfl ?_
      refine wb_gfl 237 rfl (wy_pr rfl) wt_237 wf_15_175 (v := gb) (h75) (fun r33 => ?_)
      refine wb_l2i_r (wb_l2i_id ⟨(by omega), (by omega)⟩) ?_
      refine wa_goto ⟨_, rfl⟩ ?_
      refine wJ_top (show gb = c by omega) ?_
      refine wa_istore (n := 5) rfl ?_
      refine wa_iload (n := 4) rfl ?_
      refine wa_ifeq (w_rg0 (by omega) (by omega)) ⟨_, rfl⟩ (fun c34 => ?_) (fun c34 => ?_)
      · skip
        exact absurd c34 (by omega)
      · skip
        refine wa_iconst ?_
        refine wa_goto ⟨_, rfl⟩ ?_
        refine wJ_top (show 1 = am by omega) ?_
        refine wa_istore (n := 6) rfl ?_
        refine wa_aload_n (n := 0) rfl ?_
        refine wa_iload (n := 5) rfl ?_
        refine wb_pfi 237 rfl (wy_pr rfl) wt_237 wf_15_167 (n := 167) rfl ⟨(by omega), (by omega)⟩ ?_
        refine wa_aload_n (n := 0) rfl ?_
        refine wb_gf4 237 rfl (wy_pr rfl) wt_237 wf_15_50 (v := 305) wl_237_50 ?_
        refine wa_iload_n (n := 1) rfl ?_
        refine wb_iald 305 rfl (wy_pr rfl) wt_305 (n := 4000) ((w_up_slot (by decide)).trans ((ml_305 hM))) (by omega) (by omega) (v := nms) ((w_up_slot (by decide)).trans (h05)) (fun r35 => ?_)
        refine wa_istore (n := 7) rfl ?_
        refine wa_iload_n (n := 2) rfl ?_
        refine wa_ifne (w_rg0 (by omega) (by omega)) ⟨_, rfl⟩ (fun c36 => ?_) (fun c36 => ?_)
        · skip
          refine wa_iload_n (n := 2) rfl ?_
          refine wa_iconst ?_
          refine wa_icmpne (w_rg0 (by omega) (by omega)) (w_rg0 (by omega) (by omega)) ⟨_, rfl⟩ (fun c37 => ?_) (fun c37 => ?_)
          · skip
            refine wa_iload_n (n := 2) rfl ?_
            refine wa_iconst ?_
            refine wa_icmpne (w_rg0 (by omega) (by omega)) (w_rg0 (by omega) (by omega)) ⟨_, rfl⟩ (fun c38 => ?_) (fun c38 => ?_)
            · skip
              exact absurd c38 (by omega)
            · skip
              refine wa_aload_n (n := 0) rfl ?_
              refine wa_ks ?_
              refine wa_iload (n := 7) rfl ?_
              have fb5 : ∀ (j : Nat) (x : Int), ¬ lhM j x → (w_up S 237 167 c) j x = S j x := fun j x hj => (w_up_no (by unfold lhM at hj; omega))
              have hMb5 : w_ML (w_up S 237 167 c) := ML_w hM fb5 (fun j => lhM_1)
              have hKb5 : KR 261 T n cs ms (w_up S 237 167 c) := KR_ag hK (fun j x hj => fb5 j x (by unfold lhM; omega))
              refine wa_cv 237 rfl (wy_pr rfl) wt_237 (M2 := fun _ => False) rfl at_M_wants ⟨_, rfl⟩ rfl rfl ⟨trivial, trivial, trivial, trivial, (Or.inr ⟨wy_pr rfl, fun q => q⟩), trivial, trivial, trivial, trivial⟩ trivial (fun _ _ q => False.elim q) (rwt53 (S := (w_up S 237 167 c)) hX hMb5 hnm ((fb5 282 nms (by unfold lhM; omega)).trans h82) hWl (fun x hx => (fb5 281 _ (by unfold lhM; omega)).trans (h81 x hx))) (fun oq39 Sq39 hp40 q39 => ?_)
              rcases q39 with ⟨rfl, hw39, hf39⟩
              show wJ _ _ _ _ _ _ _ _ _ _
              have hq39 : ∀ (j : Nat) (x : Int), ¬ lhM j x → Sq39 j x = (w_up S 237 167 c) j x := fun j x hj => hf39 j x (lhM_wt hj)
              have fS39 : ∀ (j : Nat) (x : Int), ¬ lhM j x → Sq39 j x = S j x := fun j x hj => (hq39 j x hj).trans (fb5 j x hj)
              refine wa_aload_n (n := 0) rfl ?_
              refine wa_iload (n := 5) rfl ?_
              refine wa_iload (n := 4) rfl ?_
              refine wa_iconst ?_
              have fb6 : ∀ (j : Nat) (x : Int), ¬ lhM j x → Sq39 j x = S j x := fun j x hj => (fS39 j x hj)
              have hMb6 : w_ML Sq39 := ML_w hM fb6 (fun j => lhM_1)
              have hKb6 : KR 261 T n cs ms Sq39 := KR_ag hK (fun j x hj => fb6 j x (by unfold lhM; omega))
              refine wa_cv 237 rfl (wy_pr rfl) wt_237 (M2 := fun _ => False) rfl at_M_collects ⟨_, rfl⟩ rfl rfl ⟨trivial, trivial, trivial, trivial, (Or.inr ⟨wy_pr rfl, fun q => q⟩), trivial, trivial, trivial, trivial⟩ trivial (fun _ _ q => False.elim q) (rco_261 (S := Sq39) (c := c) (st := am) (pc := (-1)) (WW := (wnW ([] : List Int) W)) hMb6 hKb6 hw hO hA hst (by omega) hw39 hc) (fun oq41 Sq41 hp42 q41 => ?_)
              rcases q41 with ⟨rfl, hcd41, hf41⟩
              show wJ _ _ _ _ _ _ _ _ _ _
              have hq41 : ∀ (j : Nat) (x : Int), ¬ lhM j x → Sq41 j x = Sq39 j x := fun j x hj => hf41 j x (lhM_cd hj) (lhM_od hj)
              have fS41 : ∀ (j : Nat) (x : Int), ¬ lhM j x → Sq41 j x = S j x := fun j x hj => (hq41 j x hj).trans (fb6 j x hj)
              rw [hFa] at hcd41
              have hcl41 := hcd41.2.2
              refine wa_aload_n (n := 0) rfl ?_
              refine wb_gfi 237 rfl (wy_pr rfl) wt_237 wf_15_128 (v := ((FA T cs ms os c am 0 (wnW ([] : List Int) W)).length : Int)) (hcd41.1) (fun r43 => ?_)
              refine wa_ifne (w_rg0 (by omega) (by omega)) ⟨_, rfl⟩ (fun c44 => ?_) (fun c44 => ?_)
              · skip
                refine wa_aload_n (n := 0) rfl ?_
                refine wa_aload_n (n := 0) rfl ?_
                refine wb_gf4 237 rfl (wy_pr rfl) wt_237 wf_15_51 (v := 306) wl_237_51 ?_
                refine wa_iload_n (n := 1) rfl ?_
                refine wb_iald 306 rfl (wy_pr rfl) wt_306 (n := 4000) (((hq41 306 (-1) (by unfold lhM; omega)).trans (((hq39 306 (-1) (by unfold lhM; omega)).trans ((w_up_slot (by decide)).trans ((ml_306 hM))))))) (by omega) (by omega) (v := (tl.length : Int)) (((hq41 306 s (by unfold lhM; omega)).trans (((hq39 306 s (by unfold lhM; omega)).trans ((w_up_slot (by decide)).trans (h06)))))) (fun r45 => ?_)
                have fb7 : ∀ (j : Nat) (x : Int), ¬ lhM j x → Sq41 j x = S j x := fun j x hj => (fS41 j x hj)
                have hMb7 : w_ML Sq41 := ML_w hM fb7 (fun j => lhM_1)
                have hKb7 : KR 261 T n cs ms Sq41 := KR_ag hK (fun j x hj => fb7 j x (by unfold lhM; omega))
                refine wa_cv 237 rfl (wy_pr rfl) wt_237 (M2 := fun _ => False) rfl at_M_typesOfEs ⟨_, rfl⟩ rfl rfl ⟨trivial, trivial, trivial, trivial, (Or.inr ⟨wy_pr rfl, fun q => q⟩), trivial, trivial, trivial, trivial⟩ trivial (fun _ _ q => False.elim q) (rty (S := Sq41) (r := r) (tl := tl) hMb7 ((fb7 237 173 (by unfold lhM; omega)).trans h73) hr (rCl_a9 hcl (fun j x hj => fb7 j x (by unfold lhM; omega))) h8) (fun oq46 Sq46 hp47 q46 => ?_)
                rcases q46 with ⟨rfl, ht46, hmn46, hf46⟩
                show wJ _ _ _ _ _ _ _ _ _ _
                have hq46 : ∀ (j : Nat) (x : Int), ¬ lhM j x → Sq46 j x = Sq41 j x := fun j x hj => hf46 j x (lhM_ty hj)
                have fS46 : ∀ (j : Nat) (x : Int), ¬ lhM j x → Sq46 j x = S j x := fun j x hj => (hq46 j x hj).trans (fb7 j x hj)
                have hcd46 : cdI (FA T cs ms os c am 0 (wnW ([] : List Int) W)) Sq46 := cdI_ag hcd41 (fun j x hj => hf46 j x (by unfold tyM; unfold cdM at hj; omega))
                refine wa_aload_n (n := 0) rfl ?_
                refine wa_iload (n := 5) rfl ?_
                refine wa_iload (n := 6) rfl ?_
                refine wa_iload (n := 7) rfl ?_
                refine wa_iload_n (n := 3) rfl ?_
                have fb8 : ∀ (j : Nat) (x : Int), ¬ lhM j x → Sq46 j x = S j x := fun j x hj => (fS46 j x hj)
                have hMb8 : w_ML Sq46 := ML_w hM fb8 (fun j => lhM_1)
                have hKb8 : KR 261 T n cs ms Sq46 := KR_ag hK (fun j x hj => fb8 j x (by unfold lhM; omega))
                have hC48 : rCh T cs ms os N CH wo mo Sq46 := rCh_ag hC (fun j x hj => ((hf46 j x (lh_id hj).2.2.2.1).trans ((hf41 j x (lh_id hj).2.1 (lh_id hj).2.2.1).trans ((hf39 j x (lh_id hj).1).trans (w_up_no (lh_id hj).2.2.2.2)))))
                have hFn : (FA T cs ms os c am 0 (wnW ([] : List Int) W)) ≠ [] := fun z => by have y := hF4.mpr z; omega
                have hqk : qRk T cs ms os N (c, am, 0, (wnW ([] : List Int) W), tl) := ⟨hc, ⟨by show (0 : Int) ≤ am; omega, by show am ≤ (2 : Int); omega⟩, Or.inl rfl, (fun z => absurd z (by show ¬ am = 2; omega)), (fun _ _ => by show wnW ([] : List Int) W ∈ N; rw [show wnW ([] : List Int) W = W from if_pos rfl]; exact hWN), h8, hFn⟩
                have hrc := rcs0_261 (xs := xs) (M := fun _ => False) (d := d + 59) (S := Sq46) (c := c) (am := am) (fs := 0) (md := am) (nc := nms) (WW := (wnW ([] : List Int) W)) (tl := tl) (F := (FA T cs ms os c am 0 (wnW ([] : List Int) W))) hMb8 hKb8 hw hC48 ht46 hqk (by show _ = (if am = 2 then 2 else am + 4 * 0 : Int); rw [if_neg (by omega)]; omega) (by show _ = (if am = 2 then -1 else if (0 : Int) = 1 then _ else ixL N (wnW ([] : List Int) W) : Int); rw [if_neg (by omega), if_neg (by first | decide | omega), show wnW ([] : List Int) W = W from if_pos rfl, hix]) ⟨by omega, by omega⟩ ⟨by omega, by omega⟩ hes hty hcd46 hFm rfl hwo
                rw [← hrv] at hrc
                refine wa_cv 237 rfl (wy_pr rfl) wt_237 (M2 := fun _ => False) rfl at_M_chooses ⟨_, rfl⟩ rfl rfl ⟨trivial, trivial, trivial, trivial, (Or.inr ⟨wy_pr rfl, fun q => q⟩), trivial, trivial, trivial, trivial⟩ trivial (fun _ _ q => False.elim q) (hrc) (fun oq48 Sq48 hp49 q48 => ?_)
                rcases q48 with ⟨ha48, hb48, hcz48, hf48⟩
                have hqx : ∀ (j : Nat) (x : Int), ¬ lhM j x → Sq48 j x = S j x := fun j x hj => (hf48 j x (lhM_cs hj)).trans (fb8 j x hj)
                have e167 : Sq48 237 167 = c := (hf48 237 167 (by unfold csM chM; omega)).trans (((hf46 237 167 (by unfold tyM; omega)).trans ((hf41 237 167 (by unfold cdM; omega) (by unfold odM; omega)).trans ((hf39 237 167 (by unfold wtM; omega)).trans (w_up_same _ _ _ _)))))
                have e172 : Sq48 237 172 = (tl.length : Int) := (hf48 237 172 (by unfold csM chM; omega)).trans hmn46
                have hneg : rv ≠ -1 := fun z => hFn (hr1.mp z)
                by_cases crv : 0 ≤ rv
                · obtain ⟨z1, z2⟩ := ha48 crv
                  subst z1
                  show wJ _ _ _ _ _ _ _ _ _ _
                  refine wa_goto ⟨_, rfl⟩ ?_
                  refine wa_return rfl ?_
                  exact ⟨fun _ => ⟨rfl, z2, e172⟩, fun z => absurd z (by omega), e167, hcz48, hqx⟩
                · obtain ⟨z1, z2, z3⟩ := hb48 (by omega)
                  subst z1
                  refine ⟨rfl, ?_⟩
                  exact ⟨fun z => absurd z (by omega), fun _ => ⟨rfl, by rw [if_neg hneg]; exact z2, z3⟩, e167, hcz48, hqx⟩
              · skip
                refine wa_aload_n (n := 0) rfl ?_
                refine wa_iconst ?_
                refine wa_cv 237 rfl (wy_pr rfl) wt_237 (M2 := fun _ => False) rfl at_M_error ⟨_, rfl⟩ rfl rfl ⟨trivial, trivial, trivial, trivial, (Or.inr ⟨wy_pr rfl, fun q => q⟩), trivial, trivial, trivial, trivial⟩ trivial (fun _ _ q => False.elim q) ?_ (fun _ _ _ q => q)
                refine wa_aload_n (n := 0) rfl ?_
                refine wb_gf4 237 rfl (wy_pr rfl) wt_237 wf_15_1 (v := 238) wl_237_1 ?_
                refine wa_iload_n (n := 1) rfl ?_
                refine wa_iconst ?_
                refine wa_cv 238 rfl (wy_pr rfl) wt_238 (M2 := fun _ => False) rfl at_MH_of ⟨_, rfl⟩ rfl rfl ⟨(Or.inr ⟨wy_pr rfl, fun q => q⟩), trivial, trivial⟩ trivial (fun _ _ q => False.elim q) ?_ (fun _ _ _ q => q)
                refine wa_aload_n (n := 0) rfl ?_
                refine wa_iload_n (n := 1) rfl ?_
                refine wb_pfi 238 rfl (wy_pr rfl) wt_238 wf_11_5 (n := 5) rfl ⟨(by omega), (by omega)⟩ ?_
                refine wa_aload_n (n := 0) rfl ?_
                refine wa_iload_n (n := 2) rfl ?_
                refine wb_pfi 238 rfl (wy_pr rfl) wt_238 wf_11_6 (n := 6) rfl ⟨(by omega), (by omega)⟩ ?_
                refine wa_aload_n (n := 0) rfl ?_
                refine wa_oreturn rfl ?_
                show wJ _ _ _ _ _ _ _ _ _ _
                refine wa_th (j := 238) ?_
                refine ⟨rfl, ?_⟩
                have hFe : (FA T cs ms os c am 0 (wnW ([] : List Int) W)) = [] := hF4.mp (by omega)
                have hrm : rv = -1 := hr1.mpr hFe
                have ech : chN CH wo mo (c, am, 0, (wnW ([] : List Int) W), tl) (FA T cs ms os c am 0 (wnW ([] : List Int) W)) = (CH, wo) := if_pos (Or.inl hFe)
                exact ⟨fun z => absurd z (by omega), fun _ => ⟨rfl, (((w_up_at (by first | decide | omega)).trans (w_up_same _ _ _ _)) : (w_up (w_up Sq41 238 5 4) 238 6 0) 238 5 = _).trans (if_pos (by omega)).symm, (w_up_same _ _ _ _)⟩, ((w_up_no (by omega)).trans ((w_up_no (by omega)).trans ((hf41 237 167 (by unfold cdM; omega) (by unfold odM; omega)).trans ((hf39 237 167 (by unfold wtM; omega)).trans (w_up_same _ _ _ _))))), rCh_ag hC (fun j x hj => ((w_up_no (by unfold chM at hj; omega)).trans ((w_up_no (by unfold chM at hj; omega)).trans ((hf41 j x (lh_id hj).2.1 (lh_id hj).2.2.1).trans ((hf39 j x (lh_id hj).1).trans (w_up_no (by unfold chM at hj; omega))))))), fun j x hj => ((w_up_no (by unfold lhM at hj; omega)).trans ((w_up_no (by unfold lhM at hj; omega)).trans (fS41 j x hj)))⟩
          · skip
            exact absurd c37 (by omega)
        · skip
          exact absurd c36 (by omega)
set_option maxHeartbeats 4000000 in
theorem lhn1_261 {s gk gb c am nms r ct : Int} {W tl : List Int} (hM : w_ML S) (hK : KR 261 T n cs ms S) (hw : wHo cs ms os) (hO : wOs cs os) (hA : wAb cs) (hc : 0 ≤ c ∧ c < (cs.length : Int)) (hst : am = 0 ∨ am = 1) (hs : 0 ≤ s ∧ s < 4000) (h05 : S 305 s = nms) (h74 : S 237 174 = gk) (h75 : S 237 175 = gb) (hgk : (gk = 7 ∧ am = 0 ∧ (0 ≤ gb ∧ gb < 8000) ∧ S 321 gb = c) ∨ (gk = 8 ∧ am = 1 ∧ gb = c)) (h172 : S 237 172 = 0) (hC : rCh T cs ms os N CH wo mo S) (h73 : S 237 173 = r) (hr : 0 ≤ r ∧ r + 1 + (tl.length : Int) ≤ 4200) (hcl : rCl S r tl) (h8 : tl.length ≤ 8) (hes : esOk tl) (hty : ∀ c ∈ tl, c < 9 + (cs.length : Int)) (hwo : wo < 10000000) (h06 : S 306 s = (tl.length : Int)) (ham : am = 1) (hnmr : -2147483648 ≤ nms ∧ nms ≤ 2147483647) (hND : ∀ m q : Int, m ∈ mIx cs c → q ∈ mIx cs c → (hmR ms m).2.1 = 2 → (hmR ms q).2.1 = 2 → (hmR ms m).2.2.2.2.1 = (hmR ms q).2.2.2.2.1 → m = q) : wJ (pe_GA xs) wY0 M (d + 66) t_M_looksAtHost ((pe_at t_M_looksAtHost.bl 0).getD (0, [])).2 [(0, (2, 237)), (1, (0, s)), (2, (0, 6)), (3, (0, 1))] [] S (lrQ T cs ms os N (chN CH wo mo (c, 2, 0, [], tl) (FA T cs ms os c 2 0 [])).1 (chN CH wo mo (c, 2, 0, [], tl) (FA T cs ms os c 2 0 [])).2 mo c (rvA T cs ms os (c, 2, 0, [], tl)) (tl.length : Int) S) := by
  have h13 : S 237 13 = 261 := hK.1
  have h60 := hw.1
  have hFm := FA_v (T := T) (am := 2) (fs := 0) (WW := []) hw hc
  obtain ⟨rv, hrv⟩ : ∃ r : Int, r = (rvA T cs ms os (c, 2, 0, [], tl)) := ⟨_, rfl⟩
  have hrr := rvA_rg (T := T) (q := (c, 2, 0, [], tl)) hw hc
  have hr1 := rv_m1 (T := T) (q := (c, 2, 0, [], tl)) hw hc
  rw [← hrv] at hrr hr1 ⊢
  replace hr1 : rv = -1 ↔ (FA T cs ms os c 2 0 []) = [] := hr1
  have hF4 : (FA T cs ms os c 2 0 []).length = 0 ↔ (FA T cs ms os c 2 0 []) = [] := ⟨fun z => List.eq_nil_of_length_eq_zero z, fun z => by rw [z]; rfl⟩
  have hFa : cdA ms (okM T ms 2 0 (-1) []) [] (mOr cs [c]) = (FA T cs ms os c 2 0 []) := by
    unfold FA
    rw [if_pos (show (2 : Int) = 2 from rfl), if_pos (show (2 : Int) = 2 from rfl), if_neg (show ¬ (2 : Int) = 1 by decide), if_neg (show ¬ (0 : Int) = 1 by decide)]
  refine wa_aload_n (n := 0) rfl ?_
  refine wb_gfi 237 rfl (wy_pr rfl) wt_237 wf_15_174 (v := gk) (h74) (fun r11 => ?_)
  refine wa_bipush (w_rg2 (by omega) (by omega)) ?_
  refine wa_icmpne (w_rg0 (by omega) (by omega)) (w_rg0 (by omega) (by omega)) ⟨_, rfl⟩ (fun c12 => ?_) (fun c12 => ?_)
  · skip
    exfalso; omega
  · skip
    refine wa_iconst ?_
    refine wa_goto ⟨_, rfl⟩ ?_
    refine wJ_top (show 1 = am by omega) ?_
    refine wa_istore (n := 4) rfl ?_
    refine wa_iload (n := 4) rfl ?_
    refine wa_ifeq (w_rg0 (by omega) (by omega)) ⟨_, rfl⟩ (fun c13 => ?_) (fun c13 => ?_)
    · skip
      exfalso; omega
    · skip
      have hgbc : gb = c := by omega
      refine wa_aload_n (n := 0) rfl ?_
      refine wb_gfl 237 rfl (wy_pr rfl) wt_237 wf_15_175 (v := gb) (h75) (fun r14 => ?_)
      refine wb_l2i_r (wb_l2i_id ⟨(by omega), (by omega)⟩) ?_
      refine wa_goto ⟨_, rfl⟩ ?_
      refine wJ_top (show gb = c by omega) ?_
      refine wa_istore (n := 5) rfl ?_
      refine wa_iload (n := 4) rfl ?_
      refine wa_ifeq (w_rg0 (by omega) (by omega)) ⟨_, rfl⟩ (fun c15 => ?_) (fun c15 => ?_)
      · skip
        exact absurd c15 (by omega)
      · skip
        refine wa_iconst ?_
        refine wa_goto ⟨_, rfl⟩ ?_
        refine wJ_top (show 1 = am by omega) ?_
        refine wa_istore (n := 6) rfl ?_
        refine wa_aload_n (n := 0) rfl ?_
        refine wa_iload (n := 5) rfl ?_
        refine wb_pfi 237 rfl (wy_pr rfl) wt_237 wf_15_167 (n := 167) rfl ⟨(by omega), (by omega)⟩ ?_
        refine wa_aload_n (n := 0) rfl ?_
        refine wb_gf4 237 rfl (wy_pr rfl) wt_237 wf_15_50 (v := 305) wl_237_50 ?_
        refine wa_iload_n (n := 1) rfl ?_
        refine wb_iald 305 rfl (wy_pr rfl) wt_305 (n := 4000) ((w_up_slot (by decide)).trans ((ml_305 hM))) (by omega) (by omega) (v := nms) ((w_up_slot (by decide)).trans (h05)) (fun r16 => ?_)
        refine wa_istore (n := 7) rfl ?_
        refine wa_iload_n (n := 2) rfl ?_
        refine wa_ifne (w_rg0 (by omega) (by omega)) ⟨_, rfl⟩ (fun c17 => ?_) (fun c17 => ?_)
        · skip
          refine wa_iload_n (n := 2) rfl ?_
          refine wa_iconst ?_
          refine wa_icmpne (w_rg0 (by omega) (by omega)) (w_rg0 (by omega) (by omega)) ⟨_, rfl⟩ (fun c18 => ?_) (fun c18 => ?_)
          · skip
            refine wa_iload_n (n := 2) rfl ?_
            refine wa_iconst ?_
            refine wa_icmpne (w_rg0 (by omega) (by omega)) (w_rg0 (by omega) (by omega)) ⟨_, rfl⟩ (fun c19 => ?_) (fun c19 => ?_)
            · skip
              refine wa_iload_n (n := 2) rfl ?_
              refine wa_bipush (w_rg2 (by omega) (by omega)) ?_
              refine wa_icmpne (w_rg0 (by omega) (by omega)) (w_rg0 (by omega) (by omega)) ⟨_, rfl⟩ (fun c20 => ?_) (fun c20 => ?_)
              · skip
                exact absurd c20 (by omega)
              · skip
                refine wa_iload (n := 4) rfl ?_
                refine wa_ifeq (w_rg0 (by omega) (by omega)) ⟨_, rfl⟩ (fun c21 => ?_) (fun c21 => ?_)
                · skip
                  exact absurd c21 (by omega)
                · skip
                  refine wa_aload_n (n := 0) rfl ?_
                  refine wa_iload (n := 5) rfl ?_
                  have fb1 : ∀ (j : Nat) (x : Int), ¬ lhM j x → (w_up S 237 167 c) j x = S j x := fun j x hj => (w_up_no (by unfold lhM at hj; omega))
                  have hMb1 : w_ML (w_up S 237 167 c) := ML_w hM fb1 (fun j => lhM_1)
                  have hKb1 : KR 261 T n cs ms (w_up S 237 167 c) := KR_ag hK (fun j x hj => fb1 j x (by unfold lhM; omega))
                  refine wa_cv 237 rfl (wy_pr rfl) wt_237 (M2 := fun _ => False) rfl at_M_collectsMakers ⟨_, rfl⟩ rfl rfl ⟨trivial, trivial, trivial, trivial, (Or.inr ⟨wy_pr rfl, fun q => q⟩), trivial, trivial, trivial, trivial⟩ trivial (fun _ _ q => False.elim q) (rcm_261 (d := d + 62) (S := (w_up S 237 167 c)) (c := c) hMb1 hKb1 hw hc hND) (fun oq22 Sq22 hp23 q22 => ?_)
                  rcases q22 with ⟨rfl, hcd22, hf22⟩
                  show wJ _ _ _ _ _ _ _ _ _ _
                  have hq22 : ∀ (j : Nat) (x : Int), ¬ lhM j x → Sq22 j x = (w_up S 237 167 c) j x := fun j x hj => hf22 j x (lhM_cd hj)
                  have fS22 : ∀ (j : Nat) (x : Int), ¬ lhM j x → Sq22 j x = S j x := fun j x hj => (hq22 j x hj).trans (fb1 j x hj)
                  rw [hFa] at hcd22
                  have hcl22 := hcd22.2.2
                  refine wa_aload_n (n := 0) rfl ?_
                  refine wb_gfi 237 rfl (wy_pr rfl) wt_237 wf_15_128 (v := ((FA T cs ms os c 2 0 []).length : Int)) (hcd22.1) (fun r24 => ?_)
                  refine wa_ifne (w_rg0 (by omega) (by omega)) ⟨_, rfl⟩ (fun c25 => ?_) (fun c25 => ?_)
                  · skip
                    refine wa_aload_n (n := 0) rfl ?_
                    refine wa_aload_n (n := 0) rfl ?_
                    refine wb_gf4 237 rfl (wy_pr rfl) wt_237 wf_15_51 (v := 306) wl_237_51 ?_
                    refine wa_iload_n (n := 1) rfl ?_
                    refine wb_iald 306 rfl (wy_pr rfl) wt_306 (n := 4000) (((hq22 306 (-1) (by unfold lhM; omega)).trans ((w_up_slot (by decide)).trans ((ml_306 hM))))) (by omega) (by omega) (v := (tl.length : Int)) (((hq22 306 s (by unfold lhM; omega)).trans ((w_up_slot (by decide)).trans (h06)))) (fun r26 => ?_)
                    have fb2 : ∀ (j : Nat) (x : Int), ¬ lhM j x → Sq22 j x = S j x := fun j x hj => (fS22 j x hj)
                    have hMb2 : w_ML Sq22 := ML_w hM fb2 (fun j => lhM_1)
                    have hKb2 : KR 261 T n cs ms Sq22 := KR_ag hK (fun j x hj => fb2 j x (by unfold lhM; omega))
                    refine wa_cv 237 rfl (wy_pr rfl) wt_237 (M2 := fun _ => False) rfl at_M_typesOfEs ⟨_, rfl⟩ rfl rfl ⟨trivial, trivial, trivial, trivial, (Or.inr ⟨wy_pr rfl, fun q => q⟩), trivial, trivial, trivial, trivial⟩ trivial (fun _ _ q => False.elim q) (rty (S := Sq22) (r := r) (tl := tl) hMb2 ((fb2 237 173 (by unfold lhM; omega)).trans h73) hr (rCl_a9 hcl (fun j x hj => fb2 j x (by unfold lhM; omega))) h8) (fun oq27 Sq27 hp28 q27 => ?_)
                    rcases q27 with ⟨rfl, ht27, hmn27, hf27⟩
                    show wJ _ _ _ _ _ _ _ _ _ _
                    have hq27 : ∀ (j : Nat) (x : Int), ¬ lhM j x → Sq27 j x = Sq22 j x := fun j x hj => hf27 j x (lhM_ty hj)
                    have fS27 : ∀ (j : Nat) (x : Int), ¬ lhM j x → Sq27 j x = S j x := fun j x hj => (hq27 j x hj).trans (fb2 j x hj)
                    have hcd27 : cdI (FA T cs ms os c 2 0 []) Sq27 := cdI_ag hcd22 (fun j x hj => hf27 j x (by unfold tyM; unfold cdM at hj; omega))
                    refine wa_aload_n (n := 0) rfl ?_
                    refine wa_iload (n := 5) rfl ?_
                    refine wa_iconst ?_
                    refine wa_iconst ?_
                    refine wa_iload_n (n := 3) rfl ?_
                    have fb3 : ∀ (j : Nat) (x : Int), ¬ lhM j x → Sq27 j x = S j x := fun j x hj => (fS27 j x hj)
                    have hMb3 : w_ML Sq27 := ML_w hM fb3 (fun j => lhM_1)
                    have hKb3 : KR 261 T n cs ms Sq27 := KR_ag hK (fun j x hj => fb3 j x (by unfold lhM; omega))
                    have hC29 : rCh T cs ms os N CH wo mo Sq27 := rCh_ag hC (fun j x hj => ((hf27 j x (lh_id hj).2.2.2.1).trans ((hf22 j x (lh_id hj).2.1).trans (w_up_no (lh_id hj).2.2.2.2))))
                    have hFn : (FA T cs ms os c 2 0 []) ≠ [] := fun z => by have y := hF4.mpr z; omega
                    have hqk : qRk T cs ms os N (c, 2, 0, [], tl) := ⟨hc, ⟨by show (0 : Int) ≤ 2; omega, by show 2 ≤ (2 : Int); omega⟩, Or.inl rfl, (fun _ => ⟨rfl, rfl⟩), (fun z => absurd rfl z), h8, hFn⟩
                    have hrc := rcs1_261 (xs := xs) (M := fun _ => False) (d := d + 59) (S := Sq27) (c := c) (am := 2) (fs := 0) (md := 2) (nc := (-1)) (WW := []) (tl := tl) (F := (FA T cs ms os c 2 0 [])) hMb3 hKb3 hw hC29 ht27 hqk rfl rfl ⟨by omega, by omega⟩ ⟨by omega, by omega⟩ hes hty hcd27 hFm rfl hwo
                    rw [← hrv] at hrc
                    refine wa_cv 237 rfl (wy_pr rfl) wt_237 (M2 := fun _ => False) rfl at_M_chooses ⟨_, rfl⟩ rfl rfl ⟨trivial, trivial, trivial, trivial, (Or.inr ⟨wy_pr rfl, fun q => q⟩), trivial, trivial, trivial, trivial⟩ trivial (fun _ _ q => False.elim q) (hrc) (fun oq29 Sq29 hp30 q29 => ?_)
                    rcases q29 with ⟨ha29, hb29, hcz29, hf29⟩
                    have hqx : ∀ (j : Nat) (x : Int), ¬ lhM j x → Sq29 j x = S j x := fun j x hj => (hf29 j x (lhM_cs hj)).trans (fb3 j x hj)
                    have e167 : Sq29 237 167 = c := (hf29 237 167 (by unfold csM chM; omega)).trans (((hf27 237 167 (by unfold tyM; omega)).trans ((hf22 237 167 (by unfold cdM; omega)).trans (w_up_same _ _ _ _))))
                    have e172 : Sq29 237 172 = (tl.length : Int) := (hf29 237 172 (by unfold csM chM; omega)).trans hmn27
                    have hneg : rv ≠ -1 := fun z => hFn (hr1.mp z)
                    by_cases crv : 0 ≤ rv
                    · obtain ⟨z1, z2⟩ := ha29 crv
                      subst z1
                      show wJ _ _ _ _ _ _ _ _ _ _
                      refine wa_goto ⟨_, rfl⟩ ?_
                      refine wa_return rfl ?_
                      exact ⟨fun _ => ⟨rfl, z2, e172⟩, fun z => absurd z (by omega), e167, hcz29, hqx⟩
                    · obtain ⟨z1, z2, z3⟩ := hb29 (by omega)
                      subst z1
                      refine ⟨rfl, ?_⟩
                      exact ⟨fun z => absurd z (by omega), fun _ => ⟨rfl, by rw [if_neg hneg]; exact z2, z3⟩, e167, hcz29, hqx⟩
                  · skip
                    refine wa_aload_n (n := 0) rfl ?_
                    refine wa_iconst ?_
                    refine wa_cv 237 rfl (wy_pr rfl) wt_237 (M2 := fun _ => False) rfl at_M_error ⟨_, rfl⟩ rfl rfl ⟨trivial, trivial, trivial, trivial, (Or.inr ⟨wy_pr rfl, fun q => q⟩), trivial, trivial, trivial, trivial⟩ trivial (fun _ _ q => False.elim q) ?_ (fun _ _ _ q => q)
                    refine wa_aload_n (n := 0) rfl ?_
                    refine wb_gf4 237 rfl (wy_pr rfl) wt_237 wf_15_1 (v := 238) wl_237_1 ?_
                    refine wa_iload_n (n := 1) rfl ?_
                    refine wa_iconst ?_
                    refine wa_cv 238 rfl (wy_pr rfl) wt_238 (M2 := fun _ => False) rfl at_MH_of ⟨_, rfl⟩ rfl rfl ⟨(Or.inr ⟨wy_pr rfl, fun q => q⟩), trivial, trivial⟩ trivial (fun _ _ q => False.elim q) ?_ (fun _ _ _ q => q)
                    refine wa_aload_n (n := 0) rfl ?_
                    refine wa_iload_n (n := 1) rfl ?_
                    refine wb_pfi 238 rfl (wy_pr rfl) wt_238 wf_11_5 (n := 5) rfl ⟨(by omega), (by omega)⟩ ?_
                    refine wa_aload_n (n := 0) rfl ?_
                    refine wa_iload_n (n := 2) rfl ?_
                    refine wb_pfi 238 rfl (wy_pr rfl) wt_238 wf_11_6 (n := 6) rfl ⟨(by omega), (by omega)⟩ ?_
                    refine wa_aload_n (n := 0) rfl ?_
                    refine wa_oreturn rfl ?_
                    show wJ _ _ _ _ _ _ _ _ _ _
                    refine wa_th (j := 238) ?_
                    refine ⟨rfl, ?_⟩
                    have hFe : (FA T cs ms os c 2 0 []) = [] := hF4.mp (by omega)
                    have hrm : rv = -1 := hr1.mpr hFe
                    have ech : chN CH wo mo (c, 2, 0, [], tl) (FA T cs ms os c 2 0 []) = (CH, wo) := if_pos (Or.inl hFe)
                    rw [ech]
                    exact ⟨fun z => absurd z (by omega), fun _ => ⟨rfl, (((w_up_at (by first | decide | omega)).trans (w_up_same _ _ _ _)) : (w_up (w_up Sq22 238 5 4) 238 6 0) 238 5 = _).trans (if_pos (by omega)).symm, (w_up_same _ _ _ _)⟩, ((w_up_no (by omega)).trans ((w_up_no (by omega)).trans ((hf22 237 167 (by unfold cdM; omega)).trans (w_up_same _ _ _ _)))), rCh_ag hC (fun j x hj => ((w_up_no (by unfold chM at hj; omega)).trans ((w_up_no (by unfold chM at hj; omega)).trans ((hf22 j x (lh_id hj).2.1).trans (w_up_no (by unfold chM at hj; omega)))))), fun j x hj => ((w_up_no (by unfold lhM at hj; omega)).trans ((w_up_no (by unfold lhM at hj; omega)).trans (fS22 j x hj)))⟩
            · skip
              exact absurd c19 (by omega)
          · skip
            exact absurd c18 (by omega)
        · skip
          exact absurd c17 (by omega)
set_option maxHeartbeats 4000000 in
theorem lhn0_261 {s gk gb c am nms r ct : Int} {W tl : List Int} (hM : w_ML S) (hK : KR 261 T n cs ms S) (hw : wHo cs ms os) (hO : wOs cs os) (hA : wAb cs) (hc : 0 ≤ c ∧ c < (cs.length : Int)) (hst : am = 0 ∨ am = 1) (hs : 0 ≤ s ∧ s < 4000) (h05 : S 305 s = nms) (h74 : S 237 174 = gk) (h75 : S 237 175 = gb) (hgk : (gk = 7 ∧ am = 0 ∧ (0 ≤ gb ∧ gb < 8000) ∧ S 321 gb = c) ∨ (gk = 8 ∧ am = 1 ∧ gb = c)) (h172 : S 237 172 = 0) (hC : rCh T cs ms os N CH wo mo S) (h73 : S 237 173 = r) (hr : 0 ≤ r ∧ r + 1 + (tl.length : Int) ≤ 4200) (hcl : rCl S r tl) (h8 : tl.length ≤ 8) (hes : esOk tl) (hty : ∀ c ∈ tl, c < 9 + (cs.length : Int)) (hwo : wo < 10000000) (h06 : S 306 s = (tl.length : Int)) (ham : am = 1) (hnmr : -2147483648 ≤ nms ∧ nms ≤ 2147483647) (hND : ∀ m q : Int, m ∈ mIx cs c → q ∈ mIx cs c → (hmR ms m).2.1 = 2 → (hmR ms q).2.1 = 2 → (hmR ms m).2.2.2.2.1 = (hmR ms q).2.2.2.2.1 → m = q) : wJ (pe_GA xs) wY0 M (d + 66) t_M_looksAtHost ((pe_at t_M_looksAtHost.bl 0).getD (0, [])).2 [(0, (2, 237)), (1, (0, s)), (2, (0, 6)), (3, (0, 0))] [] S (lrQ T cs ms os N CH wo mo c (rvA T cs ms os (c, 2, 0, [], tl)) (tl.length : Int) S) := by
  have h13 : S 237 13 = 261 := hK.1
  have h60 := hw.1
  have hFm := FA_v (T := T) (am := 2) (fs := 0) (WW := []) hw hc
  obtain ⟨rv, hrv⟩ : ∃ r : Int, r = (rvA T cs ms os (c, 2, 0, [], tl)) := ⟨_, rfl⟩
  have hrr := rvA_rg (T := T) (q := (c, 2, 0, [], tl)) hw hc
  have hr1 := rv_m1 (T := T) (q := (c, 2, 0, [], tl)) hw hc
  rw [← hrv] at hrr hr1 ⊢
  replace hr1 : rv = -1 ↔ (FA T cs ms os c 2 0 []) = [] := hr1
  have hF4 : (FA T cs ms os c 2 0 []).length = 0 ↔ (FA T cs ms os c 2 0 []) = [] := ⟨fun z => List.eq_nil_of_length_eq_zero z, fun z => by rw [z]; rfl⟩
  have hFa : cdA ms (okM T ms 2 0 (-1) []) [] (mOr cs [c]) = (FA T cs ms os c 2 0 []) := by
    unfold FA
    rw [if_pos (show (2 : Int) = 2 from rfl), if_pos (show (2 : Int) = 2 from rfl), if_neg (show ¬ (2 : Int) = 1 by decide), if_neg (show ¬ (0 : Int) = 1 by decide)]
  refine wa_aload_n (n := 0) rfl ?_
  refine wb_gfi 237 rfl (wy_pr rfl) wt_237 wf_15_174 (v := gk) (h74) (fun r11 => ?_)
  refine wa_bipush (w_rg2 (by omega) (by omega)) ?_
  refine wa_icmpne (w_rg0 (by omega) (by omega)) (w_rg0 (by omega) (by omega)) ⟨_, rfl⟩ (fun c12 => ?_) (fun c12 => ?_)
  · skip
    exfalso; omega
  · skip
    refine wa_iconst ?_
    refine wa_goto ⟨_, rfl⟩ ?_
    refine wJ_top (show 1 = am by omega) ?_
    refine wa_istore (n := 4) rfl ?_
    refine wa_iload (n := 4) rfl ?_
    refine wa_ifeq (w_rg0 (by omega) (by omega)) ⟨_, rfl⟩ (fun c13 => ?_) (fun c13 => ?_)
    · skip
      exfalso; omega
    · skip
      have hgbc : gb = c := by omega
      refine wa_aload_n (n := 0) rfl ?_
      refine wb_gfl 237 rfl (wy_pr rfl) wt_237 wf_15_175 (v := gb) (h75) (fun r14 => ?_)
      refine wb_l2i_r (wb_l2i_id ⟨(by omega), (by omega)⟩) ?_
      refine wa_goto ⟨_, rfl⟩ ?_
      refine wJ_top (show gb = c by omega) ?_
      refine wa_istore (n := 5) rfl ?_
      refine wa_iload (n := 4) rfl ?_
      refine wa_ifeq (w_rg0 (by omega) (by omega)) ⟨_, rfl⟩ (fun c15 => ?_) (fun c15 => ?_)
      · skip
        exact absurd c15 (by omega)
      · skip
        refine wa_iconst ?_
        refine wa_goto ⟨_, rfl⟩ ?_
        refine wJ_top (show 1 = am by omega) ?_
        refine wa_istore (n := 6) rfl ?_
        refine wa_aload_n (n := 0) rfl ?_
        refine wa_iload (n := 5) rfl ?_
        refine wb_pfi 237 rfl (wy_pr rfl) wt_237 wf_15_167 (n := 167) rfl ⟨(by omega), (by omega)⟩ ?_
        refine wa_aload_n (n := 0) rfl ?_
        refine wb_gf4 237 rfl (wy_pr rfl) wt_237 wf_15_50 (v := 305) wl_237_50 ?_
        refine wa_iload_n (n := 1) rfl ?_
        refine wb_iald 305 rfl (wy_pr rfl) wt_305 (n := 4000) ((w_up_slot (by decide)).trans ((ml_305 hM))) (by omega) (by omega) (v := nms) ((w_up_slot (by decide)).trans (h05)) (fun r16 => ?_)
        refine wa_istore (n := 7) rfl ?_
        refine wa_iload_n (n := 2) rfl ?_
        refine wa_ifne (w_rg0 (by omega) (by omega)) ⟨_, rfl⟩ (fun c17 => ?_) (fun c17 => ?_)
        · skip
          refine wa_iload_n (n := 2) rfl ?_
          refine wa_iconst ?_
          refine wa_icmpne (w_rg0 (by omega) (by omega)) (w_rg0 (by omega) (by omega)) ⟨_, rfl⟩ (fun c18 => ?_) (fun c18 => ?_)
          · skip
            refine wa_iload_n (n := 2) rfl ?_
            refine wa_iconst ?_
            refine wa_icmpne (w_rg0 (by omega) (by omega)) (w_rg0 (by omega) (by omega)) ⟨_, rfl⟩ (fun c19 => ?_) (fun c19 => ?_)
            · skip
              refine wa_iload_n (n := 2) rfl ?_
              refine wa_bipush (w_rg2 (by omega) (by omega)) ?_
              refine wa_icmpne (w_rg0 (by omega) (by omega)) (w_rg0 (by omega) (by omega)) ⟨_, rfl⟩ (fun c20 => ?_) (fun c20 => ?_)
              · skip
                exact absurd c20 (by omega)
              · skip
                refine wa_iload (n := 4) rfl ?_
                refine wa_ifeq (w_rg0 (by omega) (by omega)) ⟨_, rfl⟩ (fun c21 => ?_) (fun c21 => ?_)
                · skip
                  exact absurd c21 (by omega)
                · skip
                  refine wa_aload_n (n := 0) rfl ?_
                  refine wa_iload (n := 5) rfl ?_
                  have fb1 : ∀ (j : Nat) (x : Int), ¬ lhM j x → (w_up S 237 167 c) j x = S j x := fun j x hj => (w_up_no (by unfold lhM at hj; omega))
                  have hMb1 : w_ML (w_up S 237 167 c) := ML_w hM fb1 (fun j => lhM_1)
                  have hKb1 : KR 261 T n cs ms (w_up S 237 167 c) := KR_ag hK (fun j x hj => fb1 j x (by unfold lhM; omega))
                  refine wa_cv 237 rfl (wy_pr rfl) wt_237 (M2 := fun _ => False) rfl at_M_collectsMakers ⟨_, rfl⟩ rfl rfl ⟨trivial, trivial, trivial, trivial, (Or.inr ⟨wy_pr rfl, fun q => q⟩), trivial, trivial, trivial, trivial⟩ trivial (fun _ _ q => False.elim q) (rcm_261 (d := d + 62) (S := (w_up S 237 167 c)) (c := c) hMb1 hKb1 hw hc hND) (fun oq22 Sq22 hp23 q22 => ?_)
                  rcases q22 with ⟨rfl, hcd22, hf22⟩
                  show wJ _ _ _ _ _ _ _ _ _ _
                  have hq22 : ∀ (j : Nat) (x : Int), ¬ lhM j x → Sq22 j x = (w_up S 237 167 c) j x := fun j x hj => hf22 j x (lhM_cd hj)
                  have fS22 : ∀ (j : Nat) (x : Int), ¬ lhM j x → Sq22 j x = S j x := fun j x hj => (hq22 j x hj).trans (fb1 j x hj)
                  rw [hFa] at hcd22
                  have hcl22 := hcd22.2.2
                  refine wa_aload_n (n := 0) rfl ?_
                  refine wb_gfi 237 rfl (wy_pr rfl) wt_237 wf_15_128 (v := ((FA T cs ms os c 2 0 []).length : Int)) (hcd22.1) (fun r24 => ?_)
                  refine wa_ifne (w_rg0 (by omega) (by omega)) ⟨_, rfl⟩ (fun c25 => ?_) (fun c25 => ?_)
                  · skip
                    refine wa_aload_n (n := 0) rfl ?_
                    refine wa_aload_n (n := 0) rfl ?_
                    refine wb_gf4 237 rfl (wy_pr rfl) wt_237 wf_15_51 (v := 306) wl_237_51 ?_
                    refine wa_iload_n (n := 1) rfl ?_
                    refine wb_iald 306 rfl (wy_pr rfl) wt_306 (n := 4000) (((hq22 306 (-1) (by unfold lhM; omega)).trans ((w_up_slot (by decide)).trans ((ml_306 hM))))) (by omega) (by omega) (v := (tl.length : Int)) (((hq22 306 s (by unfold lhM; omega)).trans ((w_up_slot (by decide)).trans (h06)))) (fun r26 => ?_)
                    have fb2 : ∀ (j : Nat) (x : Int), ¬ lhM j x → Sq22 j x = S j x := fun j x hj => (fS22 j x hj)
                    have hMb2 : w_ML Sq22 := ML_w hM fb2 (fun j => lhM_1)
                    have hKb2 : KR 261 T n cs ms Sq22 := KR_ag hK (fun j x hj => fb2 j x (by unfold lhM; omega))
                    refine wa_cv 237 rfl (wy_pr rfl) wt_237 (M2 := fun _ => False) rfl at_M_typesOfEs ⟨_, rfl⟩ rfl rfl ⟨trivial, trivial, trivial, trivial, (Or.inr ⟨wy_pr rfl, fun q => q⟩), trivial, trivial, trivial, trivial⟩ trivial (fun _ _ q => False.elim q) (rty (S := Sq22) (r := r) (tl := tl) hMb2 ((fb2 237 173 (by unfold lhM; omega)).trans h73) hr (rCl_a9 hcl (fun j x hj => fb2 j x (by unfold lhM; omega))) h8) (fun oq27 Sq27 hp28 q27 => ?_)
                    rcases q27 with ⟨rfl, ht27, hmn27, hf27⟩
                    show wJ _ _ _ _ _ _ _ _ _ _
                    have hq27 : ∀ (j : Nat) (x : Int), ¬ lhM j x → Sq27 j x = Sq22 j x := fun j x hj => hf27 j x (lhM_ty hj)
                    have fS27 : ∀ (j : Nat) (x : Int), ¬ lhM j x → Sq27 j x = S j x := fun j x hj => (hq27 j x hj).trans (fb2 j x hj)
                    have hcd27 : cdI (FA T cs ms os c 2 0 []) Sq27 := cdI_ag hcd22 (fun j x hj => hf27 j x (by unfold tyM; unfold cdM at hj; omega))
                    refine wa_aload_n (n := 0) rfl ?_
                    refine wa_iload (n := 5) rfl ?_
                    refine wa_iconst ?_
                    refine wa_iconst ?_
                    refine wa_iload_n (n := 3) rfl ?_
                    have fb3 : ∀ (j : Nat) (x : Int), ¬ lhM j x → Sq27 j x = S j x := fun j x hj => (fS27 j x hj)
                    have hMb3 : w_ML Sq27 := ML_w hM fb3 (fun j => lhM_1)
                    have hKb3 : KR 261 T n cs ms Sq27 := KR_ag hK (fun j x hj => fb3 j x (by unfold lhM; omega))
                    have hC29 : rCh T cs ms os N CH wo mo Sq27 := rCh_ag hC (fun j x hj => ((hf27 j x (lh_id hj).2.2.2.1).trans ((hf22 j x (lh_id hj).2.1).trans (w_up_no (lh_id hj).2.2.2.2))))
                    have hFn : (FA T cs ms os c 2 0 []) ≠ [] := fun z => by have y := hF4.mpr z; omega
                    have hqk : qRk T cs ms os N (c, 2, 0, [], tl) := ⟨hc, ⟨by show (0 : Int) ≤ 2; omega, by show 2 ≤ (2 : Int); omega⟩, Or.inl rfl, (fun _ => ⟨rfl, rfl⟩), (fun z => absurd rfl z), h8, hFn⟩
                    have hrc := rcs0_261 (xs := xs) (M := fun _ => False) (d := d + 59) (S := Sq27) (c := c) (am := 2) (fs := 0) (md := 2) (nc := (-1)) (WW := []) (tl := tl) (F := (FA T cs ms os c 2 0 [])) hMb3 hKb3 hw hC29 ht27 hqk rfl rfl ⟨by omega, by omega⟩ ⟨by omega, by omega⟩ hes hty hcd27 hFm rfl hwo
                    rw [← hrv] at hrc
                    refine wa_cv 237 rfl (wy_pr rfl) wt_237 (M2 := fun _ => False) rfl at_M_chooses ⟨_, rfl⟩ rfl rfl ⟨trivial, trivial, trivial, trivial, (Or.inr ⟨wy_pr rfl, fun q => q⟩), trivial, trivial, trivial, trivial⟩ trivial (fun _ _ q => False.elim q) (hrc) (fun oq29 Sq29 hp30 q29 => ?_)
                    rcases q29 with ⟨ha29, hb29, hcz29, hf29⟩
                    have hqx : ∀ (j : Nat) (x : Int), ¬ lhM j x → Sq29 j x = S j x := fun j x hj => (hf29 j x (lhM_cs hj)).trans (fb3 j x hj)
                    have e167 : Sq29 237 167 = c := (hf29 237 167 (by unfold csM chM; omega)).trans (((hf27 237 167 (by unfold tyM; omega)).trans ((hf22 237 167 (by unfold cdM; omega)).trans (w_up_same _ _ _ _))))
                    have e172 : Sq29 237 172 = (tl.length : Int) := (hf29 237 172 (by unfold csM chM; omega)).trans hmn27
                    have hneg : rv ≠ -1 := fun z => hFn (hr1.mp z)
                    by_cases crv : 0 ≤ rv
                    · obtain ⟨z1, z2⟩ := ha29 crv
                      subst z1
                      show wJ _ _ _ _ _ _ _ _ _ _
                      refine wa_goto ⟨_, rfl⟩ ?_
                      refine wa_return rfl ?_
                      exact ⟨fun _ => ⟨rfl, z2, e172⟩, fun z => absurd z (by omega), e167, hcz29, hqx⟩
                    · obtain ⟨z1, z2, z3⟩ := hb29 (by omega)
                      subst z1
                      refine ⟨rfl, ?_⟩
                      exact ⟨fun z => absurd z (by omega), fun _ => ⟨rfl, by rw [if_neg hneg]; exact z2, z3⟩, e167, hcz29, hqx⟩
                  · skip
                    refine wa_aload_n (n := 0) rfl ?_
                    refine wa_iconst ?_
                    refine wa_cv 237 rfl (wy_pr rfl) wt_237 (M2 := fun _ => False) rfl at_M_error ⟨_, rfl⟩ rfl rfl ⟨trivial, trivial, trivial, trivial, (Or.inr ⟨wy_pr rfl, fun q => q⟩), trivial, trivial, trivial, trivial⟩ trivial (fun _ _ q => False.elim q) ?_ (fun _ _ _ q => q)
                    refine wa_aload_n (n := 0) rfl ?_
                    refine wb_gf4 237 rfl (wy_pr rfl) wt_237 wf_15_1 (v := 238) wl_237_1 ?_
                    refine wa_iload_n (n := 1) rfl ?_
                    refine wa_iconst ?_
                    refine wa_cv 238 rfl (wy_pr rfl) wt_238 (M2 := fun _ => False) rfl at_MH_of ⟨_, rfl⟩ rfl rfl ⟨(Or.inr ⟨wy_pr rfl, fun q => q⟩), trivial, trivial⟩ trivial (fun _ _ q => False.elim q) ?_ (fun _ _ _ q => q)
                    refine wa_aload_n (n := 0) rfl ?_
                    refine wa_iload_n (n := 1) rfl ?_
                    refine wb_pfi 238 rfl (wy_pr rfl) wt_238 wf_11_5 (n := 5) rfl ⟨(by omega), (by omega)⟩ ?_
                    refine wa_aload_n (n := 0) rfl ?_
                    refine wa_iload_n (n := 2) rfl ?_
                    refine wb_pfi 238 rfl (wy_pr rfl) wt_238 wf_11_6 (n := 6) rfl ⟨(by omega), (by omega)⟩ ?_
                    refine wa_aload_n (n := 0) rfl ?_
                    refine wa_oreturn rfl ?_
                    show wJ _ _ _ _ _ _ _ _ _ _
                    refine wa_th (j := 238) ?_
                    refine ⟨rfl, ?_⟩
                    have hFe : (FA T cs ms os c 2 0 []) = [] := hF4.mp (by omega)
                    have hrm : rv = -1 := hr1.mpr hFe
                    have ech : chN CH wo mo (c, 2, 0, [], tl) (FA T cs ms os c 2 0 []) = (CH, wo) := if_pos (Or.inl hFe)
                    exact ⟨fun z => absurd z (by omega), fun _ => ⟨rfl, (((w_up_at (by first | decide | omega)).trans (w_up_same _ _ _ _)) : (w_up (w_up Sq22 238 5 4) 238 6 0) 238 5 = _).trans (if_pos (by omega)).symm, (w_up_same _ _ _ _)⟩, ((w_up_no (by omega)).trans ((w_up_no (by omega)).trans ((hf22 237 167 (by unfold cdM; omega)).trans (w_up_same _ _ _ _)))), rCh_ag hC (fun j x hj => ((w_up_no (by unfold chM at hj; omega)).trans ((w_up_no (by unfold chM at hj; omega)).trans ((hf22 j x (lh_id hj).2.1).trans (w_up_no (by unfold chM at hj; omega)))))), fun j x hj => ((w_up_no (by unfold lhM at hj; omega)).trans ((w_up_no (by unfold lhM at hj; omega)).trans (fS22 j x hj)))⟩
            · skip
              exact absurd c19 (by omega)
          · skip
            exact absurd c18 (by omega)
        · skip
          exact absurd c17 (by omega)
theorem lhx_261 {s kd gk gb c am nms ct : Int} (hM : w_ML S) (hs : 0 ≤ s ∧ s < 4000) (h05 : S 305 s = nms) (h74 : S 237 174 = gk) (h75 : S 237 175 = gb) (hc : 0 ≤ c ∧ c < 60) (hgk : (gk = 7 ∧ am = 0 ∧ (0 ≤ gb ∧ gb < 8000) ∧ S 321 gb = c) ∨ (gk = 8 ∧ am = 1 ∧ gb = c)) (hkd : 2 ≤ kd ∧ kd ≤ 6 ∧ kd ≠ 5 ∧ (kd = 6 → am = 0)) : wJ (pe_GA xs) wY0 M (d + 66) t_M_looksAtHost ((pe_at t_M_looksAtHost.bl 0).getD (0, [])).2 [(0, (2, 237)), (1, (0, s)), (2, (0, kd)), (3, (0, ct))] [] S (fun o Z => o = .inr 238 ∧ hZ 5 (w_up S 237 167 c) = Z) := by
  refine wa_aload_n (n := 0) rfl ?_
  refine wb_gfi 237 rfl (wy_pr rfl) wt_237 wf_15_174 (v := gk) (h74) (fun r1 => ?_)
  refine wa_bipush (w_rg2 (by omega) (by omega)) ?_
  refine wa_icmpne (w_rg0 (by omega) (by omega)) (w_rg0 (by omega) (by omega)) ⟨_, rfl⟩ (fun c2 => ?_) (fun c2 => ?_)
  · skip
    refine wa_iconst ?_
    refine wa_fall ⟨_, rfl⟩ ?_
    refine wJ_top (show 0 = am by omega) ?_
    refine wa_istore (n := 4) rfl ?_
    refine wa_iload (n := 4) rfl ?_
    refine wa_ifeq (w_rg0 (by omega) (by omega)) ⟨_, rfl⟩ (fun c3 => ?_) (fun c3 => ?_)
    · skip
      have h21 : S 321 gb = c := by rcases hgk with z | z; exact z.2.2.2; omega
      have hgb0 : 0 ≤ gb ∧ gb < 8000 := by omega
      refine wa_aload_n (n := 0) rfl ?_
      refine wb_gf4 237 rfl (wy_pr rfl) wt_237 wf_15_77 (v := 321) wl_237_77 ?_
      refine wa_aload_n (n := 0) rfl ?_
      refine wb_gfl 237 rfl (wy_pr rfl) wt_237 wf_15_175 (v := gb) (h75) (fun r4 => ?_)
      refine wb_l2i_r (wb_l2i_id ⟨(by omega), (by omega)⟩) ?_
      refine wb_iald 321 rfl (wy_pr rfl) wt_321 (n := 8000) ((ml_321 hM)) (by omega) (by omega) (v := c) (h21) (fun r5 => ?_)
      refine wa_fall ⟨_, rfl⟩ ?_
      refine wa_istore (n := 5) rfl ?_
      refine wa_iload (n := 4) rfl ?_
      refine wa_ifeq (w_rg0 (by omega) (by omega)) ⟨_, rfl⟩ (fun c6 => ?_) (fun c6 => ?_)
      · skip
        refine wa_iconst ?_
        refine wa_fall ⟨_, rfl⟩ ?_
        refine wJ_top (show 0 = am by omega) ?_
        refine wa_istore (n := 6) rfl ?_
        refine wa_aload_n (n := 0) rfl ?_
        refine wa_iload (n := 5) rfl ?_
        refine wb_pfi 237 rfl (wy_pr rfl) wt_237 wf_15_167 (n := 167) rfl ⟨(by omega), (by omega)⟩ ?_
        refine wa_aload_n (n := 0) rfl ?_
        refine wb_gf4 237 rfl (wy_pr rfl) wt_237 wf_15_50 (v := 305) wl_237_50 ?_
        refine wa_iload_n (n := 1) rfl ?_
        refine wb_iald 305 rfl (wy_pr rfl) wt_305 (n := 4000) ((w_up_slot (by decide)).trans ((ml_305 hM))) (by omega) (by omega) (v := nms) ((w_up_slot (by decide)).trans (h05)) (fun r7 => ?_)
        refine wa_istore (n := 7) rfl ?_
        refine wa_iload_n (n := 2) rfl ?_
        refine wa_ifne (w_rg0 (by omega) (by omega)) ⟨_, rfl⟩ (fun c8 => ?_) (fun c8 => ?_)
        · skip
          refine wa_iload_n (n := 2) rfl ?_
          refine wa_iconst ?_
          refine wa_icmpne (w_rg0 (by omega) (by omega)) (w_rg0 (by omega) (by omega)) ⟨_, rfl⟩ (fun c9 => ?_) (fun c9 => ?_)
          · skip
            refine wa_iload_n (n := 2) rfl ?_
            refine wa_iconst ?_
            refine wa_icmpne (w_rg0 (by omega) (by omega)) (w_rg0 (by omega) (by omega)) ⟨_, rfl⟩ (fun c10 => ?_) (fun c10 => ?_)
            · skip
              refine wa_iload_n (n := 2) rfl ?_
              refine wa_bipush (w_rg2 (by omega) (by omega)) ?_
              refine wa_icmpne (w_rg0 (by omega) (by omega)) (w_rg0 (by omega) (by omega)) ⟨_, rfl⟩ (fun c11 => ?_) (fun c11 => ?_)
              · skip
                refine wa_aload_n (n := 0) rfl ?_
                refine wa_iconst ?_
                refine wa_cv 237 rfl (wy_pr rfl) wt_237 (M2 := fun _ => False) rfl at_M_error ⟨_, rfl⟩ rfl rfl ⟨trivial, trivial, trivial, trivial, (Or.inr ⟨wy_pr rfl, fun q => q⟩), trivial, trivial, trivial, trivial⟩ trivial (fun _ _ q => False.elim q) ?_ (fun _ _ _ q => q)
                refine wa_aload_n (n := 0) rfl ?_
                refine wb_gf4 237 rfl (wy_pr rfl) wt_237 wf_15_1 (v := 238) wl_237_1 ?_
                refine wa_iload_n (n := 1) rfl ?_
                refine wa_iconst ?_
                refine wa_cv 238 rfl (wy_pr rfl) wt_238 (M2 := fun _ => False) rfl at_MH_of ⟨_, rfl⟩ rfl rfl ⟨(Or.inr ⟨wy_pr rfl, fun q => q⟩), trivial, trivial⟩ trivial (fun _ _ q => False.elim q) ?_ (fun _ _ _ q => q)
                refine wa_aload_n (n := 0) rfl ?_
                refine wa_iload_n (n := 1) rfl ?_
                refine wb_pfi 238 rfl (wy_pr rfl) wt_238 wf_11_5 (n := 5) rfl ⟨(by omega), (by omega)⟩ ?_
                refine wa_aload_n (n := 0) rfl ?_
                refine wa_iload_n (n := 2) rfl ?_
                refine wb_pfi 238 rfl (wy_pr rfl) wt_238 wf_11_6 (n := 6) rfl ⟨(by omega), (by omega)⟩ ?_
                refine wa_aload_n (n := 0) rfl ?_
                refine wa_oreturn rfl ?_
                show wJ _ _ _ _ _ _ _ _ _ _
                refine wa_th (j := 238) ?_
                refine ⟨rfl, ?_⟩
                exact ⟨rfl, rfl⟩
              · skip
                refine wa_iload (n := 4) rfl ?_
                refine wa_ifeq (w_rg0 (by omega) (by omega)) ⟨_, rfl⟩ (fun c12 => ?_) (fun c12 => ?_)
                · skip
                  refine wa_aload_n (n := 0) rfl ?_
                  refine wa_iconst ?_
                  refine wa_cv 237 rfl (wy_pr rfl) wt_237 (M2 := fun _ => False) rfl at_M_error ⟨_, rfl⟩ rfl rfl ⟨trivial, trivial, trivial, trivial, (Or.inr ⟨wy_pr rfl, fun q => q⟩), trivial, trivial, trivial, trivial⟩ trivial (fun _ _ q => False.elim q) ?_ (fun _ _ _ q => q)
                  refine wa_aload_n (n := 0) rfl ?_
                  refine wb_gf4 237 rfl (wy_pr rfl) wt_237 wf_15_1 (v := 238) wl_237_1 ?_
                  refine wa_iload_n (n := 1) rfl ?_
                  refine wa_iconst ?_
                  refine wa_cv 238 rfl (wy_pr rfl) wt_238 (M2 := fun _ => False) rfl at_MH_of ⟨_, rfl⟩ rfl rfl ⟨(Or.inr ⟨wy_pr rfl, fun q => q⟩), trivial, trivial⟩ trivial (fun _ _ q => False.elim q) ?_ (fun _ _ _ q => q)
                  refine wa_aload_n (n := 0) rfl ?_
                  refine wa_iload_n (n := 1) rfl ?_
                  refine wb_pfi 238 rfl (wy_pr rfl) wt_238 wf_11_5 (n := 5) rfl ⟨(by omega), (by omega)⟩ ?_
                  refine wa_aload_n (n := 0) rfl ?_
                  refine wa_iload_n (n := 2) rfl ?_
                  refine wb_pfi 238 rfl (wy_pr rfl) wt_238 wf_11_6 (n := 6) rfl ⟨(by omega), (by omega)⟩ ?_
                  refine wa_aload_n (n := 0) rfl ?_
                  refine wa_oreturn rfl ?_
                  show wJ _ _ _ _ _ _ _ _ _ _
                  refine wa_th (j := 238) ?_
                  refine ⟨rfl, ?_⟩
                  exact ⟨rfl, rfl⟩
                · skip
                  exact absurd c12 (by omega)
            · skip
              exact absurd c10 (by omega)
          · skip
            exact absurd c9 (by omega)
        · skip
          exact absurd c8 (by omega)
      · skip
        exact absurd c6 (by omega)
    · skip
      have hgbc : gb = c := by omega
      refine wa_aload_n (n := 0) rfl ?_
      refine wb_gfl 237 rfl (wy_pr rfl) wt_237 wf_15_175 (v := gb) (h75) (fun r13 => ?_)
      refine wb_l2i_r (wb_l2i_id ⟨(by omega), (by omega)⟩) ?_
      refine wa_goto ⟨_, rfl⟩ ?_
      refine wJ_top (show gb = c by omega) ?_
      refine wa_istore (n := 5) rfl ?_
      refine wa_iload (n := 4) rfl ?_
      refine wa_ifeq (w_rg0 (by omega) (by omega)) ⟨_, rfl⟩ (fun c14 => ?_) (fun c14 => ?_)
      · skip
        exact absurd c14 (by omega)
      · skip
        refine wa_iconst ?_
        refine wa_goto ⟨_, rfl⟩ ?_
        refine wJ_top (show 1 = am by omega) ?_
        refine wa_istore (n := 6) rfl ?_
        refine wa_aload_n (n := 0) rfl ?_
        refine wa_iload (n := 5) rfl ?_
        refine wb_pfi 237 rfl (wy_pr rfl) wt_237 wf_15_167 (n := 167) rfl ⟨(by omega), (by omega)⟩ ?_
        refine wa_aload_n (n := 0) rfl ?_
        refine wb_gf4 237 rfl (wy_pr rfl) wt_237 wf_15_50 (v := 305) wl_237_50 ?_
        refine wa_iload_n (n := 1) rfl ?_
        refine wb_iald 305 rfl (wy_pr rfl) wt_305 (n := 4000) ((w_up_slot (by decide)).trans ((ml_305 hM))) (by omega) (by omega) (v := nms) ((w_up_slot (by decide)).trans (h05)) (fun r15 => ?_)
        refine wa_istore (n := 7) rfl ?_
        refine wa_iload_n (n := 2) rfl ?_
        refine wa_ifne (w_rg0 (by omega) (by omega)) ⟨_, rfl⟩ (fun c16 => ?_) (fun c16 => ?_)
        · skip
          refine wa_iload_n (n := 2) rfl ?_
          refine wa_iconst ?_
          refine wa_icmpne (w_rg0 (by omega) (by omega)) (w_rg0 (by omega) (by omega)) ⟨_, rfl⟩ (fun c17 => ?_) (fun c17 => ?_)
          · skip
            refine wa_iload_n (n := 2) rfl ?_
            refine wa_iconst ?_
            refine wa_icmpne (w_rg0 (by omega) (by omega)) (w_rg0 (by omega) (by omega)) ⟨_, rfl⟩ (fun c18 => ?_) (fun c18 => ?_)
            · skip
              refine wa_iload_n (n := 2) rfl ?_
              refine wa_bipush (w_rg2 (by omega) (by omega)) ?_
              refine wa_icmpne (w_rg0 (by omega) (by omega)) (w_rg0 (by omega) (by omega)) ⟨_, rfl⟩ (fun c19 => ?_) (fun c19 => ?_)
              · skip
                refine wa_aload_n (n := 0) rfl ?_
                refine wa_iconst ?_
                refine wa_cv 237 rfl (wy_pr rfl) wt_237 (M2 := fun _ => False) rfl at_M_error ⟨_, rfl⟩ rfl rfl ⟨trivial, trivial, trivial, trivial, (Or.inr ⟨wy_pr rfl, fun q => q⟩), trivial, trivial, trivial, trivial⟩ trivial (fun _ _ q => False.elim q) ?_ (fun _ _ _ q => q)
                refine wa_aload_n (n := 0) rfl ?_
                refine wb_gf4 237 rfl (wy_pr rfl) wt_237 wf_15_1 (v := 238) wl_237_1 ?_
                refine wa_iload_n (n := 1) rfl ?_
                refine wa_iconst ?_
                refine wa_cv 238 rfl (wy_pr rfl) wt_238 (M2 := fun _ => False) rfl at_MH_of ⟨_, rfl⟩ rfl rfl ⟨(Or.inr ⟨wy_pr rfl, fun q => q⟩), trivial, trivial⟩ trivial (fun _ _ q => False.elim q) ?_ (fun _ _ _ q => q)
                refine wa_aload_n (n := 0) rfl ?_
                refine wa_iload_n (n := 1) rfl ?_
                refine wb_pfi 238 rfl (wy_pr rfl) wt_238 wf_11_5 (n := 5) rfl ⟨(by omega), (by omega)⟩ ?_
                refine wa_aload_n (n := 0) rfl ?_
                refine wa_iload_n (n := 2) rfl ?_
                refine wb_pfi 238 rfl (wy_pr rfl) wt_238 wf_11_6 (n := 6) rfl ⟨(by omega), (by omega)⟩ ?_
                refine wa_aload_n (n := 0) rfl ?_
                refine wa_oreturn rfl ?_
                show wJ _ _ _ _ _ _ _ _ _ _
                refine wa_th (j := 238) ?_
                refine ⟨rfl, ?_⟩
                exact ⟨rfl, rfl⟩
              · skip
                refine wa_iload (n := 4) rfl ?_
                refine wa_ifeq (w_rg0 (by omega) (by omega)) ⟨_, rfl⟩ (fun c20 => ?_) (fun c20 => ?_)
                · skip
                  exact absurd c20 (by omega)
                · skip
                  exfalso; omega
            · skip
              exact absurd c18 (by omega)
          · skip
            exact absurd c17 (by omega)
        · skip
          exact absurd c16 (by omega)
  · skip
    refine wa_iconst ?_
    refine wa_goto ⟨_, rfl⟩ ?_
    refine wJ_top (show 1 = am by omega) ?_
    refine wa_istore (n := 4) rfl ?_
    refine wa_iload (n := 4) rfl ?_
    refine wa_ifeq (w_rg0 (by omega) (by omega)) ⟨_, rfl⟩ (fun c21 => ?_) (fun c21 => ?_)
    · skip
      have h21 : S 321 gb = c := by rcases hgk with z | z; exact z.2.2.2; omega
      have hgb0 : 0 ≤ gb ∧ gb < 8000 := by omega
      refine wa_aload_n (n := 0) rfl ?_
      refine wb_gf4 237 rfl (wy_pr rfl) wt_237 wf_15_77 (v := 321) wl_237_77 ?_
      refine wa_aload_n (n := 0) rfl ?_
      refine wb_gfl 237 rfl (wy_pr rfl) wt_237 wf_15_175 (v := gb) (h75) (fun r22 => ?_)
      refine wb_l2i_r (wb_l2i_id ⟨(by omega), (by omega)⟩) ?_
      refine wb_iald 321 rfl (wy_pr rfl) wt_321 (n := 8000) ((ml_321 hM)) (by omega) (by omega) (v := c) (h21) (fun r23 => ?_)
      refine wa_fall ⟨_, rfl⟩ ?_
      refine wa_istore (n := 5) rfl ?_
      refine wa_iload (n := 4) rfl ?_
      refine wa_ifeq (w_rg0 (by omega) (by omega)) ⟨_, rfl⟩ (fun c24 => ?_) (fun c24 => ?_)
      · skip
        refine wa_iconst ?_
        refine wa_fall ⟨_, rfl⟩ ?_
        refine wJ_top (show 0 = am by omega) ?_
        refine wa_istore (n := 6) rfl ?_
        refine wa_aload_n (n := 0) rfl ?_
        refine wa_iload (n := 5) rfl ?_
        refine wb_pfi 237 rfl (wy_pr rfl) wt_237 wf_15_167 (n := 167) rfl ⟨(by omega), (by omega)⟩ ?_
        refine wa_aload_n (n := 0) rfl ?_
        refine wb_gf4 237 rfl (wy_pr rfl) wt_237 wf_15_50 (v := 305) wl_237_50 ?_
        refine wa_iload_n (n := 1) rfl ?_
        refine wb_iald 305 rfl (wy_pr rfl) wt_305 (n := 4000) ((w_up_slot (by decide)).trans ((ml_305 hM))) (by omega) (by omega) (v := nms) ((w_up_slot (by decide)).trans (h05)) (fun r25 => ?_)
        refine wa_istore (n := 7) rfl ?_
        refine wa_iload_n (n := 2) rfl ?_
        refine wa_ifne (w_rg0 (by omega) (by omega)) ⟨_, rfl⟩ (fun c26 => ?_) (fun c26 => ?_)
        · skip
          refine wa_iload_n (n := 2) rfl ?_
          refine wa_iconst ?_
          refine wa_icmpne (w_rg0 (by omega) (by omega)) (w_rg0 (by omega) (by omega)) ⟨_, rfl⟩ (fun c27 => ?_) (fun c27 => ?_)
          · skip
            refine wa_iload_n (n := 2) rfl ?_
            refine wa_iconst ?_
            refine wa_icmpne (w_rg0 (by omega) (by omega)) (w_rg0 (by omega) (by omega)) ⟨_, rfl⟩ (fun c28 => ?_) (fun c28 => ?_)
            · skip
              refine wa_iload_n (n := 2) rfl ?_
              refine wa_bipush (w_rg2 (by omega) (by omega)) ?_
              refine wa_icmpne (w_rg0 (by omega) (by omega)) (w_rg0 (by omega) (by omega)) ⟨_, rfl⟩ (fun c29 => ?_) (fun c29 => ?_)
              · skip
                refine wa_aload_n (n := 0) rfl ?_
                refine wa_iconst ?_
                refine wa_cv 237 rfl (wy_pr rfl) wt_237 (M2 := fun _ => False) rfl at_M_error ⟨_, rfl⟩ rfl rfl ⟨trivial, trivial, trivial, trivial, (Or.inr ⟨wy_pr rfl, fun q => q⟩), trivial, trivial, trivial, trivial⟩ trivial (fun _ _ q => False.elim q) ?_ (fun _ _ _ q => q)
                refine wa_aload_n (n := 0) rfl ?_
                refine wb_gf4 237 rfl (wy_pr rfl) wt_237 wf_15_1 (v := 238) wl_237_1 ?_
                refine wa_iload_n (n := 1) rfl ?_
                refine wa_iconst ?_
                refine wa_cv 238 rfl (wy_pr rfl) wt_238 (M2 := fun _ => False) rfl at_MH_of ⟨_, rfl⟩ rfl rfl ⟨(Or.inr ⟨wy_pr rfl, fun q => q⟩), trivial, trivial⟩ trivial (fun _ _ q => False.elim q) ?_ (fun _ _ _ q => q)
                refine wa_aload_n (n := 0) rfl ?_
                refine wa_iload_n (n := 1) rfl ?_
                refine wb_pfi 238 rfl (wy_pr rfl) wt_238 wf_11_5 (n := 5) rfl ⟨(by omega), (by omega)⟩ ?_
                refine wa_aload_n (n := 0) rfl ?_
                refine wa_iload_n (n := 2) rfl ?_
                refine wb_pfi 238 rfl (wy_pr rfl) wt_238 wf_11_6 (n := 6) rfl ⟨(by omega), (by omega)⟩ ?_
                refine wa_aload_n (n := 0) rfl ?_
                refine wa_oreturn rfl ?_
                show wJ _ _ _ _ _ _ _ _ _ _
                refine wa_th (j := 238) ?_
                refine ⟨rfl, ?_⟩
                exact ⟨rfl, rfl⟩
              · skip
                refine wa_iload (n := 4) rfl ?_
                refine wa_ifeq (w_rg0 (by omega) (by omega)) ⟨_, rfl⟩ (fun c30 => ?_) (fun c30 => ?_)
                · skip
                  refine wa_aload_n (n := 0) rfl ?_
                  refine wa_iconst ?_
                  refine wa_cv 237 rfl (wy_pr rfl) wt_237 (M2 := fun _ => False) rfl at_M_error ⟨_, rfl⟩ rfl rfl ⟨trivial, trivial, trivial, trivial, (Or.inr ⟨wy_pr rfl, fun q => q⟩), trivial, trivial, trivial, trivial⟩ trivial (fun _ _ q => False.elim q) ?_ (fun _ _ _ q => q)
                  refine wa_aload_n (n := 0) rfl ?_
                  refine wb_gf4 237 rfl (wy_pr rfl) wt_237 wf_15_1 (v := 238) wl_237_1 ?_
                  refine wa_iload_n (n := 1) rfl ?_
                  refine wa_iconst ?_
                  refine wa_cv 238 rfl (wy_pr rfl) wt_238 (M2 := fun _ => False) rfl at_MH_of ⟨_, rfl⟩ rfl rfl ⟨(Or.inr ⟨wy_pr rfl, fun q => q⟩), trivial, trivial⟩ trivial (fun _ _ q => False.elim q) ?_ (fun _ _ _ q => q)
                  refine wa_aload_n (n := 0) rfl ?_
                  refine wa_iload_n (n := 1) rfl ?_
                  refine wb_pfi 238 rfl (wy_pr rfl) wt_238 wf_11_5 (n := 5) rfl ⟨(by omega), (by omega)⟩ ?_
                  refine wa_aload_n (n := 0) rfl ?_
                  refine wa_iload_n (n := 2) rfl ?_
                  refine wb_pfi 238 rfl (wy_pr rfl) wt_238 wf_11_6 (n := 6) rfl ⟨(by omega), (by omega)⟩ ?_
                  refine wa_aload_n (n := 0) rfl ?_
                  refine wa_oreturn rfl ?_
                  show wJ _ _ _ _ _ _ _ _ _ _
                  refine wa_th (j := 238) ?_
                  refine ⟨rfl, ?_⟩
                  exact ⟨rfl, rfl⟩
                · skip
                  exact absurd c30 (by omega)
            · skip
              exact absurd c28 (by omega)
          · skip
            exact absurd c27 (by omega)
        · skip
          exact absurd c26 (by omega)
      · skip
        exact absurd c24 (by omega)
    · skip
      have hgbc : gb = c := by omega
      refine wa_aload_n (n := 0) rfl ?_
      refine wb_gfl 237 rfl (wy_pr rfl) wt_237 wf_15_175 (v := gb) (h75) (fun r31 => ?_)
      refine wb_l2i_r (wb_l2i_id ⟨(by omega), (by omega)⟩) ?_
      refine wa_goto ⟨_, rfl⟩ ?_
      refine wJ_top (show gb = c by omega) ?_
      refine wa_istore (n := 5) rfl ?_
      refine wa_iload (n := 4) rfl ?_
      refine wa_ifeq (w_rg0 (by omega) (by omega)) ⟨_, rfl⟩ (fun c32 => ?_) (fun c32 => ?_)
      · skip
        exact absurd c32 (by omega)
      · skip
        refine wa_iconst ?_
        refine wa_goto ⟨_, rfl⟩ ?_
        refine wJ_top (show 1 = am by omega) ?_
        refine wa_istore (n := 6) rfl ?_
        refine wa_aload_n (n := 0) rfl ?_
        refine wa_iload (n := 5) rfl ?_
        refine wb_pfi 237 rfl (wy_pr rfl) wt_237 wf_15_167 (n := 167) rfl ⟨(by omega), (by omega)⟩ ?_
        refine wa_aload_n (n := 0) rfl ?_
        refine wb_gf4 237 rfl (wy_pr rfl) wt_237 wf_15_50 (v := 305) wl_237_50 ?_
        refine wa_iload_n (n := 1) rfl ?_
        refine wb_iald 305 rfl (wy_pr rfl) wt_305 (n := 4000) ((w_up_slot (by decide)).trans ((ml_305 hM))) (by omega) (by omega) (v := nms) ((w_up_slot (by decide)).trans (h05)) (fun r33 => ?_)
        refine wa_istore (n := 7) rfl ?_
        refine wa_iload_n (n := 2) rfl ?_
        refine wa_ifne (w_rg0 (by omega) (by omega)) ⟨_, rfl⟩ (fun c34 => ?_) (fun c34 => ?_)
        · skip
          refine wa_iload_n (n := 2) rfl ?_
          refine wa_iconst ?_
          refine wa_icmpne (w_rg0 (by omega) (by omega)) (w_rg0 (by omega) (by omega)) ⟨_, rfl⟩ (fun c35 => ?_) (fun c35 => ?_)
          · skip
            refine wa_iload_n (n := 2) rfl ?_
            refine wa_iconst ?_
            refine wa_icmpne (w_rg0 (by omega) (by omega)) (w_rg0 (by omega) (by omega)) ⟨_, rfl⟩ (fun c36 => ?_) (fun c36 => ?_)
            · skip
              refine wa_iload_n (n := 2) rfl ?_
              refine wa_bipush (w_rg2 (by omega) (by omega)) ?_
              refine wa_icmpne (w_rg0 (by omega) (by omega)) (w_rg0 (by omega) (by omega)) ⟨_, rfl⟩ (fun c37 => ?_) (fun c37 => ?_)
              · skip
                refine wa_aload_n (n := 0) rfl ?_
                refine wa_iconst ?_
                refine wa_cv 237 rfl (wy_pr rfl) wt_237 (M2 := fun _ => False) rfl at_M_error ⟨_, rfl⟩ rfl rfl ⟨trivial, trivial, trivial, trivial, (Or.inr ⟨wy_pr rfl, fun q => q⟩), trivial, trivial, trivial, trivial⟩ trivial (fun _ _ q => False.elim q) ?_ (fun _ _ _ q => q)
                refine wa_aload_n (n := 0) rfl ?_
                refine wb_gf4 237 rfl (wy_pr rfl) wt_237 wf_15_1 (v := 238) wl_237_1 ?_
                refine wa_iload_n (n := 1) rfl ?_
                refine wa_iconst ?_
                refine wa_cv 238 rfl (wy_pr rfl) wt_238 (M2 := fun _ => False) rfl at_MH_of ⟨_, rfl⟩ rfl rfl ⟨(Or.inr ⟨wy_pr rfl, fun q => q⟩), trivial, trivial⟩ trivial (fun _ _ q => False.elim q) ?_ (fun _ _ _ q => q)
                refine wa_aload_n (n := 0) rfl ?_
                refine wa_iload_n (n := 1) rfl ?_
                refine wb_pfi 238 rfl (wy_pr rfl) wt_238 wf_11_5 (n := 5) rfl ⟨(by omega), (by omega)⟩ ?_
                refine wa_aload_n (n := 0) rfl ?_
                refine wa_iload_n (n := 2) rfl ?_
                refine wb_pfi 238 rfl (wy_pr rfl) wt_238 wf_11_6 (n := 6) rfl ⟨(by omega), (by omega)⟩ ?_
                refine wa_aload_n (n := 0) rfl ?_
                refine wa_oreturn rfl ?_
                show wJ _ _ _ _ _ _ _ _ _ _
                refine wa_th (j := 238) ?_
                refine ⟨rfl, ?_⟩
                exact ⟨rfl, rfl⟩
              · skip
                refine wa_iload (n := 4) rfl ?_
                refine wa_ifeq (w_rg0 (by omega) (by omega)) ⟨_, rfl⟩ (fun c38 => ?_) (fun c38 => ?_)
                · skip
                  exact absurd c38 (by omega)
                · skip
                  exfalso; omega
            · skip
              exact absurd c36 (by omega)
          · skip
            exact absurd c35 (by omega)
        · skip
          exact absurd c34 (by omega)
end Whi
