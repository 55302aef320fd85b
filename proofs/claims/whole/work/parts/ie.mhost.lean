/-! PART ie: the builtin host, of the reference. -/
section Wie
variable {xs : List (Nat × List Int32)} {M : Nat → Prop} {d : Nat} {S Z A : wS} {T : Int → Int} {n : Int} {cs : List hCR} {ms : List hMR} {os : Int → List Int} {Q : wO → wS → Prop} {x : List Int} {k v t b9 tx f0 : Int} {K : aK}
theorem rcni_241 {q : Nat} (hM : w_ML S) (hK : KR 241 T n cs ms S) (hw : wHo cs ms os) (hq : q < cs.length) (htx : 0 ≤ tx ∧ tx < 16000) (h85 : S 285 tx = (x.length : Int)) (h84 : S 284 tx = f0) (hf0 : 0 ≤ f0 ∧ f0 + (x.length : Int) ≤ 269632) (hx : ∀ i : Nat, i < x.length → S 283 (f0 + (i : Int)) = x.getD i 0) (h1 : (cNa T cs (q : Int)) = x → wJ (pe_GA xs) wY0 M d t_M_classNamed ((pe_at t_M_classNamed.bl 7).getD (0, [])).2 [(0, (2, 237)), (1, (0, tx)), (2, (0, (q : Int))), (4, (0, 1))] [] S Q) (h0 : (cNa T cs (q : Int)) ≠ x → wJ (pe_GA xs) wY0 M d t_M_classNamed ((pe_at t_M_classNamed.bl 7).getD (0, [])).2 [(0, (2, 237)), (1, (0, tx)), (2, (0, (q : Int))), (4, (0, 0))] [] S Q) : ∀ (f i : Nat) (sm : Int), i + f = (cNa T cs (q : Int)).length → ((sm = 1 ∧ x.length = (cNa T cs (q : Int)).length ∧ ∀ y : Nat, y < i → (cNa T cs (q : Int)).getD y 0 = x.getD y 0) ∨ (sm = 0 ∧ (cNa T cs (q : Int)) ≠ x)) → wJ (pe_GA xs) wY0 M d t_M_classNamed ((pe_at t_M_classNamed.bl 4).getD (0, [])).2 [(0, (2, 237)), (1, (0, tx)), (2, (0, (q : Int))), (3, (0, ((cNa T cs (q : Int)).length : Int))), (4, (0, sm)), (5, (0, (i : Int)))] [] S Q := by
  have hn6 := hK.2.2.2.2.2.1
  have h60 := hw.1
  have h13 : S 237 13 = 241 := hK.1
  have hkr := hK.2.2.2.2.2.2.2 (q : Int) (by omega) (by omega)
  have hNl := cNa_l (T := T) (cs := cs) (k := (q : Int)) (by omega)
  have hNs : ∀ i : Nat, i < (cNa T cs (q : Int)).length → S 242 ((hcR cs (q : Int)).2.1 + (i : Int)) = (cNa T cs (q : Int)).getD i 0 := fun i hi => by rw [cNa_s hi]; exact hK.2.2.2.2.1 _ (by omega) (by omega)
  have hcc := KR_c hK (k := (q : Int)) (by omega) (by omega)
  have e9 : S 250 (q : Int) = (hcR cs (q : Int)).2.1 := hcc.2.1
  have e10 : S 251 (q : Int) = (hcR cs (q : Int)).2.2.1 := hcc.2.2.1
  intro f
  induction f with
  | zero =>
    intro i sm hi hs
    refine wa_iload (n := 5) rfl ?_
    refine wa_iload_n (n := 3) rfl ?_
    refine wa_icmpge (w_rg0 (by omega) (by omega)) (w_rg0 (by omega) (by omega)) ⟨_, rfl⟩ (fun c1 => ?_) (fun c1 => ?_)
    · skip
      rcases hs with ⟨rfl, hs1, hs2⟩ | ⟨rfl, hs1⟩
      · first | omega | exact wJ_S (h1 (nth_ext (by omega) (fun y hy => hs2 y (by omega)))) ⟨rfl, rfl, rfl, rfl, trivial⟩
      · exact wJ_S (h0 hs1) ⟨rfl, rfl, rfl, rfl, trivial⟩
    · skip
      exfalso; omega
  | succ f ih =>
    intro i sm hi hs
    have hsr : sm = 0 ∨ sm = 1 := hs.elim (fun z => Or.inr z.1) (fun z => Or.inl z.1)
    have esr : S 242 ((hcR cs (q : Int)).2.1 + (i : Int)) = (cNa T cs (q : Int)).getD i 0 := hNs i (by omega)
    refine wa_iload (n := 5) rfl ?_
    refine wa_iload_n (n := 3) rfl ?_
    refine wa_icmpge (w_rg0 (by omega) (by omega)) (w_rg0 (by omega) (by omega)) ⟨_, rfl⟩ (fun c51 => ?_) (fun c51 => ?_)
    · skip
      exfalso; omega
    · skip
      refine wa_iload (n := 4) rfl ?_
      refine wa_ifeq (w_rg0 (by omega) (by omega)) ⟨_, rfl⟩ (fun c52 => ?_) (fun c52 => ?_)
      · skip
        rcases hs with ⟨rfl, hs1, hs2⟩ | ⟨rfl, hs1⟩
        · first | omega | exact wJ_S (h1 (nth_ext (by omega) (fun y hy => hs2 y (by omega)))) ⟨rfl, rfl, rfl, rfl, trivial⟩
        · exact wJ_S (h0 hs1) ⟨rfl, rfl, rfl, rfl, trivial⟩
      · skip
        have hs1 : sm = 1 ∧ x.length = (cNa T cs (q : Int)).length ∧ ∀ y : Nat, y < i → (cNa T cs (q : Int)).getD y 0 = x.getD y 0 := hs.elim id (fun z => by omega)
        have exr : S 283 (f0 + (i : Int)) = x.getD i 0 := hx i (by omega)
        refine wa_aload_n (n := 0) rfl ?_
        refine wb_gf5 237 rfl (wy_pr rfl) wt_237 wf_15_13 (v := 241) (h13) (fun r53 => ?_)
        refine wb_gf4 241 rfl (wy_pr rfl) wt_241 wf_12_0 (v := 242) wl_241_0 ?_
        refine wa_aload_n (n := 0) rfl ?_
        refine wb_gf5 237 rfl (wy_pr rfl) wt_237 wf_15_13 (v := 241) (h13) (fun r54 => ?_)
        refine wb_gf4 241 rfl (wy_pr rfl) wt_241 wf_12_9 (v := 250) wl_241_9 ?_
        refine wa_iload_n (n := 2) rfl ?_
        refine wb_iald 250 rfl (wy_pr rfl) wt_250 (n := 60) ((ml_250 hM)) (by omega) (by omega) (v := (hcR cs (q : Int)).2.1) (e9) (fun r55 => ?_)
        refine wa_iload (n := 5) rfl ?_
        refine wa_iadd ?_
        refine wb_bald 242 rfl (wy_pr rfl) wt_242 (n := 65536) ((ml_242 hM)) (by omega) (by omega) (v := ((cNa T cs (q : Int)).getD i 0)) (esr) (fun r56 => ?_)
        refine wa_aload_n (n := 0) rfl ?_
        refine wb_gf4 237 rfl (wy_pr rfl) wt_237 wf_15_21 (v := 283) wl_237_21 ?_
        refine wa_aload_n (n := 0) rfl ?_
        refine wb_gf4 237 rfl (wy_pr rfl) wt_237 wf_15_22 (v := 284) wl_237_22 ?_
        refine wa_iload_n (n := 1) rfl ?_
        refine wb_iald 284 rfl (wy_pr rfl) wt_284 (n := 16000) ((ml_284 hM)) (by omega) (by omega) (v := f0) (h84) (fun r57 => ?_)
        refine wa_iload (n := 5) rfl ?_
        refine wa_iadd ?_
        refine wb_bald 283 rfl (wy_pr rfl) wt_283 (n := 269632) ((ml_283 hM)) (by omega) (by omega) (v := (x.getD i 0)) (exr) (fun r58 => ?_)
        refine wa_icmpne (w_rg0 (by omega) (by omega)) (w_rg0 (by omega) (by omega)) ⟨_, rfl⟩ (fun c59 => ?_) (fun c59 => ?_)
        · skip
          refine wa_iconst ?_
          refine wa_fall ⟨_, rfl⟩ ?_
          refine wa_istore (n := 4) rfl ?_
          refine wa_iinc rfl rfl ?_
          refine wa_goto ⟨_, rfl⟩ ?_
          refine wJ_S (ih (i + 1) 0 (by omega) (Or.inr ⟨rfl, fun z => ?_⟩)) ⟨rfl, rfl, rfl, rfl, rfl, rfl, trivial⟩
          have z2 : (cNa T cs (q : Int)).getD i 0 = x.getD i 0 := by rw [z]
          omega
        · skip
          refine wa_iconst ?_
          refine wa_goto ⟨_, rfl⟩ ?_
          refine wa_istore (n := 4) rfl ?_
          refine wa_iinc rfl rfl ?_
          refine wa_goto ⟨_, rfl⟩ ?_
          refine wJ_S (ih (i + 1) 1 (by omega) (Or.inl ⟨rfl, hs1.2.1, fun y hy => ?_⟩)) ⟨rfl, rfl, rfl, rfl, rfl, rfl, trivial⟩
          by_cases hyx : y = i
          · rw [hyx]; omega
          · exact hs1.2.2 y (by omega)
theorem rcno_241 (hM : w_ML S) (hK : KR 241 T n cs ms S) (hw : wHo cs ms os) (htx : 0 ≤ tx ∧ tx < 16000) (h85 : S 285 tx = (x.length : Int)) (h84 : S 284 tx = f0) (hf0 : 0 ≤ f0 ∧ f0 + (x.length : Int) ≤ 269632) (hx : ∀ i : Nat, i < x.length → S 283 (f0 + (i : Int)) = x.getD i 0) : ∀ (f q : Nat), q + f = cs.length → (∀ i : Nat, i < q → cNa T cs (i : Int) ≠ x) → wJ (pe_GA xs) wY0 M d t_M_classNamed ((pe_at t_M_classNamed.bl 1).getD (0, [])).2 [(0, (2, 237)), (1, (0, tx)), (2, (0, (q : Int)))] [] S (fun o Z => S = Z ∧ o = .inl (some (0, cIx T cs x))) := by
  have hn1 := hK.2.1
  intro f
  induction f with
  | zero =>
    intro q hqc hno
    have hqm : q = cs.length := by omega
    rw [hqm] at hno
    have h13 : S 237 13 = 241 := hK.1
    have hnc : S 241 1 = (cs.length : Int) := hn1.1
    have ec : cIx T cs x = -1 := ctA_0 (fun i hi => decide_eq_false (hno i hi))
    rw [ec]
    refine wa_iload_n (n := 2) rfl ?_
    refine wa_aload_n (n := 0) rfl ?_
    refine wb_gf5 237 rfl (wy_pr rfl) wt_237 wf_15_13 (v := 241) (h13) (fun r1 => ?_)
    refine wb_gfi 241 rfl (wy_pr rfl) wt_241 wf_12_1 (v := (cs.length : Int)) (hnc) (fun r2 => ?_)
    refine wa_icmpge (w_rg0 (by omega) (by omega)) (w_rg0 (by omega) (by omega)) ⟨_, rfl⟩ (fun c3 => ?_) (fun c3 => ?_)
    · skip
      refine wa_iconst ?_
      refine wa_ireturn rfl ?_
      exact ⟨rfl, rfl⟩
    · skip
      exfalso; omega
  | succ f ih =>
    intro q hqc hno
    have hnc : S 241 1 = (cs.length : Int) := hn1.1
    have hn6 := hK.2.2.2.2.2.1
    have h60 := hw.1
    have h13 : S 237 13 = 241 := hK.1
    have hkr := hK.2.2.2.2.2.2.2 (q : Int) (by omega) (by omega)
    have hNl := cNa_l (T := T) (cs := cs) (k := (q : Int)) (by omega)
    have hNs : ∀ i : Nat, i < (cNa T cs (q : Int)).length → S 242 ((hcR cs (q : Int)).2.1 + (i : Int)) = (cNa T cs (q : Int)).getD i 0 := fun i hi => by rw [cNa_s hi]; exact hK.2.2.2.2.1 _ (by omega) (by omega)
    have hcc := KR_c hK (k := (q : Int)) (by omega) (by omega)
    have e9 : S 250 (q : Int) = (hcR cs (q : Int)).2.1 := hcc.2.1
    have e10 : S 251 (q : Int) = (hcR cs (q : Int)).2.2.1 := hcc.2.2.1
    refine wa_iload_n (n := 2) rfl ?_
    refine wa_aload_n (n := 0) rfl ?_
    refine wb_gf5 237 rfl (wy_pr rfl) wt_237 wf_15_13 (v := 241) (h13) (fun r51 => ?_)
    refine wb_gfi 241 rfl (wy_pr rfl) wt_241 wf_12_1 (v := (cs.length : Int)) (hnc) (fun r52 => ?_)
    refine wa_icmpge (w_rg0 (by omega) (by omega)) (w_rg0 (by omega) (by omega)) ⟨_, rfl⟩ (fun c53 => ?_) (fun c53 => ?_)
    · skip
      exfalso; omega
    · skip
      refine wa_aload_n (n := 0) rfl ?_
      refine wb_gf5 237 rfl (wy_pr rfl) wt_237 wf_15_13 (v := 241) (h13) (fun r54 => ?_)
      refine wb_gf4 241 rfl (wy_pr rfl) wt_241 wf_12_10 (v := 251) wl_241_10 ?_
      refine wa_iload_n (n := 2) rfl ?_
      refine wb_iald 251 rfl (wy_pr rfl) wt_251 (n := 60) ((ml_251 hM)) (by omega) (by omega) (v := (hcR cs (q : Int)).2.2.1) (e10) (fun r55 => ?_)
      refine wa_aload_n (n := 0) rfl ?_
      refine wb_gf5 237 rfl (wy_pr rfl) wt_237 wf_15_13 (v := 241) (h13) (fun r56 => ?_)
      refine wb_gf4 241 rfl (wy_pr rfl) wt_241 wf_12_9 (v := 250) wl_241_9 ?_
      refine wa_iload_n (n := 2) rfl ?_
      refine wb_iald 250 rfl (wy_pr rfl) wt_250 (n := 60) ((ml_250 hM)) (by omega) (by omega) (v := (hcR cs (q : Int)).2.1) (e9) (fun r57 => ?_)
      refine wa_isub ?_
      refine wJ_top (show ((hcR cs (q : Int)).2.2.1 - (hcR cs (q : Int)).2.1) = ((cNa T cs (q : Int)).length : Int) by omega) ?_
      refine wa_istore_n (n := 3) rfl ?_
      refine wa_iload_n (n := 3) rfl ?_
      refine wa_aload_n (n := 0) rfl ?_
      refine wb_gf4 237 rfl (wy_pr rfl) wt_237 wf_15_23 (v := 285) wl_237_23 ?_
      refine wa_iload_n (n := 1) rfl ?_
      refine wb_iald 285 rfl (wy_pr rfl) wt_285 (n := 16000) ((ml_285 hM)) (by omega) (by omega) (v := (x.length : Int)) (h85) (fun r58 => ?_)
      refine wa_icmpne (w_rg0 (by omega) (by omega)) (w_rg0 (by omega) (by omega)) ⟨_, rfl⟩ (fun c59 => ?_) (fun c59 => ?_)
      · skip
        refine wa_iconst ?_
        refine wa_fall ⟨_, rfl⟩ ?_
        refine wa_istore (n := 4) rfl ?_
        refine wa_iconst ?_
        refine wa_istore (n := 5) rfl ?_
        refine wa_fall ⟨_, rfl⟩ ?_
        refine wJ_S (rcni_241 hM hK hw (by omega) htx h85 h84 hf0 hx (fun he => ?_) (fun he => ?_) (cNa T cs (q : Int)).length 0 0 (by omega) (Or.inr ⟨rfl, fun z => by have z2 := congrArg List.length z; omega⟩)) ⟨rfl, rfl, rfl, rfl, rfl, rfl, trivial⟩
        · skip
          refine wa_iload (n := 4) rfl ?_
          refine wa_ifeq (w_rg0 (by omega) (by omega)) ⟨_, rfl⟩ (fun c201 => ?_) (fun c201 => ?_)
          · skip
            exact absurd c201 (by omega)
          · skip
            refine wa_iload_n (n := 2) rfl ?_
            refine wa_ireturn rfl ?_
            have ec : cIx T cs x = (q : Int) := ctA_q (by omega) (decide_eq_true he) (fun i hi => decide_eq_false (hno i hi))
            rw [ec]
            exact ⟨rfl, rfl⟩
        · skip
          refine wa_iload (n := 4) rfl ?_
          refine wa_ifeq (w_rg0 (by omega) (by omega)) ⟨_, rfl⟩ (fun c201 => ?_) (fun c201 => ?_)
          · skip
            refine wa_iinc rfl rfl ?_
            refine wa_goto ⟨_, rfl⟩ ?_
            refine wJ_S (ih (q + 1) (by omega) (fun i hi => ?_)) ⟨rfl, rfl, rfl, trivial⟩
            by_cases ce : i = q
            · rw [ce]; exact he
            · exact hno i (by omega)
          · skip
            exact absurd c201 (by omega)
      · skip
        refine wa_iconst ?_
        refine wa_goto ⟨_, rfl⟩ ?_
        refine wa_istore (n := 4) rfl ?_
        refine wa_iconst ?_
        refine wa_istore (n := 5) rfl ?_
        refine wa_fall ⟨_, rfl⟩ ?_
        refine wJ_S (rcni_241 hM hK hw (by omega) htx h85 h84 hf0 hx (fun he => ?_) (fun he => ?_) (cNa T cs (q : Int)).length 0 1 (by omega) (Or.inl ⟨rfl, by omega, fun y hy => absurd hy (Nat.not_lt_zero _)⟩)) ⟨rfl, rfl, rfl, rfl, rfl, rfl, trivial⟩
        · skip
          refine wa_iload (n := 4) rfl ?_
          refine wa_ifeq (w_rg0 (by omega) (by omega)) ⟨_, rfl⟩ (fun c201 => ?_) (fun c201 => ?_)
          · skip
            exact absurd c201 (by omega)
          · skip
            refine wa_iload_n (n := 2) rfl ?_
            refine wa_ireturn rfl ?_
            have ec : cIx T cs x = (q : Int) := ctA_q (by omega) (decide_eq_true he) (fun i hi => decide_eq_false (hno i hi))
            rw [ec]
            exact ⟨rfl, rfl⟩
        · skip
          refine wa_iload (n := 4) rfl ?_
          refine wa_ifeq (w_rg0 (by omega) (by omega)) ⟨_, rfl⟩ (fun c201 => ?_) (fun c201 => ?_)
          · skip
            refine wa_iinc rfl rfl ?_
            refine wa_goto ⟨_, rfl⟩ ?_
            refine wJ_S (ih (q + 1) (by omega) (fun i hi => ?_)) ⟨rfl, rfl, rfl, trivial⟩
            by_cases ce : i = q
            · rw [ce]; exact he
            · exact hno i (by omega)
          · skip
            exact absurd c201 (by omega)
theorem rcnm_241 (hM : w_ML S) (hK : KR 241 T n cs ms S) (hw : wHo cs ms os) (htx : 0 ≤ tx ∧ tx < 16000) (h85 : S 285 tx = (x.length : Int)) (h84 : S 284 tx = f0) (hf0 : 0 ≤ f0 ∧ f0 + (x.length : Int) ≤ 269632) (hx : ∀ i : Nat, i < x.length → S 283 (f0 + (i : Int)) = x.getD i 0) : wJ (pe_GA xs) wY0 M d t_M_classNamed ((pe_at t_M_classNamed.bl 0).getD (0, [])).2 [(0, (2, 237)), (1, (0, tx))] [] S (fun o Z => S = Z ∧ o = .inl (some (0, cIx T cs x))) := by
  refine wa_iconst ?_
  refine wa_istore_n (n := 2) rfl ?_
  refine wa_fall ⟨_, rfl⟩ ?_
  exact wJ_S (rcno_241 hM hK hw htx h85 h84 hf0 hx cs.length 0 (by omega) (fun i hi => absurd hi (Nat.not_lt_zero _))) ⟨rfl, rfl, rfl, trivial⟩
theorem rcni_261 {q : Nat} (hM : w_ML S) (hK : KR 261 T n cs ms S) (hw : wHo cs ms os) (hq : q < cs.length) (htx : 0 ≤ tx ∧ tx < 16000) (h85 : S 285 tx = (x.length : Int)) (h84 : S 284 tx = f0) (hf0 : 0 ≤ f0 ∧ f0 + (x.length : Int) ≤ 269632) (hx : ∀ i : Nat, i < x.length → S 283 (f0 + (i : Int)) = x.getD i 0) (h1 : (cNa T cs (q : Int)) = x → wJ (pe_GA xs) wY0 M d t_M_classNamed ((pe_at t_M_classNamed.bl 7).getD (0, [])).2 [(0, (2, 237)), (1, (0, tx)), (2, (0, (q : Int))), (4, (0, 1))] [] S Q) (h0 : (cNa T cs (q : Int)) ≠ x → wJ (pe_GA xs) wY0 M d t_M_classNamed ((pe_at t_M_classNamed.bl 7).getD (0, [])).2 [(0, (2, 237)), (1, (0, tx)), (2, (0, (q : Int))), (4, (0, 0))] [] S Q) : ∀ (f i : Nat) (sm : Int), i + f = (cNa T cs (q : Int)).length → ((sm = 1 ∧ x.length = (cNa T cs (q : Int)).length ∧ ∀ y : Nat, y < i → (cNa T cs (q : Int)).getD y 0 = x.getD y 0) ∨ (sm = 0 ∧ (cNa T cs (q : Int)) ≠ x)) → wJ (pe_GA xs) wY0 M d t_M_classNamed ((pe_at t_M_classNamed.bl 4).getD (0, [])).2 [(0, (2, 237)), (1, (0, tx)), (2, (0, (q : Int))), (3, (0, ((cNa T cs (q : Int)).length : Int))), (4, (0, sm)), (5, (0, (i : Int)))] [] S Q := by
  have hn6 := hK.2.2.2.2.2.1
  have h60 := hw.1
  have h13 : S 237 13 = 261 := hK.1
  have hkr := hK.2.2.2.2.2.2.2 (q : Int) (by omega) (by omega)
  have hNl := cNa_l (T := T) (cs := cs) (k := (q : Int)) (by omega)
  have hNs : ∀ i : Nat, i < (cNa T cs (q : Int)).length → S 262 ((hcR cs (q : Int)).2.1 + (i : Int)) = (cNa T cs (q : Int)).getD i 0 := fun i hi => by rw [cNa_s hi]; exact hK.2.2.2.2.1 _ (by omega) (by omega)
  have hcc := KR_c hK (k := (q : Int)) (by omega) (by omega)
  have e9 : S 270 (q : Int) = (hcR cs (q : Int)).2.1 := hcc.2.1
  have e10 : S 271 (q : Int) = (hcR cs (q : Int)).2.2.1 := hcc.2.2.1
  intro f
  induction f with
  | zero =>
    intro i sm hi hs
    refine wa_iload (n := 5) rfl ?_
    refine wa_iload_n (n := 3) rfl ?_
    refine wa_icmpge (w_rg0 (by omega) (by omega)) (w_rg0 (by omega) (by omega)) ⟨_, rfl⟩ (fun c1 => ?_) (fun c1 => ?_)
    · skip
      rcases hs with ⟨rfl, hs1, hs2⟩ | ⟨rfl, hs1⟩
      · first | omega | exact wJ_S (h1 (nth_ext (by omega) (fun y hy => hs2 y (by omega)))) ⟨rfl, rfl, rfl, rfl, trivial⟩
      · exact wJ_S (h0 hs1) ⟨rfl, rfl, rfl, rfl, trivial⟩
    · skip
      exfalso; omega
  | succ f ih =>
    intro i sm hi hs
    have hsr : sm = 0 ∨ sm = 1 := hs.elim (fun z => Or.inr z.1) (fun z => Or.inl z.1)
    have esr : S 262 ((hcR cs (q : Int)).2.1 + (i : Int)) = (cNa T cs (q : Int)).getD i 0 := hNs i (by omega)
    refine wa_iload (n := 5) rfl ?_
    refine wa_iload_n (n := 3) rfl ?_
    refine wa_icmpge (w_rg0 (by omega) (by omega)) (w_rg0 (by omega) (by omega)) ⟨_, rfl⟩ (fun c51 => ?_) (fun c51 => ?_)
    · skip
      exfalso; omega
    · skip
      refine wa_iload (n := 4) rfl ?_
      refine wa_ifeq (w_rg0 (by omega) (by omega)) ⟨_, rfl⟩ (fun c52 => ?_) (fun c52 => ?_)
      · skip
        rcases hs with ⟨rfl, hs1, hs2⟩ | ⟨rfl, hs1⟩
        · first | omega | exact wJ_S (h1 (nth_ext (by omega) (fun y hy => hs2 y (by omega)))) ⟨rfl, rfl, rfl, rfl, trivial⟩
        · exact wJ_S (h0 hs1) ⟨rfl, rfl, rfl, rfl, trivial⟩
      · skip
        have hs1 : sm = 1 ∧ x.length = (cNa T cs (q : Int)).length ∧ ∀ y : Nat, y < i → (cNa T cs (q : Int)).getD y 0 = x.getD y 0 := hs.elim id (fun z => by omega)
        have exr : S 283 (f0 + (i : Int)) = x.getD i 0 := hx i (by omega)
        refine wa_aload_n (n := 0) rfl ?_
        refine wb_gf5 237 rfl (wy_pr rfl) wt_237 wf_15_13 (v := 261) (h13) (fun r53 => ?_)
        refine wb_gf4 261 rfl (wy_pr rfl) wt_261 wf_12_0 (v := 262) wl_261_0 ?_
        refine wa_aload_n (n := 0) rfl ?_
        refine wb_gf5 237 rfl (wy_pr rfl) wt_237 wf_15_13 (v := 261) (h13) (fun r54 => ?_)
        refine wb_gf4 261 rfl (wy_pr rfl) wt_261 wf_12_9 (v := 270) wl_261_9 ?_
        refine wa_iload_n (n := 2) rfl ?_
        refine wb_iald 270 rfl (wy_pr rfl) wt_270 (n := 60) ((ml_270 hM)) (by omega) (by omega) (v := (hcR cs (q : Int)).2.1) (e9) (fun r55 => ?_)
        refine wa_iload (n := 5) rfl ?_
        refine wa_iadd ?_
        refine wb_bald 262 rfl (wy_pr rfl) wt_262 (n := 65536) ((ml_262 hM)) (by omega) (by omega) (v := ((cNa T cs (q : Int)).getD i 0)) (esr) (fun r56 => ?_)
        refine wa_aload_n (n := 0) rfl ?_
        refine wb_gf4 237 rfl (wy_pr rfl) wt_237 wf_15_21 (v := 283) wl_237_21 ?_
        refine wa_aload_n (n := 0) rfl ?_
        refine wb_gf4 237 rfl (wy_pr rfl) wt_237 wf_15_22 (v := 284) wl_237_22 ?_
        refine wa_iload_n (n := 1) rfl ?_
        refine wb_iald 284 rfl (wy_pr rfl) wt_284 (n := 16000) ((ml_284 hM)) (by omega) (by omega) (v := f0) (h84) (fun r57 => ?_)
        refine wa_iload (n := 5) rfl ?_
        refine wa_iadd ?_
        refine wb_bald 283 rfl (wy_pr rfl) wt_283 (n := 269632) ((ml_283 hM)) (by omega) (by omega) (v := (x.getD i 0)) (exr) (fun r58 => ?_)
        refine wa_icmpne (w_rg0 (by omega) (by omega)) (w_rg0 (by omega) (by omega)) ⟨_, rfl⟩ (fun c59 => ?_) (fun c59 => ?_)
        · skip
          refine wa_iconst ?_
          refine wa_fall ⟨_, rfl⟩ ?_
          refine wa_istore (n := 4) rfl ?_
          refine wa_iinc rfl rfl ?_
          refine wa_goto ⟨_, rfl⟩ ?_
          refine wJ_S (ih (i + 1) 0 (by omega) (Or.inr ⟨rfl, fun z => ?_⟩)) ⟨rfl, rfl, rfl, rfl, rfl, rfl, trivial⟩
          have z2 : (cNa T cs (q : Int)).getD i 0 = x.getD i 0 := by rw [z]
          omega
        · skip
          refine wa_iconst ?_
          refine wa_goto ⟨_, rfl⟩ ?_
          refine wa_istore (n := 4) rfl ?_
          refine wa_iinc rfl rfl ?_
          refine wa_goto ⟨_, rfl⟩ ?_
          refine wJ_S (ih (i + 1) 1 (by omega) (Or.inl ⟨rfl, hs1.2.1, fun y hy => ?_⟩)) ⟨rfl, rfl, rfl, rfl, rfl, rfl, trivial⟩
          by_cases hyx : y = i
          · rw [hyx]; omega
          · exact hs1.2.2 y (by omega)
theorem rcno_261 (hM : w_ML S) (hK : KR 261 T n cs ms S) (hw : wHo cs ms os) (htx : 0 ≤ tx ∧ tx < 16000) (h85 : S 285 tx = (x.length : Int)) (h84 : S 284 tx = f0) (hf0 : 0 ≤ f0 ∧ f0 + (x.length : Int) ≤ 269632) (hx : ∀ i : Nat, i < x.length → S 283 (f0 + (i : Int)) = x.getD i 0) : ∀ (f q : Nat), q + f = cs.length → (∀ i : Nat, i < q → cNa T cs (i : Int) ≠ x) → wJ (pe_GA xs) wY0 M d t_M_classNamed ((pe_at t_M_classNamed.bl 1).getD (0, [])).2 [(0, (2, 237)), (1, (0, tx)), (2, (0, (q : Int)))] [] S (fun o Z => S = Z ∧ o = .inl (some (0, cIx T cs x))) := by
  have hn1 := hK.2.1
  intro f
  induction f with
  | zero =>
    intro q hqc hno
    have hqm : q = cs.length := by omega
    rw [hqm] at hno
    have h13 : S 237 13 = 261 := hK.1
    have hnc : S 261 1 = (cs.length : Int) := hn1.1
    have ec : cIx T cs x = -1 := ctA_0 (fun i hi => decide_eq_false (hno i hi))
    rw [ec]
    refine wa_iload_n (n := 2) rfl ?_
    refine wa_aload_n (n := 0) rfl ?_
    refine wb_gf5 237 rfl (wy_pr rfl) wt_237 wf_15_13 (v := 261) (h13) (fun r1 => ?_)
    refine wb_gfi 261 rfl (wy_pr rfl) wt_261 wf_12_1 (v := (cs.length : Int)) (hnc) (fun r2 => ?_)
    refine wa_icmpge (w_rg0 (by omega) (by omega)) (w_rg0 (by omega) (by omega)) ⟨_, rfl⟩ (fun c3 => ?_) (fun c3 => ?_)
    · skip
      refine wa_iconst ?_
      refine wa_ireturn rfl ?_
      exact ⟨rfl, rfl⟩
    · skip
      exfalso; omega
  | succ f ih =>
    intro q hqc hno
    have hnc : S 261 1 = (cs.length : Int) := hn1.1
    have hn6 := hK.2.2.2.2.2.1
    have h60 := hw.1
    have h13 : S 237 13 = 261 := hK.1
    have hkr := hK.2.2.2.2.2.2.2 (q : Int) (by omega) (by omega)
    have hNl := cNa_l (T := T) (cs := cs) (k := (q : Int)) (by omega)
    have hNs : ∀ i : Nat, i < (cNa T cs (q : Int)).length → S 262 ((hcR cs (q : Int)).2.1 + (i : Int)) = (cNa T cs (q : Int)).getD i 0 := fun i hi => by rw [cNa_s hi]; exact hK.2.2.2.2.1 _ (by omega) (by omega)
    have hcc := KR_c hK (k := (q : Int)) (by omega) (by omega)
    have e9 : S 270 (q : Int) = (hcR cs (q : Int)).2.1 := hcc.2.1
    have e10 : S 271 (q : Int) = (hcR cs (q : Int)).2.2.1 := hcc.2.2.1
    refine wa_iload_n (n := 2) rfl ?_
    refine wa_aload_n (n := 0) rfl ?_
    refine wb_gf5 237 rfl (wy_pr rfl) wt_237 wf_15_13 (v := 261) (h13) (fun r51 => ?_)
    refine wb_gfi 261 rfl (wy_pr rfl) wt_261 wf_12_1 (v := (cs.length : Int)) (hnc) (fun r52 => ?_)
    refine wa_icmpge (w_rg0 (by omega) (by omega)) (w_rg0 (by omega) (by omega)) ⟨_, rfl⟩ (fun c53 => ?_) (fun c53 => ?_)
    · skip
      exfalso; omega
    · skip
      refine wa_aload_n (n := 0) rfl ?_
      refine wb_gf5 237 rfl (wy_pr rfl) wt_237 wf_15_13 (v := 261) (h13) (fun r54 => ?_)
      refine wb_gf4 261 rfl (wy_pr rfl) wt_261 wf_12_10 (v := 271) wl_261_10 ?_
      refine wa_iload_n (n := 2) rfl ?_
      refine wb_iald 271 rfl (wy_pr rfl) wt_271 (n := 60) ((ml_271 hM)) (by omega) (by omega) (v := (hcR cs (q : Int)).2.2.1) (e10) (fun r55 => ?_)
      refine wa_aload_n (n := 0) rfl ?_
      refine wb_gf5 237 rfl (wy_pr rfl) wt_237 wf_15_13 (v := 261) (h13) (fun r56 => ?_)
      refine wb_gf4 261 rfl (wy_pr rfl) wt_261 wf_12_9 (v := 270) wl_261_9 ?_
      refine wa_iload_n (n := 2) rfl ?_
      refine wb_iald 270 rfl (wy_pr rfl) wt_270 (n := 60) ((ml_270 hM)) (by omega) (by omega) (v := (hcR cs (q : Int)).2.1) (e9) (fun r57 => ?_)
      refine wa_isub ?_
      refine wJ_top (show ((hcR cs (q : Int)).2.2.1 - (hcR cs (q : Int)).2.1) = ((cNa T cs (q : Int)).length : Int) by omega) ?_
      refine wa_istore_n (n := 3) rfl ?_
      refine wa_iload_n (n := 3) rfl ?_
      refine wa_aload_n (n := 0) rfl ?_
      refine wb_gf4 237 rfl (wy_pr rfl) wt_237 wf_15_23 (v := 285) wl_237_23 ?_
      refine wa_iload_n (n := 1) rfl ?_
      refine wb_iald 285 rfl (wy_pr rfl) wt_285 (n := 16000) ((ml_285 hM)) (by omega) (by omega) (v := (x.length : Int)) (h85) (fun r58 => ?_)
      refine wa_icmpne (w_rg0 (by omega) (by omega)) (w_rg0 (by omega) (by omega)) ⟨_, rfl⟩ (fun c59 => ?_) (fun c59 => ?_)
      · skip
        refine wa_iconst ?_
        refine wa_fall ⟨_, rfl⟩ ?_
        refine wa_istore (n := 4) rfl ?_
        refine wa_iconst ?_
        refine wa_istore (n := 5) rfl ?_
        refine wa_fall ⟨_, rfl⟩ ?_
        refine wJ_S (rcni_261 hM hK hw (by omega) htx h85 h84 hf0 hx (fun he => ?_) (fun he => ?_) (cNa T cs (q : Int)).length 0 0 (by omega) (Or.inr ⟨rfl, fun z => by have z2 := congrArg List.length z; omega⟩)) ⟨rfl, rfl, rfl, rfl, rfl, rfl, trivial⟩
        · skip
          refine wa_iload (n := 4) rfl ?_
          refine wa_ifeq (w_rg0 (by omega) (by omega)) ⟨_, rfl⟩ (fun c201 => ?_) (fun c201 => ?_)
          · skip
            exact absurd c201 (by omega)
          · skip
            refine wa_iload_n (n := 2) rfl ?_
            refine wa_ireturn rfl ?_
            have ec : cIx T cs x = (q : Int) := ctA_q (by omega) (decide_eq_true he) (fun i hi => decide_eq_false (hno i hi))
            rw [ec]
            exact ⟨rfl, rfl⟩
        · skip
          refine wa_iload (n := 4) rfl ?_
          refine wa_ifeq (w_rg0 (by omega) (by omega)) ⟨_, rfl⟩ (fun c201 => ?_) (fun c201 => ?_)
          · skip
            refine wa_iinc rfl rfl ?_
            refine wa_goto ⟨_, rfl⟩ ?_
            refine wJ_S (ih (q + 1) (by omega) (fun i hi => ?_)) ⟨rfl, rfl, rfl, trivial⟩
            by_cases ce : i = q
            · rw [ce]; exact he
            · exact hno i (by omega)
          · skip
            exact absurd c201 (by omega)
      · skip
        refine wa_iconst ?_
        refine wa_goto ⟨_, rfl⟩ ?_
        refine wa_istore (n := 4) rfl ?_
        refine wa_iconst ?_
        refine wa_istore (n := 5) rfl ?_
        refine wa_fall ⟨_, rfl⟩ ?_
        refine wJ_S (rcni_261 hM hK hw (by omega) htx h85 h84 hf0 hx (fun he => ?_) (fun he => ?_) (cNa T cs (q : Int)).length 0 1 (by omega) (Or.inl ⟨rfl, by omega, fun y hy => absurd hy (Nat.not_lt_zero _)⟩)) ⟨rfl, rfl, rfl, rfl, rfl, rfl, trivial⟩
        · skip
          refine wa_iload (n := 4) rfl ?_
          refine wa_ifeq (w_rg0 (by omega) (by omega)) ⟨_, rfl⟩ (fun c201 => ?_) (fun c201 => ?_)
          · skip
            exact absurd c201 (by omega)
          · skip
            refine wa_iload_n (n := 2) rfl ?_
            refine wa_ireturn rfl ?_
            have ec : cIx T cs x = (q : Int) := ctA_q (by omega) (decide_eq_true he) (fun i hi => decide_eq_false (hno i hi))
            rw [ec]
            exact ⟨rfl, rfl⟩
        · skip
          refine wa_iload (n := 4) rfl ?_
          refine wa_ifeq (w_rg0 (by omega) (by omega)) ⟨_, rfl⟩ (fun c201 => ?_) (fun c201 => ?_)
          · skip
            refine wa_iinc rfl rfl ?_
            refine wa_goto ⟨_, rfl⟩ ?_
            refine wJ_S (ih (q + 1) (by omega) (fun i hi => ?_)) ⟨rfl, rfl, rfl, trivial⟩
            by_cases ce : i = q
            · rw [ce]; exact he
            · exact hno i (by omega)
          · skip
            exact absurd c201 (by omega)
theorem rcnm_261 (hM : w_ML S) (hK : KR 261 T n cs ms S) (hw : wHo cs ms os) (htx : 0 ≤ tx ∧ tx < 16000) (h85 : S 285 tx = (x.length : Int)) (h84 : S 284 tx = f0) (hf0 : 0 ≤ f0 ∧ f0 + (x.length : Int) ≤ 269632) (hx : ∀ i : Nat, i < x.length → S 283 (f0 + (i : Int)) = x.getD i 0) : wJ (pe_GA xs) wY0 M d t_M_classNamed ((pe_at t_M_classNamed.bl 0).getD (0, [])).2 [(0, (2, 237)), (1, (0, tx))] [] S (fun o Z => S = Z ∧ o = .inl (some (0, cIx T cs x))) := by
  refine wa_iconst ?_
  refine wa_istore_n (n := 2) rfl ?_
  refine wa_fall ⟨_, rfl⟩ ?_
  exact wJ_S (rcno_261 hM hK hw htx h85 h84 hf0 hx cs.length 0 (by omega) (fun i hi => absurd hi (Nat.not_lt_zero _))) ⟨rfl, rfl, rfl, trivial⟩
theorem yb7 {t c p h tp vy r : Int} (hP : mP t c p h tp S) (hky : S 363 (2100 * t + h - 1) = 3) (hvy : S 364 (2100 * t + h - 1) = vy) (hh1 : 1 ≤ h) (hvr : 0 ≤ vy ∧ vy < 16000) (hrr : -1 ≤ r ∧ r ≤ 60) (hcal : wJ (pe_GA xs) wY0 (fun _ => False) (d + 9) t_M_classNamed ((pe_at t_M_classNamed.bl 0).getD (0, [])).2 [(0, (2, 237)), (1, (0, vy))] [] S (fun o Z => S = Z ∧ o = .inl (some (0, r)))) : wJ (pe_GA xs) wY0 M (d + 11) t_M_others ((pe_at t_M_others.bl 0).getD (0, [])).2 [(0, (2, 237)), (1, (0, 28)), (2, (0, 7))] [] S (fun o Z => (r = -1 ∧ o = .inr 238 ∧ hZ 12 S = Z) ∨ (0 ≤ r ∧ o = .inl none ∧ w_up (w_up S 363 (2100 * t + h - 1) 8) 364 (2100 * t + h - 1) r = Z)) := by
  obtain ⟨hM, ⟨mt, mt0, mt1⟩, mp, mf, ⟨mc, mc0, mc1⟩, ⟨mtp, mtq⟩, ⟨mpa, mp0, mp1⟩, mh, mh0, mh1⟩ := id hP
  have hky2 : S 363 (2100 * t + (h - 1)) = 3 := by rw [show 2100 * t + (h - 1) = 2100 * t + h - 1 by omega]; exact hky
  have hvy2 : S 364 (2100 * t + (h - 1)) = vy := by rw [show 2100 * t + (h - 1) = 2100 * t + h - 1 by omega]; exact hvy
  refine wa_aload_n (n := 0) rfl ?_
  refine wa_cv 237 rfl (wy_pr rfl) wt_237 (M2 := fun _ => False) rfl at_M_h ⟨_, rfl⟩ rfl rfl ⟨(Or.inr ⟨wy_pr rfl, fun q => q⟩), trivial, trivial, trivial⟩ trivial (fun _ _ q => False.elim q) ?_ (fun _ _ _ q => q)
  refine wa_aload_n (n := 0) rfl ?_
  refine wb_gfi 237 rfl (wy_pr rfl) wt_237 wf_15_152 (v := (2100 * t)) (mp) (fun r1 => ?_)
  refine wa_aload_n (n := 0) rfl ?_
  refine wb_gf4 237 rfl (wy_pr rfl) wt_237 wf_15_134 (v := 359) wl_237_134 ?_
  refine wa_aload_n (n := 0) rfl ?_
  refine wb_gfi 237 rfl (wy_pr rfl) wt_237 wf_15_151 (v := t) (mt) (fun r2 => ?_)
  refine wb_iald 359 rfl (wy_pr rfl) wt_359 (n := 2) ((ml_359 hM)) (by omega) (by omega) (v := h) (mh) (fun r3 => ?_)
  refine wa_iadd ?_
  refine wa_ireturn rfl ?_
  show wJ _ _ _ _ _ _ _ _ _ _
  refine wa_iconst ?_
  refine wa_isub ?_
  refine wa_istore_n (n := 3) rfl ?_
  refine wa_iload_n (n := 1) rfl ?_
  refine wb_sw (w_rg0 (by omega) (by omega)) (tb := 12) rfl ⟨_, rfl⟩ ?_
  refine wa_aload_n (n := 0) rfl ?_
  refine wa_iload_n (n := 2) rfl ?_
  refine wa_cv 237 rfl (wy_pr rfl) wt_237 (M2 := fun _ => False) rfl at_M_builtins ⟨_, rfl⟩ rfl rfl ⟨trivial, (Or.inr ⟨wy_pr rfl, fun q => q⟩), trivial, trivial, trivial⟩ trivial (fun _ _ q => False.elim q) ?_ (fun _ _ _ q => q)
  refine wa_aload_n (n := 0) rfl ?_
  refine wa_cv 237 rfl (wy_pr rfl) wt_237 (M2 := fun _ => False) rfl at_M_h ⟨_, rfl⟩ rfl rfl ⟨(Or.inr ⟨wy_pr rfl, fun q => q⟩), trivial, trivial⟩ trivial (fun _ _ q => False.elim q) ?_ (fun _ _ _ q => q)
  refine wa_aload_n (n := 0) rfl ?_
  refine wb_gfi 237 rfl (wy_pr rfl) wt_237 wf_15_152 (v := (2100 * t)) (mp) (fun r4 => ?_)
  refine wa_aload_n (n := 0) rfl ?_
  refine wb_gf4 237 rfl (wy_pr rfl) wt_237 wf_15_134 (v := 359) wl_237_134 ?_
  refine wa_aload_n (n := 0) rfl ?_
  refine wb_gfi 237 rfl (wy_pr rfl) wt_237 wf_15_151 (v := t) (mt) (fun r5 => ?_)
  refine wb_iald 359 rfl (wy_pr rfl) wt_359 (n := 2) ((ml_359 hM)) (by omega) (by omega) (v := h) (mh) (fun r6 => ?_)
  refine wa_iadd ?_
  refine wa_ireturn rfl ?_
  show wJ _ _ _ _ _ _ _ _ _ _
  refine wa_iconst ?_
  refine wa_isub ?_
  refine wa_istore_n (n := 2) rfl ?_
  refine wa_iload_n (n := 2) rfl ?_
  refine wa_iconst ?_
  refine wa_isub ?_
  refine wa_istore_n (n := 3) rfl ?_
  refine wa_iload_n (n := 1) rfl ?_
  refine wb_sw (w_rg0 (by omega) (by omega)) (tb := 17) rfl ⟨_, rfl⟩ ?_
  refine wa_aload_n (n := 0) rfl ?_
  refine wb_gf4 237 rfl (wy_pr rfl) wt_237 wf_15_138 (v := 363) wl_237_138 ?_
  refine wa_iload_n (n := 2) rfl ?_
  refine wb_iald 363 rfl (wy_pr rfl) wt_363 (n := 4200) ((ml_363 hM)) (by omega) (by omega) (v := 3) (hky) (fun r7 => ?_)
  refine wa_iconst ?_
  refine wa_icmpne (w_rg0 (by omega) (by omega)) (w_rg0 (by omega) (by omega)) ⟨_, rfl⟩ (fun c8 => ?_) (fun c8 => ?_)
  · skip
    exact absurd c8 (by omega)
  · skip
    refine wa_aload_n (n := 0) rfl ?_
    refine wa_aload_n (n := 0) rfl ?_
    refine wb_gf4 237 rfl (wy_pr rfl) wt_237 wf_15_139 (v := 364) wl_237_139 ?_
    refine wa_iload_n (n := 2) rfl ?_
    refine wb_lald 364 rfl (wy_pr rfl) wt_364 (n := 4200) ((ml_364 hM)) (by omega) (by omega) (v := vy) (hvy) (fun r9 => ?_)
    refine wb_l2i_r (wb_l2i_id ⟨(by omega), (by omega)⟩) ?_
    refine wa_cv 237 rfl (wy_pr rfl) wt_237 (M2 := fun _ => False) rfl at_M_classNamed ⟨_, rfl⟩ rfl rfl ⟨trivial, trivial, (Or.inr ⟨wy_pr rfl, fun q => q⟩), trivial, trivial⟩ trivial (fun _ _ q => False.elim q) (hcal) (fun oq10 Sq10 hp11 q10 => ?_)
    rcases q10 with ⟨rfl, rfl⟩
    show wJ _ _ _ _ _ _ _ _ _ _
    refine wa_goto ⟨_, rfl⟩ ?_
    refine wa_istore (n := 7) rfl ?_
    refine wa_iload (n := 7) rfl ?_
    refine wa_ifge (w_rg0 (by omega) (by omega)) ⟨_, rfl⟩ (fun c12 => ?_) (fun c12 => ?_)
    · skip
      refine wa_aload_n (n := 0) rfl ?_
      refine wa_iload_n (n := 2) rfl ?_
      refine wa_bipush (w_rg2 (by omega) (by omega)) ?_
      refine wa_iload (n := 7) rfl ?_
      refine wa_i2l (w_rg0 (by omega) (by omega)) ?_
      refine wa_cv 237 rfl (wy_pr rfl) wt_237 (M2 := fun _ => False) rfl at_M_put ⟨_, rfl⟩ rfl rfl ⟨trivial, trivial, trivial, (Or.inr ⟨wy_pr rfl, fun q => q⟩), trivial, trivial⟩ trivial (fun _ _ q => False.elim q) ?_ (fun _ _ _ q => q)
      refine wa_aload_n (n := 0) rfl ?_
      refine wb_gf4 237 rfl (wy_pr rfl) wt_237 wf_15_138 (v := 363) wl_237_138 ?_
      refine wa_iload_n (n := 1) rfl ?_
      refine wa_iload_n (n := 2) rfl ?_
      refine wb_iast 363 rfl (wy_pr rfl) wt_363 (n := 4200) ((ml_363 hM)) (by omega) (by omega) ⟨(by omega), (by omega)⟩ ?_
      refine wa_aload_n (n := 0) rfl ?_
      refine wb_gf4 237 rfl (wy_pr rfl) wt_237 wf_15_139 (v := 364) wl_237_139 ?_
      refine wa_iload_n (n := 1) rfl ?_
      refine wa_lload_n (n := 3) rfl ?_
      refine wb_last 364 rfl (wy_pr rfl) wt_364 (n := 4200) ((w_up_slot (by decide)).trans ((ml_364 hM))) (by omega) (by omega) ⟨(by omega), (by omega)⟩ ?_
      refine wa_return rfl ?_
      show wJ _ _ _ _ _ _ _ _ _ _
      refine wa_fall ⟨_, rfl⟩ ?_
      refine wa_return rfl ?_
      show wJ _ _ _ _ _ _ _ _ _ _
      refine wa_goto ⟨_, rfl⟩ ?_
      refine wa_return rfl ?_
      exact Or.inr ⟨by omega, rfl, rfl⟩
    · skip
      refine wa_aload_n (n := 0) rfl ?_
      refine wa_bipush (w_rg2 (by omega) (by omega)) ?_
      refine wa_cv 237 rfl (wy_pr rfl) wt_237 (M2 := fun _ => False) rfl at_M_error ⟨_, rfl⟩ rfl rfl ⟨trivial, trivial, trivial, (Or.inr ⟨wy_pr rfl, fun q => q⟩), trivial, trivial⟩ trivial (fun _ _ q => False.elim q) ?_ (fun _ _ _ q => q)
      refine wa_aload_n (n := 0) rfl ?_
      refine wb_gf4 237 rfl (wy_pr rfl) wt_237 wf_15_1 (v := 238) wl_237_1 ?_
      refine wa_iload_n (n := 1) rfl ?_
      refine wa_iconst ?_
      refine wa_cv 238 rfl (wy_pr rfl) wt_238 (M2 := fun _ => False) rfl at_MH_of ⟨_, rfl⟩ rfl rfl ⟨(Or.inr ⟨wy_pr rfl, fun q => q⟩), trivial, trivial⟩ trivial (fun _ _ q => False.elim q) ?_ (fun _ _ _ q => q)
      refine wa_aload_n (n := 0) rfl ?_
      refine wa_iload_n (n := 1) rfl ?_
      refine wb_pfi 238 rfl (wy_pr rfl) wt_238 wf_11_5 (n := 5) rfl ⟨(by omega), (by omega)⟩ ?_
      refine wa_aload_n (n := 0) rfl ?_
      refine wa_iload_n (n := 2) rfl ?_
      refine wb_pfi 238 rfl (wy_pr rfl) wt_238 wf_11_6 (n := 6) rfl ⟨(by omega), (by omega)⟩ ?_
      refine wa_aload_n (n := 0) rfl ?_
      refine wa_oreturn rfl ?_
      show wJ _ _ _ _ _ _ _ _ _ _
      refine wa_th (j := 238) ?_
      refine ⟨rfl, ?_⟩
      refine ⟨rfl, ?_⟩
      exact Or.inl ⟨by omega, rfl, rfl⟩
theorem yb7n {t c p h tp ky vy : Int} (hP : mP t c p h tp S) (hky : S 363 (2100 * t + h - 1) = ky) (hvy : S 364 (2100 * t + h - 1) = vy) (hh1 : 1 ≤ h) (hk3 : ky ≠ 3) (hk8 : 0 ≤ ky ∧ ky ≤ 8) : wJ (pe_GA xs) wY0 M (d + 11) t_M_others ((pe_at t_M_others.bl 0).getD (0, [])).2 [(0, (2, 237)), (1, (0, 28)), (2, (0, 7))] [] S (fun o Z => o = .inr 238 ∧ hZ 12 S = Z) := by
  obtain ⟨hM, ⟨mt, mt0, mt1⟩, mp, mf, ⟨mc, mc0, mc1⟩, ⟨mtp, mtq⟩, ⟨mpa, mp0, mp1⟩, mh, mh0, mh1⟩ := id hP
  have hky2 : S 363 (2100 * t + (h - 1)) = ky := by rw [show 2100 * t + (h - 1) = 2100 * t + h - 1 by omega]; exact hky
  have hvy2 : S 364 (2100 * t + (h - 1)) = vy := by rw [show 2100 * t + (h - 1) = 2100 * t + h - 1 by omega]; exact hvy
  refine wa_aload_n (n := 0) rfl ?_
  refine wa_cv 237 rfl (wy_pr rfl) wt_237 (M2 := fun _ => False) rfl at_M_h ⟨_, rfl⟩ rfl rfl ⟨(Or.inr ⟨wy_pr rfl, fun q => q⟩), trivial, trivial, trivial⟩ trivial (fun _ _ q => False.elim q) ?_ (fun _ _ _ q => q)
  refine wa_aload_n (n := 0) rfl ?_
  refine wb_gfi 237 rfl (wy_pr rfl) wt_237 wf_15_152 (v := (2100 * t)) (mp) (fun r1 => ?_)
  refine wa_aload_n (n := 0) rfl ?_
  refine wb_gf4 237 rfl (wy_pr rfl) wt_237 wf_15_134 (v := 359) wl_237_134 ?_
  refine wa_aload_n (n := 0) rfl ?_
  refine wb_gfi 237 rfl (wy_pr rfl) wt_237 wf_15_151 (v := t) (mt) (fun r2 => ?_)
  refine wb_iald 359 rfl (wy_pr rfl) wt_359 (n := 2) ((ml_359 hM)) (by omega) (by omega) (v := h) (mh) (fun r3 => ?_)
  refine wa_iadd ?_
  refine wa_ireturn rfl ?_
  show wJ _ _ _ _ _ _ _ _ _ _
  refine wa_iconst ?_
  refine wa_isub ?_
  refine wa_istore_n (n := 3) rfl ?_
  refine wa_iload_n (n := 1) rfl ?_
  refine wb_sw (w_rg0 (by omega) (by omega)) (tb := 12) rfl ⟨_, rfl⟩ ?_
  refine wa_aload_n (n := 0) rfl ?_
  refine wa_iload_n (n := 2) rfl ?_
  refine wa_cv 237 rfl (wy_pr rfl) wt_237 (M2 := fun _ => False) rfl at_M_builtins ⟨_, rfl⟩ rfl rfl ⟨trivial, (Or.inr ⟨wy_pr rfl, fun q => q⟩), trivial, trivial, trivial⟩ trivial (fun _ _ q => False.elim q) ?_ (fun _ _ _ q => q)
  refine wa_aload_n (n := 0) rfl ?_
  refine wa_cv 237 rfl (wy_pr rfl) wt_237 (M2 := fun _ => False) rfl at_M_h ⟨_, rfl⟩ rfl rfl ⟨(Or.inr ⟨wy_pr rfl, fun q => q⟩), trivial, trivial⟩ trivial (fun _ _ q => False.elim q) ?_ (fun _ _ _ q => q)
  refine wa_aload_n (n := 0) rfl ?_
  refine wb_gfi 237 rfl (wy_pr rfl) wt_237 wf_15_152 (v := (2100 * t)) (mp) (fun r4 => ?_)
  refine wa_aload_n (n := 0) rfl ?_
  refine wb_gf4 237 rfl (wy_pr rfl) wt_237 wf_15_134 (v := 359) wl_237_134 ?_
  refine wa_aload_n (n := 0) rfl ?_
  refine wb_gfi 237 rfl (wy_pr rfl) wt_237 wf_15_151 (v := t) (mt) (fun r5 => ?_)
  refine wb_iald 359 rfl (wy_pr rfl) wt_359 (n := 2) ((ml_359 hM)) (by omega) (by omega) (v := h) (mh) (fun r6 => ?_)
  refine wa_iadd ?_
  refine wa_ireturn rfl ?_
  show wJ _ _ _ _ _ _ _ _ _ _
  refine wa_iconst ?_
  refine wa_isub ?_
  refine wa_istore_n (n := 2) rfl ?_
  refine wa_iload_n (n := 2) rfl ?_
  refine wa_iconst ?_
  refine wa_isub ?_
  refine wa_istore_n (n := 3) rfl ?_
  refine wa_iload_n (n := 1) rfl ?_
  refine wb_sw (w_rg0 (by omega) (by omega)) (tb := 17) rfl ⟨_, rfl⟩ ?_
  refine wa_aload_n (n := 0) rfl ?_
  refine wb_gf4 237 rfl (wy_pr rfl) wt_237 wf_15_138 (v := 363) wl_237_138 ?_
  refine wa_iload_n (n := 2) rfl ?_
  refine wb_iald 363 rfl (wy_pr rfl) wt_363 (n := 4200) ((ml_363 hM)) (by omega) (by omega) (v := ky) (hky) (fun r7 => ?_)
  refine wa_iconst ?_
  refine wa_icmpne (w_rg0 (by omega) (by omega)) (w_rg0 (by omega) (by omega)) ⟨_, rfl⟩ (fun c8 => ?_) (fun c8 => ?_)
  · skip
    refine wa_iconst ?_
    refine wa_fall ⟨_, rfl⟩ ?_
    refine wa_istore (n := 7) rfl ?_
    refine wa_iload (n := 7) rfl ?_
    refine wa_ifge (w_rg0 (by omega) (by omega)) ⟨_, rfl⟩ (fun c9 => ?_) (fun c9 => ?_)
    · skip
      exact absurd c9 (by omega)
    · skip
      refine wa_aload_n (n := 0) rfl ?_
      refine wa_bipush (w_rg2 (by omega) (by omega)) ?_
      refine wa_cv 237 rfl (wy_pr rfl) wt_237 (M2 := fun _ => False) rfl at_M_error ⟨_, rfl⟩ rfl rfl ⟨trivial, trivial, trivial, (Or.inr ⟨wy_pr rfl, fun q => q⟩), trivial, trivial⟩ trivial (fun _ _ q => False.elim q) ?_ (fun _ _ _ q => q)
      refine wa_aload_n (n := 0) rfl ?_
      refine wb_gf4 237 rfl (wy_pr rfl) wt_237 wf_15_1 (v := 238) wl_237_1 ?_
      refine wa_iload_n (n := 1) rfl ?_
      refine wa_iconst ?_
      refine wa_cv 238 rfl (wy_pr rfl) wt_238 (M2 := fun _ => False) rfl at_MH_of ⟨_, rfl⟩ rfl rfl ⟨(Or.inr ⟨wy_pr rfl, fun q => q⟩), trivial, trivial⟩ trivial (fun _ _ q => False.elim q) ?_ (fun _ _ _ q => q)
      refine wa_aload_n (n := 0) rfl ?_
      refine wa_iload_n (n := 1) rfl ?_
      refine wb_pfi 238 rfl (wy_pr rfl) wt_238 wf_11_5 (n := 5) rfl ⟨(by omega), (by omega)⟩ ?_
      refine wa_aload_n (n := 0) rfl ?_
      refine wa_iload_n (n := 2) rfl ?_
      refine wb_pfi 238 rfl (wy_pr rfl) wt_238 wf_11_6 (n := 6) rfl ⟨(by omega), (by omega)⟩ ?_
      refine wa_aload_n (n := 0) rfl ?_
      refine wa_oreturn rfl ?_
      show wJ _ _ _ _ _ _ _ _ _ _
      refine wa_th (j := 238) ?_
      refine ⟨rfl, ?_⟩
      refine ⟨rfl, ?_⟩
      exact ⟨rfl, rfl⟩
  · skip
    exact absurd c8 (by omega)
theorem rnb7_241 (h : stR t S K) (hs : S 357 t = 1) (hi : rIn S K 28 7 b9) (hK : KR 241 T n cs ms S) (hw : wHo cs ms os) (ht : rTt S) (hh1 : 1 ≤ K.1.length) (hk : (K.1.getD (K.1.length - 1) (0, 0, [])).1 = 3) (hc : 0 ≤ (cIx T cs (K.1.getD (K.1.length - 1) (0, 0, [])).2.2)) : rSt xs d t S (kP K 1 (8, (cIx T cs (K.1.getD (K.1.length - 1) (0, 0, [])).2.2), [])) := by
  obtain ⟨h1, h2, h3, h4b, ⟨h7, h8, h9, h9b⟩, -⟩ := id h
  have hcy := r_at h1 (i := K.1.length - 1) (by omega) (j := (2100 * t + (K.1.length : Int) - 1)) (by omega)
  have ef : ∀ (j : Nat) (x : Int), j ≠ 237 → (w_up (w_up S 237 154 (200 * t + (K.2.1.length : Int) - 1)) 237 155 ((K.2.1.getD (K.2.1.length - 1) (0, 0, 0, (0, 0, []), 0, 0, 0)).2.1 + 1)) j x = S j x := fun j x j0 => r_16 rfl j0
  have hM0 : w_ML (w_up (w_up S 237 154 (200 * t + (K.2.1.length : Int) - 1)) 237 155 ((K.2.1.getD (K.2.1.length - 1) (0, 0, 0, (0, 0, []), 0, 0, 0)).2.1 + 1)) := T0_ml h2
  have hK0 : KR 241 T n cs ms (w_up (w_up S 237 154 (200 * t + (K.2.1.length : Int) - 1)) 237 155 ((K.2.1.getD (K.2.1.length - 1) (0, 0, 0, (0, 0, []), 0, 0, 0)).2.1 + 1)) := KR_ag hK (fun j x hj => (w_up_no (by omega)).trans (w_up_no (by omega)))
  obtain ⟨g1, g2, g3, g4⟩ := rV_t hcy hk ht
  have h60 := hw.1.1
  have hcr := ctA_rg (m := cs.length) (pr := fun k => decide (cNa T cs (k : Int) = (K.1.getD (K.1.length - 1) (0, 0, [])).2.2))
  replace hcr : (cIx T cs (K.1.getD (K.1.length - 1) (0, 0, [])).2.2) = -1 ∨ (0 ≤ (cIx T cs (K.1.getD (K.1.length - 1) (0, 0, [])).2.2) ∧ (cIx T cs (K.1.getD (K.1.length - 1) (0, 0, [])).2.2) < (cs.length : Int)) := hcr
  have hcal := yb7 (xs := xs) (M := fun _ => False) (d := d) (r := (cIx T cs (K.1.getD (K.1.length - 1) (0, 0, [])).2.2)) (mP_of h) ((ef 363 _ (by first | decide | omega)).trans (rV_k hcy hk)) (ef 364 _ (by first | decide | omega)) (by omega) g1 ⟨by omega, by omega⟩ (rcnm_241 (d := d + 9) (x := (K.1.getD (K.1.length - 1) (0, 0, [])).2.2) (f0 := S 284 (S 364 (2100 * t + (K.1.length : Int) - 1))) hM0 hK0 hw g1 ((ef 285 _ (by first | decide | omega)).trans g2) (ef 284 _ (by first | decide | omega)) g3 (fun i hi2 => (ef 283 _ (by first | decide | omega)).trans (g4 i hi2)))
  exact rg_t h hs hi.1 hi.2.1 hi.2.2 (by first | decide | omega) (R := fun Z => w_up (w_up (w_up (w_up S 237 154 (200 * t + (K.2.1.length : Int) - 1)) 237 155 ((K.2.1.getD (K.2.1.length - 1) (0, 0, 0, (0, 0, []), 0, 0, 0)).2.1 + 1)) 363 (2100 * t + (K.1.length : Int) - 1) 8) 364 (2100 * t + (K.1.length : Int) - 1) (cIx T cs (K.1.getD (K.1.length - 1) (0, 0, [])).2.2) = Z) (wJ_mono hcal (fun o Z hz => hz.elim (fun z => absurd z.1 (by omega)) (fun z => z.2))) (fun Z hz => rp_1 h hh1 (rV_e (by first | decide | omega) rfl) hz.symm)
theorem rnb7m_241 (h : stR t S K) (hs : S 357 t = 1) (hi : rIn S K 28 7 b9) (hK : KR 241 T n cs ms S) (hw : wHo cs ms os) (ht : rTt S) (hh1 : 1 ≤ K.1.length) (hk : (K.1.getD (K.1.length - 1) (0, 0, [])).1 = 3) (hc : (cIx T cs (K.1.getD (K.1.length - 1) (0, 0, [])).2.2) = -1) : rSt xs d t S (kTh K (2, 12, [])) := by
  obtain ⟨h1, h2, h3, h4b, ⟨h7, h8, h9, h9b⟩, -⟩ := id h
  have hcy := r_at h1 (i := K.1.length - 1) (by omega) (j := (2100 * t + (K.1.length : Int) - 1)) (by omega)
  have ef : ∀ (j : Nat) (x : Int), j ≠ 237 → (w_up (w_up S 237 154 (200 * t + (K.2.1.length : Int) - 1)) 237 155 ((K.2.1.getD (K.2.1.length - 1) (0, 0, 0, (0, 0, []), 0, 0, 0)).2.1 + 1)) j x = S j x := fun j x j0 => r_16 rfl j0
  have hM0 : w_ML (w_up (w_up S 237 154 (200 * t + (K.2.1.length : Int) - 1)) 237 155 ((K.2.1.getD (K.2.1.length - 1) (0, 0, 0, (0, 0, []), 0, 0, 0)).2.1 + 1)) := T0_ml h2
  have hK0 : KR 241 T n cs ms (w_up (w_up S 237 154 (200 * t + (K.2.1.length : Int) - 1)) 237 155 ((K.2.1.getD (K.2.1.length - 1) (0, 0, 0, (0, 0, []), 0, 0, 0)).2.1 + 1)) := KR_ag hK (fun j x hj => (w_up_no (by omega)).trans (w_up_no (by omega)))
  obtain ⟨g1, g2, g3, g4⟩ := rV_t hcy hk ht
  have h60 := hw.1.1
  have hcr := ctA_rg (m := cs.length) (pr := fun k => decide (cNa T cs (k : Int) = (K.1.getD (K.1.length - 1) (0, 0, [])).2.2))
  replace hcr : (cIx T cs (K.1.getD (K.1.length - 1) (0, 0, [])).2.2) = -1 ∨ (0 ≤ (cIx T cs (K.1.getD (K.1.length - 1) (0, 0, [])).2.2) ∧ (cIx T cs (K.1.getD (K.1.length - 1) (0, 0, [])).2.2) < (cs.length : Int)) := hcr
  have hcal := yb7 (xs := xs) (M := fun _ => False) (d := d) (r := (cIx T cs (K.1.getD (K.1.length - 1) (0, 0, [])).2.2)) (mP_of h) ((ef 363 _ (by first | decide | omega)).trans (rV_k hcy hk)) (ef 364 _ (by first | decide | omega)) (by omega) g1 ⟨by omega, by omega⟩ (rcnm_241 (d := d + 9) (x := (K.1.getD (K.1.length - 1) (0, 0, [])).2.2) (f0 := S 284 (S 364 (2100 * t + (K.1.length : Int) - 1))) hM0 hK0 hw g1 ((ef 285 _ (by first | decide | omega)).trans g2) (ef 284 _ (by first | decide | omega)) g3 (fun i hi2 => (ef 283 _ (by first | decide | omega)).trans (g4 i hi2)))
  exact rx_t h hs hi.1 hi.2.1 hi.2.2 (by first | decide | omega) (by first | decide | omega) (wJ_mono hcal (fun o Z hz => hz.elim (fun z => z.2) (fun z => absurd z.1 (by omega))))
theorem rnb7_261 (h : stR t S K) (hs : S 357 t = 1) (hi : rIn S K 28 7 b9) (hK : KR 261 T n cs ms S) (hw : wHo cs ms os) (ht : rTt S) (hh1 : 1 ≤ K.1.length) (hk : (K.1.getD (K.1.length - 1) (0, 0, [])).1 = 3) (hc : 0 ≤ (cIx T cs (K.1.getD (K.1.length - 1) (0, 0, [])).2.2)) : rSt xs d t S (kP K 1 (8, (cIx T cs (K.1.getD (K.1.length - 1) (0, 0, [])).2.2), [])) := by
  obtain ⟨h1, h2, h3, h4b, ⟨h7, h8, h9, h9b⟩, -⟩ := id h
  have hcy := r_at h1 (i := K.1.length - 1) (by omega) (j := (2100 * t + (K.1.length : Int) - 1)) (by omega)
  have ef : ∀ (j : Nat) (x : Int), j ≠ 237 → (w_up (w_up S 237 154 (200 * t + (K.2.1.length : Int) - 1)) 237 155 ((K.2.1.getD (K.2.1.length - 1) (0, 0, 0, (0, 0, []), 0, 0, 0)).2.1 + 1)) j x = S j x := fun j x j0 => r_16 rfl j0
  have hM0 : w_ML (w_up (w_up S 237 154 (200 * t + (K.2.1.length : Int) - 1)) 237 155 ((K.2.1.getD (K.2.1.length - 1) (0, 0, 0, (0, 0, []), 0, 0, 0)).2.1 + 1)) := T0_ml h2
  have hK0 : KR 261 T n cs ms (w_up (w_up S 237 154 (200 * t + (K.2.1.length : Int) - 1)) 237 155 ((K.2.1.getD (K.2.1.length - 1) (0, 0, 0, (0, 0, []), 0, 0, 0)).2.1 + 1)) := KR_ag hK (fun j x hj => (w_up_no (by omega)).trans (w_up_no (by omega)))
  obtain ⟨g1, g2, g3, g4⟩ := rV_t hcy hk ht
  have h60 := hw.1.1
  have hcr := ctA_rg (m := cs.length) (pr := fun k => decide (cNa T cs (k : Int) = (K.1.getD (K.1.length - 1) (0, 0, [])).2.2))
  replace hcr : (cIx T cs (K.1.getD (K.1.length - 1) (0, 0, [])).2.2) = -1 ∨ (0 ≤ (cIx T cs (K.1.getD (K.1.length - 1) (0, 0, [])).2.2) ∧ (cIx T cs (K.1.getD (K.1.length - 1) (0, 0, [])).2.2) < (cs.length : Int)) := hcr
  have hcal := yb7 (xs := xs) (M := fun _ => False) (d := d) (r := (cIx T cs (K.1.getD (K.1.length - 1) (0, 0, [])).2.2)) (mP_of h) ((ef 363 _ (by first | decide | omega)).trans (rV_k hcy hk)) (ef 364 _ (by first | decide | omega)) (by omega) g1 ⟨by omega, by omega⟩ (rcnm_261 (d := d + 9) (x := (K.1.getD (K.1.length - 1) (0, 0, [])).2.2) (f0 := S 284 (S 364 (2100 * t + (K.1.length : Int) - 1))) hM0 hK0 hw g1 ((ef 285 _ (by first | decide | omega)).trans g2) (ef 284 _ (by first | decide | omega)) g3 (fun i hi2 => (ef 283 _ (by first | decide | omega)).trans (g4 i hi2)))
  exact rg_t h hs hi.1 hi.2.1 hi.2.2 (by first | decide | omega) (R := fun Z => w_up (w_up (w_up (w_up S 237 154 (200 * t + (K.2.1.length : Int) - 1)) 237 155 ((K.2.1.getD (K.2.1.length - 1) (0, 0, 0, (0, 0, []), 0, 0, 0)).2.1 + 1)) 363 (2100 * t + (K.1.length : Int) - 1) 8) 364 (2100 * t + (K.1.length : Int) - 1) (cIx T cs (K.1.getD (K.1.length - 1) (0, 0, [])).2.2) = Z) (wJ_mono hcal (fun o Z hz => hz.elim (fun z => absurd z.1 (by omega)) (fun z => z.2))) (fun Z hz => rp_1 h hh1 (rV_e (by first | decide | omega) rfl) hz.symm)
theorem rnb7m_261 (h : stR t S K) (hs : S 357 t = 1) (hi : rIn S K 28 7 b9) (hK : KR 261 T n cs ms S) (hw : wHo cs ms os) (ht : rTt S) (hh1 : 1 ≤ K.1.length) (hk : (K.1.getD (K.1.length - 1) (0, 0, [])).1 = 3) (hc : (cIx T cs (K.1.getD (K.1.length - 1) (0, 0, [])).2.2) = -1) : rSt xs d t S (kTh K (2, 12, [])) := by
  obtain ⟨h1, h2, h3, h4b, ⟨h7, h8, h9, h9b⟩, -⟩ := id h
  have hcy := r_at h1 (i := K.1.length - 1) (by omega) (j := (2100 * t + (K.1.length : Int) - 1)) (by omega)
  have ef : ∀ (j : Nat) (x : Int), j ≠ 237 → (w_up (w_up S 237 154 (200 * t + (K.2.1.length : Int) - 1)) 237 155 ((K.2.1.getD (K.2.1.length - 1) (0, 0, 0, (0, 0, []), 0, 0, 0)).2.1 + 1)) j x = S j x := fun j x j0 => r_16 rfl j0
  have hM0 : w_ML (w_up (w_up S 237 154 (200 * t + (K.2.1.length : Int) - 1)) 237 155 ((K.2.1.getD (K.2.1.length - 1) (0, 0, 0, (0, 0, []), 0, 0, 0)).2.1 + 1)) := T0_ml h2
  have hK0 : KR 261 T n cs ms (w_up (w_up S 237 154 (200 * t + (K.2.1.length : Int) - 1)) 237 155 ((K.2.1.getD (K.2.1.length - 1) (0, 0, 0, (0, 0, []), 0, 0, 0)).2.1 + 1)) := KR_ag hK (fun j x hj => (w_up_no (by omega)).trans (w_up_no (by omega)))
  obtain ⟨g1, g2, g3, g4⟩ := rV_t hcy hk ht
  have h60 := hw.1.1
  have hcr := ctA_rg (m := cs.length) (pr := fun k => decide (cNa T cs (k : Int) = (K.1.getD (K.1.length - 1) (0, 0, [])).2.2))
  replace hcr : (cIx T cs (K.1.getD (K.1.length - 1) (0, 0, [])).2.2) = -1 ∨ (0 ≤ (cIx T cs (K.1.getD (K.1.length - 1) (0, 0, [])).2.2) ∧ (cIx T cs (K.1.getD (K.1.length - 1) (0, 0, [])).2.2) < (cs.length : Int)) := hcr
  have hcal := yb7 (xs := xs) (M := fun _ => False) (d := d) (r := (cIx T cs (K.1.getD (K.1.length - 1) (0, 0, [])).2.2)) (mP_of h) ((ef 363 _ (by first | decide | omega)).trans (rV_k hcy hk)) (ef 364 _ (by first | decide | omega)) (by omega) g1 ⟨by omega, by omega⟩ (rcnm_261 (d := d + 9) (x := (K.1.getD (K.1.length - 1) (0, 0, [])).2.2) (f0 := S 284 (S 364 (2100 * t + (K.1.length : Int) - 1))) hM0 hK0 hw g1 ((ef 285 _ (by first | decide | omega)).trans g2) (ef 284 _ (by first | decide | omega)) g3 (fun i hi2 => (ef 283 _ (by first | decide | omega)).trans (g4 i hi2)))
  exact rx_t h hs hi.1 hi.2.1 hi.2.2 (by first | decide | omega) (by first | decide | omega) (wJ_mono hcal (fun o Z hz => hz.elim (fun z => z.2) (fun z => absurd z.1 (by omega))))
theorem rnb7e (h : stR t S K) (hs : S 357 t = 1) (hi : rIn S K 28 7 b9) (hh1 : 1 ≤ K.1.length) (hk : (K.1.getD (K.1.length - 1) (0, 0, [])).1 ≠ 3) (hk8 : 0 ≤ (K.1.getD (K.1.length - 1) (0, 0, [])).1 ∧ (K.1.getD (K.1.length - 1) (0, 0, [])).1 ≤ 8) : rSt xs d t S (kTh K (2, 12, [])) := by
  obtain ⟨h1, -⟩ := id h
  have hcy := r_at h1 (i := K.1.length - 1) (by omega) (j := (2100 * t + (K.1.length : Int) - 1)) (by omega)
  have ef : ∀ (j : Nat) (x : Int), j ≠ 237 → (w_up (w_up S 237 154 (200 * t + (K.2.1.length : Int) - 1)) 237 155 ((K.2.1.getD (K.2.1.length - 1) (0, 0, 0, (0, 0, []), 0, 0, 0)).2.1 + 1)) j x = S j x := fun j x j0 => r_16 rfl j0
  exact rx_t h hs hi.1 hi.2.1 hi.2.2 (by first | decide | omega) (by first | decide | omega) (yb7n (mP_of h) ((ef 363 _ (by first | decide | omega)).trans hcy.1) (ef 364 _ (by first | decide | omega)) (by omega) hk hk8)
end Wie
