/-! PART hx: the reference: listsFields, placeOf, readsFieldOf, writesFieldOf. -/
section Whx
variable {xs : List (Nat × List Int32)} {M : Nat → Prop} {d : Nat} {S Z A : wS} {T : Int → Int} {n : Int} {cs : List hCR} {ms : List hMR} {os : Int → List Int} {Q : wO → wS → Prop} {l : List Int}
/-- a field of an instance -/
def isFd (ms : List hMR) (m : Int) : Bool := decide ((hmR ms m).2.1 = 0 ∧ (hmR ms m).2.2.1 = 0)
/-- the fields that a class tells itself -/
def flO (cs : List hCR) (ms : List hMR) (o : Int) : List Int := (mIx cs o).filter (isFd ms)
/-- a class and those above it -/
def chA (cs : List hCR) (k : Int) : List Int := ch_l (Ab cs) (k.toNat + 1) k
/-- the fields of a class, from the highest class on -/
def flA (cs : List hCR) (ms : List hMR) (k : Int) : List Int := (chA cs k).reverse.flatMap (flO cs ms)
def flM (j : Nat) (x : Int) : Prop := (j = 356 ∧ 0 ≤ x) ∨ (j = 237 ∧ x = 130)
def flI (acc : List Int) (S : wS) : Prop := S 237 130 = (acc.length : Int) ∧ (∀ i : Nat, i < acc.length → S 356 (i : Int) = acc.getD i 0) ∧ acc.length ≤ 400
theorem flI_n {acc : List Int} {m : Int} (h : flI acc A) (hl : acc.length < 400) : flI (acc ++ [m]) (w_up (w_up A 356 (acc.length : Int) m) 237 130 ((acc.length : Int) + 1)) := by
  refine ⟨(w_up_same _ _ _ _).trans (by rw [List.length_append, List.length_singleton]; omega), fun i hi => ?_, by rw [List.length_append, List.length_singleton]; omega⟩
  rw [List.length_append, List.length_singleton] at hi
  by_cases c : i = acc.length
  · rw [c, getD_last]; exact (w_up_slot (by first | decide | omega)).trans (w_up_same _ _ _ _)
  · rw [getD_app (by omega)]; exact (w_up_slot (by first | decide | omega)).trans ((w_up_at (by omega)).trans (h.2.1 i (by omega)))
theorem chl_0 {A : Int → Int} {f : Nat} {k : Int} (h : 0 < (ch_l A f k).length) : (ch_l A f k).getD 0 0 = k := by
  cases f with
  | zero => exact absurd h (by show ¬ 0 < 0; omega)
  | succ f =>
    by_cases c : k = -1
    · rw [ch_l_s, if_pos c] at h; exact absurd h (by show ¬ 0 < 0; omega)
    · rw [chl_c c]; rfl
theorem chl_nx {A : Int → Int} : ∀ (f : Nat) (k : Int) (i : Nat), i + 1 < (ch_l A f k).length → (ch_l A f k).getD (i + 1) 0 = A ((ch_l A f k).getD i 0) := by
  intro f
  induction f with
  | zero => intro k i h; exact absurd h (by show ¬ i + 1 < 0; omega)
  | succ f ih =>
    intro k i h
    by_cases c : k = -1
    · rw [ch_l_s, if_pos c] at h; exact absurd h (by show ¬ i + 1 < 0; omega)
    · rw [chl_c c, List.length_cons] at h
      rw [chl_c c, List.getD_cons_succ]
      cases i with
      | zero => rw [List.getD_cons_zero]; exact chl_0 (by omega)
      | succ i => rw [List.getD_cons_succ]; exact ih _ i (by omega)
theorem chl_len {A : Int → Int} : ∀ (f : Nat) (k : Int), (ch_l A f k).length ≤ f := by
  intro f
  induction f with
  | zero => intro k; exact Nat.le_refl 0
  | succ f ih =>
    intro k
    rw [ch_l_s]
    split
    · exact Nat.zero_le _
    · rw [List.length_cons]; exact Nat.succ_le_succ (ih _)
theorem getD_mem {l : List Int} {i : Nat} (h : i < l.length) : l.getD i 0 ∈ l := by
  rw [List.getD_eq_getElem?_getD, List.getElem?_eq_getElem h]; exact List.getElem_mem _
theorem take_rv {l : List Int} {f : Nat} (h : f < l.length) : (l.take (f + 1)).reverse = l.getD f 0 :: (l.take f).reverse := by
  rw [List.take_succ, List.reverse_append, List.getElem?_eq_getElem h, List.getD_eq_getElem?_getD, List.getElem?_eq_getElem h]; rfl
theorem isFd_t {m : Int} (h : (hmR ms m).2.1 = 0) (h2 : (hmR ms m).2.2.1 = 0) : isFd ms m = true := decide_eq_true ⟨h, h2⟩
theorem isFd_f {m : Int} (h : (hmR ms m).2.1 ≠ 0 ∨ (hmR ms m).2.2.1 ≠ 0) : isFd ms m = false := decide_eq_false (fun z => h.elim (fun y => y z.1) (fun y => y z.2))
theorem slC_fr {gb : Int} (h : slC S gb l) (f : ∀ (j : Nat) (x : Int), ¬ flM j x → Z j x = S j x) : slC Z gb l := ⟨(f 317 gb (by unfold flM; omega)).trans h.1, fun z => (f 316 gb (by unfold flM; omega)).trans (h.2.1 z), fun i hi => ⟨(h.2.2 i hi).1, fun z => (f 328 _ (by unfold flM; omega)).trans ((h.2.2 i hi).2 z)⟩⟩
/-- what changes where a field is read -/
def fiM (j : Nat) (x : Int) : Prop := flM j x ∨ (j = 237 ∧ (x = 110 ∨ x = 111))
theorem rli_241 {c o e dd x2 : Int} {r F : List Int} (hM : w_ML S) (hK : KR 241 T n cs ms S) (hw : wHo cs ms os) (ho : 0 ≤ o ∧ o < (cs.length : Int)) (he : e = (hcR cs o).2.2.2.2.2.2.1 + (hcR cs o).2.2.2.2.2.2.2) (hF : F.length ≤ 400) (hnx : ∀ (acc : List Int) (A : wS), flI acc A → (∀ (j : Nat) (x : Int), ¬ flM j x → A j x = S j x) → acc ++ r = F → wJ (pe_GA xs) wY0 M d t_M_listsFields ((pe_at t_M_listsFields.bl 8).getD (0, [])).2 [(0, (2, 237)), (1, (0, c)), (2, (0, x2)), (3, (0, dd)), (4, (0, o))] [] A (fun z Z => z = .inl none ∧ flI F Z ∧ ∀ (j : Nat) (x : Int), ¬ flM j x → Z j x = S j x)) : ∀ (nn : Nat) (m : Int) (acc : List Int) (A : wS), flI acc A → (∀ (j : Nat) (x : Int), ¬ flM j x → A j x = S j x) → m + (nn : Int) = e → 0 ≤ m → acc ++ ((ivl m nn).filter (isFd ms) ++ r) = F → wJ (pe_GA xs) wY0 M d t_M_listsFields ((pe_at t_M_listsFields.bl 6).getD (0, [])).2 [(0, (2, 237)), (1, (0, c)), (2, (0, x2)), (3, (0, dd)), (4, (0, o)), (5, (0, m))] [] A (fun z Z => z = .inl none ∧ flI F Z ∧ ∀ (j : Nat) (x : Int), ¬ flM j x → Z j x = S j x) := by
  have h400 := hw.1
  have hco1 := (hw.2.1 o ho.1 ho.2).2.1
  intro nn
  induction nn with
  | zero =>
    intro m acc A hac hfr hme hm0 hq
    have hMA : w_ML A := ML_w hM hfr (fun j z => by unfold flM at z; omega)
    have hKA : KR 241 T n cs ms A := KR_ag hK (fun j x hj => hfr j x (by unfold flM; omega))
    have h13 : A 237 13 = 241 := hKA.1
    have hcc := KR_c hKA ho.1 ho.2
    have h7 : A 248 o = (hcR cs o).2.2.2.2.2.2.1 := hcc.2.2.2.2.1
    have h8 : A 249 o = (hcR cs o).2.2.2.2.2.2.2 := hcc.2.2.2.2.2
    refine wa_iload (n := 5) rfl ?_
    refine wa_aload_n (n := 0) rfl ?_
    refine wb_gf5 237 rfl (wy_pr rfl) wt_237 wf_15_13 (v := 241) (h13) (fun r1 => ?_)
    refine wb_gf4 241 rfl (wy_pr rfl) wt_241 wf_12_7 (v := 248) wl_241_7 ?_
    refine wa_iload (n := 4) rfl ?_
    refine wb_iald 248 rfl (wy_pr rfl) wt_248 (n := 60) ((ml_248 hMA)) (by omega) (by omega) (v := (hcR cs o).2.2.2.2.2.2.1) (h7) (fun r2 => ?_)
    refine wa_aload_n (n := 0) rfl ?_
    refine wb_gf5 237 rfl (wy_pr rfl) wt_237 wf_15_13 (v := 241) (h13) (fun r3 => ?_)
    refine wb_gf4 241 rfl (wy_pr rfl) wt_241 wf_12_8 (v := 249) wl_241_8 ?_
    refine wa_iload (n := 4) rfl ?_
    refine wb_iald 249 rfl (wy_pr rfl) wt_249 (n := 60) ((ml_249 hMA)) (by omega) (by omega) (v := (hcR cs o).2.2.2.2.2.2.2) (h8) (fun r4 => ?_)
    refine wa_iadd ?_
    refine wa_icmpge (w_rg0 (by omega) (by omega)) (w_rg0 (by omega) (by omega)) ⟨_, rfl⟩ (fun c5 => ?_) (fun c5 => ?_)
    · skip
      exact wJ_S (hnx acc A hac hfr hq) ⟨rfl, rfl, rfl, rfl, rfl, trivial⟩
    · skip
      exfalso; omega
  | succ nn ih =>
    intro m acc A hac hfr hme hm0 hq
    have hq1 := hq
    rw [ivl_s] at hq
    have hMA : w_ML A := ML_w hM hfr (fun j z => by unfold flM at z; omega)
    have hKA : KR 241 T n cs ms A := KR_ag hK (fun j x hj => hfr j x (by unfold flM; omega))
    have h13 : A 237 13 = 241 := hKA.1
    have hcc := KR_c hKA ho.1 ho.2
    have h7 : A 248 o = (hcR cs o).2.2.2.2.2.2.1 := hcc.2.2.2.2.1
    have h8 : A 249 o = (hcR cs o).2.2.2.2.2.2.2 := hcc.2.2.2.2.2
    have h130 : A 237 130 = (acc.length : Int) := hac.1
    have hal := hac.2.2
    have eM := KR_m hKA (m := m) (by omega) (by omega)
    have eW := hw.2.2.2 m (by omega) (by omega)
    have e1 : A 253 m = (hmR ms m).2.1 := eM.1.2.1
    have e2 : A 254 m = (hmR ms m).2.2.1 := eM.1.2.2.1
    have e3 : A 255 m = (hmR ms m).2.2.2.1 := eM.1.2.2.2.1
    have e4 : A 256 m = ((hmR ms m).2.2.2.2.1.length : Int) := eM.2.1.1
    have e5 : A 257 m = (hmR ms m).2.2.2.2.2.1 := eM.2.1.2.1
    have ef : A 259 m = (hmR ms m).2.2.2.2.2.2.1 := eM.1.2.2.2.2.1
    have et : A 260 m = (hmR ms m).2.2.2.2.2.2.2 := eM.1.2.2.2.2.2
    have eq := eW.1.2.1
    have es := eW.1.2.2.1
    have ey := eW.1.2.2.2
    have ev := eW.2.1
    have el := eW.2.2.1
    have eft := hK.2.2.2.2.2.2.1 m (by omega) (by omega)
    refine wa_iload (n := 5) rfl ?_
    refine wa_aload_n (n := 0) rfl ?_
    refine wb_gf5 237 rfl (wy_pr rfl) wt_237 wf_15_13 (v := 241) (h13) (fun r51 => ?_)
    refine wb_gf4 241 rfl (wy_pr rfl) wt_241 wf_12_7 (v := 248) wl_241_7 ?_
    refine wa_iload (n := 4) rfl ?_
    refine wb_iald 248 rfl (wy_pr rfl) wt_248 (n := 60) ((ml_248 hMA)) (by omega) (by omega) (v := (hcR cs o).2.2.2.2.2.2.1) (h7) (fun r52 => ?_)
    refine wa_aload_n (n := 0) rfl ?_
    refine wb_gf5 237 rfl (wy_pr rfl) wt_237 wf_15_13 (v := 241) (h13) (fun r53 => ?_)
    refine wb_gf4 241 rfl (wy_pr rfl) wt_241 wf_12_8 (v := 249) wl_241_8 ?_
    refine wa_iload (n := 4) rfl ?_
    refine wb_iald 249 rfl (wy_pr rfl) wt_249 (n := 60) ((ml_249 hMA)) (by omega) (by omega) (v := (hcR cs o).2.2.2.2.2.2.2) (h8) (fun r54 => ?_)
    refine wa_iadd ?_
    refine wa_icmpge (w_rg0 (by omega) (by omega)) (w_rg0 (by omega) (by omega)) ⟨_, rfl⟩ (fun c55 => ?_) (fun c55 => ?_)
    · skip
      exfalso; omega
    · skip
      refine wa_aload_n (n := 0) rfl ?_
      refine wb_gf5 237 rfl (wy_pr rfl) wt_237 wf_15_13 (v := 241) (h13) (fun r56 => ?_)
      refine wb_gf4 241 rfl (wy_pr rfl) wt_241 wf_12_13 (v := 253) wl_241_13 ?_
      refine wa_iload (n := 5) rfl ?_
      refine wb_iald 253 rfl (wy_pr rfl) wt_253 (n := 400) ((ml_253 hMA)) (by omega) (by omega) (v := (hmR ms m).2.1) (e1) (fun r57 => ?_)
      refine wa_ifne (w_rg0 (by omega) (by omega)) ⟨_, rfl⟩ (fun c58 => ?_) (fun c58 => ?_)
      · skip
        refine wa_iinc rfl rfl ?_
        refine wa_goto ⟨_, rfl⟩ ?_
        have hno : isFd ms m = false := isFd_f (by omega)
        rw [List.filter_cons_of_neg (by rw [hno]; decide)] at hq
        exact wJ_S (ih (m + 1) acc A hac hfr (by omega) (by omega) hq) ⟨rfl, rfl, rfl, rfl, rfl, rfl, trivial⟩
      · skip
        refine wa_aload_n (n := 0) rfl ?_
        refine wb_gf5 237 rfl (wy_pr rfl) wt_237 wf_15_13 (v := 241) (h13) (fun r59 => ?_)
        refine wb_gf4 241 rfl (wy_pr rfl) wt_241 wf_12_14 (v := 254) wl_241_14 ?_
        refine wa_iload (n := 5) rfl ?_
        refine wb_zald 254 rfl (wy_pr rfl) wt_254 (n := 400) ((ml_254 hMA)) (by omega) (by omega) (v := (hmR ms m).2.2.1) (e2) (fun r60 => ?_)
        refine wa_ifne (w_rg0 (by omega) (by omega)) ⟨_, rfl⟩ (fun c61 => ?_) (fun c61 => ?_)
        · skip
          refine wa_iinc rfl rfl ?_
          refine wa_goto ⟨_, rfl⟩ ?_
          have hno : isFd ms m = false := isFd_f (by omega)
          rw [List.filter_cons_of_neg (by rw [hno]; decide)] at hq
          exact wJ_S (ih (m + 1) acc A hac hfr (by omega) (by omega) hq) ⟨rfl, rfl, rfl, rfl, rfl, rfl, trivial⟩
        · skip
          have hyes : isFd ms m = true := isFd_t (by omega) (by omega)
          rw [List.filter_cons_of_pos hyes, List.cons_append] at hq
          have hl4 : acc.length < 400 := by have z := congrArg List.length hq; rw [List.length_append, List.length_cons] at z; omega
          refine wa_aload_n (n := 0) rfl ?_
          refine wb_gf4 237 rfl (wy_pr rfl) wt_237 wf_15_131 (v := 356) wl_237_131 ?_
          refine wa_aload_n (n := 0) rfl ?_
          refine wb_gfi 237 rfl (wy_pr rfl) wt_237 wf_15_130 (v := (acc.length : Int)) (h130) (fun r62 => ?_)
          refine wa_iload (n := 5) rfl ?_
          refine wb_iast 356 rfl (wy_pr rfl) wt_356 (n := 400) ((ml_356 hMA)) (by omega) (by omega) ⟨(by omega), (by omega)⟩ ?_
          refine wa_aload_n (n := 0) rfl ?_
          refine wa_dup (by decide) ?_
          refine wb_gfi 237 rfl (wy_pr rfl) wt_237 wf_15_130 (v := (acc.length : Int)) ((w_up_slot (by decide)).trans (h130)) (fun r63 => ?_)
          refine wa_iconst ?_
          refine wa_iadd ?_
          refine wb_pfi 237 rfl (wy_pr rfl) wt_237 wf_15_130 (n := 130) rfl ⟨(by omega), (by omega)⟩ ?_
          refine wa_fall ⟨_, rfl⟩ ?_
          refine wa_iinc rfl rfl ?_
          refine wa_goto ⟨_, rfl⟩ ?_
          exact wJ_S (ih (m + 1) (acc ++ [m]) _ (flI_n hac hl4) (fun j x hj => (w_up_no (fun z => hj (Or.inr z))).trans ((w_up_no (fun z => hj (Or.inl ⟨z.1, by omega⟩))).trans (hfr j x hj))) (by omega) (by omega) (by rw [List.append_assoc]; exact hq)) ⟨rfl, rfl, rfl, rfl, rfl, rfl, trivial⟩
theorem rlk_241 {c x2 : Int} {q : Nat} (hMA : w_ML A) (hKA : KR 241 T n cs ms A) (hw : wHo cs ms os) (hc : 0 ≤ c ∧ c < (cs.length : Int)) (hq : q < (chA cs c).length) (hk : wJ (pe_GA xs) wY0 M d t_M_listsFields ((pe_at t_M_listsFields.bl 5).getD (0, [])).2 [(0, (2, 237)), (1, (0, c)), (2, (0, x2)), (3, (0, (q : Int))), (4, (0, (chA cs c).getD q 0))] [] A Q) : ∀ (f k : Nat), k + f = q → wJ (pe_GA xs) wY0 M d t_M_listsFields ((pe_at t_M_listsFields.bl 4).getD (0, [])).2 [(0, (2, 237)), (1, (0, c)), (2, (0, x2)), (3, (0, (q : Int))), (4, (0, (chA cs c).getD k 0)), (5, (0, (k : Int)))] [] A Q := by
  have h13 : A 237 13 = 241 := hKA.1
  have h60 := hw.1
  have hlc := chl_len (A := Ab cs) (c.toNat + 1) c
  replace hlc : (chA cs c).length ≤ c.toNat + 1 := hlc
  intro f
  induction f with
  | zero =>
    intro k hkq
    have hkq2 : k = q := by omega
    rw [hkq2]
    refine wa_iload (n := 5) rfl ?_
    refine wa_iload_n (n := 3) rfl ?_
    refine wa_icmpge (w_rg0 (by omega) (by omega)) (w_rg0 (by omega) (by omega)) ⟨_, rfl⟩ (fun c1 => ?_) (fun c1 => ?_)
    · skip
      exact wJ_S hk ⟨rfl, rfl, rfl, rfl, rfl, trivial⟩
    · skip
      exfalso; omega
  | succ f ih =>
    intro k hkq
    have hkr := ch_rg hw (c.toNat + 1) c (by omega) hc.2 _ (getD_mem (l := (chA cs c)) (i := k) (by omega))
    have hnx := chl_nx (A := Ab cs) (c.toNat + 1) c k (by show k + 1 < (chA cs c).length; omega)
    replace hnx : (chA cs c).getD (k + 1) 0 = (hcR cs ((chA cs c).getD k 0)).2.2.2.1 := hnx
    have h3 : A 244 ((chA cs c).getD k 0) = (hcR cs ((chA cs c).getD k 0)).2.2.2.1 := (KR_c hKA hkr.1 hkr.2).2.2.2.1.2.1
    rw [← hnx] at h3
    refine wa_iload (n := 5) rfl ?_
    refine wa_iload_n (n := 3) rfl ?_
    refine wa_icmpge (w_rg0 (by omega) (by omega)) (w_rg0 (by omega) (by omega)) ⟨_, rfl⟩ (fun c51 => ?_) (fun c51 => ?_)
    · skip
      exfalso; omega
    · skip
      refine wa_aload_n (n := 0) rfl ?_
      refine wb_gf5 237 rfl (wy_pr rfl) wt_237 wf_15_13 (v := 241) (h13) (fun r52 => ?_)
      refine wb_gf4 241 rfl (wy_pr rfl) wt_241 wf_12_3 (v := 244) wl_241_3 ?_
      refine wa_iload (n := 4) rfl ?_
      refine wb_iald 244 rfl (wy_pr rfl) wt_244 (n := 60) ((ml_244 hMA)) (by omega) (by omega) (v := ((chA cs c).getD (k + 1) 0)) (h3) (fun r53 => ?_)
      refine wa_istore (n := 4) rfl ?_
      refine wa_iinc rfl rfl ?_
      refine wa_goto ⟨_, rfl⟩ ?_
      exact wJ_S (ih (k + 1) (by omega)) ⟨rfl, rfl, rfl, rfl, rfl, rfl, trivial⟩
theorem rlo2_241 {c x2 : Int} {F : List Int} (hM : w_ML S) (hK : KR 241 T n cs ms S) (hw : wHo cs ms os) (hc : 0 ≤ c ∧ c < (cs.length : Int)) (hF : F.length ≤ 400) : ∀ (f : Nat) (dd : Int) (acc : List Int) (A : wS), dd + 1 = (f : Int) → f ≤ (chA cs c).length → flI acc A → (∀ (j : Nat) (x : Int), ¬ flM j x → A j x = S j x) → acc ++ ((chA cs c).take f).reverse.flatMap (flO cs ms) = F → wJ (pe_GA xs) wY0 M d t_M_listsFields ((pe_at t_M_listsFields.bl 3).getD (0, [])).2 [(0, (2, 237)), (1, (0, c)), (2, (0, x2)), (3, (0, dd))] [] A (fun z Z => z = .inl none ∧ flI F Z ∧ ∀ (j : Nat) (x : Int), ¬ flM j x → Z j x = S j x) := by
  have h60 := hw.1
  have hlc := chl_len (A := Ab cs) (c.toNat + 1) c
  replace hlc : (chA cs c).length ≤ c.toNat + 1 := hlc
  intro f
  induction f with
  | zero =>
    intro dd acc A hd hfl hac hfr hq
    rw [List.take_zero] at hq
    replace hq : acc ++ [] = F := hq
    rw [List.append_nil] at hq
    have hMA : w_ML A := ML_w hM hfr (fun j z => by unfold flM at z; omega)
    have hKA : KR 241 T n cs ms A := KR_ag hK (fun j x hj => hfr j x (by unfold flM; omega))
    have h13 : A 237 13 = 241 := hKA.1
    refine wa_iload_n (n := 3) rfl ?_
    refine wa_iflt (w_rg0 (by omega) (by omega)) ⟨_, rfl⟩ (fun c1 => ?_) (fun c1 => ?_)
    · skip
      refine wa_return rfl ?_
      exact ⟨rfl, hq ▸ hac, hfr⟩
    · skip
      exfalso; omega
  | succ f ih =>
    intro dd acc A hd hfl hac hfr hq
    have hdf : dd = (f : Int) := by omega
    rw [hdf]
    rw [take_rv (show f < (chA cs c).length by omega), List.flatMap_cons] at hq
    have hMA : w_ML A := ML_w hM hfr (fun j z => by unfold flM at z; omega)
    have hKA : KR 241 T n cs ms A := KR_ag hK (fun j x hj => hfr j x (by unfold flM; omega))
    have h13 : A 237 13 = 241 := hKA.1
    have hor := ch_rg hw (c.toNat + 1) c (by omega) hc.2 _ (getD_mem (l := (chA cs c)) (i := f) (by omega))
    have hco1 := (hw.2.1 _ hor.1 hor.2).2.1
    have h7 : A 248 ((chA cs c).getD f 0) = (hcR cs ((chA cs c).getD f 0)).2.2.2.2.2.2.1 := (KR_c hKA hor.1 hor.2).2.2.2.2.1
    have hc0 : (chA cs c).getD 0 0 = c := chl_0 (by show 0 < (chA cs c).length; omega)
    refine wa_iload_n (n := 3) rfl ?_
    refine wa_iflt (w_rg0 (by omega) (by omega)) ⟨_, rfl⟩ (fun c51 => ?_) (fun c51 => ?_)
    · skip
      exfalso; omega
    · skip
      refine wa_iload_n (n := 1) rfl ?_
      refine wa_istore (n := 4) rfl ?_
      refine wa_iconst ?_
      refine wa_istore (n := 5) rfl ?_
      refine wa_fall ⟨_, rfl⟩ ?_
      refine wJ_S (L2 := [(0, (2, 237)), (1, (0, c)), (2, (0, x2)), (3, (0, (f : Int))), (4, (0, (chA cs c).getD 0 0)), (5, (0, ((0 : Nat) : Int)))]) ?_ ⟨rfl, rfl, rfl, rfl, by rw [hc0]; rfl, rfl, trivial⟩
      refine rlk_241 hMA hKA hw hc (by omega) ?_ f 0 (by omega)
      refine wa_aload_n (n := 0) rfl ?_
      refine wb_gf5 237 rfl (wy_pr rfl) wt_237 wf_15_13 (v := 241) (h13) (fun r101 => ?_)
      refine wb_gf4 241 rfl (wy_pr rfl) wt_241 wf_12_7 (v := 248) wl_241_7 ?_
      refine wa_iload (n := 4) rfl ?_
      refine wb_iald 248 rfl (wy_pr rfl) wt_248 (n := 60) ((ml_248 hMA)) (by omega) (by omega) (v := (hcR cs ((chA cs c).getD f 0)).2.2.2.2.2.2.1) (h7) (fun r102 => ?_)
      refine wa_istore (n := 5) rfl ?_
      refine wa_fall ⟨_, rfl⟩ ?_
      refine wJ_S (rli_241 (e := (hcR cs ((chA cs c).getD f 0)).2.2.2.2.2.2.1 + (hcR cs ((chA cs c).getD f 0)).2.2.2.2.2.2.2) hM hK hw hor rfl hF (fun acc2 A2 hac2 hfr2 hq2 => ?_) (hcR cs ((chA cs c).getD f 0)).2.2.2.2.2.2.2.toNat _ acc A hac hfr (by omega) (by omega) hq) ⟨rfl, rfl, rfl, rfl, rfl, rfl, trivial⟩
      refine wa_iinc rfl rfl ?_
      refine wa_goto ⟨_, rfl⟩ ?_
      exact wJ_S (ih _ acc2 A2 (by omega) (by omega) hac2 hfr2 hq2) ⟨rfl, rfl, rfl, rfl, trivial⟩
theorem rld_241 {c : Int} (hMA : w_ML A) (hKA : KR 241 T n cs ms A) (hw : wHo cs ms os) : ∀ (f : Nat) (o i : Int), (o + 1).toNat ≤ f → -1 ≤ o → o < (cs.length : Int) → (0 ≤ i ∧ i + (f : Int) ≤ 1000) → wJ (pe_GA xs) wY0 M d t_M_listsFields ((pe_at t_M_listsFields.bl 2).getD (0, [])).2 [(0, (2, 237)), (1, (0, c)), (2, (0, i + ((ch_l (Ab cs) f o).length : Int)))] [] A Q → wJ (pe_GA xs) wY0 M d t_M_listsFields ((pe_at t_M_listsFields.bl 1).getD (0, [])).2 [(0, (2, 237)), (1, (0, c)), (2, (0, i)), (3, (0, o))] [] A Q := by
  have h13 : A 237 13 = 241 := hKA.1
  have h60 := hw.1
  intro f
  induction f with
  | zero =>
    intro o i hf o0 o1 hi hk
    replace hk : wJ (pe_GA xs) wY0 M d t_M_listsFields ((pe_at t_M_listsFields.bl 2).getD (0, [])).2 [(0, (2, 237)), (1, (0, c)), (2, (0, i + ((0 : Nat) : Int)))] [] A Q := hk
    rw [show i + ((0 : Nat) : Int) = i by omega] at hk
    refine wa_iload_n (n := 3) rfl ?_
    refine wa_iflt (w_rg0 (by omega) (by omega)) ⟨_, rfl⟩ (fun c1 => ?_) (fun c1 => ?_)
    · skip
      exact wJ_S hk ⟨rfl, rfl, rfl, trivial⟩
    · skip
      exfalso; omega
  | succ f ih =>
    intro o i hf o0 o1 hi hk
    refine wa_iload_n (n := 3) rfl ?_
    refine wa_iflt (w_rg0 (by omega) (by omega)) ⟨_, rfl⟩ (fun c51 => ?_) (fun c51 => ?_)
    · skip
      have hoe : o = -1 := by omega
      rw [ch_l_s, if_pos hoe, show i + (([] : List Int).length : Int) = i by show i + ((0 : Nat) : Int) = i; omega] at hk
      exact wJ_S hk ⟨rfl, rfl, rfl, trivial⟩
    · skip
      have hon : o ≠ -1 := by omega
      have hov : 0 ≤ o ∧ o < (cs.length : Int) := ⟨by omega, o1⟩
      have hcoa := (hw.2.1 o hov.1 hov.2).1
      have h3 : A 244 o = (hcR cs o).2.2.2.1 := (KR_c hKA hov.1 hov.2).2.2.2.1.2.1
      rw [chl_c hon, List.length_cons, show i + (((ch_l (Ab cs) f (Ab cs o)).length + 1 : Nat) : Int) = (i + 1) + ((ch_l (Ab cs) f (Ab cs o)).length : Int) by omega] at hk
      refine wa_iinc rfl rfl ?_
      refine wa_aload_n (n := 0) rfl ?_
      refine wb_gf5 237 rfl (wy_pr rfl) wt_237 wf_15_13 (v := 241) (h13) (fun r52 => ?_)
      refine wb_gf4 241 rfl (wy_pr rfl) wt_241 wf_12_3 (v := 244) wl_241_3 ?_
      refine wa_iload_n (n := 3) rfl ?_
      refine wb_iald 244 rfl (wy_pr rfl) wt_244 (n := 60) ((ml_244 hMA)) (by omega) (by omega) (v := (hcR cs o).2.2.2.1) (h3) (fun r53 => ?_)
      refine wa_istore_n (n := 3) rfl ?_
      refine wa_goto ⟨_, rfl⟩ ?_
      exact wJ_S (ih (Ab cs o) (i + 1) (by show ((hcR cs o).2.2.2.1 + 1).toNat ≤ f; omega) hcoa.1 (by show (hcR cs o).2.2.2.1 < _; omega) (by omega) hk) ⟨rfl, rfl, rfl, rfl, trivial⟩
theorem rlf_241 {c : Int} (hM : w_ML S) (hK : KR 241 T n cs ms S) (hw : wHo cs ms os) (hc : 0 ≤ c ∧ c < (cs.length : Int)) (hF : (flA cs ms c).length ≤ 400) : wJ (pe_GA xs) wY0 M d t_M_listsFields ((pe_at t_M_listsFields.bl 0).getD (0, [])).2 [(0, (2, 237)), (1, (0, c))] [] S (fun z Z => z = .inl none ∧ flI (flA cs ms c) Z ∧ ∀ (j : Nat) (x : Int), ¬ flM j x → Z j x = S j x) := by
  have h60 := hw.1
  have hlc := chl_len (A := Ab cs) (c.toNat + 1) c
  have hfr : ∀ (j : Nat) (x : Int), ¬ flM j x → (w_up S 237 130 0) j x = S j x := fun j x hj => w_up_no (fun z => hj (Or.inr z))
  have hac : flI [] (w_up S 237 130 0) := ⟨w_up_same _ _ _ _, fun i hi => absurd hi (Nat.not_lt_zero _), by show 0 ≤ 400; omega⟩
  have hMA : w_ML (w_up S 237 130 0) := ML_w hM hfr (fun j z => by unfold flM at z; omega)
  have hKA : KR 241 T n cs ms (w_up S 237 130 0) := KR_ag hK (fun j x hj => hfr j x (by unfold flM; omega))
  refine wa_aload_n (n := 0) rfl ?_
  refine wa_iconst ?_
  refine wb_pfi 237 rfl (wy_pr rfl) wt_237 wf_15_130 (n := 130) rfl ⟨(by omega), (by omega)⟩ ?_
  refine wa_iconst ?_
  refine wa_istore_n (n := 2) rfl ?_
  refine wa_iload_n (n := 1) rfl ?_
  refine wa_istore_n (n := 3) rfl ?_
  refine wa_fall ⟨_, rfl⟩ ?_
  refine wJ_S (rld_241 (c := c) hMA hKA hw (c.toNat + 1) c 0 (by omega) (by omega) hc.2 ⟨by omega, by omega⟩ ?_) ⟨rfl, rfl, rfl, rfl, trivial⟩
  rw [show (0 : Int) + ((ch_l (Ab cs) (c.toNat + 1) c).length : Int) = ((chA cs c).length : Int) by rw [Int.zero_add]; rfl]
  refine wa_iload_n (n := 2) rfl ?_
  refine wa_iconst ?_
  refine wa_isub ?_
  refine wa_istore_n (n := 3) rfl ?_
  refine wa_fall ⟨_, rfl⟩ ?_
  exact wJ_S (rlo2_241 hM hK hw hc hF (chA cs c).length _ [] _ (by omega) (Nat.le_refl _) hac hfr (by rw [List.take_length]; rfl)) ⟨rfl, rfl, rfl, rfl, trivial⟩
theorem rpol_241 {c m : Int} {k : Nat} (hMA : w_ML A) (hac : flI (flA cs ms c) A) (hfr : (∀ (j : Nat) (x : Int), ¬ flM j x → A j x = S j x)) (hk : k < (flA cs ms c).length) (hkm : (flA cs ms c).getD k 0 = m) (hkn : ∀ i : Nat, i < k → (flA cs ms c).getD i 0 ≠ m) (hmr : 0 ≤ m ∧ m < 400) (hfg : ∀ x ∈ (flA cs ms c), 0 ≤ x ∧ x < 400) : ∀ (f i : Nat), i + f = k → wJ (pe_GA xs) wY0 M (d + 1) t_M_placeOf ((pe_at t_M_placeOf.bl 1).getD (0, [])).2 [(0, (2, 237)), (1, (0, c)), (2, (0, m)), (3, (0, (i : Int)))] [] A (fun z Z => z = .inl (some (0, (k : Int))) ∧ flI (flA cs ms c) Z ∧ ∀ (j : Nat) (x : Int), ¬ flM j x → Z j x = S j x) := by
  have hal := hac.2.2
  intro f
  induction f with
  | zero =>
    intro i hi
    have hik : i = k := by omega
    rw [hik]
    have he : A 356 (k : Int) = m := (hac.2.1 k hk).trans hkm
    refine wa_aload_n (n := 0) rfl ?_
    refine wb_gf4 237 rfl (wy_pr rfl) wt_237 wf_15_131 (v := 356) wl_237_131 ?_
    refine wa_iload_n (n := 3) rfl ?_
    refine wb_iald 356 rfl (wy_pr rfl) wt_356 (n := 400) ((ml_356 hMA)) (by omega) (by omega) (v := m) (he) (fun r1 => ?_)
    refine wa_iload_n (n := 2) rfl ?_
    refine wa_icmpeq (w_rg0 (by omega) (by omega)) (w_rg0 (by omega) (by omega)) ⟨_, rfl⟩ (fun c2 => ?_) (fun c2 => ?_)
    · skip
      refine wa_iload_n (n := 3) rfl ?_
      refine wa_ireturn rfl ?_
      exact ⟨rfl, hac, hfr⟩
    · skip
      exfalso; omega
  | succ f ih =>
    intro i hi
    have he : A 356 (i : Int) = (flA cs ms c).getD i 0 := hac.2.1 i (by omega)
    have hen := hkn i (by omega)
    have her := hfg _ (getD_mem (l := (flA cs ms c)) (i := i) (by omega))
    refine wa_aload_n (n := 0) rfl ?_
    refine wb_gf4 237 rfl (wy_pr rfl) wt_237 wf_15_131 (v := 356) wl_237_131 ?_
    refine wa_iload_n (n := 3) rfl ?_
    refine wb_iald 356 rfl (wy_pr rfl) wt_356 (n := 400) ((ml_356 hMA)) (by omega) (by omega) (v := ((flA cs ms c).getD i 0)) (he) (fun r51 => ?_)
    refine wa_iload_n (n := 2) rfl ?_
    refine wa_icmpeq (w_rg0 (by omega) (by omega)) (w_rg0 (by omega) (by omega)) ⟨_, rfl⟩ (fun c52 => ?_) (fun c52 => ?_)
    · skip
      exfalso; omega
    · skip
      refine wa_iinc rfl rfl ?_
      refine wa_goto ⟨_, rfl⟩ ?_
      exact wJ_S (ih (i + 1) (by omega)) ⟨rfl, rfl, rfl, rfl, trivial⟩
theorem flA_rg {c : Int} (hw : wHo cs ms os) (hc : 0 ≤ c ∧ c < (cs.length : Int)) : ∀ x ∈ (flA cs ms c), 0 ≤ x ∧ x < (ms.length : Int) := by
  intro x hx
  obtain ⟨o, ho, hxo⟩ := List.mem_flatMap.mp hx
  have ho2 := ch_rg hw (c.toNat + 1) c (by omega) hc.2 o (List.mem_reverse.mp ho)
  exact mIx_rg hw ho2.1 ho2.2 (List.mem_filter.mp hxo).1
theorem rpo_241 {c m : Int} {k : Nat} (hM : w_ML S) (hK : KR 241 T n cs ms S) (hw : wHo cs ms os) (hc : 0 ≤ c ∧ c < (cs.length : Int)) (hF : (flA cs ms c).length ≤ 400) (hk : k < (flA cs ms c).length) (hkm : (flA cs ms c).getD k 0 = m) (hkn : ∀ i : Nat, i < k → (flA cs ms c).getD i 0 ≠ m) (hmr : 0 ≤ m ∧ m < 400) : wJ (pe_GA xs) wY0 M (d + 1) t_M_placeOf ((pe_at t_M_placeOf.bl 0).getD (0, [])).2 [(0, (2, 237)), (1, (0, c)), (2, (0, m))] [] S (fun z Z => z = .inl (some (0, (k : Int))) ∧ flI (flA cs ms c) Z ∧ ∀ (j : Nat) (x : Int), ¬ flM j x → Z j x = S j x) := by
  have h400 := hw.1.2
  have hfg : ∀ x ∈ (flA cs ms c), 0 ≤ x ∧ x < 400 := fun x hx => by have z := flA_rg hw hc x hx; omega
  refine wa_aload_n (n := 0) rfl ?_
  refine wa_iload_n (n := 1) rfl ?_
  refine wa_cv 237 rfl (wy_pr rfl) wt_237 (M2 := fun _ => False) rfl at_M_listsFields ⟨_, rfl⟩ rfl rfl ⟨(Or.inr ⟨wy_pr rfl, fun q => q⟩), trivial, trivial, trivial⟩ trivial (fun _ _ q => False.elim q) (rlf_241 (c := c) hM hK hw hc hF) (fun oq1 Sq1 hp2 q1 => ?_)
  rcases q1 with ⟨rfl, hac, hfr⟩
  show wJ _ _ _ _ _ _ _ _ _ _
  refine wa_iconst ?_
  refine wa_istore_n (n := 3) rfl ?_
  refine wa_fall ⟨_, rfl⟩ ?_
  exact wJ_S (rpol_241 (ML_w hM hfr (fun j z => by unfold flM at z; omega)) hac hfr hk hkm hkn hmr hfg k 0 (by omega)) ⟨rfl, rfl, rfl, rfl, trivial⟩
theorem rfs_241 {c m gb : Int} {k : Nat} (hM : w_ML S) (hK : KR 241 T n cs ms S) (hw : wHo cs ms os) (hc : 0 ≤ c ∧ c < (cs.length : Int)) (hF : (flA cs ms c).length ≤ 400) (hk : k < (flA cs ms c).length) (hkm : (flA cs ms c).getD k 0 = m) (hkn : ∀ i : Nat, i < k → (flA cs ms c).getD i 0 ≠ m) (hmr : 0 ≤ m ∧ m < 400) (h75 : S 237 175 = gb) (hgb : 0 ≤ gb ∧ gb < 8000) (h321 : S 321 gb = c) (hsl : slC S gb l) (hkl : k < l.length) (hl6 : l.length ≤ 60000) : wJ (pe_GA xs) wY0 M (d + 2) t_M_fieldSlot ((pe_at t_M_fieldSlot.bl 0).getD (0, [])).2 [(0, (2, 237)), (1, (0, m))] [] S (fun z Z => z = .inl (some (0, l.getD k 0)) ∧ ∀ (j : Nat) (x : Int), ¬ flM j x → Z j x = S j x) := by
  have h60 := hw.1
  refine wa_aload_n (n := 0) rfl ?_
  refine wa_aload_n (n := 0) rfl ?_
  refine wb_gfl 237 rfl (wy_pr rfl) wt_237 wf_15_175 (v := gb) (h75) (fun r1 => ?_)
  refine wb_l2i_r (y := gb) (wb_l2i_id ⟨by omega, by omega⟩) ?_
  refine wa_aload_n (n := 0) rfl ?_
  refine wa_aload_n (n := 0) rfl ?_
  refine wb_gf4 237 rfl (wy_pr rfl) wt_237 wf_15_77 (v := 321) wl_237_77 ?_
  refine wa_aload_n (n := 0) rfl ?_
  refine wb_gfl 237 rfl (wy_pr rfl) wt_237 wf_15_175 (v := gb) (h75) (fun r2 => ?_)
  refine wb_l2i_r (y := gb) (wb_l2i_id ⟨by omega, by omega⟩) ?_
  refine wb_iald 321 rfl (wy_pr rfl) wt_321 (n := 8000) ((ml_321 hM)) (by omega) (by omega) (v := c) (h321) (fun r3 => ?_)
  refine wa_iload_n (n := 1) rfl ?_
  refine wa_cv 237 rfl (wy_pr rfl) wt_237 (M2 := fun _ => False) rfl at_M_placeOf ⟨_, rfl⟩ rfl rfl ⟨(Or.inr ⟨wy_pr rfl, fun q => q⟩), trivial, trivial⟩ ⟨trivial, (Or.inr ⟨wy_pr rfl, fun q => q⟩), trivial⟩ (fun _ _ q => False.elim q) (rpo_241 (c := c) (m := m) (k := k) hM hK hw hc hF hk hkm hkn hmr) (fun oq4 Sq4 hp5 q4 => ?_)
  rcases q4 with ⟨rfl, -, hfr⟩
  show wJ _ _ _ _ _ _ _ _ _ _
  refine wa_cv 237 rfl (wy_pr rfl) wt_237 (M2 := fun _ => False) rfl at_M_slotAt ⟨_, rfl⟩ rfl rfl ⟨(Or.inr ⟨wy_pr rfl, fun q => q⟩), trivial, trivial⟩ trivial (fun _ _ q => False.elim q) (saM_ok (l := l) (ML_w hM hfr (fun j z => by unfold flM at z; omega)) hgb (slC_fr hsl hfr) ⟨by omega, by omega⟩ hl6) (fun oq6 Sq6 hp7 q6 => ?_)
  rcases q6 with ⟨rfl, rfl⟩
  show wJ _ _ _ _ _ _ _ _ _ _
  refine wa_ireturn rfl ?_
  exact ⟨rfl, hfr⟩
theorem rrf1_241 {c m gb vk vb : Int} {k : Nat} (hM : w_ML S) (hK : KR 241 T n cs ms S) (hw : wHo cs ms os) (hm : 0 ≤ m ∧ m < (ms.length : Int)) (hvk : -2147483648 ≤ vk ∧ vk ≤ 2147483647) (hvb : -9223372036854775808 ≤ vb ∧ vb ≤ 9223372036854775807) (hst : (hmR ms m).2.2.1 = 1) (h40 : S 340 m = vk) (h41 : S 341 m = vb) : wJ (pe_GA xs) wY0 M (d + 3) t_M_readsFieldOf ((pe_at t_M_readsFieldOf.bl 0).getD (0, [])).2 [(0, (2, 237)), (1, (0, m))] [] S (fun z Z => z = .inl none ∧ (Z 237 110 = vk ∧ Z 237 111 = vb) ∧ ∀ (j : Nat) (x : Int), ¬ fiM j x → Z j x = S j x) := by
  have h13 : S 237 13 = 241 := hK.1
  have h400 := hw.1.2
  have eM := KR_m hK (m := m) (by omega) (by omega)
  have eW := hw.2.2.2 m (by omega) (by omega)
  have e1 : S 253 m = (hmR ms m).2.1 := eM.1.2.1
  have e2 : S 254 m = (hmR ms m).2.2.1 := eM.1.2.2.1
  have e3 : S 255 m = (hmR ms m).2.2.2.1 := eM.1.2.2.2.1
  have e4 : S 256 m = ((hmR ms m).2.2.2.2.1.length : Int) := eM.2.1.1
  have e5 : S 257 m = (hmR ms m).2.2.2.2.2.1 := eM.2.1.2.1
  have ef : S 259 m = (hmR ms m).2.2.2.2.2.2.1 := eM.1.2.2.2.2.1
  have et : S 260 m = (hmR ms m).2.2.2.2.2.2.2 := eM.1.2.2.2.2.2
  have eq := eW.1.2.1
  have es := eW.1.2.2.1
  have ey := eW.1.2.2.2
  have ev := eW.2.1
  have el := eW.2.2.1
  have eft := hK.2.2.2.2.2.2.1 m (by omega) (by omega)
  refine wa_aload_n (n := 0) rfl ?_
  refine wb_gf5 237 rfl (wy_pr rfl) wt_237 wf_15_13 (v := 241) (h13) (fun r1 => ?_)
  refine wb_gf4 241 rfl (wy_pr rfl) wt_241 wf_12_14 (v := 254) wl_241_14 ?_
  refine wa_iload_n (n := 1) rfl ?_
  refine wb_zald 254 rfl (wy_pr rfl) wt_254 (n := 400) ((ml_254 hM)) (by omega) (by omega) (v := (hmR ms m).2.2.1) (e2) (fun r2 => ?_)
  refine wa_ifeq (w_rg0 (by omega) (by omega)) ⟨_, rfl⟩ (fun c3 => ?_) (fun c3 => ?_)
  · skip
    exfalso; omega
  · skip
    refine wa_aload_n (n := 0) rfl ?_
    refine wa_aload_n (n := 0) rfl ?_
    refine wb_gf4 237 rfl (wy_pr rfl) wt_237 wf_15_100 (v := 340) wl_237_100 ?_
    refine wa_iload_n (n := 1) rfl ?_
    refine wb_iald 340 rfl (wy_pr rfl) wt_340 (n := 400) ((ml_340 hM)) (by omega) (by omega) (v := vk) (h40) (fun r4 => ?_)
    refine wa_aload_n (n := 0) rfl ?_
    refine wb_gf4 237 rfl (wy_pr rfl) wt_237 wf_15_101 (v := 341) wl_237_101 ?_
    refine wa_iload_n (n := 1) rfl ?_
    refine wb_lald 341 rfl (wy_pr rfl) wt_341 (n := 400) ((ml_341 hM)) (by omega) (by omega) (v := vb) (h41) (fun r5 => ?_)
    refine wa_cv 237 rfl (wy_pr rfl) wt_237 (M2 := fun _ => False) rfl at_M_is ⟨_, rfl⟩ rfl rfl ⟨(Or.inr ⟨wy_pr rfl, fun q => q⟩), trivial, trivial⟩ trivial (fun _ _ q => False.elim q) ?_ (fun _ _ _ q => q)
    refine wa_aload_n (n := 0) rfl ?_
    refine wa_iload_n (n := 1) rfl ?_
    refine wb_pfi 237 rfl (wy_pr rfl) wt_237 wf_15_110 (n := 110) rfl ⟨(by omega), (by omega)⟩ ?_
    refine wa_aload_n (n := 0) rfl ?_
    refine wa_lload_n (n := 2) rfl ?_
    refine wb_pfl 237 rfl (wy_pr rfl) wt_237 wf_15_111 (n := 111) rfl ⟨(by omega), (by omega)⟩ ?_
    refine wa_return rfl ?_
    show wJ _ _ _ _ _ _ _ _ _ _
    refine wa_goto ⟨_, rfl⟩ ?_
    refine wa_return rfl ?_
    exact ⟨rfl, ⟨(w_up_at (by first | decide | omega)).trans (w_up_same _ _ _ _), w_up_same _ _ _ _⟩, fun j x hj => (w_up_no (fun z => hj (Or.inr ⟨z.1, Or.inr z.2⟩))).trans (w_up_no (fun z => hj (Or.inr ⟨z.1, Or.inl z.2⟩)))⟩
theorem rwf1_241 {c m gb vk vb : Int} {k : Nat} (hM : w_ML S) (hK : KR 241 T n cs ms S) (hw : wHo cs ms os) (hm : 0 ≤ m ∧ m < (ms.length : Int)) (hvk : -2147483648 ≤ vk ∧ vk ≤ 2147483647) (hvb : -9223372036854775808 ≤ vb ∧ vb ≤ 9223372036854775807) (hst : (hmR ms m).2.2.1 = 1) : wJ (pe_GA xs) wY0 M (d + 3) t_M_writesFieldOf ((pe_at t_M_writesFieldOf.bl 0).getD (0, [])).2 [(0, (2, 237)), (1, (0, m)), (2, (0, vk)), (3, (1, vb))] [] S (fun z Z => z = .inl none ∧ w_up (w_up S 340 m vk) 341 m vb = Z) := by
  have h13 : S 237 13 = 241 := hK.1
  have h400 := hw.1.2
  have eM := KR_m hK (m := m) (by omega) (by omega)
  have eW := hw.2.2.2 m (by omega) (by omega)
  have e1 : S 253 m = (hmR ms m).2.1 := eM.1.2.1
  have e2 : S 254 m = (hmR ms m).2.2.1 := eM.1.2.2.1
  have e3 : S 255 m = (hmR ms m).2.2.2.1 := eM.1.2.2.2.1
  have e4 : S 256 m = ((hmR ms m).2.2.2.2.1.length : Int) := eM.2.1.1
  have e5 : S 257 m = (hmR ms m).2.2.2.2.2.1 := eM.2.1.2.1
  have ef : S 259 m = (hmR ms m).2.2.2.2.2.2.1 := eM.1.2.2.2.2.1
  have et : S 260 m = (hmR ms m).2.2.2.2.2.2.2 := eM.1.2.2.2.2.2
  have eq := eW.1.2.1
  have es := eW.1.2.2.1
  have ey := eW.1.2.2.2
  have ev := eW.2.1
  have el := eW.2.2.1
  have eft := hK.2.2.2.2.2.2.1 m (by omega) (by omega)
  refine wa_aload_n (n := 0) rfl ?_
  refine wb_gf5 237 rfl (wy_pr rfl) wt_237 wf_15_13 (v := 241) (h13) (fun r1 => ?_)
  refine wb_gf4 241 rfl (wy_pr rfl) wt_241 wf_12_14 (v := 254) wl_241_14 ?_
  refine wa_iload_n (n := 1) rfl ?_
  refine wb_zald 254 rfl (wy_pr rfl) wt_254 (n := 400) ((ml_254 hM)) (by omega) (by omega) (v := (hmR ms m).2.2.1) (e2) (fun r2 => ?_)
  refine wa_ifeq (w_rg0 (by omega) (by omega)) ⟨_, rfl⟩ (fun c3 => ?_) (fun c3 => ?_)
  · skip
    exfalso; omega
  · skip
    refine wa_aload_n (n := 0) rfl ?_
    refine wb_gf4 237 rfl (wy_pr rfl) wt_237 wf_15_100 (v := 340) wl_237_100 ?_
    refine wa_iload_n (n := 1) rfl ?_
    refine wa_iload_n (n := 2) rfl ?_
    refine wb_iast 340 rfl (wy_pr rfl) wt_340 (n := 400) ((ml_340 hM)) (by omega) (by omega) ⟨(by omega), (by omega)⟩ ?_
    refine wa_aload_n (n := 0) rfl ?_
    refine wb_gf4 237 rfl (wy_pr rfl) wt_237 wf_15_101 (v := 341) wl_237_101 ?_
    refine wa_iload_n (n := 1) rfl ?_
    refine wa_lload_n (n := 3) rfl ?_
    refine wb_last 341 rfl (wy_pr rfl) wt_341 (n := 400) ((w_up_slot (by decide)).trans ((ml_341 hM))) (by omega) (by omega) ⟨(by omega), (by omega)⟩ ?_
    refine wa_goto ⟨_, rfl⟩ ?_
    refine wa_return rfl ?_
    exact ⟨rfl, rfl⟩
theorem rrf0_241 {c m gb vk vb : Int} {k : Nat} (hM : w_ML S) (hK : KR 241 T n cs ms S) (hw : wHo cs ms os) (hm : 0 ≤ m ∧ m < (ms.length : Int)) (hvk : -2147483648 ≤ vk ∧ vk ≤ 2147483647) (hvb : -9223372036854775808 ≤ vb ∧ vb ≤ 9223372036854775807) (hst : (hmR ms m).2.2.1 = 0) (hc : 0 ≤ c ∧ c < (cs.length : Int)) (hF : (flA cs ms c).length ≤ 400) (hk : k < (flA cs ms c).length) (hkm : (flA cs ms c).getD k 0 = m) (hkn : ∀ i : Nat, i < k → (flA cs ms c).getD i 0 ≠ m) (h75 : S 237 175 = gb) (hgb : 0 ≤ gb ∧ gb < 8000) (h321 : S 321 gb = c) (hsl : slC S gb l) (hkl : k < l.length) (hl6 : l.length ≤ 60000) (h25 : S 325 (l.getD k 0) = vk) (h26 : S 326 (l.getD k 0) = vb) : wJ (pe_GA xs) wY0 M (d + 3) t_M_readsFieldOf ((pe_at t_M_readsFieldOf.bl 0).getD (0, [])).2 [(0, (2, 237)), (1, (0, m))] [] S (fun z Z => z = .inl none ∧ (Z 237 110 = vk ∧ Z 237 111 = vb) ∧ ∀ (j : Nat) (x : Int), ¬ fiM j x → Z j x = S j x) := by
  have h13 : S 237 13 = 241 := hK.1
  have h400 := hw.1.2
  have eM := KR_m hK (m := m) (by omega) (by omega)
  have eW := hw.2.2.2 m (by omega) (by omega)
  have e1 : S 253 m = (hmR ms m).2.1 := eM.1.2.1
  have e2 : S 254 m = (hmR ms m).2.2.1 := eM.1.2.2.1
  have e3 : S 255 m = (hmR ms m).2.2.2.1 := eM.1.2.2.2.1
  have e4 : S 256 m = ((hmR ms m).2.2.2.2.1.length : Int) := eM.2.1.1
  have e5 : S 257 m = (hmR ms m).2.2.2.2.2.1 := eM.2.1.2.1
  have ef : S 259 m = (hmR ms m).2.2.2.2.2.2.1 := eM.1.2.2.2.2.1
  have et : S 260 m = (hmR ms m).2.2.2.2.2.2.2 := eM.1.2.2.2.2.2
  have eq := eW.1.2.1
  have es := eW.1.2.2.1
  have ey := eW.1.2.2.2
  have ev := eW.2.1
  have el := eW.2.2.1
  have eft := hK.2.2.2.2.2.2.1 m (by omega) (by omega)
  refine wa_aload_n (n := 0) rfl ?_
  refine wb_gf5 237 rfl (wy_pr rfl) wt_237 wf_15_13 (v := 241) (h13) (fun r1 => ?_)
  refine wb_gf4 241 rfl (wy_pr rfl) wt_241 wf_12_14 (v := 254) wl_241_14 ?_
  refine wa_iload_n (n := 1) rfl ?_
  refine wb_zald 254 rfl (wy_pr rfl) wt_254 (n := 400) ((ml_254 hM)) (by omega) (by omega) (v := (hmR ms m).2.2.1) (e2) (fun r2 => ?_)
  refine wa_ifeq (w_rg0 (by omega) (by omega)) ⟨_, rfl⟩ (fun c3 => ?_) (fun c3 => ?_)
  · skip
    refine wa_aload_n (n := 0) rfl ?_
    refine wa_iload_n (n := 1) rfl ?_
    refine wa_cv 237 rfl (wy_pr rfl) wt_237 (M2 := fun _ => False) rfl at_M_fieldSlot ⟨_, rfl⟩ rfl rfl ⟨(Or.inr ⟨wy_pr rfl, fun q => q⟩), trivial, trivial⟩ trivial (fun _ _ q => False.elim q) (rfs_241 (c := c) (m := m) (k := k) (gb := gb) (l := l) hM hK hw hc hF hk hkm hkn ⟨by omega, by omega⟩ h75 hgb h321 hsl hkl hl6) (fun oq4 Sq4 hp5 q4 => ?_)
    rcases q4 with ⟨rfl, hfr⟩
    show wJ _ _ _ _ _ _ _ _ _ _
    have hsr := (hsl.2.2 k hkl).1
    refine wa_istore_n (n := 2) rfl ?_
    refine wa_aload_n (n := 0) rfl ?_
    refine wa_aload_n (n := 0) rfl ?_
    refine wb_gf4 237 rfl (wy_pr rfl) wt_237 wf_15_83 (v := 325) wl_237_83 ?_
    refine wa_iload_n (n := 2) rfl ?_
    refine wb_iald 325 rfl (wy_pr rfl) wt_325 (n := 60000) (((ml_325 (ML_w hM hfr (fun j z => by unfold flM at z; omega))))) (by omega) (by omega) (v := vk) (((hfr 325 _ (by unfold flM; omega)).trans h25)) (fun r6 => ?_)
    refine wa_aload_n (n := 0) rfl ?_
    refine wb_gf4 237 rfl (wy_pr rfl) wt_237 wf_15_84 (v := 326) wl_237_84 ?_
    refine wa_iload_n (n := 2) rfl ?_
    refine wb_lald 326 rfl (wy_pr rfl) wt_326 (n := 60000) (((ml_326 (ML_w hM hfr (fun j z => by unfold flM at z; omega))))) (by omega) (by omega) (v := vb) (((hfr 326 _ (by unfold flM; omega)).trans h26)) (fun r7 => ?_)
    refine wa_cv 237 rfl (wy_pr rfl) wt_237 (M2 := fun _ => False) rfl at_M_is ⟨_, rfl⟩ rfl rfl ⟨trivial, (Or.inr ⟨wy_pr rfl, fun q => q⟩), trivial, trivial⟩ trivial (fun _ _ q => False.elim q) ?_ (fun _ _ _ q => q)
    refine wa_aload_n (n := 0) rfl ?_
    refine wa_iload_n (n := 1) rfl ?_
    refine wb_pfi 237 rfl (wy_pr rfl) wt_237 wf_15_110 (n := 110) rfl ⟨(by omega), (by omega)⟩ ?_
    refine wa_aload_n (n := 0) rfl ?_
    refine wa_lload_n (n := 2) rfl ?_
    refine wb_pfl 237 rfl (wy_pr rfl) wt_237 wf_15_111 (n := 111) rfl ⟨(by omega), (by omega)⟩ ?_
    refine wa_return rfl ?_
    show wJ _ _ _ _ _ _ _ _ _ _
    refine wa_fall ⟨_, rfl⟩ ?_
    refine wa_return rfl ?_
    exact ⟨rfl, ⟨(w_up_at (by first | decide | omega)).trans (w_up_same _ _ _ _), w_up_same _ _ _ _⟩, fun j x hj => (w_up_no (fun z => hj (Or.inr ⟨z.1, Or.inr z.2⟩))).trans ((w_up_no (fun z => hj (Or.inr ⟨z.1, Or.inl z.2⟩))).trans (hfr j x (fun z => hj (Or.inl z))))⟩
  · skip
    exfalso; omega
theorem rwf0_241 {c m gb vk vb : Int} {k : Nat} (hM : w_ML S) (hK : KR 241 T n cs ms S) (hw : wHo cs ms os) (hm : 0 ≤ m ∧ m < (ms.length : Int)) (hvk : -2147483648 ≤ vk ∧ vk ≤ 2147483647) (hvb : -9223372036854775808 ≤ vb ∧ vb ≤ 9223372036854775807) (hst : (hmR ms m).2.2.1 = 0) (hc : 0 ≤ c ∧ c < (cs.length : Int)) (hF : (flA cs ms c).length ≤ 400) (hk : k < (flA cs ms c).length) (hkm : (flA cs ms c).getD k 0 = m) (hkn : ∀ i : Nat, i < k → (flA cs ms c).getD i 0 ≠ m) (h75 : S 237 175 = gb) (hgb : 0 ≤ gb ∧ gb < 8000) (h321 : S 321 gb = c) (hsl : slC S gb l) (hkl : k < l.length) (hl6 : l.length ≤ 60000) : wJ (pe_GA xs) wY0 M (d + 3) t_M_writesFieldOf ((pe_at t_M_writesFieldOf.bl 0).getD (0, [])).2 [(0, (2, 237)), (1, (0, m)), (2, (0, vk)), (3, (1, vb))] [] S (fun z Z => z = .inl none ∧ (Z 325 (l.getD k 0) = vk ∧ Z 326 (l.getD k 0) = vb) ∧ ∀ (j : Nat) (x : Int), ¬ (flM j x ∨ ((j = 325 ∨ j = 326) ∧ x = l.getD k 0)) → Z j x = S j x) := by
  have h13 : S 237 13 = 241 := hK.1
  have h400 := hw.1.2
  have eM := KR_m hK (m := m) (by omega) (by omega)
  have eW := hw.2.2.2 m (by omega) (by omega)
  have e1 : S 253 m = (hmR ms m).2.1 := eM.1.2.1
  have e2 : S 254 m = (hmR ms m).2.2.1 := eM.1.2.2.1
  have e3 : S 255 m = (hmR ms m).2.2.2.1 := eM.1.2.2.2.1
  have e4 : S 256 m = ((hmR ms m).2.2.2.2.1.length : Int) := eM.2.1.1
  have e5 : S 257 m = (hmR ms m).2.2.2.2.2.1 := eM.2.1.2.1
  have ef : S 259 m = (hmR ms m).2.2.2.2.2.2.1 := eM.1.2.2.2.2.1
  have et : S 260 m = (hmR ms m).2.2.2.2.2.2.2 := eM.1.2.2.2.2.2
  have eq := eW.1.2.1
  have es := eW.1.2.2.1
  have ey := eW.1.2.2.2
  have ev := eW.2.1
  have el := eW.2.2.1
  have eft := hK.2.2.2.2.2.2.1 m (by omega) (by omega)
  refine wa_aload_n (n := 0) rfl ?_
  refine wb_gf5 237 rfl (wy_pr rfl) wt_237 wf_15_13 (v := 241) (h13) (fun r1 => ?_)
  refine wb_gf4 241 rfl (wy_pr rfl) wt_241 wf_12_14 (v := 254) wl_241_14 ?_
  refine wa_iload_n (n := 1) rfl ?_
  refine wb_zald 254 rfl (wy_pr rfl) wt_254 (n := 400) ((ml_254 hM)) (by omega) (by omega) (v := (hmR ms m).2.2.1) (e2) (fun r2 => ?_)
  refine wa_ifeq (w_rg0 (by omega) (by omega)) ⟨_, rfl⟩ (fun c3 => ?_) (fun c3 => ?_)
  · skip
    refine wa_aload_n (n := 0) rfl ?_
    refine wa_iload_n (n := 1) rfl ?_
    refine wa_cv 237 rfl (wy_pr rfl) wt_237 (M2 := fun _ => False) rfl at_M_fieldSlot ⟨_, rfl⟩ rfl rfl ⟨(Or.inr ⟨wy_pr rfl, fun q => q⟩), trivial, trivial, trivial, trivial⟩ trivial (fun _ _ q => False.elim q) (rfs_241 (c := c) (m := m) (k := k) (gb := gb) (l := l) hM hK hw hc hF hk hkm hkn ⟨by omega, by omega⟩ h75 hgb h321 hsl hkl hl6) (fun oq4 Sq4 hp5 q4 => ?_)
    rcases q4 with ⟨rfl, hfr⟩
    show wJ _ _ _ _ _ _ _ _ _ _
    have hsr := (hsl.2.2 k hkl).1
    refine wa_istore (n := 5) rfl ?_
    refine wa_aload_n (n := 0) rfl ?_
    refine wb_gf4 237 rfl (wy_pr rfl) wt_237 wf_15_83 (v := 325) wl_237_83 ?_
    refine wa_iload (n := 5) rfl ?_
    refine wa_iload_n (n := 2) rfl ?_
    refine wb_iast 325 rfl (wy_pr rfl) wt_325 (n := 60000) (((ml_325 (ML_w hM hfr (fun j z => by unfold flM at z; omega))))) (by omega) (by omega) ⟨(by omega), (by omega)⟩ ?_
    refine wa_aload_n (n := 0) rfl ?_
    refine wb_gf4 237 rfl (wy_pr rfl) wt_237 wf_15_84 (v := 326) wl_237_84 ?_
    refine wa_iload (n := 5) rfl ?_
    refine wa_lload_n (n := 3) rfl ?_
    refine wb_last 326 rfl (wy_pr rfl) wt_326 (n := 60000) ((w_up_slot (by decide)).trans (((ml_326 (ML_w hM hfr (fun j z => by unfold flM at z; omega)))))) (by omega) (by omega) ⟨(by omega), (by omega)⟩ ?_
    refine wa_fall ⟨_, rfl⟩ ?_
    refine wa_return rfl ?_
    exact ⟨rfl, ⟨(w_up_slot (by first | decide | omega)).trans (w_up_same _ _ _ _), w_up_same _ _ _ _⟩, fun j x hj => (w_up_no (fun z => hj (Or.inr ⟨Or.inr z.1, z.2⟩))).trans ((w_up_no (fun z => hj (Or.inr ⟨Or.inl z.1, z.2⟩))).trans (hfr j x (fun z => hj (Or.inl z))))⟩
  · skip
    exfalso; omega
theorem rli_261 {c o e dd x2 : Int} {r F : List Int} (hM : w_ML S) (hK : KR 261 T n cs ms S) (hw : wHo cs ms os) (ho : 0 ≤ o ∧ o < (cs.length : Int)) (he : e = (hcR cs o).2.2.2.2.2.2.1 + (hcR cs o).2.2.2.2.2.2.2) (hF : F.length ≤ 400) (hnx : ∀ (acc : List Int) (A : wS), flI acc A → (∀ (j : Nat) (x : Int), ¬ flM j x → A j x = S j x) → acc ++ r = F → wJ (pe_GA xs) wY0 M d t_M_listsFields ((pe_at t_M_listsFields.bl 8).getD (0, [])).2 [(0, (2, 237)), (1, (0, c)), (2, (0, x2)), (3, (0, dd)), (4, (0, o))] [] A (fun z Z => z = .inl none ∧ flI F Z ∧ ∀ (j : Nat) (x : Int), ¬ flM j x → Z j x = S j x)) : ∀ (nn : Nat) (m : Int) (acc : List Int) (A : wS), flI acc A → (∀ (j : Nat) (x : Int), ¬ flM j x → A j x = S j x) → m + (nn : Int) = e → 0 ≤ m → acc ++ ((ivl m nn).filter (isFd ms) ++ r) = F → wJ (pe_GA xs) wY0 M d t_M_listsFields ((pe_at t_M_listsFields.bl 6).getD (0, [])).2 [(0, (2, 237)), (1, (0, c)), (2, (0, x2)), (3, (0, dd)), (4, (0, o)), (5, (0, m))] [] A (fun z Z => z = .inl none ∧ flI F Z ∧ ∀ (j : Nat) (x : Int), ¬ flM j x → Z j x = S j x) := by
  have h400 := hw.1
  have hco1 := (hw.2.1 o ho.1 ho.2).2.1
  intro nn
  induction nn with
  | zero =>
    intro m acc A hac hfr hme hm0 hq
    have hMA : w_ML A := ML_w hM hfr (fun j z => by unfold flM at z; omega)
    have hKA : KR 261 T n cs ms A := KR_ag hK (fun j x hj => hfr j x (by unfold flM; omega))
    have h13 : A 237 13 = 261 := hKA.1
    have hcc := KR_c hKA ho.1 ho.2
    have h7 : A 268 o = (hcR cs o).2.2.2.2.2.2.1 := hcc.2.2.2.2.1
    have h8 : A 269 o = (hcR cs o).2.2.2.2.2.2.2 := hcc.2.2.2.2.2
    refine wa_iload (n := 5) rfl ?_
    refine wa_aload_n (n := 0) rfl ?_
    refine wb_gf5 237 rfl (wy_pr rfl) wt_237 wf_15_13 (v := 261) (h13) (fun r1 => ?_)
    refine wb_gf4 261 rfl (wy_pr rfl) wt_261 wf_12_7 (v := 268) wl_261_7 ?_
    refine wa_iload (n := 4) rfl ?_
    refine wb_iald 268 rfl (wy_pr rfl) wt_268 (n := 60) ((ml_268 hMA)) (by omega) (by omega) (v := (hcR cs o).2.2.2.2.2.2.1) (h7) (fun r2 => ?_)
    refine wa_aload_n (n := 0) rfl ?_
    refine wb_gf5 237 rfl (wy_pr rfl) wt_237 wf_15_13 (v := 261) (h13) (fun r3 => ?_)
    refine wb_gf4 261 rfl (wy_pr rfl) wt_261 wf_12_8 (v := 269) wl_261_8 ?_
    refine wa_iload (n := 4) rfl ?_
    refine wb_iald 269 rfl (wy_pr rfl) wt_269 (n := 60) ((ml_269 hMA)) (by omega) (by omega) (v := (hcR cs o).2.2.2.2.2.2.2) (h8) (fun r4 => ?_)
    refine wa_iadd ?_
    refine wa_icmpge (w_rg0 (by omega) (by omega)) (w_rg0 (by omega) (by omega)) ⟨_, rfl⟩ (fun c5 => ?_) (fun c5 => ?_)
    · skip
      exact wJ_S (hnx acc A hac hfr hq) ⟨rfl, rfl, rfl, rfl, rfl, trivial⟩
    · skip
      exfalso; omega
  | succ nn ih =>
    intro m acc A hac hfr hme hm0 hq
    have hq1 := hq
    rw [ivl_s] at hq
    have hMA : w_ML A := ML_w hM hfr (fun j z => by unfold flM at z; omega)
    have hKA : KR 261 T n cs ms A := KR_ag hK (fun j x hj => hfr j x (by unfold flM; omega))
    have h13 : A 237 13 = 261 := hKA.1
    have hcc := KR_c hKA ho.1 ho.2
    have h7 : A 268 o = (hcR cs o).2.2.2.2.2.2.1 := hcc.2.2.2.2.1
    have h8 : A 269 o = (hcR cs o).2.2.2.2.2.2.2 := hcc.2.2.2.2.2
    have h130 : A 237 130 = (acc.length : Int) := hac.1
    have hal := hac.2.2
    have eM := KR_m hKA (m := m) (by omega) (by omega)
    have eW := hw.2.2.2 m (by omega) (by omega)
    have e1 : A 273 m = (hmR ms m).2.1 := eM.1.2.1
    have e2 : A 274 m = (hmR ms m).2.2.1 := eM.1.2.2.1
    have e3 : A 275 m = (hmR ms m).2.2.2.1 := eM.1.2.2.2.1
    have e4 : A 276 m = ((hmR ms m).2.2.2.2.1.length : Int) := eM.2.1.1
    have e5 : A 277 m = (hmR ms m).2.2.2.2.2.1 := eM.2.1.2.1
    have ef : A 279 m = (hmR ms m).2.2.2.2.2.2.1 := eM.1.2.2.2.2.1
    have et : A 280 m = (hmR ms m).2.2.2.2.2.2.2 := eM.1.2.2.2.2.2
    have eq := eW.1.2.1
    have es := eW.1.2.2.1
    have ey := eW.1.2.2.2
    have ev := eW.2.1
    have el := eW.2.2.1
    have eft := hK.2.2.2.2.2.2.1 m (by omega) (by omega)
    refine wa_iload (n := 5) rfl ?_
    refine wa_aload_n (n := 0) rfl ?_
    refine wb_gf5 237 rfl (wy_pr rfl) wt_237 wf_15_13 (v := 261) (h13) (fun r51 => ?_)
    refine wb_gf4 261 rfl (wy_pr rfl) wt_261 wf_12_7 (v := 268) wl_261_7 ?_
    refine wa_iload (n := 4) rfl ?_
    refine wb_iald 268 rfl (wy_pr rfl) wt_268 (n := 60) ((ml_268 hMA)) (by omega) (by omega) (v := (hcR cs o).2.2.2.2.2.2.1) (h7) (fun r52 => ?_)
    refine wa_aload_n (n := 0) rfl ?_
    refine wb_gf5 237 rfl (wy_pr rfl) wt_237 wf_15_13 (v := 261) (h13) (fun r53 => ?_)
    refine wb_gf4 261 rfl (wy_pr rfl) wt_261 wf_12_8 (v := 269) wl_261_8 ?_
    refine wa_iload (n := 4) rfl ?_
    refine wb_iald 269 rfl (wy_pr rfl) wt_269 (n := 60) ((ml_269 hMA)) (by omega) (by omega) (v := (hcR cs o).2.2.2.2.2.2.2) (h8) (fun r54 => ?_)
    refine wa_iadd ?_
    refine wa_icmpge (w_rg0 (by omega) (by omega)) (w_rg0 (by omega) (by omega)) ⟨_, rfl⟩ (fun c55 => ?_) (fun c55 => ?_)
    · skip
      exfalso; omega
    · skip
      refine wa_aload_n (n := 0) rfl ?_
      refine wb_gf5 237 rfl (wy_pr rfl) wt_237 wf_15_13 (v := 261) (h13) (fun r56 => ?_)
      refine wb_gf4 261 rfl (wy_pr rfl) wt_261 wf_12_13 (v := 273) wl_261_13 ?_
      refine wa_iload (n := 5) rfl ?_
      refine wb_iald 273 rfl (wy_pr rfl) wt_273 (n := 400) ((ml_273 hMA)) (by omega) (by omega) (v := (hmR ms m).2.1) (e1) (fun r57 => ?_)
      refine wa_ifne (w_rg0 (by omega) (by omega)) ⟨_, rfl⟩ (fun c58 => ?_) (fun c58 => ?_)
      · skip
        refine wa_iinc rfl rfl ?_
        refine wa_goto ⟨_, rfl⟩ ?_
        have hno : isFd ms m = false := isFd_f (by omega)
        rw [List.filter_cons_of_neg (by rw [hno]; decide)] at hq
        exact wJ_S (ih (m + 1) acc A hac hfr (by omega) (by omega) hq) ⟨rfl, rfl, rfl, rfl, rfl, rfl, trivial⟩
      · skip
        refine wa_aload_n (n := 0) rfl ?_
        refine wb_gf5 237 rfl (wy_pr rfl) wt_237 wf_15_13 (v := 261) (h13) (fun r59 => ?_)
        refine wb_gf4 261 rfl (wy_pr rfl) wt_261 wf_12_14 (v := 274) wl_261_14 ?_
        refine wa_iload (n := 5) rfl ?_
        refine wb_zald 274 rfl (wy_pr rfl) wt_274 (n := 400) ((ml_274 hMA)) (by omega) (by omega) (v := (hmR ms m).2.2.1) (e2) (fun r60 => ?_)
        refine wa_ifne (w_rg0 (by omega) (by omega)) ⟨_, rfl⟩ (fun c61 => ?_) (fun c61 => ?_)
        · skip
          refine wa_iinc rfl rfl ?_
          refine wa_goto ⟨_, rfl⟩ ?_
          have hno : isFd ms m = false := isFd_f (by omega)
          rw [List.filter_cons_of_neg (by rw [hno]; decide)] at hq
          exact wJ_S (ih (m + 1) acc A hac hfr (by omega) (by omega) hq) ⟨rfl, rfl, rfl, rfl, rfl, rfl, trivial⟩
        · skip
          have hyes : isFd ms m = true := isFd_t (by omega) (by omega)
          rw [List.filter_cons_of_pos hyes, List.cons_append] at hq
          have hl4 : acc.length < 400 := by have z := congrArg List.length hq; rw [List.length_append, List.length_cons] at z; omega
          refine wa_aload_n (n := 0) rfl ?_
          refine wb_gf4 237 rfl (wy_pr rfl) wt_237 wf_15_131 (v := 356) wl_237_131 ?_
          refine wa_aload_n (n := 0) rfl ?_
          refine wb_gfi 237 rfl (wy_pr rfl) wt_237 wf_15_130 (v := (acc.length : Int)) (h130) (fun r62 => ?_)
          refine wa_iload (n := 5) rfl ?_
          refine wb_iast 356 rfl (wy_pr rfl) wt_356 (n := 400) ((ml_356 hMA)) (by omega) (by omega) ⟨(by omega), (by omega)⟩ ?_
          refine wa_aload_n (n := 0) rfl ?_
          refine wa_dup (by decide) ?_
          refine wb_gfi 237 rfl (wy_pr rfl) wt_237 wf_15_130 (v := (acc.length : Int)) ((w_up_slot (by decide)).trans (h130)) (fun r63 => ?_)
          refine wa_iconst ?_
          refine wa_iadd ?_
          refine wb_pfi 237 rfl (wy_pr rfl) wt_237 wf_15_130 (n := 130) rfl ⟨(by omega), (by omega)⟩ ?_
          refine wa_fall ⟨_, rfl⟩ ?_
          refine wa_iinc rfl rfl ?_
          refine wa_goto ⟨_, rfl⟩ ?_
          exact wJ_S (ih (m + 1) (acc ++ [m]) _ (flI_n hac hl4) (fun j x hj => (w_up_no (fun z => hj (Or.inr z))).trans ((w_up_no (fun z => hj (Or.inl ⟨z.1, by omega⟩))).trans (hfr j x hj))) (by omega) (by omega) (by rw [List.append_assoc]; exact hq)) ⟨rfl, rfl, rfl, rfl, rfl, rfl, trivial⟩
theorem rlk_261 {c x2 : Int} {q : Nat} (hMA : w_ML A) (hKA : KR 261 T n cs ms A) (hw : wHo cs ms os) (hc : 0 ≤ c ∧ c < (cs.length : Int)) (hq : q < (chA cs c).length) (hk : wJ (pe_GA xs) wY0 M d t_M_listsFields ((pe_at t_M_listsFields.bl 5).getD (0, [])).2 [(0, (2, 237)), (1, (0, c)), (2, (0, x2)), (3, (0, (q : Int))), (4, (0, (chA cs c).getD q 0))] [] A Q) : ∀ (f k : Nat), k + f = q → wJ (pe_GA xs) wY0 M d t_M_listsFields ((pe_at t_M_listsFields.bl 4).getD (0, [])).2 [(0, (2, 237)), (1, (0, c)), (2, (0, x2)), (3, (0, (q : Int))), (4, (0, (chA cs c).getD k 0)), (5, (0, (k : Int)))] [] A Q := by
  have h13 : A 237 13 = 261 := hKA.1
  have h60 := hw.1
  have hlc := chl_len (A := Ab cs) (c.toNat + 1) c
  replace hlc : (chA cs c).length ≤ c.toNat + 1 := hlc
  intro f
  induction f with
  | zero =>
    intro k hkq
    have hkq2 : k = q := by omega
    rw [hkq2]
    refine wa_iload (n := 5) rfl ?_
    refine wa_iload_n (n := 3) rfl ?_
    refine wa_icmpge (w_rg0 (by omega) (by omega)) (w_rg0 (by omega) (by omega)) ⟨_, rfl⟩ (fun c1 => ?_) (fun c1 => ?_)
    · skip
      exact wJ_S hk ⟨rfl, rfl, rfl, rfl, rfl, trivial⟩
    · skip
      exfalso; omega
  | succ f ih =>
    intro k hkq
    have hkr := ch_rg hw (c.toNat + 1) c (by omega) hc.2 _ (getD_mem (l := (chA cs c)) (i := k) (by omega))
    have hnx := chl_nx (A := Ab cs) (c.toNat + 1) c k (by show k + 1 < (chA cs c).length; omega)
    replace hnx : (chA cs c).getD (k + 1) 0 = (hcR cs ((chA cs c).getD k 0)).2.2.2.1 := hnx
    have h3 : A 264 ((chA cs c).getD k 0) = (hcR cs ((chA cs c).getD k 0)).2.2.2.1 := (KR_c hKA hkr.1 hkr.2).2.2.2.1.2.1
    rw [← hnx] at h3
    refine wa_iload (n := 5) rfl ?_
    refine wa_iload_n (n := 3) rfl ?_
    refine wa_icmpge (w_rg0 (by omega) (by omega)) (w_rg0 (by omega) (by omega)) ⟨_, rfl⟩ (fun c51 => ?_) (fun c51 => ?_)
    · skip
      exfalso; omega
    · skip
      refine wa_aload_n (n := 0) rfl ?_
      refine wb_gf5 237 rfl (wy_pr rfl) wt_237 wf_15_13 (v := 261) (h13) (fun r52 => ?_)
      refine wb_gf4 261 rfl (wy_pr rfl) wt_261 wf_12_3 (v := 264) wl_261_3 ?_
      refine wa_iload (n := 4) rfl ?_
      refine wb_iald 264 rfl (wy_pr rfl) wt_264 (n := 60) ((ml_264 hMA)) (by omega) (by omega) (v := ((chA cs c).getD (k + 1) 0)) (h3) (fun r53 => ?_)
      refine wa_istore (n := 4) rfl ?_
      refine wa_iinc rfl rfl ?_
      refine wa_goto ⟨_, rfl⟩ ?_
      exact wJ_S (ih (k + 1) (by omega)) ⟨rfl, rfl, rfl, rfl, rfl, rfl, trivial⟩
theorem rlo2_261 {c x2 : Int} {F : List Int} (hM : w_ML S) (hK : KR 261 T n cs ms S) (hw : wHo cs ms os) (hc : 0 ≤ c ∧ c < (cs.length : Int)) (hF : F.length ≤ 400) : ∀ (f : Nat) (dd : Int) (acc : List Int) (A : wS), dd + 1 = (f : Int) → f ≤ (chA cs c).length → flI acc A → (∀ (j : Nat) (x : Int), ¬ flM j x → A j x = S j x) → acc ++ ((chA cs c).take f).reverse.flatMap (flO cs ms) = F → wJ (pe_GA xs) wY0 M d t_M_listsFields ((pe_at t_M_listsFields.bl 3).getD (0, [])).2 [(0, (2, 237)), (1, (0, c)), (2, (0, x2)), (3, (0, dd))] [] A (fun z Z => z = .inl none ∧ flI F Z ∧ ∀ (j : Nat) (x : Int), ¬ flM j x → Z j x = S j x) := by
  have h60 := hw.1
  have hlc := chl_len (A := Ab cs) (c.toNat + 1) c
  replace hlc : (chA cs c).length ≤ c.toNat + 1 := hlc
  intro f
  induction f with
  | zero =>
    intro dd acc A hd hfl hac hfr hq
    rw [List.take_zero] at hq
    replace hq : acc ++ [] = F := hq
    rw [List.append_nil] at hq
    have hMA : w_ML A := ML_w hM hfr (fun j z => by unfold flM at z; omega)
    have hKA : KR 261 T n cs ms A := KR_ag hK (fun j x hj => hfr j x (by unfold flM; omega))
    have h13 : A 237 13 = 261 := hKA.1
    refine wa_iload_n (n := 3) rfl ?_
    refine wa_iflt (w_rg0 (by omega) (by omega)) ⟨_, rfl⟩ (fun c1 => ?_) (fun c1 => ?_)
    · skip
      refine wa_return rfl ?_
      exact ⟨rfl, hq ▸ hac, hfr⟩
    · skip
      exfalso; omega
  | succ f ih =>
    intro dd acc A hd hfl hac hfr hq
    have hdf : dd = (f : Int) := by omega
    rw [hdf]
    rw [take_rv (show f < (chA cs c).length by omega), List.flatMap_cons] at hq
    have hMA : w_ML A := ML_w hM hfr (fun j z => by unfold flM at z; omega)
    have hKA : KR 261 T n cs ms A := KR_ag hK (fun j x hj => hfr j x (by unfold flM; omega))
    have h13 : A 237 13 = 261 := hKA.1
    have hor := ch_rg hw (c.toNat + 1) c (by omega) hc.2 _ (getD_mem (l := (chA cs c)) (i := f) (by omega))
    have hco1 := (hw.2.1 _ hor.1 hor.2).2.1
    have h7 : A 268 ((chA cs c).getD f 0) = (hcR cs ((chA cs c).getD f 0)).2.2.2.2.2.2.1 := (KR_c hKA hor.1 hor.2).2.2.2.2.1
    have hc0 : (chA cs c).getD 0 0 = c := chl_0 (by show 0 < (chA cs c).length; omega)
    refine wa_iload_n (n := 3) rfl ?_
    refine wa_iflt (w_rg0 (by omega) (by omega)) ⟨_, rfl⟩ (fun c51 => ?_) (fun c51 => ?_)
    · skip
      exfalso; omega
    · skip
      refine wa_iload_n (n := 1) rfl ?_
      refine wa_istore (n := 4) rfl ?_
      refine wa_iconst ?_
      refine wa_istore (n := 5) rfl ?_
      refine wa_fall ⟨_, rfl⟩ ?_
      refine wJ_S (L2 := [(0, (2, 237)), (1, (0, c)), (2, (0, x2)), (3, (0, (f : Int))), (4, (0, (chA cs c).getD 0 0)), (5, (0, ((0 : Nat) : Int)))]) ?_ ⟨rfl, rfl, rfl, rfl, by rw [hc0]; rfl, rfl, trivial⟩
      refine rlk_261 hMA hKA hw hc (by omega) ?_ f 0 (by omega)
      refine wa_aload_n (n := 0) rfl ?_
      refine wb_gf5 237 rfl (wy_pr rfl) wt_237 wf_15_13 (v := 261) (h13) (fun r101 => ?_)
      refine wb_gf4 261 rfl (wy_pr rfl) wt_261 wf_12_7 (v := 268) wl_261_7 ?_
      refine wa_iload (n := 4) rfl ?_
      refine wb_iald 268 rfl (wy_pr rfl) wt_268 (n := 60) ((ml_268 hMA)) (by omega) (by omega) (v := (hcR cs ((chA cs c).getD f 0)).2.2.2.2.2.2.1) (h7) (fun r102 => ?_)
      refine wa_istore (n := 5) rfl ?_
      refine wa_fall ⟨_, rfl⟩ ?_
      refine wJ_S (rli_261 (e := (hcR cs ((chA cs c).getD f 0)).2.2.2.2.2.2.1 + (hcR cs ((chA cs c).getD f 0)).2.2.2.2.2.2.2) hM hK hw hor rfl hF (fun acc2 A2 hac2 hfr2 hq2 => ?_) (hcR cs ((chA cs c).getD f 0)).2.2.2.2.2.2.2.toNat _ acc A hac hfr (by omega) (by omega) hq) ⟨rfl, rfl, rfl, rfl, rfl, rfl, trivial⟩
      refine wa_iinc rfl rfl ?_
      refine wa_goto ⟨_, rfl⟩ ?_
      exact wJ_S (ih _ acc2 A2 (by omega) (by omega) hac2 hfr2 hq2) ⟨rfl, rfl, rfl, rfl, trivial⟩
theorem rld_261 {c : Int} (hMA : w_ML A) (hKA : KR 261 T n cs ms A) (hw : wHo cs ms os) : ∀ (f : Nat) (o i : Int), (o + 1).toNat ≤ f → -1 ≤ o → o < (cs.length : Int) → (0 ≤ i ∧ i + (f : Int) ≤ 1000) → wJ (pe_GA xs) wY0 M d t_M_listsFields ((pe_at t_M_listsFields.bl 2).getD (0, [])).2 [(0, (2, 237)), (1, (0, c)), (2, (0, i + ((ch_l (Ab cs) f o).length : Int)))] [] A Q → wJ (pe_GA xs) wY0 M d t_M_listsFields ((pe_at t_M_listsFields.bl 1).getD (0, [])).2 [(0, (2, 237)), (1, (0, c)), (2, (0, i)), (3, (0, o))] [] A Q := by
  have h13 : A 237 13 = 261 := hKA.1
  have h60 := hw.1
  intro f
  induction f with
  | zero =>
    intro o i hf o0 o1 hi hk
    replace hk : wJ (pe_GA xs) wY0 M d t_M_listsFields ((pe_at t_M_listsFields.bl 2).getD (0, [])).2 [(0, (2, 237)), (1, (0, c)), (2, (0, i + ((0 : Nat) : Int)))] [] A Q := hk
    rw [show i + ((0 : Nat) : Int) = i by omega] at hk
    refine wa_iload_n (n := 3) rfl ?_
    refine wa_iflt (w_rg0 (by omega) (by omega)) ⟨_, rfl⟩ (fun c1 => ?_) (fun c1 => ?_)
    · skip
      exact wJ_S hk ⟨rfl, rfl, rfl, trivial⟩
    · skip
      exfalso; omega
  | succ f ih =>
    intro o i hf o0 o1 hi hk
    refine wa_iload_n (n := 3) rfl ?_
    refine wa_iflt (w_rg0 (by omega) (by omega)) ⟨_, rfl⟩ (fun c51 => ?_) (fun c51 => ?_)
    · skip
      have hoe : o = -1 := by omega
      rw [ch_l_s, if_pos hoe, show i + (([] : List Int).length : Int) = i by show i + ((0 : Nat) : Int) = i; omega] at hk
      exact wJ_S hk ⟨rfl, rfl, rfl, trivial⟩
    · skip
      have hon : o ≠ -1 := by omega
      have hov : 0 ≤ o ∧ o < (cs.length : Int) := ⟨by omega, o1⟩
      have hcoa := (hw.2.1 o hov.1 hov.2).1
      have h3 : A 264 o = (hcR cs o).2.2.2.1 := (KR_c hKA hov.1 hov.2).2.2.2.1.2.1
      rw [chl_c hon, List.length_cons, show i + (((ch_l (Ab cs) f (Ab cs o)).length + 1 : Nat) : Int) = (i + 1) + ((ch_l (Ab cs) f (Ab cs o)).length : Int) by omega] at hk
      refine wa_iinc rfl rfl ?_
      refine wa_aload_n (n := 0) rfl ?_
      refine wb_gf5 237 rfl (wy_pr rfl) wt_237 wf_15_13 (v := 261) (h13) (fun r52 => ?_)
      refine wb_gf4 261 rfl (wy_pr rfl) wt_261 wf_12_3 (v := 264) wl_261_3 ?_
      refine wa_iload_n (n := 3) rfl ?_
      refine wb_iald 264 rfl (wy_pr rfl) wt_264 (n := 60) ((ml_264 hMA)) (by omega) (by omega) (v := (hcR cs o).2.2.2.1) (h3) (fun r53 => ?_)
      refine wa_istore_n (n := 3) rfl ?_
      refine wa_goto ⟨_, rfl⟩ ?_
      exact wJ_S (ih (Ab cs o) (i + 1) (by show ((hcR cs o).2.2.2.1 + 1).toNat ≤ f; omega) hcoa.1 (by show (hcR cs o).2.2.2.1 < _; omega) (by omega) hk) ⟨rfl, rfl, rfl, rfl, trivial⟩
theorem rlf_261 {c : Int} (hM : w_ML S) (hK : KR 261 T n cs ms S) (hw : wHo cs ms os) (hc : 0 ≤ c ∧ c < (cs.length : Int)) (hF : (flA cs ms c).length ≤ 400) : wJ (pe_GA xs) wY0 M d t_M_listsFields ((pe_at t_M_listsFields.bl 0).getD (0, [])).2 [(0, (2, 237)), (1, (0, c))] [] S (fun z Z => z = .inl none ∧ flI (flA cs ms c) Z ∧ ∀ (j : Nat) (x : Int), ¬ flM j x → Z j x = S j x) := by
  have h60 := hw.1
  have hlc := chl_len (A := Ab cs) (c.toNat + 1) c
  have hfr : ∀ (j : Nat) (x : Int), ¬ flM j x → (w_up S 237 130 0) j x = S j x := fun j x hj => w_up_no (fun z => hj (Or.inr z))
  have hac : flI [] (w_up S 237 130 0) := ⟨w_up_same _ _ _ _, fun i hi => absurd hi (Nat.not_lt_zero _), by show 0 ≤ 400; omega⟩
  have hMA : w_ML (w_up S 237 130 0) := ML_w hM hfr (fun j z => by unfold flM at z; omega)
  have hKA : KR 261 T n cs ms (w_up S 237 130 0) := KR_ag hK (fun j x hj => hfr j x (by unfold flM; omega))
  refine wa_aload_n (n := 0) rfl ?_
  refine wa_iconst ?_
  refine wb_pfi 237 rfl (wy_pr rfl) wt_237 wf_15_130 (n := 130) rfl ⟨(by omega), (by omega)⟩ ?_
  refine wa_iconst ?_
  refine wa_istore_n (n := 2) rfl ?_
  refine wa_iload_n (n := 1) rfl ?_
  refine wa_istore_n (n := 3) rfl ?_
  refine wa_fall ⟨_, rfl⟩ ?_
  refine wJ_S (rld_261 (c := c) hMA hKA hw (c.toNat + 1) c 0 (by omega) (by omega) hc.2 ⟨by omega, by omega⟩ ?_) ⟨rfl, rfl, rfl, rfl, trivial⟩
  rw [show (0 : Int) + ((ch_l (Ab cs) (c.toNat + 1) c).length : Int) = ((chA cs c).length : Int) by rw [Int.zero_add]; rfl]
  refine wa_iload_n (n := 2) rfl ?_
  refine wa_iconst ?_
  refine wa_isub ?_
  refine wa_istore_n (n := 3) rfl ?_
  refine wa_fall ⟨_, rfl⟩ ?_
  exact wJ_S (rlo2_261 hM hK hw hc hF (chA cs c).length _ [] _ (by omega) (Nat.le_refl _) hac hfr (by rw [List.take_length]; rfl)) ⟨rfl, rfl, rfl, rfl, trivial⟩
theorem rpol_261 {c m : Int} {k : Nat} (hMA : w_ML A) (hac : flI (flA cs ms c) A) (hfr : (∀ (j : Nat) (x : Int), ¬ flM j x → A j x = S j x)) (hk : k < (flA cs ms c).length) (hkm : (flA cs ms c).getD k 0 = m) (hkn : ∀ i : Nat, i < k → (flA cs ms c).getD i 0 ≠ m) (hmr : 0 ≤ m ∧ m < 400) (hfg : ∀ x ∈ (flA cs ms c), 0 ≤ x ∧ x < 400) : ∀ (f i : Nat), i + f = k → wJ (pe_GA xs) wY0 M (d + 1) t_M_placeOf ((pe_at t_M_placeOf.bl 1).getD (0, [])).2 [(0, (2, 237)), (1, (0, c)), (2, (0, m)), (3, (0, (i : Int)))] [] A (fun z Z => z = .inl (some (0, (k : Int))) ∧ flI (flA cs ms c) Z ∧ ∀ (j : Nat) (x : Int), ¬ flM j x → Z j x = S j x) := by
  have hal := hac.2.2
  intro f
  induction f with
  | zero =>
    intro i hi
    have hik : i = k := by omega
    rw [hik]
    have he : A 356 (k : Int) = m := (hac.2.1 k hk).trans hkm
    refine wa_aload_n (n := 0) rfl ?_
    refine wb_gf4 237 rfl (wy_pr rfl) wt_237 wf_15_131 (v := 356) wl_237_131 ?_
    refine wa_iload_n (n := 3) rfl ?_
    refine wb_iald 356 rfl (wy_pr rfl) wt_356 (n := 400) ((ml_356 hMA)) (by omega) (by omega) (v := m) (he) (fun r1 => ?_)
    refine wa_iload_n (n := 2) rfl ?_
    refine wa_icmpeq (w_rg0 (by omega) (by omega)) (w_rg0 (by omega) (by omega)) ⟨_, rfl⟩ (fun c2 => ?_) (fun c2 => ?_)
    · skip
      refine wa_iload_n (n := 3) rfl ?_
      refine wa_ireturn rfl ?_
      exact ⟨rfl, hac, hfr⟩
    · skip
      exfalso; omega
  | succ f ih =>
    intro i hi
    have he : A 356 (i : Int) = (flA cs ms c).getD i 0 := hac.2.1 i (by omega)
    have hen := hkn i (by omega)
    have her := hfg _ (getD_mem (l := (flA cs ms c)) (i := i) (by omega))
    refine wa_aload_n (n := 0) rfl ?_
    refine wb_gf4 237 rfl (wy_pr rfl) wt_237 wf_15_131 (v := 356) wl_237_131 ?_
    refine wa_iload_n (n := 3) rfl ?_
    refine wb_iald 356 rfl (wy_pr rfl) wt_356 (n := 400) ((ml_356 hMA)) (by omega) (by omega) (v := ((flA cs ms c).getD i 0)) (he) (fun r51 => ?_)
    refine wa_iload_n (n := 2) rfl ?_
    refine wa_icmpeq (w_rg0 (by omega) (by omega)) (w_rg0 (by omega) (by omega)) ⟨_, rfl⟩ (fun c52 => ?_) (fun c52 => ?_)
    · skip
      exfalso; omega
    · skip
      refine wa_iinc rfl rfl ?_
      refine wa_goto ⟨_, rfl⟩ ?_
      exact wJ_S (ih (i + 1) (by omega)) ⟨rfl, rfl, rfl, rfl, trivial⟩
theorem rpo_261 {c m : Int} {k : Nat} (hM : w_ML S) (hK : KR 261 T n cs ms S) (hw : wHo cs ms os) (hc : 0 ≤ c ∧ c < (cs.length : Int)) (hF : (flA cs ms c).length ≤ 400) (hk : k < (flA cs ms c).length) (hkm : (flA cs ms c).getD k 0 = m) (hkn : ∀ i : Nat, i < k → (flA cs ms c).getD i 0 ≠ m) (hmr : 0 ≤ m ∧ m < 400) : wJ (pe_GA xs) wY0 M (d + 1) t_M_placeOf ((pe_at t_M_placeOf.bl 0).getD (0, [])).2 [(0, (2, 237)), (1, (0, c)), (2, (0, m))] [] S (fun z Z => z = .inl (some (0, (k : Int))) ∧ flI (flA cs ms c) Z ∧ ∀ (j : Nat) (x : Int), ¬ flM j x → Z j x = S j x) := by
  have h400 := hw.1.2
  have hfg : ∀ x ∈ (flA cs ms c), 0 ≤ x ∧ x < 400 := fun x hx => by have z := flA_rg hw hc x hx; omega
  refine wa_aload_n (n := 0) rfl ?_
  refine wa_iload_n (n := 1) rfl ?_
  refine wa_cv 237 rfl (wy_pr rfl) wt_237 (M2 := fun _ => False) rfl at_M_listsFields ⟨_, rfl⟩ rfl rfl ⟨(Or.inr ⟨wy_pr rfl, fun q => q⟩), trivial, trivial, trivial⟩ trivial (fun _ _ q => False.elim q) (rlf_261 (c := c) hM hK hw hc hF) (fun oq1 Sq1 hp2 q1 => ?_)
  rcases q1 with ⟨rfl, hac, hfr⟩
  show wJ _ _ _ _ _ _ _ _ _ _
  refine wa_iconst ?_
  refine wa_istore_n (n := 3) rfl ?_
  refine wa_fall ⟨_, rfl⟩ ?_
  exact wJ_S (rpol_261 (ML_w hM hfr (fun j z => by unfold flM at z; omega)) hac hfr hk hkm hkn hmr hfg k 0 (by omega)) ⟨rfl, rfl, rfl, rfl, trivial⟩
theorem rfs_261 {c m gb : Int} {k : Nat} (hM : w_ML S) (hK : KR 261 T n cs ms S) (hw : wHo cs ms os) (hc : 0 ≤ c ∧ c < (cs.length : Int)) (hF : (flA cs ms c).length ≤ 400) (hk : k < (flA cs ms c).length) (hkm : (flA cs ms c).getD k 0 = m) (hkn : ∀ i : Nat, i < k → (flA cs ms c).getD i 0 ≠ m) (hmr : 0 ≤ m ∧ m < 400) (h75 : S 237 175 = gb) (hgb : 0 ≤ gb ∧ gb < 8000) (h321 : S 321 gb = c) (hsl : slC S gb l) (hkl : k < l.length) (hl6 : l.length ≤ 60000) : wJ (pe_GA xs) wY0 M (d + 2) t_M_fieldSlot ((pe_at t_M_fieldSlot.bl 0).getD (0, [])).2 [(0, (2, 237)), (1, (0, m))] [] S (fun z Z => z = .inl (some (0, l.getD k 0)) ∧ ∀ (j : Nat) (x : Int), ¬ flM j x → Z j x = S j x) := by
  have h60 := hw.1
  refine wa_aload_n (n := 0) rfl ?_
  refine wa_aload_n (n := 0) rfl ?_
  refine wb_gfl 237 rfl (wy_pr rfl) wt_237 wf_15_175 (v := gb) (h75) (fun r1 => ?_)
  refine wb_l2i_r (y := gb) (wb_l2i_id ⟨by omega, by omega⟩) ?_
  refine wa_aload_n (n := 0) rfl ?_
  refine wa_aload_n (n := 0) rfl ?_
  refine wb_gf4 237 rfl (wy_pr rfl) wt_237 wf_15_77 (v := 321) wl_237_77 ?_
  refine wa_aload_n (n := 0) rfl ?_
  refine wb_gfl 237 rfl (wy_pr rfl) wt_237 wf_15_175 (v := gb) (h75) (fun r2 => ?_)
  refine wb_l2i_r (y := gb) (wb_l2i_id ⟨by omega, by omega⟩) ?_
  refine wb_iald 321 rfl (wy_pr rfl) wt_321 (n := 8000) ((ml_321 hM)) (by omega) (by omega) (v := c) (h321) (fun r3 => ?_)
  refine wa_iload_n (n := 1) rfl ?_
  refine wa_cv 237 rfl (wy_pr rfl) wt_237 (M2 := fun _ => False) rfl at_M_placeOf ⟨_, rfl⟩ rfl rfl ⟨(Or.inr ⟨wy_pr rfl, fun q => q⟩), trivial, trivial⟩ ⟨trivial, (Or.inr ⟨wy_pr rfl, fun q => q⟩), trivial⟩ (fun _ _ q => False.elim q) (rpo_261 (c := c) (m := m) (k := k) hM hK hw hc hF hk hkm hkn hmr) (fun oq4 Sq4 hp5 q4 => ?_)
  rcases q4 with ⟨rfl, -, hfr⟩
  show wJ _ _ _ _ _ _ _ _ _ _
  refine wa_cv 237 rfl (wy_pr rfl) wt_237 (M2 := fun _ => False) rfl at_M_slotAt ⟨_, rfl⟩ rfl rfl ⟨(Or.inr ⟨wy_pr rfl, fun q => q⟩), trivial, trivial⟩ trivial (fun _ _ q => False.elim q) (saM_ok (l := l) (ML_w hM hfr (fun j z => by unfold flM at z; omega)) hgb (slC_fr hsl hfr) ⟨by omega, by omega⟩ hl6) (fun oq6 Sq6 hp7 q6 => ?_)
  rcases q6 with ⟨rfl, rfl⟩
  show wJ _ _ _ _ _ _ _ _ _ _
  refine wa_ireturn rfl ?_
  exact ⟨rfl, hfr⟩
theorem rrf1_261 {c m gb vk vb : Int} {k : Nat} (hM : w_ML S) (hK : KR 261 T n cs ms S) (hw : wHo cs ms os) (hm : 0 ≤ m ∧ m < (ms.length : Int)) (hvk : -2147483648 ≤ vk ∧ vk ≤ 2147483647) (hvb : -9223372036854775808 ≤ vb ∧ vb ≤ 9223372036854775807) (hst : (hmR ms m).2.2.1 = 1) (h40 : S 340 m = vk) (h41 : S 341 m = vb) : wJ (pe_GA xs) wY0 M (d + 3) t_M_readsFieldOf ((pe_at t_M_readsFieldOf.bl 0).getD (0, [])).2 [(0, (2, 237)), (1, (0, m))] [] S (fun z Z => z = .inl none ∧ (Z 237 110 = vk ∧ Z 237 111 = vb) ∧ ∀ (j : Nat) (x : Int), ¬ fiM j x → Z j x = S j x) := by
  have h13 : S 237 13 = 261 := hK.1
  have h400 := hw.1.2
  have eM := KR_m hK (m := m) (by omega) (by omega)
  have eW := hw.2.2.2 m (by omega) (by omega)
  have e1 : S 273 m = (hmR ms m).2.1 := eM.1.2.1
  have e2 : S 274 m = (hmR ms m).2.2.1 := eM.1.2.2.1
  have e3 : S 275 m = (hmR ms m).2.2.2.1 := eM.1.2.2.2.1
  have e4 : S 276 m = ((hmR ms m).2.2.2.2.1.length : Int) := eM.2.1.1
  have e5 : S 277 m = (hmR ms m).2.2.2.2.2.1 := eM.2.1.2.1
  have ef : S 279 m = (hmR ms m).2.2.2.2.2.2.1 := eM.1.2.2.2.2.1
  have et : S 280 m = (hmR ms m).2.2.2.2.2.2.2 := eM.1.2.2.2.2.2
  have eq := eW.1.2.1
  have es := eW.1.2.2.1
  have ey := eW.1.2.2.2
  have ev := eW.2.1
  have el := eW.2.2.1
  have eft := hK.2.2.2.2.2.2.1 m (by omega) (by omega)
  refine wa_aload_n (n := 0) rfl ?_
  refine wb_gf5 237 rfl (wy_pr rfl) wt_237 wf_15_13 (v := 261) (h13) (fun r1 => ?_)
  refine wb_gf4 261 rfl (wy_pr rfl) wt_261 wf_12_14 (v := 274) wl_261_14 ?_
  refine wa_iload_n (n := 1) rfl ?_
  refine wb_zald 274 rfl (wy_pr rfl) wt_274 (n := 400) ((ml_274 hM)) (by omega) (by omega) (v := (hmR ms m).2.2.1) (e2) (fun r2 => ?_)
  refine wa_ifeq (w_rg0 (by omega) (by omega)) ⟨_, rfl⟩ (fun c3 => ?_) (fun c3 => ?_)
  · skip
    exfalso; omega
  · skip
    refine wa_aload_n (n := 0) rfl ?_
    refine wa_aload_n (n := 0) rfl ?_
    refine wb_gf4 237 rfl (wy_pr rfl) wt_237 wf_15_100 (v := 340) wl_237_100 ?_
    refine wa_iload_n (n := 1) rfl ?_
    refine wb_iald 340 rfl (wy_pr rfl) wt_340 (n := 400) ((ml_340 hM)) (by omega) (by omega) (v := vk) (h40) (fun r4 => ?_)
    refine wa_aload_n (n := 0) rfl ?_
    refine wb_gf4 237 rfl (wy_pr rfl) wt_237 wf_15_101 (v := 341) wl_237_101 ?_
    refine wa_iload_n (n := 1) rfl ?_
    refine wb_lald 341 rfl (wy_pr rfl) wt_341 (n := 400) ((ml_341 hM)) (by omega) (by omega) (v := vb) (h41) (fun r5 => ?_)
    refine wa_cv 237 rfl (wy_pr rfl) wt_237 (M2 := fun _ => False) rfl at_M_is ⟨_, rfl⟩ rfl rfl ⟨(Or.inr ⟨wy_pr rfl, fun q => q⟩), trivial, trivial⟩ trivial (fun _ _ q => False.elim q) ?_ (fun _ _ _ q => q)
    refine wa_aload_n (n := 0) rfl ?_
    refine wa_iload_n (n := 1) rfl ?_
    refine wb_pfi 237 rfl (wy_pr rfl) wt_237 wf_15_110 (n := 110) rfl ⟨(by omega), (by omega)⟩ ?_
    refine wa_aload_n (n := 0) rfl ?_
    refine wa_lload_n (n := 2) rfl ?_
    refine wb_pfl 237 rfl (wy_pr rfl) wt_237 wf_15_111 (n := 111) rfl ⟨(by omega), (by omega)⟩ ?_
    refine wa_return rfl ?_
    show wJ _ _ _ _ _ _ _ _ _ _
    refine wa_goto ⟨_, rfl⟩ ?_
    refine wa_return rfl ?_
    exact ⟨rfl, ⟨(w_up_at (by first | decide | omega)).trans (w_up_same _ _ _ _), w_up_same _ _ _ _⟩, fun j x hj => (w_up_no (fun z => hj (Or.inr ⟨z.1, Or.inr z.2⟩))).trans (w_up_no (fun z => hj (Or.inr ⟨z.1, Or.inl z.2⟩)))⟩
theorem rwf1_261 {c m gb vk vb : Int} {k : Nat} (hM : w_ML S) (hK : KR 261 T n cs ms S) (hw : wHo cs ms os) (hm : 0 ≤ m ∧ m < (ms.length : Int)) (hvk : -2147483648 ≤ vk ∧ vk ≤ 2147483647) (hvb : -9223372036854775808 ≤ vb ∧ vb ≤ 9223372036854775807) (hst : (hmR ms m).2.2.1 = 1) : wJ (pe_GA xs) wY0 M (d + 3) t_M_writesFieldOf ((pe_at t_M_writesFieldOf.bl 0).getD (0, [])).2 [(0, (2, 237)), (1, (0, m)), (2, (0, vk)), (3, (1, vb))] [] S (fun z Z => z = .inl none ∧ w_up (w_up S 340 m vk) 341 m vb = Z) := by
  have h13 : S 237 13 = 261 := hK.1
  have h400 := hw.1.2
  have eM := KR_m hK (m := m) (by omega) (by omega)
  have eW := hw.2.2.2 m (by omega) (by omega)
  have e1 : S 273 m = (hmR ms m).2.1 := eM.1.2.1
  have e2 : S 274 m = (hmR ms m).2.2.1 := eM.1.2.2.1
  have e3 : S 275 m = (hmR ms m).2.2.2.1 := eM.1.2.2.2.1
  have e4 : S 276 m = ((hmR ms m).2.2.2.2.1.length : Int) := eM.2.1.1
  have e5 : S 277 m = (hmR ms m).2.2.2.2.2.1 := eM.2.1.2.1
  have ef : S 279 m = (hmR ms m).2.2.2.2.2.2.1 := eM.1.2.2.2.2.1
  have et : S 280 m = (hmR ms m).2.2.2.2.2.2.2 := eM.1.2.2.2.2.2
  have eq := eW.1.2.1
  have es := eW.1.2.2.1
  have ey := eW.1.2.2.2
  have ev := eW.2.1
  have el := eW.2.2.1
  have eft := hK.2.2.2.2.2.2.1 m (by omega) (by omega)
  refine wa_aload_n (n := 0) rfl ?_
  refine wb_gf5 237 rfl (wy_pr rfl) wt_237 wf_15_13 (v := 261) (h13) (fun r1 => ?_)
  refine wb_gf4 261 rfl (wy_pr rfl) wt_261 wf_12_14 (v := 274) wl_261_14 ?_
  refine wa_iload_n (n := 1) rfl ?_
  refine wb_zald 274 rfl (wy_pr rfl) wt_274 (n := 400) ((ml_274 hM)) (by omega) (by omega) (v := (hmR ms m).2.2.1) (e2) (fun r2 => ?_)
  refine wa_ifeq (w_rg0 (by omega) (by omega)) ⟨_, rfl⟩ (fun c3 => ?_) (fun c3 => ?_)
  · skip
    exfalso; omega
  · skip
    refine wa_aload_n (n := 0) rfl ?_
    refine wb_gf4 237 rfl (wy_pr rfl) wt_237 wf_15_100 (v := 340) wl_237_100 ?_
    refine wa_iload_n (n := 1) rfl ?_
    refine wa_iload_n (n := 2) rfl ?_
    refine wb_iast 340 rfl (wy_pr rfl) wt_340 (n := 400) ((ml_340 hM)) (by omega) (by omega) ⟨(by omega), (by omega)⟩ ?_
    refine wa_aload_n (n := 0) rfl ?_
    refine wb_gf4 237 rfl (wy_pr rfl) wt_237 wf_15_101 (v := 341) wl_237_101 ?_
    refine wa_iload_n (n := 1) rfl ?_
    refine wa_lload_n (n := 3) rfl ?_
    refine wb_last 341 rfl (wy_pr rfl) wt_341 (n := 400) ((w_up_slot (by decide)).trans ((ml_341 hM))) (by omega) (by omega) ⟨(by omega), (by omega)⟩ ?_
    refine wa_goto ⟨_, rfl⟩ ?_
    refine wa_return rfl ?_
    exact ⟨rfl, rfl⟩
theorem rrf0_261 {c m gb vk vb : Int} {k : Nat} (hM : w_ML S) (hK : KR 261 T n cs ms S) (hw : wHo cs ms os) (hm : 0 ≤ m ∧ m < (ms.length : Int)) (hvk : -2147483648 ≤ vk ∧ vk ≤ 2147483647) (hvb : -9223372036854775808 ≤ vb ∧ vb ≤ 9223372036854775807) (hst : (hmR ms m).2.2.1 = 0) (hc : 0 ≤ c ∧ c < (cs.length : Int)) (hF : (flA cs ms c).length ≤ 400) (hk : k < (flA cs ms c).length) (hkm : (flA cs ms c).getD k 0 = m) (hkn : ∀ i : Nat, i < k → (flA cs ms c).getD i 0 ≠ m) (h75 : S 237 175 = gb) (hgb : 0 ≤ gb ∧ gb < 8000) (h321 : S 321 gb = c) (hsl : slC S gb l) (hkl : k < l.length) (hl6 : l.length ≤ 60000) (h25 : S 325 (l.getD k 0) = vk) (h26 : S 326 (l.getD k 0) = vb) : wJ (pe_GA xs) wY0 M (d + 3) t_M_readsFieldOf ((pe_at t_M_readsFieldOf.bl 0).getD (0, [])).2 [(0, (2, 237)), (1, (0, m))] [] S (fun z Z => z = .inl none ∧ (Z 237 110 = vk ∧ Z 237 111 = vb) ∧ ∀ (j : Nat) (x : Int), ¬ fiM j x → Z j x = S j x) := by
  have h13 : S 237 13 = 261 := hK.1
  have h400 := hw.1.2
  have eM := KR_m hK (m := m) (by omega) (by omega)
  have eW := hw.2.2.2 m (by omega) (by omega)
  have e1 : S 273 m = (hmR ms m).2.1 := eM.1.2.1
  have e2 : S 274 m = (hmR ms m).2.2.1 := eM.1.2.2.1
  have e3 : S 275 m = (hmR ms m).2.2.2.1 := eM.1.2.2.2.1
  have e4 : S 276 m = ((hmR ms m).2.2.2.2.1.length : Int) := eM.2.1.1
  have e5 : S 277 m = (hmR ms m).2.2.2.2.2.1 := eM.2.1.2.1
  have ef : S 279 m = (hmR ms m).2.2.2.2.2.2.1 := eM.1.2.2.2.2.1
  have et : S 280 m = (hmR ms m).2.2.2.2.2.2.2 := eM.1.2.2.2.2.2
  have eq := eW.1.2.1
  have es := eW.1.2.2.1
  have ey := eW.1.2.2.2
  have ev := eW.2.1
  have el := eW.2.2.1
  have eft := hK.2.2.2.2.2.2.1 m (by omega) (by omega)
  refine wa_aload_n (n := 0) rfl ?_
  refine wb_gf5 237 rfl (wy_pr rfl) wt_237 wf_15_13 (v := 261) (h13) (fun r1 => ?_)
  refine wb_gf4 261 rfl (wy_pr rfl) wt_261 wf_12_14 (v := 274) wl_261_14 ?_
  refine wa_iload_n (n := 1) rfl ?_
  refine wb_zald 274 rfl (wy_pr rfl) wt_274 (n := 400) ((ml_274 hM)) (by omega) (by omega) (v := (hmR ms m).2.2.1) (e2) (fun r2 => ?_)
  refine wa_ifeq (w_rg0 (by omega) (by omega)) ⟨_, rfl⟩ (fun c3 => ?_) (fun c3 => ?_)
  · skip
    refine wa_aload_n (n := 0) rfl ?_
    refine wa_iload_n (n := 1) rfl ?_
    refine wa_cv 237 rfl (wy_pr rfl) wt_237 (M2 := fun _ => False) rfl at_M_fieldSlot ⟨_, rfl⟩ rfl rfl ⟨(Or.inr ⟨wy_pr rfl, fun q => q⟩), trivial, trivial⟩ trivial (fun _ _ q => False.elim q) (rfs_261 (c := c) (m := m) (k := k) (gb := gb) (l := l) hM hK hw hc hF hk hkm hkn ⟨by omega, by omega⟩ h75 hgb h321 hsl hkl hl6) (fun oq4 Sq4 hp5 q4 => ?_)
    rcases q4 with ⟨rfl, hfr⟩
    show wJ _ _ _ _ _ _ _ _ _ _
    have hsr := (hsl.2.2 k hkl).1
    refine wa_istore_n (n := 2) rfl ?_
    refine wa_aload_n (n := 0) rfl ?_
    refine wa_aload_n (n := 0) rfl ?_
    refine wb_gf4 237 rfl (wy_pr rfl) wt_237 wf_15_83 (v := 325) wl_237_83 ?_
    refine wa_iload_n (n := 2) rfl ?_
    refine wb_iald 325 rfl (wy_pr rfl) wt_325 (n := 60000) (((ml_325 (ML_w hM hfr (fun j z => by unfold flM at z; omega))))) (by omega) (by omega) (v := vk) (((hfr 325 _ (by unfold flM; omega)).trans h25)) (fun r6 => ?_)
    refine wa_aload_n (n := 0) rfl ?_
    refine wb_gf4 237 rfl (wy_pr rfl) wt_237 wf_15_84 (v := 326) wl_237_84 ?_
    refine wa_iload_n (n := 2) rfl ?_
    refine wb_lald 326 rfl (wy_pr rfl) wt_326 (n := 60000) (((ml_326 (ML_w hM hfr (fun j z => by unfold flM at z; omega))))) (by omega) (by omega) (v := vb) (((hfr 326 _ (by unfold flM; omega)).trans h26)) (fun r7 => ?_)
    refine wa_cv 237 rfl (wy_pr rfl) wt_237 (M2 := fun _ => False) rfl at_M_is ⟨_, rfl⟩ rfl rfl ⟨trivial, (Or.inr ⟨wy_pr rfl, fun q => q⟩), trivial, trivial⟩ trivial (fun _ _ q => False.elim q) ?_ (fun _ _ _ q => q)
    refine wa_aload_n (n := 0) rfl ?_
    refine wa_iload_n (n := 1) rfl ?_
    refine wb_pfi 237 rfl (wy_pr rfl) wt_237 wf_15_110 (n := 110) rfl ⟨(by omega), (by omega)⟩ ?_
    refine wa_aload_n (n := 0) rfl ?_
    refine wa_lload_n (n := 2) rfl ?_
    refine wb_pfl 237 rfl (wy_pr rfl) wt_237 wf_15_111 (n := 111) rfl ⟨(by omega), (by omega)⟩ ?_
    refine wa_return rfl ?_
    show wJ _ _ _ _ _ _ _ _ _ _
    refine wa_fall ⟨_, rfl⟩ ?_
    refine wa_return rfl ?_
    exact ⟨rfl, ⟨(w_up_at (by first | decide | omega)).trans (w_up_same _ _ _ _), w_up_same _ _ _ _⟩, fun j x hj => (w_up_no (fun z => hj (Or.inr ⟨z.1, Or.inr z.2⟩))).trans ((w_up_no (fun z => hj (Or.inr ⟨z.1, Or.inl z.2⟩))).trans (hfr j x (fun z => hj (Or.inl z))))⟩
  · skip
    exfalso; omega
theorem rwf0_261 {c m gb vk vb : Int} {k : Nat} (hM : w_ML S) (hK : KR 261 T n cs ms S) (hw : wHo cs ms os) (hm : 0 ≤ m ∧ m < (ms.length : Int)) (hvk : -2147483648 ≤ vk ∧ vk ≤ 2147483647) (hvb : -9223372036854775808 ≤ vb ∧ vb ≤ 9223372036854775807) (hst : (hmR ms m).2.2.1 = 0) (hc : 0 ≤ c ∧ c < (cs.length : Int)) (hF : (flA cs ms c).length ≤ 400) (hk : k < (flA cs ms c).length) (hkm : (flA cs ms c).getD k 0 = m) (hkn : ∀ i : Nat, i < k → (flA cs ms c).getD i 0 ≠ m) (h75 : S 237 175 = gb) (hgb : 0 ≤ gb ∧ gb < 8000) (h321 : S 321 gb = c) (hsl : slC S gb l) (hkl : k < l.length) (hl6 : l.length ≤ 60000) : wJ (pe_GA xs) wY0 M (d + 3) t_M_writesFieldOf ((pe_at t_M_writesFieldOf.bl 0).getD (0, [])).2 [(0, (2, 237)), (1, (0, m)), (2, (0, vk)), (3, (1, vb))] [] S (fun z Z => z = .inl none ∧ (Z 325 (l.getD k 0) = vk ∧ Z 326 (l.getD k 0) = vb) ∧ ∀ (j : Nat) (x : Int), ¬ (flM j x ∨ ((j = 325 ∨ j = 326) ∧ x = l.getD k 0)) → Z j x = S j x) := by
  have h13 : S 237 13 = 261 := hK.1
  have h400 := hw.1.2
  have eM := KR_m hK (m := m) (by omega) (by omega)
  have eW := hw.2.2.2 m (by omega) (by omega)
  have e1 : S 273 m = (hmR ms m).2.1 := eM.1.2.1
  have e2 : S 274 m = (hmR ms m).2.2.1 := eM.1.2.2.1
  have e3 : S 275 m = (hmR ms m).2.2.2.1 := eM.1.2.2.2.1
  have e4 : S 276 m = ((hmR ms m).2.2.2.2.1.length : Int) := eM.2.1.1
  have e5 : S 277 m = (hmR ms m).2.2.2.2.2.1 := eM.2.1.2.1
  have ef : S 279 m = (hmR ms m).2.2.2.2.2.2.1 := eM.1.2.2.2.2.1
  have et : S 280 m = (hmR ms m).2.2.2.2.2.2.2 := eM.1.2.2.2.2.2
  have eq := eW.1.2.1
  have es := eW.1.2.2.1
  have ey := eW.1.2.2.2
  have ev := eW.2.1
  have el := eW.2.2.1
  have eft := hK.2.2.2.2.2.2.1 m (by omega) (by omega)
  refine wa_aload_n (n := 0) rfl ?_
  refine wb_gf5 237 rfl (wy_pr rfl) wt_237 wf_15_13 (v := 261) (h13) (fun r1 => ?_)
  refine wb_gf4 261 rfl (wy_pr rfl) wt_261 wf_12_14 (v := 274) wl_261_14 ?_
  refine wa_iload_n (n := 1) rfl ?_
  refine wb_zald 274 rfl (wy_pr rfl) wt_274 (n := 400) ((ml_274 hM)) (by omega) (by omega) (v := (hmR ms m).2.2.1) (e2) (fun r2 => ?_)
  refine wa_ifeq (w_rg0 (by omega) (by omega)) ⟨_, rfl⟩ (fun c3 => ?_) (fun c3 => ?_)
  · skip
    refine wa_aload_n (n := 0) rfl ?_
    refine wa_iload_n (n := 1) rfl ?_
    refine wa_cv 237 rfl (wy_pr rfl) wt_237 (M2 := fun _ => False) rfl at_M_fieldSlot ⟨_, rfl⟩ rfl rfl ⟨(Or.inr ⟨wy_pr rfl, fun q => q⟩), trivial, trivial, trivial, trivial⟩ trivial (fun _ _ q => False.elim q) (rfs_261 (c := c) (m := m) (k := k) (gb := gb) (l := l) hM hK hw hc hF hk hkm hkn ⟨by omega, by omega⟩ h75 hgb h321 hsl hkl hl6) (fun oq4 Sq4 hp5 q4 => ?_)
    rcases q4 with ⟨rfl, hfr⟩
    show wJ _ _ _ _ _ _ _ _ _ _
    have hsr := (hsl.2.2 k hkl).1
    refine wa_istore (n := 5) rfl ?_
    refine wa_aload_n (n := 0) rfl ?_
    refine wb_gf4 237 rfl (wy_pr rfl) wt_237 wf_15_83 (v := 325) wl_237_83 ?_
    refine wa_iload (n := 5) rfl ?_
    refine wa_iload_n (n := 2) rfl ?_
    refine wb_iast 325 rfl (wy_pr rfl) wt_325 (n := 60000) (((ml_325 (ML_w hM hfr (fun j z => by unfold flM at z; omega))))) (by omega) (by omega) ⟨(by omega), (by omega)⟩ ?_
    refine wa_aload_n (n := 0) rfl ?_
    refine wb_gf4 237 rfl (wy_pr rfl) wt_237 wf_15_84 (v := 326) wl_237_84 ?_
    refine wa_iload (n := 5) rfl ?_
    refine wa_lload_n (n := 3) rfl ?_
    refine wb_last 326 rfl (wy_pr rfl) wt_326 (n := 60000) ((w_up_slot (by decide)).trans (((ml_326 (ML_w hM hfr (fun j z => by unfold flM at z; omega)))))) (by omega) (by omega) ⟨(by omega), (by omega)⟩ ?_
    refine wa_fall ⟨_, rfl⟩ ?_
    refine wa_return rfl ?_
    exact ⟨rfl, ⟨(w_up_slot (by first | decide | omega)).trans (w_up_same _ _ _ _), w_up_same _ _ _ _⟩, fun j x hj => (w_up_no (fun z => hj (Or.inr ⟨Or.inr z.1, z.2⟩))).trans ((w_up_no (fun z => hj (Or.inr ⟨Or.inl z.1, z.2⟩))).trans (hfr j x (fun z => hj (Or.inl z))))⟩
  · skip
    exfalso; omega
end Whx
