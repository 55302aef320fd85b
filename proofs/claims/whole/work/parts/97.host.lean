/-! PART 97: the reference's host, whole. -/
section W97
variable {xs : List (Nat × List Int32)} {M : Nat → Prop} {d : Nat} {S A B Z : wS} {Q : wO → wS → Prop} {p : Int} {b : Nat}
/-- the same text, and the same rows -/
def zG (A B : wS) (b : Nat) : Prop := A 239 = B 239 ∧ A 237 4 = B 237 4 ∧ A 237 5 = B 237 5 ∧ ∀ j : Nat, b + 2 ≤ j → j ≤ b + 10 → A j = B j
theorem hq_cn_F {cs : List hCR} (hb : b = 241 ∨ b = 261) (h : zG A B b) : zF (hq_cn A b cs) (hq_cn B b cs) b := by
  have e : ∀ (j : Nat) (i : Int), A j i = B j i → hq_cn A b cs j i = hq_cn B b cs j i := fun j i q => by unfold hq_cn; rw [q]
  have r : ∀ j : Nat, A j = B j → hq_cn A b cs j = hq_cn B b cs j := fun j q => funext fun i => e j i (congrFun q i)
  have o : hq_cn A b cs b 1 = hq_cn B b cs b 1 := (if_pos ⟨rfl, rfl⟩).trans (if_pos ⟨rfl, rfl⟩).symm
  exact ⟨⟨r _ h.1, e _ _ h.2.1, e _ _ h.2.2.1, o, r _ (h.2.2.2 _ (by omega) (by omega)), r _ (h.2.2.2 _ (by omega) (by omega))⟩, r _ (h.2.2.2 _ (by omega) (by omega)), r _ (h.2.2.2 _ (by omega) (by omega)), r _ (h.2.2.2 _ (by omega) (by omega))⟩
theorem zG_6 (h : zG A B b) (p : Int) : zq A p 237 6 = zq B p 237 6 := by rw [zq_6, zq_6, h.1, h.2.1, h.2.2.1]
/-- the state at the beginning of host's loop, as far as the loop hangs on it -/
def hb_0 (S : wS) : wS := w_up (w_up S 237 4 (S 237 3)) 237 5 1
/-- the states are the same but for what host changes -/
def hh_ag (b : Nat) (S Z : wS) : Prop := ∀ (j : Nat) (i : Int), (j ≠ 240 ∨ i < 0) → (j ≠ 237 ∨ (i ≠ 0 ∧ i ≠ 3 ∧ i ≠ 4 ∧ i ≠ 5 ∧ i ≠ 6 ∧ i ≠ 7 ∧ i ≠ 8 ∧ i ≠ 9 ∧ i ≠ 10 ∧ i ≠ 12 ∧ i ≠ 13 ∧ i ≠ 14 ∧ i ≠ 15)) → (j ≠ 238 ∨ (i ≠ 5 ∧ i ≠ 6)) → (j < b ∨ b + 19 < j ∨ i < 0) → Z j i = S j i
theorem ho_f_F_241 (h : zG A B 241) : ∀ (f : Nat) (cs : List hCR) (ms : List hMR) (p : Int), ho_f_241 A f cs ms p = ho_f_241 B f cs ms p := by
  intro f
  induction f with
  | zero => intros; rfl
  | succ f ih =>
    intro cs ms p
    rw [ho_f_s_241, ho_f_s_241]
    simp only [zG_6 h, rc_of_F_241 (hq_cn_F (Or.inl rfl) h), ih]
theorem sg_3_241 (hM : w_ML S) (hb : S 237 15 = 241) (hn : S 237 4 ≤ 65536) (hk : ∀ Z, fl_ag 242 (S 237 4) S Z → (∀ i : Int, 0 ≤ i → i < S 237 4 → Z 242 i = S 239 i) → wJ (pe_GA xs) wY0 M (d + 9) t_M_host ((pe_at t_M_host.bl 4).getD (0, [])).2 [(0, (2, 237)), (1, (0, 0))] [] Z Q) : ∀ (f : Nat) (t : Int) (Z : wS), (S 237 4 - t).toNat < f → 0 ≤ t → (t = 0 ∨ t ≤ S 237 4) → fl_ag 242 (S 237 4) S Z → (∀ i : Int, 0 ≤ i → i < t → Z 242 i = S 239 i) → wJ (pe_GA xs) wY0 M (d + 9) t_M_host ((pe_at t_M_host.bl 3).getD (0, [])).2 [(0, (2, 237)), (1, (0, 0)), (2, (0, t))] [] Z Q := by
  intro f
  induction f with
  | zero => intros; omega
  | succ f ih =>
    intro t Z hf h0 h1 hag hv
    have hMz := fl_ag_ML hag hM
    refine wa_iload_n (n := 2) rfl ?_
    refine wa_aload_n (n := 0) rfl ?_
    refine wb_gfi 237 rfl (wy_pr rfl) wt_237 wf_15_4 (v := (S 237 4)) ((hag 237 4 (by omega))) (fun r1 => ?_)
    refine wa_icmpge (w_rg0 (by omega) (by omega)) (w_rg0 (by omega) (by omega)) ⟨_, rfl⟩ (fun c2 => ?_) (fun c2 => ?_)
    · skip
      exact wJ_S (hk _ hag (fun i i0 i1 => hv i i0 (by omega))) ⟨rfl, rfl, trivial⟩
    · skip
      refine wa_aload_n (n := 0) rfl ?_
      refine wb_gf5 237 rfl (wy_pr rfl) wt_237 wf_15_15 (v := 241) (((hag 237 15 (by omega)).trans hb)) (fun r3 => ?_)
      refine wb_gf4 241 rfl (wy_pr rfl) wt_241 wf_12_0 (v := 242) wl_241_0 ?_
      refine wa_iload_n (n := 2) rfl ?_
      refine wa_aload_n (n := 0) rfl ?_
      refine wb_gf4 237 rfl (wy_pr rfl) wt_237 wf_15_2 (v := 239) wl_237_2 ?_
      refine wa_iload_n (n := 2) rfl ?_
      refine wb_bald 239 rfl (wy_pr rfl) wt_239 (n := 65552) ((ml_239 hMz)) (by omega) (by omega) (v := (S 239 t)) ((hag 239 t (by omega))) (fun r4 => ?_)
      refine wb_bast 242 rfl (wy_pr rfl) wt_242 (n := 65536) ((ml_242 hMz)) (by omega) (by omega) ⟨(by omega), (by omega)⟩ ?_
      refine wa_iinc rfl rfl ?_
      refine wa_goto ⟨_, rfl⟩ ?_
      refine wJ_S (ih (t + 1) _ (by omega) (by omega) (by omega) (fl_ag_up hag ⟨by omega, by omega⟩) (fun i i0 i1 => ?_)) ⟨rfl, rfl, rfl, trivial⟩
      by_cases hi : i = t
      · rw [hi, w_up_same]
      · rw [w_up_at hi]; exact hv i i0 (by omega)
theorem host_241 (hX : w_X xs) (hM : w_ML S) (h3 : 0 ≤ S 237 3 ∧ S 237 3 ≤ 65536) (h14 : S 237 14 = 241) (h13 : S 237 13 = 261) : wJ (pe_GA xs) wY0 M (d + 9) t_M_host ((pe_at t_M_host.bl 0).getD (0, [])).2 [(0, (2, 237))] [] S (fun o S2 => (∃ (e q : Int) (Z : wS), ho_f_241 (hb_0 S) 61 [] [] (lx_go (S 239) (S 237 3) 0) = .inl (e, q) ∧ o = .inl (some (0, e + 16 * q)) ∧ hh_ag 241 S Z ∧ Z 237 0 = 0 ∧ Z 237 13 = 261 ∧ Z 237 14 = 241 ∧ S2 = w_up Z 237 3 0) ∨ (∃ (cs : List hCR) (ms : List hMR) (Z X : wS), ho_f_241 (hb_0 S) 61 [] [] (lx_go (S 239) (S 237 3) 0) = .inr (cs, ms) ∧ o = .inl (some (0, 0)) ∧ hh_ag 241 S Z ∧ Z 237 0 = 0 ∧ Z 237 13 = 241 ∧ Z 237 14 = 261 ∧ hc_all 241 Z cs ∧ (∀ r ∈ cs, hq_ok (S 237 3) r) ∧ cs.length ≤ 60 ∧ Z 241 1 = (cs.length : Int) ∧ Z 241 11 = (ms.length : Int) ∧ hr_all 241 Z ms ∧ ms.length ≤ 400 ∧ (∀ i : Int, 0 ≤ i → i < S 237 3 → Z 242 i = S 239 i) ∧ an_fr Z X (ms.length : Int) ∧ an_va X ∧ (∀ i : Int, 0 ≤ i → i < (ms.length : Int) → X 340 i = an_ft (Z 255 i) ∧ X 341 i = 0) ∧ S2 = w_up X 237 3 0)) := by
  refine wa_aload_n (n := 0) rfl ?_
  refine wa_iconst ?_
  refine wb_pfi 237 rfl (wy_pr rfl) wt_237 wf_15_0 (n := 0) rfl ⟨(by omega), (by omega)⟩ ?_
  refine wa_aload_n (n := 0) rfl ?_
  refine wa_aload_n (n := 0) rfl ?_
  refine wb_gf5 237 rfl (wy_pr rfl) wt_237 wf_15_14 (v := 241) ((w_up_at (by decide)).trans (h14)) (fun r1 => ?_)
  refine wb_pfr 237 rfl (wy_pr rfl) wt_237 wf_15_15 (n := 15) rfl (Or.inr ⟨wy_pr rfl, by decide⟩) ?_
  refine wa_aload_n (n := 0) rfl ?_
  refine wb_gf5 237 rfl (wy_pr rfl) wt_237 wf_15_15 (v := 241) (w_up_same _ _ _ _) (fun r2 => ?_)
  refine wa_iconst ?_
  refine wb_pfi 241 rfl (wy_pr rfl) wt_241 wf_12_1 (n := 1) rfl ⟨(by omega), (by omega)⟩ ?_
  refine wa_aload_n (n := 0) rfl ?_
  refine wb_gf5 237 rfl (wy_pr rfl) wt_237 wf_15_15 (v := 241) ((w_up_slot (by decide)).trans (w_up_same _ _ _ _)) (fun r3 => ?_)
  refine wa_iconst ?_
  refine wb_pfi 241 rfl (wy_pr rfl) wt_241 wf_12_11 (n := 11) rfl ⟨(by omega), (by omega)⟩ ?_
  refine wa_iconst ?_
  refine wa_istore_n (n := 1) rfl ?_
  refine wa_aload_n (n := 0) rfl ?_
  refine wa_iconst ?_
  refine wa_cv 237 rfl (wy_pr rfl) wt_237 (M2 := fun _ => False) rfl at_M_begins ⟨_, rfl⟩ rfl rfl ⟨trivial, (Or.inr ⟨wy_pr rfl, fun q => q⟩), trivial⟩ trivial (fun _ _ q => False.elim q) (begins_ok (S := (w_up (w_up (w_up (w_up S 237 0 0) 237 15 241) 241 1 0) 241 11 0)) (h := 1) (w_ML_up (w_ML_up (w_ML_up (w_ML_up hM (by omega)) (by omega)) (by omega)) (by omega)) h3 ⟨by omega, by omega⟩) (fun oq4 Sq4 hp5 q4 => ?_)
  rcases q4 with ⟨rfl, a1, a2⟩
  show wJ _ _ _ _ _ _ _ _ _ _
  refine wa_fall ⟨_, rfl⟩ ?_
  have fA : ∀ (j : Nat) (i : Int), (j ≠ 240 ∨ i < 0) → (j ≠ 237 ∨ (i ≠ 0 ∧ i ≠ 4 ∧ i ≠ 5 ∧ i ≠ 6 ∧ i ≠ 7 ∧ i ≠ 8 ∧ i ≠ 9 ∧ i ≠ 10 ∧ i ≠ 12 ∧ i ≠ 15)) → (j ≠ 241 ∨ (i ≠ 1 ∧ i ≠ 11)) → Sq4 j i = S j i := by
    intro j i q1 q2 q3
    rw [a1 j i q1 (by omega)]
    unfold lx_b0
    rw [w_up_no (by omega), w_up_no (by omega), w_up_no (by omega), w_up_no (by omega), w_up_no (by omega), w_up_no (by omega), w_up_no (by omega)]
  have f0 : Sq4 237 0 = 0 := a1 237 0 (by omega) (by omega)
  have f4 : Sq4 237 4 = S 237 3 := a1 237 4 (by omega) (by omega)
  have f5 : Sq4 237 5 = 1 := a1 237 5 (by omega) (by omega)
  have f15 : Sq4 237 15 = 241 := (a1 237 15 (by omega) (by omega)).trans rfl
  have f1 : Sq4 241 1 = 0 := a1 241 1 (by omega) (by omega)
  have f11 : Sq4 241 11 = 0 := a1 241 11 (by omega) (by omega)
  have fT : Sq4 239 = S 239 := funext fun i => fA 239 i (by omega) (by omega) (by omega)
  have hG : zG Sq4 (hb_0 S) 241 := ⟨fT, f4.trans rfl, f5.trans rfl, fun j j0 j1 => funext fun i => (fA j i (by omega) (by omega) (by omega)).trans (by unfold hb_0; rw [w_up_no (by omega), w_up_no (by omega)])⟩
  have hpz : lx_I Sq4 (lx_go (S 239) (S 237 3) 0) := a2
  refine wJ_S (ho_1_241 (A := Sq4) (R := ho_f_241 (hb_0 S) 61 [] [] (lx_go (S 239) (S 237 3) 0)) hX (by rw [f4]; exact h3.2) ?_ ?_ 61 [] [] (lx_go (S 239) (S 237 3) 0) Sq4 (by decide) (ho_f_F_241 hG 61 [] [] _) ⟨hpz, rfl, rfl, rfl⟩ f15 f1 (fun k r hk => by cases hk) (fun r hr => absurd hr List.not_mem_nil) (by decide) f11 (fun k r hk => by cases hk) (by decide) ho_ag_rf (fun _ _ _ _ _ _ => rfl)) ⟨rfl, rfl, trivial⟩
  · intro Z p cs ms hR hE h15 h1 hc hok hl h11 hms hm4 hag hro
    have hMz : w_ML Z := hE.1.1
    have z4 : Z 237 4 = S 237 3 := hE.2.2.1.trans f4
    refine wa_iconst ?_
    refine wa_istore_n (n := 2) rfl ?_
    refine wa_fall ⟨_, rfl⟩ ?_
    refine wJ_S (sg_3_241 (S := Z) hMz h15 (by rw [z4]; exact h3.2) (fun Z2 g1 v1 => ?_) 65537 0 Z (by rw [z4]; omega) (by omega) (Or.inl rfl) (fun _ _ _ => rfl) (fun i i0 i1 => by omega)) ⟨rfl, rfl, rfl, trivial⟩
    have m2 := fl_ag_ML g1 hMz
    rw [z4] at v1 g1
    have zA : ∀ (j : Nat) (i : Int), (j ≠ 240 ∨ i < 0) → (j ≠ 237 ∨ (i ≠ 6 ∧ i ≠ 7 ∧ i ≠ 8 ∧ i ≠ 9 ∧ i ≠ 10 ∧ i ≠ 12)) → (j ≠ 238 ∨ (i ≠ 5 ∧ i ≠ 6)) → (j < 241 ∨ 241 + 19 < j ∨ i < 0) → Z2 j i = Sq4 j i := fun j i q1 q2 q3 q4 => (g1 j i (by omega)).trans (hag j i q1 q2 q3 (by omega))
    have z13 : Z2 237 13 = 261 := (zA 237 13 (by omega) (by omega) (by omega) (by omega)).trans ((fA 237 13 (by omega) (by omega) (by omega)).trans h13)
    have z15 : Z2 237 15 = 241 := (g1 237 15 (by omega)).trans h15
    have z0 : Z2 237 0 = 0 := (zA 237 0 (by omega) (by omega) (by omega) (by omega)).trans f0
    refine wa_aload_n (n := 0) rfl ?_
    refine wa_aload_n (n := 0) rfl ?_
    refine wb_gf5 237 rfl (wy_pr rfl) wt_237 wf_15_13 (v := 261) (z13) (fun r501 => ?_)
    refine wb_pfr 237 rfl (wy_pr rfl) wt_237 wf_15_14 (n := 14) rfl (Or.inr ⟨wy_pr rfl, by decide⟩) ?_
    refine wa_aload_n (n := 0) rfl ?_
    refine wa_aload_n (n := 0) rfl ?_
    refine wb_gf5 237 rfl (wy_pr rfl) wt_237 wf_15_15 (v := 241) ((w_up_at (by decide)).trans (z15)) (fun r502 => ?_)
    refine wb_pfr 237 rfl (wy_pr rfl) wt_237 wf_15_13 (n := 13) rfl (Or.inr ⟨wy_pr rfl, by decide⟩) ?_
    refine wa_aload_n (n := 0) rfl ?_
    have u11 : (w_up (w_up Z2 237 14 261) 237 13 241) 241 11 = (ms.length : Int) := (g1 241 11 (by omega)).trans h11
    refine wa_cx (M2 := fun _ => False) 237 rfl (wy_pr rfl) wt_237 rfl at_M_anew ⟨_, rfl⟩ rfl rfl ⟨(Or.inr ⟨wy_pr rfl, fun q => q⟩), trivial, trivial⟩ trivial (fun _ _ q => False.elim q) (anew_241 (S := (w_up (w_up Z2 237 14 261) 237 13 241)) (d := d + 7) (w_ML_up (w_ML_up m2 (by omega)) (by omega)) rfl (by rw [u11]; omega)) (fun o X hp q => ?_)
    obtain ⟨rfl, k1, k2, k3⟩ := q
    rw [u11] at k1 k3
    show wJ _ _ _ _ _ _ _ _ _ _
    refine wa_goto ⟨_, rfl⟩ ?_
    refine wa_aload_n (n := 0) rfl ?_
    refine wa_iconst ?_
    refine wb_pfi 237 rfl (wy_pr rfl) wt_237 wf_15_3 (n := 3) rfl ⟨(by omega), (by omega)⟩ ?_
    refine wa_iload_n (n := 1) rfl ?_
    refine wa_ireturn rfl ?_
    have uf : ∀ (j : Nat) (i : Int), (j ≠ 237 ∨ (i ≠ 13 ∧ i ≠ 14)) → (w_up (w_up Z2 237 14 261) 237 13 241) j i = Z2 j i := fun j i q => (w_up_no (by omega)).trans (w_up_no (by omega))
    have hca : hc_all 241 (w_up (w_up Z2 237 14 261) 237 13 241) cs := fun k r hk => by
      obtain ⟨q1, q2, q3, q4, q5, q6⟩ := hc k r hk
      have e : ∀ (j : Nat) (i : Int), 242 < j → j ≤ 260 → (w_up (w_up Z2 237 14 261) 237 13 241) j i = Z j i := fun j i j0 j1 => (uf j i (by omega)).trans (g1 j i (by omega))
      exact ⟨(e _ _ (by omega) (by omega)).trans q1, (e _ _ (by omega) (by omega)).trans q2, (e _ _ (by omega) (by omega)).trans q3, ⟨(e _ _ (by omega) (by omega)).trans q4.1, (e _ _ (by omega) (by omega)).trans q4.2.1, (e _ _ (by omega) (by omega)).trans q4.2.2.1, fun i hi => (e _ _ (by omega) (by omega)).trans (q4.2.2.2 i hi)⟩, (e _ _ (by omega) (by omega)).trans q5, (e _ _ (by omega) (by omega)).trans q6⟩
    have hma : hr_all 241 (w_up (w_up Z2 237 14 261) 237 13 241) ms := fun k r hk => by
      obtain ⟨⟨q1, q2, q3, q4, q5, q6⟩, ⟨q7, q8, q9⟩, q10⟩ := hms k r hk
      have e : ∀ (j : Nat) (i : Int), 242 < j → j ≤ 260 → (w_up (w_up Z2 237 14 261) 237 13 241) j i = Z j i := fun j i j0 j1 => (uf j i (by omega)).trans (g1 j i (by omega))
      exact ⟨⟨(e _ _ (by omega) (by omega)).trans q1, (e _ _ (by omega) (by omega)).trans q2, (e _ _ (by omega) (by omega)).trans q3, (e _ _ (by omega) (by omega)).trans q4, (e _ _ (by omega) (by omega)).trans q5, (e _ _ (by omega) (by omega)).trans q6⟩, ⟨(e _ _ (by omega) (by omega)).trans q7, (e _ _ (by omega) (by omega)).trans q8, fun i hi => (e _ _ (by omega) (by omega)).trans (q9 i hi)⟩, q10⟩
    exact Or.inr ⟨cs, ms, (w_up (w_up Z2 237 14 261) 237 13 241), X, hR, rfl, fun j i q1 q2 q3 q4 => (uf j i (by omega)).trans ((zA j i q1 (by omega) q3 q4).trans (fA j i q1 (by omega) (by omega))), (uf 237 0 (by omega)).trans z0, rfl, rfl, hca, f4 ▸ hok, hl, (uf 241 1 (by omega)).trans ((g1 241 1 (by omega)).trans h1), u11, hma, hm4, fun i i0 i1 => (uf 242 i (by omega)).trans ((v1 i i0 i1).trans (congrFun (hE.2.1.trans fT) i)), k1, k2, k3, rfl⟩
  · intro Z e q hR h15 hag g3 g4
    refine wa_astore_n (n := 2) rfl ?_
    refine wa_aload_n (n := 2) rfl ?_
    refine wb_gfi 238 rfl (wy_pr rfl) wt_238 wf_11_5 (v := e) (g3) (fun r701 => ?_)
    refine wa_bipush (w_rg2 (by omega) (by omega)) ?_
    refine wa_aload_n (n := 2) rfl ?_
    refine wb_gfi 238 rfl (wy_pr rfl) wt_238 wf_11_6 (v := q) (g4) (fun r702 => ?_)
    refine wa_imul ?_
    refine wa_iadd ?_
    refine wa_istore_n (n := 1) rfl ?_
    refine wa_fall ⟨_, rfl⟩ ?_
    refine wa_aload_n (n := 0) rfl ?_
    refine wa_iconst ?_
    refine wb_pfi 237 rfl (wy_pr rfl) wt_237 wf_15_3 (n := 3) rfl ⟨(by omega), (by omega)⟩ ?_
    refine wa_iload_n (n := 1) rfl ?_
    refine wa_ireturn rfl ?_
    exact Or.inl ⟨e, q, Z, hR, rfl, fun j i q1 q2 q3 q4 => (hag j i q1 (by omega) q3 (by omega)).trans (fA j i q1 (by omega) (by omega)), (hag 237 0 (by omega) (by omega) (by omega) (by omega)).trans f0, (hag 237 13 (by omega) (by omega) (by omega) (by omega)).trans ((fA 237 13 (by omega) (by omega) (by omega)).trans h13), (hag 237 14 (by omega) (by omega) (by omega) (by omega)).trans ((fA 237 14 (by omega) (by omega) (by omega)).trans h14), rfl⟩
theorem ho_f_F_261 (h : zG A B 261) : ∀ (f : Nat) (cs : List hCR) (ms : List hMR) (p : Int), ho_f_261 A f cs ms p = ho_f_261 B f cs ms p := by
  intro f
  induction f with
  | zero => intros; rfl
  | succ f ih =>
    intro cs ms p
    rw [ho_f_s_261, ho_f_s_261]
    simp only [zG_6 h, rc_of_F_261 (hq_cn_F (Or.inr rfl) h), ih]
theorem sg_3_261 (hM : w_ML S) (hb : S 237 15 = 261) (hn : S 237 4 ≤ 65536) (hk : ∀ Z, fl_ag 262 (S 237 4) S Z → (∀ i : Int, 0 ≤ i → i < S 237 4 → Z 262 i = S 239 i) → wJ (pe_GA xs) wY0 M (d + 9) t_M_host ((pe_at t_M_host.bl 4).getD (0, [])).2 [(0, (2, 237)), (1, (0, 0))] [] Z Q) : ∀ (f : Nat) (t : Int) (Z : wS), (S 237 4 - t).toNat < f → 0 ≤ t → (t = 0 ∨ t ≤ S 237 4) → fl_ag 262 (S 237 4) S Z → (∀ i : Int, 0 ≤ i → i < t → Z 262 i = S 239 i) → wJ (pe_GA xs) wY0 M (d + 9) t_M_host ((pe_at t_M_host.bl 3).getD (0, [])).2 [(0, (2, 237)), (1, (0, 0)), (2, (0, t))] [] Z Q := by
  intro f
  induction f with
  | zero => intros; omega
  | succ f ih =>
    intro t Z hf h0 h1 hag hv
    have hMz := fl_ag_ML hag hM
    refine wa_iload_n (n := 2) rfl ?_
    refine wa_aload_n (n := 0) rfl ?_
    refine wb_gfi 237 rfl (wy_pr rfl) wt_237 wf_15_4 (v := (S 237 4)) ((hag 237 4 (by omega))) (fun r1 => ?_)
    refine wa_icmpge (w_rg0 (by omega) (by omega)) (w_rg0 (by omega) (by omega)) ⟨_, rfl⟩ (fun c2 => ?_) (fun c2 => ?_)
    · skip
      exact wJ_S (hk _ hag (fun i i0 i1 => hv i i0 (by omega))) ⟨rfl, rfl, trivial⟩
    · skip
      refine wa_aload_n (n := 0) rfl ?_
      refine wb_gf5 237 rfl (wy_pr rfl) wt_237 wf_15_15 (v := 261) (((hag 237 15 (by omega)).trans hb)) (fun r3 => ?_)
      refine wb_gf4 261 rfl (wy_pr rfl) wt_261 wf_12_0 (v := 262) wl_261_0 ?_
      refine wa_iload_n (n := 2) rfl ?_
      refine wa_aload_n (n := 0) rfl ?_
      refine wb_gf4 237 rfl (wy_pr rfl) wt_237 wf_15_2 (v := 239) wl_237_2 ?_
      refine wa_iload_n (n := 2) rfl ?_
      refine wb_bald 239 rfl (wy_pr rfl) wt_239 (n := 65552) ((ml_239 hMz)) (by omega) (by omega) (v := (S 239 t)) ((hag 239 t (by omega))) (fun r4 => ?_)
      refine wb_bast 262 rfl (wy_pr rfl) wt_262 (n := 65536) ((ml_262 hMz)) (by omega) (by omega) ⟨(by omega), (by omega)⟩ ?_
      refine wa_iinc rfl rfl ?_
      refine wa_goto ⟨_, rfl⟩ ?_
      refine wJ_S (ih (t + 1) _ (by omega) (by omega) (by omega) (fl_ag_up hag ⟨by omega, by omega⟩) (fun i i0 i1 => ?_)) ⟨rfl, rfl, rfl, trivial⟩
      by_cases hi : i = t
      · rw [hi, w_up_same]
      · rw [w_up_at hi]; exact hv i i0 (by omega)
theorem host_261 (hX : w_X xs) (hM : w_ML S) (h3 : 0 ≤ S 237 3 ∧ S 237 3 ≤ 65536) (h14 : S 237 14 = 261) (h13 : S 237 13 = 241) : wJ (pe_GA xs) wY0 M (d + 9) t_M_host ((pe_at t_M_host.bl 0).getD (0, [])).2 [(0, (2, 237))] [] S (fun o S2 => (∃ (e q : Int) (Z : wS), ho_f_261 (hb_0 S) 61 [] [] (lx_go (S 239) (S 237 3) 0) = .inl (e, q) ∧ o = .inl (some (0, e + 16 * q)) ∧ hh_ag 261 S Z ∧ Z 237 0 = 0 ∧ Z 237 13 = 241 ∧ Z 237 14 = 261 ∧ S2 = w_up Z 237 3 0) ∨ (∃ (cs : List hCR) (ms : List hMR) (Z X : wS), ho_f_261 (hb_0 S) 61 [] [] (lx_go (S 239) (S 237 3) 0) = .inr (cs, ms) ∧ o = .inl (some (0, 0)) ∧ hh_ag 261 S Z ∧ Z 237 0 = 0 ∧ Z 237 13 = 261 ∧ Z 237 14 = 241 ∧ hc_all 261 Z cs ∧ (∀ r ∈ cs, hq_ok (S 237 3) r) ∧ cs.length ≤ 60 ∧ Z 261 1 = (cs.length : Int) ∧ Z 261 11 = (ms.length : Int) ∧ hr_all 261 Z ms ∧ ms.length ≤ 400 ∧ (∀ i : Int, 0 ≤ i → i < S 237 3 → Z 262 i = S 239 i) ∧ an_fr Z X (ms.length : Int) ∧ an_va X ∧ (∀ i : Int, 0 ≤ i → i < (ms.length : Int) → X 340 i = an_ft (Z 275 i) ∧ X 341 i = 0) ∧ S2 = w_up X 237 3 0)) := by
  refine wa_aload_n (n := 0) rfl ?_
  refine wa_iconst ?_
  refine wb_pfi 237 rfl (wy_pr rfl) wt_237 wf_15_0 (n := 0) rfl ⟨(by omega), (by omega)⟩ ?_
  refine wa_aload_n (n := 0) rfl ?_
  refine wa_aload_n (n := 0) rfl ?_
  refine wb_gf5 237 rfl (wy_pr rfl) wt_237 wf_15_14 (v := 261) ((w_up_at (by decide)).trans (h14)) (fun r1 => ?_)
  refine wb_pfr 237 rfl (wy_pr rfl) wt_237 wf_15_15 (n := 15) rfl (Or.inr ⟨wy_pr rfl, by decide⟩) ?_
  refine wa_aload_n (n := 0) rfl ?_
  refine wb_gf5 237 rfl (wy_pr rfl) wt_237 wf_15_15 (v := 261) (w_up_same _ _ _ _) (fun r2 => ?_)
  refine wa_iconst ?_
  refine wb_pfi 261 rfl (wy_pr rfl) wt_261 wf_12_1 (n := 1) rfl ⟨(by omega), (by omega)⟩ ?_
  refine wa_aload_n (n := 0) rfl ?_
  refine wb_gf5 237 rfl (wy_pr rfl) wt_237 wf_15_15 (v := 261) ((w_up_slot (by decide)).trans (w_up_same _ _ _ _)) (fun r3 => ?_)
  refine wa_iconst ?_
  refine wb_pfi 261 rfl (wy_pr rfl) wt_261 wf_12_11 (n := 11) rfl ⟨(by omega), (by omega)⟩ ?_
  refine wa_iconst ?_
  refine wa_istore_n (n := 1) rfl ?_
  refine wa_aload_n (n := 0) rfl ?_
  refine wa_iconst ?_
  refine wa_cv 237 rfl (wy_pr rfl) wt_237 (M2 := fun _ => False) rfl at_M_begins ⟨_, rfl⟩ rfl rfl ⟨trivial, (Or.inr ⟨wy_pr rfl, fun q => q⟩), trivial⟩ trivial (fun _ _ q => False.elim q) (begins_ok (S := (w_up (w_up (w_up (w_up S 237 0 0) 237 15 261) 261 1 0) 261 11 0)) (h := 1) (w_ML_up (w_ML_up (w_ML_up (w_ML_up hM (by omega)) (by omega)) (by omega)) (by omega)) h3 ⟨by omega, by omega⟩) (fun oq4 Sq4 hp5 q4 => ?_)
  rcases q4 with ⟨rfl, a1, a2⟩
  show wJ _ _ _ _ _ _ _ _ _ _
  refine wa_fall ⟨_, rfl⟩ ?_
  have fA : ∀ (j : Nat) (i : Int), (j ≠ 240 ∨ i < 0) → (j ≠ 237 ∨ (i ≠ 0 ∧ i ≠ 4 ∧ i ≠ 5 ∧ i ≠ 6 ∧ i ≠ 7 ∧ i ≠ 8 ∧ i ≠ 9 ∧ i ≠ 10 ∧ i ≠ 12 ∧ i ≠ 15)) → (j ≠ 261 ∨ (i ≠ 1 ∧ i ≠ 11)) → Sq4 j i = S j i := by
    intro j i q1 q2 q3
    rw [a1 j i q1 (by omega)]
    unfold lx_b0
    rw [w_up_no (by omega), w_up_no (by omega), w_up_no (by omega), w_up_no (by omega), w_up_no (by omega), w_up_no (by omega), w_up_no (by omega)]
  have f0 : Sq4 237 0 = 0 := a1 237 0 (by omega) (by omega)
  have f4 : Sq4 237 4 = S 237 3 := a1 237 4 (by omega) (by omega)
  have f5 : Sq4 237 5 = 1 := a1 237 5 (by omega) (by omega)
  have f15 : Sq4 237 15 = 261 := (a1 237 15 (by omega) (by omega)).trans rfl
  have f1 : Sq4 261 1 = 0 := a1 261 1 (by omega) (by omega)
  have f11 : Sq4 261 11 = 0 := a1 261 11 (by omega) (by omega)
  have fT : Sq4 239 = S 239 := funext fun i => fA 239 i (by omega) (by omega) (by omega)
  have hG : zG Sq4 (hb_0 S) 261 := ⟨fT, f4.trans rfl, f5.trans rfl, fun j j0 j1 => funext fun i => (fA j i (by omega) (by omega) (by omega)).trans (by unfold hb_0; rw [w_up_no (by omega), w_up_no (by omega)])⟩
  have hpz : lx_I Sq4 (lx_go (S 239) (S 237 3) 0) := a2
  refine wJ_S (ho_1_261 (A := Sq4) (R := ho_f_261 (hb_0 S) 61 [] [] (lx_go (S 239) (S 237 3) 0)) hX (by rw [f4]; exact h3.2) ?_ ?_ 61 [] [] (lx_go (S 239) (S 237 3) 0) Sq4 (by decide) (ho_f_F_261 hG 61 [] [] _) ⟨hpz, rfl, rfl, rfl⟩ f15 f1 (fun k r hk => by cases hk) (fun r hr => absurd hr List.not_mem_nil) (by decide) f11 (fun k r hk => by cases hk) (by decide) ho_ag_rf (fun _ _ _ _ _ _ => rfl)) ⟨rfl, rfl, trivial⟩
  · intro Z p cs ms hR hE h15 h1 hc hok hl h11 hms hm4 hag hro
    have hMz : w_ML Z := hE.1.1
    have z4 : Z 237 4 = S 237 3 := hE.2.2.1.trans f4
    refine wa_iconst ?_
    refine wa_istore_n (n := 2) rfl ?_
    refine wa_fall ⟨_, rfl⟩ ?_
    refine wJ_S (sg_3_261 (S := Z) hMz h15 (by rw [z4]; exact h3.2) (fun Z2 g1 v1 => ?_) 65537 0 Z (by rw [z4]; omega) (by omega) (Or.inl rfl) (fun _ _ _ => rfl) (fun i i0 i1 => by omega)) ⟨rfl, rfl, rfl, trivial⟩
    have m2 := fl_ag_ML g1 hMz
    rw [z4] at v1 g1
    have zA : ∀ (j : Nat) (i : Int), (j ≠ 240 ∨ i < 0) → (j ≠ 237 ∨ (i ≠ 6 ∧ i ≠ 7 ∧ i ≠ 8 ∧ i ≠ 9 ∧ i ≠ 10 ∧ i ≠ 12)) → (j ≠ 238 ∨ (i ≠ 5 ∧ i ≠ 6)) → (j < 261 ∨ 261 + 19 < j ∨ i < 0) → Z2 j i = Sq4 j i := fun j i q1 q2 q3 q4 => (g1 j i (by omega)).trans (hag j i q1 q2 q3 (by omega))
    have z13 : Z2 237 13 = 241 := (zA 237 13 (by omega) (by omega) (by omega) (by omega)).trans ((fA 237 13 (by omega) (by omega) (by omega)).trans h13)
    have z15 : Z2 237 15 = 261 := (g1 237 15 (by omega)).trans h15
    have z0 : Z2 237 0 = 0 := (zA 237 0 (by omega) (by omega) (by omega) (by omega)).trans f0
    refine wa_aload_n (n := 0) rfl ?_
    refine wa_aload_n (n := 0) rfl ?_
    refine wb_gf5 237 rfl (wy_pr rfl) wt_237 wf_15_13 (v := 241) (z13) (fun r501 => ?_)
    refine wb_pfr 237 rfl (wy_pr rfl) wt_237 wf_15_14 (n := 14) rfl (Or.inr ⟨wy_pr rfl, by decide⟩) ?_
    refine wa_aload_n (n := 0) rfl ?_
    refine wa_aload_n (n := 0) rfl ?_
    refine wb_gf5 237 rfl (wy_pr rfl) wt_237 wf_15_15 (v := 261) ((w_up_at (by decide)).trans (z15)) (fun r502 => ?_)
    refine wb_pfr 237 rfl (wy_pr rfl) wt_237 wf_15_13 (n := 13) rfl (Or.inr ⟨wy_pr rfl, by decide⟩) ?_
    refine wa_aload_n (n := 0) rfl ?_
    have u11 : (w_up (w_up Z2 237 14 241) 237 13 261) 261 11 = (ms.length : Int) := (g1 261 11 (by omega)).trans h11
    refine wa_cx (M2 := fun _ => False) 237 rfl (wy_pr rfl) wt_237 rfl at_M_anew ⟨_, rfl⟩ rfl rfl ⟨(Or.inr ⟨wy_pr rfl, fun q => q⟩), trivial, trivial⟩ trivial (fun _ _ q => False.elim q) (anew_261 (S := (w_up (w_up Z2 237 14 241) 237 13 261)) (d := d + 7) (w_ML_up (w_ML_up m2 (by omega)) (by omega)) rfl (by rw [u11]; omega)) (fun o X hp q => ?_)
    obtain ⟨rfl, k1, k2, k3⟩ := q
    rw [u11] at k1 k3
    show wJ _ _ _ _ _ _ _ _ _ _
    refine wa_goto ⟨_, rfl⟩ ?_
    refine wa_aload_n (n := 0) rfl ?_
    refine wa_iconst ?_
    refine wb_pfi 237 rfl (wy_pr rfl) wt_237 wf_15_3 (n := 3) rfl ⟨(by omega), (by omega)⟩ ?_
    refine wa_iload_n (n := 1) rfl ?_
    refine wa_ireturn rfl ?_
    have uf : ∀ (j : Nat) (i : Int), (j ≠ 237 ∨ (i ≠ 13 ∧ i ≠ 14)) → (w_up (w_up Z2 237 14 241) 237 13 261) j i = Z2 j i := fun j i q => (w_up_no (by omega)).trans (w_up_no (by omega))
    have hca : hc_all 261 (w_up (w_up Z2 237 14 241) 237 13 261) cs := fun k r hk => by
      obtain ⟨q1, q2, q3, q4, q5, q6⟩ := hc k r hk
      have e : ∀ (j : Nat) (i : Int), 262 < j → j ≤ 280 → (w_up (w_up Z2 237 14 241) 237 13 261) j i = Z j i := fun j i j0 j1 => (uf j i (by omega)).trans (g1 j i (by omega))
      exact ⟨(e _ _ (by omega) (by omega)).trans q1, (e _ _ (by omega) (by omega)).trans q2, (e _ _ (by omega) (by omega)).trans q3, ⟨(e _ _ (by omega) (by omega)).trans q4.1, (e _ _ (by omega) (by omega)).trans q4.2.1, (e _ _ (by omega) (by omega)).trans q4.2.2.1, fun i hi => (e _ _ (by omega) (by omega)).trans (q4.2.2.2 i hi)⟩, (e _ _ (by omega) (by omega)).trans q5, (e _ _ (by omega) (by omega)).trans q6⟩
    have hma : hr_all 261 (w_up (w_up Z2 237 14 241) 237 13 261) ms := fun k r hk => by
      obtain ⟨⟨q1, q2, q3, q4, q5, q6⟩, ⟨q7, q8, q9⟩, q10⟩ := hms k r hk
      have e : ∀ (j : Nat) (i : Int), 262 < j → j ≤ 280 → (w_up (w_up Z2 237 14 241) 237 13 261) j i = Z j i := fun j i j0 j1 => (uf j i (by omega)).trans (g1 j i (by omega))
      exact ⟨⟨(e _ _ (by omega) (by omega)).trans q1, (e _ _ (by omega) (by omega)).trans q2, (e _ _ (by omega) (by omega)).trans q3, (e _ _ (by omega) (by omega)).trans q4, (e _ _ (by omega) (by omega)).trans q5, (e _ _ (by omega) (by omega)).trans q6⟩, ⟨(e _ _ (by omega) (by omega)).trans q7, (e _ _ (by omega) (by omega)).trans q8, fun i hi => (e _ _ (by omega) (by omega)).trans (q9 i hi)⟩, q10⟩
    exact Or.inr ⟨cs, ms, (w_up (w_up Z2 237 14 241) 237 13 261), X, hR, rfl, fun j i q1 q2 q3 q4 => (uf j i (by omega)).trans ((zA j i q1 (by omega) q3 q4).trans (fA j i q1 (by omega) (by omega))), (uf 237 0 (by omega)).trans z0, rfl, rfl, hca, f4 ▸ hok, hl, (uf 261 1 (by omega)).trans ((g1 261 1 (by omega)).trans h1), u11, hma, hm4, fun i i0 i1 => (uf 262 i (by omega)).trans ((v1 i i0 i1).trans (congrFun (hE.2.1.trans fT) i)), k1, k2, k3, rfl⟩
  · intro Z e q hR h15 hag g3 g4
    refine wa_astore_n (n := 2) rfl ?_
    refine wa_aload_n (n := 2) rfl ?_
    refine wb_gfi 238 rfl (wy_pr rfl) wt_238 wf_11_5 (v := e) (g3) (fun r701 => ?_)
    refine wa_bipush (w_rg2 (by omega) (by omega)) ?_
    refine wa_aload_n (n := 2) rfl ?_
    refine wb_gfi 238 rfl (wy_pr rfl) wt_238 wf_11_6 (v := q) (g4) (fun r702 => ?_)
    refine wa_imul ?_
    refine wa_iadd ?_
    refine wa_istore_n (n := 1) rfl ?_
    refine wa_fall ⟨_, rfl⟩ ?_
    refine wa_aload_n (n := 0) rfl ?_
    refine wa_iconst ?_
    refine wb_pfi 237 rfl (wy_pr rfl) wt_237 wf_15_3 (n := 3) rfl ⟨(by omega), (by omega)⟩ ?_
    refine wa_iload_n (n := 1) rfl ?_
    refine wa_ireturn rfl ?_
    exact Or.inl ⟨e, q, Z, hR, rfl, fun j i q1 q2 q3 q4 => (hag j i q1 (by omega) q3 (by omega)).trans (fA j i q1 (by omega) (by omega)), (hag 237 0 (by omega) (by omega) (by omega) (by omega)).trans f0, (hag 237 13 (by omega) (by omega) (by omega) (by omega)).trans ((fA 237 13 (by omega) (by omega) (by omega)).trans h13), (hag 237 14 (by omega) (by omega) (by omega) (by omega)).trans ((fA 237 14 (by omega) (by omega) (by omega)).trans h14), rfl⟩
end W97
