/-! PART ic: what a host's value prints: of the reference. -/
section Wic
variable {xs : List (Nat × List Int32)} {M : Nat → Prop} {d : Nat} {S Z A : wS} {T : Int → Int} {n : Int} {cs : List hCR} {ms : List hMR} {os : Int → List Int} {Q : wO → wS → Prop} {Th : List aO} {sl : Nat → List Int} {c k v on t bb0 b9 : Int} {l o : List Int} {K : aK}
theorem cNa_l (h : (hcR cs k).2.1 ≤ (hcR cs k).2.2.1) : ((cNa T cs k).length : Int) = (hcR cs k).2.2.1 - (hcR cs k).2.1 := by unfold cNa; rw [sl_len]; omega
theorem cNa_s {i : Nat} (h : i < (cNa T cs k).length) : (cNa T cs k).getD i 0 = T ((hcR cs k).2.1 + (i : Int)) := by unfold cNa at h ⊢; rw [sl_len] at h; exact sl_get T _ _ h
/-- some signs have been spelled -/
def scI (c : Int) (l : List Int) (i : Nat) (S0 S : wS) : Prop := (∀ k : Nat, k < i → S 345 (c + (k : Int)) = l.getD k 0) ∧ S 237 113 = c + (i : Int) ∧ (∀ (j : Nat) (x : Int), (j ≠ 345 ∨ x < c ∨ c + (i : Int) ≤ x) → (j ≠ 237 ∨ x ≠ 113) → S j x = S0 j x) ∧ w_ML S
theorem scI_s {i : Nat} {v : Int} (h : scI c l i S Z) (hc : 0 ≤ c) (hv : v = l.getD i 0) : scI c l (i + 1) S (w_up (w_up Z 345 (c + (i : Int)) v) 237 113 (c + (i : Int) + 1)) := by
  obtain ⟨h1, h2, h3, h4⟩ := h
  refine ⟨fun k hk => ?_, (w_up_same _ _ _ _).trans (by omega), fun j x j0 j1 => (w_up_no (by omega)).trans ((w_up_no (by omega)).trans (h3 j x (by omega) j1)), w_ML_up (w_ML_up h4 (by omega)) (by first | decide | omega)⟩
  by_cases ce : k = i
  · rw [ce, ← hv]; exact (w_up_slot (by first | decide | omega)).trans (w_up_same _ _ _ _)
  · exact (w_up_slot (by first | decide | omega)).trans ((w_up_at (by omega)).trans (h1 k (by omega)))
theorem rsl_241 (hM : w_ML S) (hK : KR 241 T n cs ms S) (hw : wHo cs ms os) (hk : 0 ≤ k ∧ k < (cs.length : Int)) (hl30 : (cNa T cs k).length ≤ 60) (hc0 : 0 ≤ c ∧ c ≤ 100) : ∀ (f i : Nat) (A : wS), i + f = (cNa T cs k).length → scI c (cNa T cs k) i S A → wJ (pe_GA xs) wY0 M d t_M_spellClass ((pe_at t_M_spellClass.bl 1).getD (0, [])).2 [(0, (2, 237)), (1, (0, k)), (2, (0, (hcR cs k).2.1 + (i : Int)))] [] A (fun o Z => o = .inl none ∧ spL c (cNa T cs k) S Z) := by
  have hkr := hK.2.2.2.2.2.2.2 k hk.1 hk.2
  have hn6 := hK.2.2.2.2.2.1
  have h60 := hw.1
  have hNl := cNa_l (T := T) (cs := cs) (k := k) (by omega)
  have hNs : ∀ i : Nat, i < (cNa T cs k).length → S 242 ((hcR cs k).2.1 + (i : Int)) = (cNa T cs k).getD i 0 := fun i hi => by rw [cNa_s hi]; exact hK.2.2.2.2.1 _ (by omega) (by omega)
  intro f
  induction f with
  | zero =>
    intro i A hi hI
    obtain ⟨i1, i2, i3, i4⟩ := id hI
    have hKA : KR 241 T n cs ms A := KR_ag hK (fun j x hj => i3 j x (Or.inl (by omega)) (by omega))
    have h13 : A 237 13 = 241 := hKA.1
    have hcc := KR_c hKA hk.1 hk.2
    have e9 : A 250 k = (hcR cs k).2.1 := hcc.2.1
    have e10 : A 251 k = (hcR cs k).2.2.1 := hcc.2.2.1
    refine wa_iload_n (n := 2) rfl ?_
    refine wa_aload_n (n := 0) rfl ?_
    refine wb_gf5 237 rfl (wy_pr rfl) wt_237 wf_15_13 (v := 241) (h13) (fun r1 => ?_)
    refine wb_gf4 241 rfl (wy_pr rfl) wt_241 wf_12_10 (v := 251) wl_241_10 ?_
    refine wa_iload_n (n := 1) rfl ?_
    refine wb_iald 251 rfl (wy_pr rfl) wt_251 (n := 60) ((ml_251 i4)) (by omega) (by omega) (v := (hcR cs k).2.2.1) (e10) (fun r2 => ?_)
    refine wa_icmpge (w_rg0 (by omega) (by omega)) (w_rg0 (by omega) (by omega)) ⟨_, rfl⟩ (fun c3 => ?_) (fun c3 => ?_)
    · skip
      refine wa_return rfl ?_
      have ei : i = (cNa T cs k).length := by omega
      rw [ei] at i1 i2 i3
      exact ⟨rfl, i1, i2, i3, i4⟩
    · skip
      exfalso; omega
  | succ f ih =>
    intro i A hi hI
    obtain ⟨i1, i2, i3, i4⟩ := id hI
    have hKA : KR 241 T n cs ms A := KR_ag hK (fun j x hj => i3 j x (Or.inl (by omega)) (by omega))
    have h13 : A 237 13 = 241 := hKA.1
    have hcc := KR_c hKA hk.1 hk.2
    have e9 : A 250 k = (hcR cs k).2.1 := hcc.2.1
    have e10 : A 251 k = (hcR cs k).2.2.1 := hcc.2.2.1
    have esr : A 242 ((hcR cs k).2.1 + (i : Int)) = (cNa T cs k).getD i 0 := (i3 242 _ (Or.inl (by first | decide | omega)) (Or.inl (by first | decide | omega))).trans (hNs i (by omega))
    refine wa_iload_n (n := 2) rfl ?_
    refine wa_aload_n (n := 0) rfl ?_
    refine wb_gf5 237 rfl (wy_pr rfl) wt_237 wf_15_13 (v := 241) (h13) (fun r51 => ?_)
    refine wb_gf4 241 rfl (wy_pr rfl) wt_241 wf_12_10 (v := 251) wl_241_10 ?_
    refine wa_iload_n (n := 1) rfl ?_
    refine wb_iald 251 rfl (wy_pr rfl) wt_251 (n := 60) ((ml_251 i4)) (by omega) (by omega) (v := (hcR cs k).2.2.1) (e10) (fun r52 => ?_)
    refine wa_icmpge (w_rg0 (by omega) (by omega)) (w_rg0 (by omega) (by omega)) ⟨_, rfl⟩ (fun c53 => ?_) (fun c53 => ?_)
    · skip
      exfalso; omega
    · skip
      refine wa_aload_n (n := 0) rfl ?_
      refine wb_gf4 237 rfl (wy_pr rfl) wt_237 wf_15_112 (v := 345) wl_237_112 ?_
      refine wa_aload_n (n := 0) rfl ?_
      refine wb_gfi 237 rfl (wy_pr rfl) wt_237 wf_15_113 (v := (c + (i : Int))) (i2) (fun r54 => ?_)
      refine wa_aload_n (n := 0) rfl ?_
      refine wb_gf5 237 rfl (wy_pr rfl) wt_237 wf_15_13 (v := 241) (h13) (fun r55 => ?_)
      refine wb_gf4 241 rfl (wy_pr rfl) wt_241 wf_12_0 (v := 242) wl_241_0 ?_
      refine wa_iload_n (n := 2) rfl ?_
      refine wb_bald 242 rfl (wy_pr rfl) wt_242 (n := 65536) ((ml_242 i4)) (by omega) (by omega) (v := ((cNa T cs k).getD i 0)) (esr) (fun r56 => ?_)
      refine wb_bast 345 rfl (wy_pr rfl) wt_345 (n := 256) ((ml_345 i4)) (by omega) (by omega) ⟨(by omega), (by omega)⟩ ?_
      refine wa_aload_n (n := 0) rfl ?_
      refine wa_dup (by decide) ?_
      refine wb_gfi 237 rfl (wy_pr rfl) wt_237 wf_15_113 (v := (c + (i : Int))) ((w_up_slot (by decide)).trans (i2)) (fun r57 => ?_)
      refine wa_iconst ?_
      refine wa_iadd ?_
      refine wb_pfi 237 rfl (wy_pr rfl) wt_237 wf_15_113 (n := 113) rfl ⟨(by omega), (by omega)⟩ ?_
      refine wa_iinc rfl rfl ?_
      refine wa_goto ⟨_, rfl⟩ ?_
      exact wJ_S (ih (i + 1) _ (by omega) (scI_s hI hc0.1 rfl)) ⟨rfl, rfl, by show some (0, (hcR cs k).2.1 + (i : Int) + 1) = some (0, (hcR cs k).2.1 + ((i + 1 : Nat) : Int)); rw [show (hcR cs k).2.1 + ((i + 1 : Nat) : Int) = (hcR cs k).2.1 + (i : Int) + 1 by omega], trivial⟩
theorem rsc_241 (hM : w_ML S) (hK : KR 241 T n cs ms S) (hw : wHo cs ms os) (hk : 0 ≤ k ∧ k < (cs.length : Int)) (hl30 : (cNa T cs k).length ≤ 60) (hc0 : 0 ≤ c ∧ c ≤ 100) (h113 : S 237 113 = c) : wJ (pe_GA xs) wY0 M d t_M_spellClass ((pe_at t_M_spellClass.bl 0).getD (0, [])).2 [(0, (2, 237)), (1, (0, k))] [] S (fun o Z => o = .inl none ∧ spL c (cNa T cs k) S Z) := by
  have h13 : S 237 13 = 241 := hK.1
  have h60 := hw.1
  have hcc := KR_c hK hk.1 hk.2
  have e9 : S 250 k = (hcR cs k).2.1 := hcc.2.1
  refine wa_aload_n (n := 0) rfl ?_
  refine wb_gf5 237 rfl (wy_pr rfl) wt_237 wf_15_13 (v := 241) (h13) (fun r1 => ?_)
  refine wb_gf4 241 rfl (wy_pr rfl) wt_241 wf_12_9 (v := 250) wl_241_9 ?_
  refine wa_iload_n (n := 1) rfl ?_
  refine wb_iald 250 rfl (wy_pr rfl) wt_250 (n := 60) ((ml_250 hM)) (by omega) (by omega) (v := (hcR cs k).2.1) (e9) (fun r2 => ?_)
  refine wa_istore_n (n := 2) rfl ?_
  refine wa_fall ⟨_, rfl⟩ ?_
  exact wJ_S (rsl_241 (c := c) hM hK hw hk hl30 hc0 (cNa T cs k).length 0 S (by omega) ⟨fun q hq => absurd hq (Nat.not_lt_zero _), h113.trans (by omega), fun _ _ _ _ => rfl, hM⟩) ⟨rfl, rfl, by show some (0, (hcR cs k).2.1) = some (0, (hcR cs k).2.1 + ((0 : Nat) : Int)); rw [show (hcR cs k).2.1 + ((0 : Nat) : Int) = (hcR cs k).2.1 by omega], trivial⟩
theorem rpr7_241 (hM : w_ML S) (hK : KR 241 T n cs ms S) (hw : wHo cs ms os) (hX : w_X xs) (hv : 0 ≤ v ∧ v < 8000) (hof : S 321 v = bb0) (hbb : 0 ≤ bb0 ∧ bb0 < (cs.length : Int)) (hl30 : (cNa T cs bb0).length ≤ 60) (h113 : S 237 113 = 0) : wJ (pe_GA xs) wY0 M (d + 6) t_M_print ((pe_at t_M_print.bl 0).getD (0, [])).2 [(0, (2, 237)), (1, (0, 7)), (2, (1, v))] [] S (fun o Z => o = .inl none ∧ spL 0 (hoL T cs 7 v bb0) S Z) := by
  have h60 := hw.1
  refine wa_iload_n (n := 1) rfl ?_
  refine wb_sw (w_rg0 (by omega) (by omega)) (tb := 9) rfl ⟨_, rfl⟩ ?_
  refine wa_aload_n (n := 0) rfl ?_
  refine wa_aload_n (n := 0) rfl ?_
  refine wb_gf4 237 rfl (wy_pr rfl) wt_237 wf_15_77 (v := 321) wl_237_77 ?_
  refine wa_lload_n (n := 2) rfl ?_
  refine wb_l2i_r (y := v) (wb_l2i_id ⟨by omega, by omega⟩) ?_
  refine wb_iald 321 rfl (wy_pr rfl) wt_321 (n := 8000) ((ml_321 hM)) (by omega) (by omega) (v := bb0) (hof) (fun r1 => ?_)
  refine wa_cv 237 rfl (wy_pr rfl) wt_237 (M2 := fun _ => False) rfl at_M_spellClass ⟨_, rfl⟩ rfl rfl ⟨(Or.inr ⟨wy_pr rfl, fun q => q⟩), trivial, trivial, trivial⟩ trivial (fun _ _ q => False.elim q) (rsc_241 (k := bb0) (c := 0) hM hK hw ⟨by omega, by omega⟩ hl30 (by decide) h113) (fun oq2 Sq2 hp3 q2 => ?_)
  rcases q2 with ⟨rfl, hs1⟩
  show wJ _ _ _ _ _ _ _ _ _ _
  have hs1c := hs1.2.1
  rw [Int.zero_add] at hs1c
  refine wa_aload_n (n := 0) rfl ?_
  refine wa_ks ?_
  refine wa_cv 237 rfl (wy_pr rfl) wt_237 (M2 := fun _ => False) rfl at_M_spell ⟨_, rfl⟩ rfl rfl ⟨(Or.inr ⟨wy_pr rfl, fun q => q⟩), trivial, trivial, trivial⟩ trivial (fun _ _ q => False.elim q) (sp_ok (j := 95) (tx := tx_95) (n0 := ((cNa T cs bb0).length : Int)) (wx_95 hX) (by decide) (hb_l (by decide)) ⟨by omega, by show _ + (1 : Int) ≤ 256; omega⟩ hs1.2.2.2 hs1c) (fun oq4 Sq4 hp5 q4 => ?_)
  rcases q4 with ⟨rfl, hsp⟩
  show wJ _ _ _ _ _ _ _ _ _ _
  have hs2 : spL ((cNa T cs bb0).length : Int) [64] Sq2 Sq4 := spA_L hsp
  have hs2c := hs2.2.1
  refine wa_aload_n (n := 0) rfl ?_
  refine wa_lload_n (n := 2) rfl ?_
  refine wa_cv 237 rfl (wy_pr rfl) wt_237 (M2 := fun _ => False) rfl at_M_spellNumber ⟨_, rfl⟩ rfl rfl ⟨(Or.inr ⟨wy_pr rfl, fun q => q⟩), trivial, trivial, trivial⟩ trivial (fun _ _ q => False.elim q) (spn_ok (v := v) (c := ((cNa T cs bb0).length : Int) + 1) hX hs2.2.2.2 ⟨by omega, by omega⟩ hs2c ⟨by omega, by omega⟩) (fun oq6 Sq6 hp7 q6 => ?_)
  rcases q6 with ⟨rfl, hs3⟩
  show wJ _ _ _ _ _ _ _ _ _ _
  refine wa_goto ⟨_, rfl⟩ ?_
  refine wa_return rfl ?_
  exact ⟨rfl, (show hoL T cs 7 v bb0 = cNa T cs bb0 ++ ([64] ++ shN v) from if_pos rfl) ▸ spL_ap hs1 (by rw [Int.zero_add]; exact spL_ap hs2 hs3)⟩
theorem rpr8_241 (hM : w_ML S) (hK : KR 241 T n cs ms S) (hw : wHo cs ms os) (hX : w_X xs) (hv : 0 ≤ v ∧ v < (cs.length : Int)) (hl30 : (cNa T cs v).length ≤ 60) (h113 : S 237 113 = 0) : wJ (pe_GA xs) wY0 M (d + 6) t_M_print ((pe_at t_M_print.bl 0).getD (0, [])).2 [(0, (2, 237)), (1, (0, 8)), (2, (1, v))] [] S (fun o Z => o = .inl none ∧ spL 0 (hoL T cs 8 v 0) S Z) := by
  have h60 := hw.1
  refine wa_iload_n (n := 1) rfl ?_
  refine wb_sw (w_rg0 (by omega) (by omega)) (tb := 10) rfl ⟨_, rfl⟩ ?_
  refine wa_aload_n (n := 0) rfl ?_
  refine wa_lload_n (n := 2) rfl ?_
  refine wb_l2i_r (y := v) (wb_l2i_id ⟨by omega, by omega⟩) ?_
  refine wa_cv 237 rfl (wy_pr rfl) wt_237 (M2 := fun _ => False) rfl at_M_spellClass ⟨_, rfl⟩ rfl rfl ⟨(Or.inr ⟨wy_pr rfl, fun q => q⟩), trivial, trivial, trivial⟩ trivial (fun _ _ q => False.elim q) (rsc_241 (k := v) (c := 0) hM hK hw ⟨by omega, by omega⟩ hl30 (by decide) h113) (fun oq1 Sq1 hp2 q1 => ?_)
  rcases q1 with ⟨rfl, hs1⟩
  show wJ _ _ _ _ _ _ _ _ _ _
  have hs1c := hs1.2.1
  rw [Int.zero_add] at hs1c
  refine wa_fall ⟨_, rfl⟩ ?_
  refine wa_return rfl ?_
  exact ⟨rfl, (show hoL T cs 8 v 0 = cNa T cs v from if_neg (by first | decide | omega)) ▸ hs1⟩
theorem rsl_261 (hM : w_ML S) (hK : KR 261 T n cs ms S) (hw : wHo cs ms os) (hk : 0 ≤ k ∧ k < (cs.length : Int)) (hl30 : (cNa T cs k).length ≤ 60) (hc0 : 0 ≤ c ∧ c ≤ 100) : ∀ (f i : Nat) (A : wS), i + f = (cNa T cs k).length → scI c (cNa T cs k) i S A → wJ (pe_GA xs) wY0 M d t_M_spellClass ((pe_at t_M_spellClass.bl 1).getD (0, [])).2 [(0, (2, 237)), (1, (0, k)), (2, (0, (hcR cs k).2.1 + (i : Int)))] [] A (fun o Z => o = .inl none ∧ spL c (cNa T cs k) S Z) := by
  have hkr := hK.2.2.2.2.2.2.2 k hk.1 hk.2
  have hn6 := hK.2.2.2.2.2.1
  have h60 := hw.1
  have hNl := cNa_l (T := T) (cs := cs) (k := k) (by omega)
  have hNs : ∀ i : Nat, i < (cNa T cs k).length → S 262 ((hcR cs k).2.1 + (i : Int)) = (cNa T cs k).getD i 0 := fun i hi => by rw [cNa_s hi]; exact hK.2.2.2.2.1 _ (by omega) (by omega)
  intro f
  induction f with
  | zero =>
    intro i A hi hI
    obtain ⟨i1, i2, i3, i4⟩ := id hI
    have hKA : KR 261 T n cs ms A := KR_ag hK (fun j x hj => i3 j x (Or.inl (by omega)) (by omega))
    have h13 : A 237 13 = 261 := hKA.1
    have hcc := KR_c hKA hk.1 hk.2
    have e9 : A 270 k = (hcR cs k).2.1 := hcc.2.1
    have e10 : A 271 k = (hcR cs k).2.2.1 := hcc.2.2.1
    refine wa_iload_n (n := 2) rfl ?_
    refine wa_aload_n (n := 0) rfl ?_
    refine wb_gf5 237 rfl (wy_pr rfl) wt_237 wf_15_13 (v := 261) (h13) (fun r1 => ?_)
    refine wb_gf4 261 rfl (wy_pr rfl) wt_261 wf_12_10 (v := 271) wl_261_10 ?_
    refine wa_iload_n (n := 1) rfl ?_
    refine wb_iald 271 rfl (wy_pr rfl) wt_271 (n := 60) ((ml_271 i4)) (by omega) (by omega) (v := (hcR cs k).2.2.1) (e10) (fun r2 => ?_)
    refine wa_icmpge (w_rg0 (by omega) (by omega)) (w_rg0 (by omega) (by omega)) ⟨_, rfl⟩ (fun c3 => ?_) (fun c3 => ?_)
    · skip
      refine wa_return rfl ?_
      have ei : i = (cNa T cs k).length := by omega
      rw [ei] at i1 i2 i3
      exact ⟨rfl, i1, i2, i3, i4⟩
    · skip
      exfalso; omega
  | succ f ih =>
    intro i A hi hI
    obtain ⟨i1, i2, i3, i4⟩ := id hI
    have hKA : KR 261 T n cs ms A := KR_ag hK (fun j x hj => i3 j x (Or.inl (by omega)) (by omega))
    have h13 : A 237 13 = 261 := hKA.1
    have hcc := KR_c hKA hk.1 hk.2
    have e9 : A 270 k = (hcR cs k).2.1 := hcc.2.1
    have e10 : A 271 k = (hcR cs k).2.2.1 := hcc.2.2.1
    have esr : A 262 ((hcR cs k).2.1 + (i : Int)) = (cNa T cs k).getD i 0 := (i3 262 _ (Or.inl (by first | decide | omega)) (Or.inl (by first | decide | omega))).trans (hNs i (by omega))
    refine wa_iload_n (n := 2) rfl ?_
    refine wa_aload_n (n := 0) rfl ?_
    refine wb_gf5 237 rfl (wy_pr rfl) wt_237 wf_15_13 (v := 261) (h13) (fun r51 => ?_)
    refine wb_gf4 261 rfl (wy_pr rfl) wt_261 wf_12_10 (v := 271) wl_261_10 ?_
    refine wa_iload_n (n := 1) rfl ?_
    refine wb_iald 271 rfl (wy_pr rfl) wt_271 (n := 60) ((ml_271 i4)) (by omega) (by omega) (v := (hcR cs k).2.2.1) (e10) (fun r52 => ?_)
    refine wa_icmpge (w_rg0 (by omega) (by omega)) (w_rg0 (by omega) (by omega)) ⟨_, rfl⟩ (fun c53 => ?_) (fun c53 => ?_)
    · skip
      exfalso; omega
    · skip
      refine wa_aload_n (n := 0) rfl ?_
      refine wb_gf4 237 rfl (wy_pr rfl) wt_237 wf_15_112 (v := 345) wl_237_112 ?_
      refine wa_aload_n (n := 0) rfl ?_
      refine wb_gfi 237 rfl (wy_pr rfl) wt_237 wf_15_113 (v := (c + (i : Int))) (i2) (fun r54 => ?_)
      refine wa_aload_n (n := 0) rfl ?_
      refine wb_gf5 237 rfl (wy_pr rfl) wt_237 wf_15_13 (v := 261) (h13) (fun r55 => ?_)
      refine wb_gf4 261 rfl (wy_pr rfl) wt_261 wf_12_0 (v := 262) wl_261_0 ?_
      refine wa_iload_n (n := 2) rfl ?_
      refine wb_bald 262 rfl (wy_pr rfl) wt_262 (n := 65536) ((ml_262 i4)) (by omega) (by omega) (v := ((cNa T cs k).getD i 0)) (esr) (fun r56 => ?_)
      refine wb_bast 345 rfl (wy_pr rfl) wt_345 (n := 256) ((ml_345 i4)) (by omega) (by omega) ⟨(by omega), (by omega)⟩ ?_
      refine wa_aload_n (n := 0) rfl ?_
      refine wa_dup (by decide) ?_
      refine wb_gfi 237 rfl (wy_pr rfl) wt_237 wf_15_113 (v := (c + (i : Int))) ((w_up_slot (by decide)).trans (i2)) (fun r57 => ?_)
      refine wa_iconst ?_
      refine wa_iadd ?_
      refine wb_pfi 237 rfl (wy_pr rfl) wt_237 wf_15_113 (n := 113) rfl ⟨(by omega), (by omega)⟩ ?_
      refine wa_iinc rfl rfl ?_
      refine wa_goto ⟨_, rfl⟩ ?_
      exact wJ_S (ih (i + 1) _ (by omega) (scI_s hI hc0.1 rfl)) ⟨rfl, rfl, by show some (0, (hcR cs k).2.1 + (i : Int) + 1) = some (0, (hcR cs k).2.1 + ((i + 1 : Nat) : Int)); rw [show (hcR cs k).2.1 + ((i + 1 : Nat) : Int) = (hcR cs k).2.1 + (i : Int) + 1 by omega], trivial⟩
theorem rsc_261 (hM : w_ML S) (hK : KR 261 T n cs ms S) (hw : wHo cs ms os) (hk : 0 ≤ k ∧ k < (cs.length : Int)) (hl30 : (cNa T cs k).length ≤ 60) (hc0 : 0 ≤ c ∧ c ≤ 100) (h113 : S 237 113 = c) : wJ (pe_GA xs) wY0 M d t_M_spellClass ((pe_at t_M_spellClass.bl 0).getD (0, [])).2 [(0, (2, 237)), (1, (0, k))] [] S (fun o Z => o = .inl none ∧ spL c (cNa T cs k) S Z) := by
  have h13 : S 237 13 = 261 := hK.1
  have h60 := hw.1
  have hcc := KR_c hK hk.1 hk.2
  have e9 : S 270 k = (hcR cs k).2.1 := hcc.2.1
  refine wa_aload_n (n := 0) rfl ?_
  refine wb_gf5 237 rfl (wy_pr rfl) wt_237 wf_15_13 (v := 261) (h13) (fun r1 => ?_)
  refine wb_gf4 261 rfl (wy_pr rfl) wt_261 wf_12_9 (v := 270) wl_261_9 ?_
  refine wa_iload_n (n := 1) rfl ?_
  refine wb_iald 270 rfl (wy_pr rfl) wt_270 (n := 60) ((ml_270 hM)) (by omega) (by omega) (v := (hcR cs k).2.1) (e9) (fun r2 => ?_)
  refine wa_istore_n (n := 2) rfl ?_
  refine wa_fall ⟨_, rfl⟩ ?_
  exact wJ_S (rsl_261 (c := c) hM hK hw hk hl30 hc0 (cNa T cs k).length 0 S (by omega) ⟨fun q hq => absurd hq (Nat.not_lt_zero _), h113.trans (by omega), fun _ _ _ _ => rfl, hM⟩) ⟨rfl, rfl, by show some (0, (hcR cs k).2.1) = some (0, (hcR cs k).2.1 + ((0 : Nat) : Int)); rw [show (hcR cs k).2.1 + ((0 : Nat) : Int) = (hcR cs k).2.1 by omega], trivial⟩
theorem rpr7_261 (hM : w_ML S) (hK : KR 261 T n cs ms S) (hw : wHo cs ms os) (hX : w_X xs) (hv : 0 ≤ v ∧ v < 8000) (hof : S 321 v = bb0) (hbb : 0 ≤ bb0 ∧ bb0 < (cs.length : Int)) (hl30 : (cNa T cs bb0).length ≤ 60) (h113 : S 237 113 = 0) : wJ (pe_GA xs) wY0 M (d + 6) t_M_print ((pe_at t_M_print.bl 0).getD (0, [])).2 [(0, (2, 237)), (1, (0, 7)), (2, (1, v))] [] S (fun o Z => o = .inl none ∧ spL 0 (hoL T cs 7 v bb0) S Z) := by
  have h60 := hw.1
  refine wa_iload_n (n := 1) rfl ?_
  refine wb_sw (w_rg0 (by omega) (by omega)) (tb := 9) rfl ⟨_, rfl⟩ ?_
  refine wa_aload_n (n := 0) rfl ?_
  refine wa_aload_n (n := 0) rfl ?_
  refine wb_gf4 237 rfl (wy_pr rfl) wt_237 wf_15_77 (v := 321) wl_237_77 ?_
  refine wa_lload_n (n := 2) rfl ?_
  refine wb_l2i_r (y := v) (wb_l2i_id ⟨by omega, by omega⟩) ?_
  refine wb_iald 321 rfl (wy_pr rfl) wt_321 (n := 8000) ((ml_321 hM)) (by omega) (by omega) (v := bb0) (hof) (fun r1 => ?_)
  refine wa_cv 237 rfl (wy_pr rfl) wt_237 (M2 := fun _ => False) rfl at_M_spellClass ⟨_, rfl⟩ rfl rfl ⟨(Or.inr ⟨wy_pr rfl, fun q => q⟩), trivial, trivial, trivial⟩ trivial (fun _ _ q => False.elim q) (rsc_261 (k := bb0) (c := 0) hM hK hw ⟨by omega, by omega⟩ hl30 (by decide) h113) (fun oq2 Sq2 hp3 q2 => ?_)
  rcases q2 with ⟨rfl, hs1⟩
  show wJ _ _ _ _ _ _ _ _ _ _
  have hs1c := hs1.2.1
  rw [Int.zero_add] at hs1c
  refine wa_aload_n (n := 0) rfl ?_
  refine wa_ks ?_
  refine wa_cv 237 rfl (wy_pr rfl) wt_237 (M2 := fun _ => False) rfl at_M_spell ⟨_, rfl⟩ rfl rfl ⟨(Or.inr ⟨wy_pr rfl, fun q => q⟩), trivial, trivial, trivial⟩ trivial (fun _ _ q => False.elim q) (sp_ok (j := 95) (tx := tx_95) (n0 := ((cNa T cs bb0).length : Int)) (wx_95 hX) (by decide) (hb_l (by decide)) ⟨by omega, by show _ + (1 : Int) ≤ 256; omega⟩ hs1.2.2.2 hs1c) (fun oq4 Sq4 hp5 q4 => ?_)
  rcases q4 with ⟨rfl, hsp⟩
  show wJ _ _ _ _ _ _ _ _ _ _
  have hs2 : spL ((cNa T cs bb0).length : Int) [64] Sq2 Sq4 := spA_L hsp
  have hs2c := hs2.2.1
  refine wa_aload_n (n := 0) rfl ?_
  refine wa_lload_n (n := 2) rfl ?_
  refine wa_cv 237 rfl (wy_pr rfl) wt_237 (M2 := fun _ => False) rfl at_M_spellNumber ⟨_, rfl⟩ rfl rfl ⟨(Or.inr ⟨wy_pr rfl, fun q => q⟩), trivial, trivial, trivial⟩ trivial (fun _ _ q => False.elim q) (spn_ok (v := v) (c := ((cNa T cs bb0).length : Int) + 1) hX hs2.2.2.2 ⟨by omega, by omega⟩ hs2c ⟨by omega, by omega⟩) (fun oq6 Sq6 hp7 q6 => ?_)
  rcases q6 with ⟨rfl, hs3⟩
  show wJ _ _ _ _ _ _ _ _ _ _
  refine wa_goto ⟨_, rfl⟩ ?_
  refine wa_return rfl ?_
  exact ⟨rfl, (show hoL T cs 7 v bb0 = cNa T cs bb0 ++ ([64] ++ shN v) from if_pos rfl) ▸ spL_ap hs1 (by rw [Int.zero_add]; exact spL_ap hs2 hs3)⟩
theorem rpr8_261 (hM : w_ML S) (hK : KR 261 T n cs ms S) (hw : wHo cs ms os) (hX : w_X xs) (hv : 0 ≤ v ∧ v < (cs.length : Int)) (hl30 : (cNa T cs v).length ≤ 60) (h113 : S 237 113 = 0) : wJ (pe_GA xs) wY0 M (d + 6) t_M_print ((pe_at t_M_print.bl 0).getD (0, [])).2 [(0, (2, 237)), (1, (0, 8)), (2, (1, v))] [] S (fun o Z => o = .inl none ∧ spL 0 (hoL T cs 8 v 0) S Z) := by
  have h60 := hw.1
  refine wa_iload_n (n := 1) rfl ?_
  refine wb_sw (w_rg0 (by omega) (by omega)) (tb := 10) rfl ⟨_, rfl⟩ ?_
  refine wa_aload_n (n := 0) rfl ?_
  refine wa_lload_n (n := 2) rfl ?_
  refine wb_l2i_r (y := v) (wb_l2i_id ⟨by omega, by omega⟩) ?_
  refine wa_cv 237 rfl (wy_pr rfl) wt_237 (M2 := fun _ => False) rfl at_M_spellClass ⟨_, rfl⟩ rfl rfl ⟨(Or.inr ⟨wy_pr rfl, fun q => q⟩), trivial, trivial, trivial⟩ trivial (fun _ _ q => False.elim q) (rsc_261 (k := v) (c := 0) hM hK hw ⟨by omega, by omega⟩ hl30 (by decide) h113) (fun oq1 Sq1 hp2 q1 => ?_)
  rcases q1 with ⟨rfl, hs1⟩
  show wJ _ _ _ _ _ _ _ _ _ _
  have hs1c := hs1.2.1
  rw [Int.zero_add] at hs1c
  refine wa_fall ⟨_, rfl⟩ ?_
  refine wa_return rfl ?_
  exact ⟨rfl, (show hoL T cs 8 v 0 = cNa T cs v from if_neg (by first | decide | omega)) ▸ hs1⟩
set_option maxHeartbeats 4000000 in
theorem msog (hM : w_ML S) (hk : 4 ≤ k ∧ k ≤ 8) (hlv : l.length ≤ 100) (hpw : wJ (pe_GA xs) wY0 (fun _ => False) (d + 6) t_M_print ((pe_at t_M_print.bl 0).getD (0, [])).2 [(0, (2, 237)), (1, (0, k)), (2, (1, v))] [] (w_up S 237 113 0) (fun o Z => o = .inl none ∧ spL 0 l (w_up S 237 113 0) Z)) (h104 : S 237 104 = on) (hon : 0 ≤ on ∧ on ≤ 65536) : wJ (pe_GA xs) wY0 M (d + 7) t_M_shows ((pe_at t_M_shows.bl 0).getD (0, [])).2 [(0, (2, 237)), (1, (0, k)), (2, (1, v))] [] S (fun o Z => (65536 < on + (l.length : Int) + 1 ∧ ∃ A : wS, spL 0 l (w_up S 237 113 0) A ∧ o = .inr 238 ∧ hZ 99 A = Z) ∨ (on + (l.length : Int) + 1 ≤ 65536 ∧ o = .inl none ∧ ∃ A : wS, spL 0 l (w_up S 237 113 0) A ∧ ouA on l A Z)) := by
  refine wa_iload_n (n := 1) rfl ?_
  refine wa_iconst ?_
  refine wa_icmpne (w_rg0 (by omega) (by omega)) (w_rg0 (by omega) (by omega)) ⟨_, rfl⟩ (fun c1 => ?_) (fun c1 => ?_)
  · skip
    refine wa_iconst ?_
    refine wa_fall ⟨_, rfl⟩ ?_
    refine wa_istore (n := 4) rfl ?_
    refine wa_iload (n := 4) rfl ?_
    refine wa_ifeq (w_rg0 (by omega) (by omega)) ⟨_, rfl⟩ (fun c2 => ?_) (fun c2 => ?_)
    · skip
      refine wa_iconst ?_
      refine wa_fall ⟨_, rfl⟩ ?_
      refine wa_istore (n := 5) rfl ?_
      refine wa_aload_n (n := 0) rfl ?_
      refine wa_iconst ?_
      refine wb_pfi 237 rfl (wy_pr rfl) wt_237 wf_15_113 (n := 113) rfl ⟨(by omega), (by omega)⟩ ?_
      refine wa_iload (n := 4) rfl ?_
      refine wa_ifne (w_rg0 (by omega) (by omega)) ⟨_, rfl⟩ (fun c3 => ?_) (fun c3 => ?_)
      · skip
        exact absurd c3 (by omega)
      · skip
        refine wa_aload_n (n := 0) rfl ?_
        refine wa_iload_n (n := 1) rfl ?_
        refine wa_lload_n (n := 2) rfl ?_
        refine wa_cv 237 rfl (wy_pr rfl) wt_237 (M2 := fun _ => False) rfl at_M_print ⟨_, rfl⟩ rfl rfl ⟨trivial, trivial, (Or.inr ⟨wy_pr rfl, fun q => q⟩), trivial, trivial, trivial⟩ trivial (fun _ _ q => False.elim q) (hpw) (fun oq4 Sq4 hp5 q4 => ?_)
        rcases q4 with ⟨rfl, hsl⟩
        show wJ _ _ _ _ _ _ _ _ _ _
        have hA13 := hsl.2.1
        have hA4 : Sq4 237 104 = on := (hsl.2.2.1 237 104 (Or.inl (by first | decide | omega)) (by first | decide | omega)).trans ((w_up_at (by first | decide | omega)).trans h104)
        have hAM := hsl.2.2.2
        have hA13b : Sq4 237 113 = (l.length : Int) := hA13.trans (Int.zero_add _)
        refine wa_fall ⟨_, rfl⟩ ?_
        refine wa_iload (n := 4) rfl ?_
        refine wa_ifeq (w_rg0 (by omega) (by omega)) ⟨_, rfl⟩ (fun c6 => ?_) (fun c6 => ?_)
        · skip
          refine wa_aload_n (n := 0) rfl ?_
          refine wb_gfi 237 rfl (wy_pr rfl) wt_237 wf_15_113 (v := (l.length : Int)) (hA13b) (fun r7 => ?_)
          refine wa_fall ⟨_, rfl⟩ ?_
          refine wa_istore (n := 6) rfl ?_
          refine wa_aload_n (n := 0) rfl ?_
          refine wa_aload_n (n := 0) rfl ?_
          refine wb_gfi 237 rfl (wy_pr rfl) wt_237 wf_15_104 (v := on) (hA4) (fun r8 => ?_)
          refine wa_iload (n := 6) rfl ?_
          refine wa_iadd ?_
          refine wa_iconst ?_
          refine wa_iadd ?_
          refine wb_ki (n := 65536) rfl ?_
          refine wa_icmpgt (w_rg0 (by omega) (by omega)) (w_rg0 (by omega) (by omega)) ⟨_, rfl⟩ (fun c9 => ?_) (fun c9 => ?_)
          · skip
            refine wa_iconst ?_
            refine wa_fall ⟨_, rfl⟩ ?_
            refine wa_cv 237 rfl (wy_pr rfl) wt_237 (M2 := fun _ => False) rfl at_M_room ⟨_, rfl⟩ rfl rfl ⟨trivial, trivial, trivial, (Or.inr ⟨wy_pr rfl, fun q => q⟩), trivial, trivial, trivial⟩ trivial (fun _ _ q => False.elim q) ?_ (fun _ _ _ q => q)
            refine wa_iload_n (n := 1) rfl ?_
            refine wa_ifne (w_rg0 (by omega) (by omega)) ⟨_, rfl⟩ (fun c10 => ?_) (fun c10 => ?_)
            · skip
              exact absurd c10 (by omega)
            · skip
              refine wa_aload_n (n := 0) rfl ?_
              refine wb_gf4 237 rfl (wy_pr rfl) wt_237 wf_15_1 (v := 238) wl_237_1 ?_
              refine wa_bipush (w_rg2 (by omega) (by omega)) ?_
              refine wa_iconst ?_
              refine wa_cv 238 rfl (wy_pr rfl) wt_238 (M2 := fun _ => False) rfl at_MH_of ⟨_, rfl⟩ rfl rfl ⟨(Or.inr ⟨wy_pr rfl, fun q => q⟩), trivial, trivial⟩ trivial (fun _ _ q => False.elim q) ?_ (fun _ _ _ q => q)
              refine wa_aload_n (n := 0) rfl ?_
              refine wa_iload_n (n := 1) rfl ?_
              refine wb_pfi 238 rfl (wy_pr rfl) wt_238 wf_11_5 (n := 5) rfl ⟨(by omega), (by omega)⟩ ?_
              refine wa_aload_n (n := 0) rfl ?_
              refine wa_iload_n (n := 2) rfl ?_
              refine wb_pfi 238 rfl (wy_pr rfl) wt_238 wf_11_6 (n := 6) rfl ⟨(by omega), (by omega)⟩ ?_
              refine wa_aload_n (n := 0) rfl ?_
              refine wa_oreturn rfl ?_
              show wJ _ _ _ _ _ _ _ _ _ _
              refine wa_th (j := 238) ?_
              refine ⟨rfl, ?_⟩
              exact Or.inl ⟨by omega, Sq4, hsl, rfl, rfl⟩
          · skip
            refine wa_iconst ?_
            refine wa_goto ⟨_, rfl⟩ ?_
            refine wa_cv 237 rfl (wy_pr rfl) wt_237 (M2 := fun _ => False) rfl at_M_room ⟨_, rfl⟩ rfl rfl ⟨trivial, trivial, trivial, (Or.inr ⟨wy_pr rfl, fun q => q⟩), trivial, trivial, trivial⟩ trivial (fun _ _ q => False.elim q) ?_ (fun _ _ _ q => q)
            refine wa_iload_n (n := 1) rfl ?_
            refine wa_ifne (w_rg0 (by omega) (by omega)) ⟨_, rfl⟩ (fun c11 => ?_) (fun c11 => ?_)
            · skip
              refine wa_return rfl ?_
              show wJ _ _ _ _ _ _ _ _ _ _
              refine wa_iconst ?_
              refine wa_istore (n := 7) rfl ?_
              refine wa_fall ⟨_, rfl⟩ ?_
              refine wJ_mono (wJ_S (so0_l (tx := 0) (p0 := 0) (l := l) (fun i hi => by have := hsl.1 i hi; rw [Int.zero_add] at this; exact this) (by omega) hA4 ⟨by omega, by omega⟩ l.length 0 Sq4 (by omega) ⟨fun k hk => absurd hk (Nat.not_lt_zero _), fun _ _ _ => rfl, hAM⟩) ⟨rfl, rfl, rfl, rfl, rfl, rfl, rfl, trivial⟩) (fun o Z hz => Or.inr ⟨by omega, hz.1, Sq4, hsl, hz.2⟩)
            · skip
              exact absurd c11 (by omega)
        · skip
          exact absurd c6 (by omega)
    · skip
      exact absurd c2 (by omega)
  · skip
    exact absurd c1 (by omega)
theorem rnbh_241 (h : stR t S K) (hs : S 357 t = 1) (hi : rIn S K 28 0 b9) (hX : w_X xs) (hou : rOu S o) (hK : KR 241 T n cs ms S) (hw : wHo cs ms os) (hth : rTh S sl Th) (hT : (Th.length : Int) ≤ 8000) (hl30 : ∀ q : Int, 0 ≤ q → q < (cs.length : Int) → (cNa T cs q).length ≤ 30) (hh1 : 1 ≤ K.1.length) (hk : (K.1.getD (K.1.length - 1) (0, 0, [])).1 = 7 ∨ (K.1.getD (K.1.length - 1) (0, 0, [])).1 = 8) (hy7 : (K.1.getD (K.1.length - 1) (0, 0, [])).1 = 7 → ((0 ≤ (K.1.getD (K.1.length - 1) (0, 0, [])).2.1 ∧ (K.1.getD (K.1.length - 1) (0, 0, [])).2.1 < (Th.length : Int)) ∧ (tO Th (K.1.getD (K.1.length - 1) (0, 0, [])).2.1).1 = 7) ∧ 0 ≤ (tO Th (K.1.getD (K.1.length - 1) (0, 0, [])).2.1).2.2.1 ∧ (tO Th (K.1.getD (K.1.length - 1) (0, 0, [])).2.1).2.2.1 < (cs.length : Int)) (hy8 : (K.1.getD (K.1.length - 1) (0, 0, [])).1 = 8 → 0 ≤ (K.1.getD (K.1.length - 1) (0, 0, [])).2.1 ∧ (K.1.getD (K.1.length - 1) (0, 0, [])).2.1 < (cs.length : Int)) (hm : (o.length : Int) + ((pH T cs Th (K.1.getD (K.1.length - 1) (0, 0, []))).length : Int) + 1 ≤ 65536) : rSm xs d t rMp S (kP K 1 (0, 0, [])) (fun Z => rOu Z (o ++ (pH T cs Th (K.1.getD (K.1.length - 1) (0, 0, []))) ++ [10])) := by
  obtain ⟨h1, h2, h3, h4b, ⟨h7, h8, h9, h9b⟩, -⟩ := id h
  have hcy := r_at h1 (i := K.1.length - 1) (by omega) (j := (2100 * t + (K.1.length : Int) - 1)) (by omega)
  have ef : ∀ (j : Nat) (x : Int), j ≠ 237 → (w_up (w_up S 237 154 (200 * t + (K.2.1.length : Int) - 1)) 237 155 ((K.2.1.getD (K.2.1.length - 1) (0, 0, 0, (0, 0, []), 0, 0, 0)).2.1 + 1)) j x = S j x := fun j x j0 => r_16 rfl j0
  have et : ∀ x : Int, x ≠ 154 → x ≠ 155 → (w_up (w_up S 237 154 (200 * t + (K.2.1.length : Int) - 1)) 237 155 ((K.2.1.getD (K.2.1.length - 1) (0, 0, 0, (0, 0, []), 0, 0, 0)).2.1 + 1)) 237 x = S 237 x := fun x x0 x1 => (w_up_at x1).trans (w_up_at x0)
  obtain ⟨o1, o2, o3⟩ := id hou
  have hM0 : w_ML (w_up (w_up S 237 154 (200 * t + (K.2.1.length : Int) - 1)) 237 155 ((K.2.1.getD (K.2.1.length - 1) (0, 0, 0, (0, 0, []), 0, 0, 0)).2.1 + 1)) := T0_ml h2
  have hpr : wJ (pe_GA xs) wY0 (fun _ => False) (d + 9) t_M_shows ((pe_at t_M_shows.bl 0).getD (0, [])).2 [(0, (2, 237)), (1, (0, (K.1.getD (K.1.length - 1) (0, 0, [])).1)), (2, (1, S 364 (2100 * t + (K.1.length : Int) - 1)))] [] (w_up (w_up S 237 154 (200 * t + (K.2.1.length : Int) - 1)) 237 155 ((K.2.1.getD (K.2.1.length - 1) (0, 0, 0, (0, 0, []), 0, 0, 0)).2.1 + 1)) (fun z Z => (65536 < (o.length : Int) + ((pH T cs Th (K.1.getD (K.1.length - 1) (0, 0, []))).length : Int) + 1 ∧ ∃ A : wS, spN (w_up (w_up S 237 154 (200 * t + (K.2.1.length : Int) - 1)) 237 155 ((K.2.1.getD (K.2.1.length - 1) (0, 0, 0, (0, 0, []), 0, 0, 0)).2.1 + 1)) A ∧ z = .inr 238 ∧ hZ 99 A = Z) ∨ ((o.length : Int) + ((pH T cs Th (K.1.getD (K.1.length - 1) (0, 0, []))).length : Int) + 1 ≤ 65536 ∧ z = .inl none ∧ ∃ A : wS, spN (w_up (w_up S 237 154 (200 * t + (K.2.1.length : Int) - 1)) 237 155 ((K.2.1.getD (K.2.1.length - 1) (0, 0, 0, (0, 0, []), 0, 0, 0)).2.1 + 1)) A ∧ ouA (o.length : Int) (pH T cs Th (K.1.getD (K.1.length - 1) (0, 0, []))) A Z)) := by
    have ev : S 364 (2100 * t + (K.1.length : Int) - 1) = (K.1.getD (K.1.length - 1) (0, 0, [])).2.1 := rV_v hcy (by omega)
    rw [ev]
    have hK0 : KR 241 T n cs ms (w_up (w_up (w_up S 237 154 (200 * t + (K.2.1.length : Int) - 1)) 237 155 ((K.2.1.getD (K.2.1.length - 1) (0, 0, 0, (0, 0, []), 0, 0, 0)).2.1 + 1)) 237 113 0) := KR_ag hK (fun j x hj => (w_up_no (by omega)).trans ((w_up_no (by omega)).trans (w_up_no (by omega))))
    have hM1 : w_ML (w_up (w_up (w_up S 237 154 (200 * t + (K.2.1.length : Int) - 1)) 237 155 ((K.2.1.getD (K.2.1.length - 1) (0, 0, 0, (0, 0, []), 0, 0, 0)).2.1 + 1)) 237 113 0) := w_ML_up hM0 (by first | decide | omega)
    have hpw : (pH T cs Th (K.1.getD (K.1.length - 1) (0, 0, []))).length ≤ 100 ∧ wJ (pe_GA xs) wY0 (fun _ => False) (d + 8) t_M_print ((pe_at t_M_print.bl 0).getD (0, [])).2 [(0, (2, 237)), (1, (0, (K.1.getD (K.1.length - 1) (0, 0, [])).1)), (2, (1, (K.1.getD (K.1.length - 1) (0, 0, [])).2.1))] [] (w_up (w_up (w_up S 237 154 (200 * t + (K.2.1.length : Int) - 1)) 237 155 ((K.2.1.getD (K.2.1.length - 1) (0, 0, 0, (0, 0, []), 0, 0, 0)).2.1 + 1)) 237 113 0) (fun o Z => o = .inl none ∧ spL 0 (pH T cs Th (K.1.getD (K.1.length - 1) (0, 0, []))) (w_up (w_up (w_up S 237 154 (200 * t + (K.2.1.length : Int) - 1)) 237 155 ((K.2.1.getD (K.2.1.length - 1) (0, 0, 0, (0, 0, []), 0, 0, 0)).2.1 + 1)) 237 113 0) Z) := by
      rcases hk with c | c
      · have z7 := hy7 c
        have e321 : (w_up (w_up (w_up S 237 154 (200 * t + (K.2.1.length : Int) - 1)) 237 155 ((K.2.1.getD (K.2.1.length - 1) (0, 0, 0, (0, 0, []), 0, 0, 0)).2.1 + 1)) 237 113 0) 321 (K.1.getD (K.1.length - 1) (0, 0, [])).2.1 = (tO Th (K.1.getD (K.1.length - 1) (0, 0, [])).2.1).2.2.1 := (w_up_slot (by first | decide | omega)).trans ((ef 321 _ (by first | decide | omega)).trans ((r_th hth z7.1.1.1 z7.1.1.2).2.2.2.1.trans (if_pos z7.1.2)))
        have el : hoL T cs 7 (K.1.getD (K.1.length - 1) (0, 0, [])).2.1 (tO Th (K.1.getD (K.1.length - 1) (0, 0, [])).2.1).2.2.1 = (pH T cs Th (K.1.getD (K.1.length - 1) (0, 0, []))) := (if_pos rfl).trans (if_pos c).symm
        have y := hl30 _ z7.2.1 z7.2.2
        have hw1 := rpr7_241 (xs := xs) (M := fun _ => False) (d := d + 2) (v := (K.1.getD (K.1.length - 1) (0, 0, [])).2.1) hM1 hK0 hw hX ⟨z7.1.1.1, by omega⟩ e321 z7.2 (by omega) (w_up_same _ _ _ _)
        rw [el] at hw1
        rw [c]
        exact ⟨by have y2 := shN_len (v := (K.1.getD (K.1.length - 1) (0, 0, [])).2.1); rw [← el, show hoL T cs 7 (K.1.getD (K.1.length - 1) (0, 0, [])).2.1 (tO Th (K.1.getD (K.1.length - 1) (0, 0, [])).2.1).2.2.1 = cNa T cs (tO Th (K.1.getD (K.1.length - 1) (0, 0, [])).2.1).2.2.1 ++ ([64] ++ shN (K.1.getD (K.1.length - 1) (0, 0, [])).2.1) from if_pos rfl, List.length_append, List.length_append]; show _ + (1 + _) ≤ 100; omega, hw1⟩
      · have z8 := hy8 c
        have el : hoL T cs 8 (K.1.getD (K.1.length - 1) (0, 0, [])).2.1 0 = (pH T cs Th (K.1.getD (K.1.length - 1) (0, 0, []))) := (if_neg (by first | decide | omega)).trans (if_neg (by omega)).symm
        have y := hl30 _ z8.1 z8.2
        have hw1 := rpr8_241 (xs := xs) (M := fun _ => False) (d := d + 2) (v := (K.1.getD (K.1.length - 1) (0, 0, [])).2.1) hM1 hK0 hw hX z8 (by omega) (w_up_same _ _ _ _)
        rw [el] at hw1
        rw [c]
        exact ⟨by rw [← el, show hoL T cs 8 (K.1.getD (K.1.length - 1) (0, 0, [])).2.1 0 = cNa T cs (K.1.getD (K.1.length - 1) (0, 0, [])).2.1 from if_neg (by first | decide | omega)]; omega, hw1⟩
    refine wJ_mono (msog (d := d + 2) (k := (K.1.getD (K.1.length - 1) (0, 0, [])).1) (v := (K.1.getD (K.1.length - 1) (0, 0, [])).2.1) (l := (pH T cs Th (K.1.getD (K.1.length - 1) (0, 0, [])))) hM0 (by omega) hpw.1 hpw.2 ((et 104 (by first | decide | omega) (by first | decide | omega)).trans o1) ⟨by omega, by omega⟩) (fun z Z hz => ?_)
    rcases hz with ⟨z1, A, a, z2, z3⟩ | ⟨z1, z2, A, a, z3⟩
    · exact Or.inl ⟨z1, A, spN_l a, z2, z3⟩
    · exact Or.inr ⟨z1, z2, A, spN_l a, z3⟩
  have hcal := yb0 (xs := xs) (d := d) (mP_of h) ((ef 363 _ (by first | decide | omega)).trans hcy.1) (ef 364 _ (by first | decide | omega)) (by omega) hpr
  refine rg_t (R := fun Z => ∃ A B : wS, spN (w_up (w_up S 237 154 (200 * t + (K.2.1.length : Int) - 1)) 237 155 ((K.2.1.getD (K.2.1.length - 1) (0, 0, 0, (0, 0, []), 0, 0, 0)).2.1 + 1)) A ∧ ouA (o.length : Int) (pH T cs Th (K.1.getD (K.1.length - 1) (0, 0, []))) A B ∧ w_up (w_up B 363 (2100 * t + (K.1.length : Int) - 1) 0) 364 (2100 * t + (K.1.length : Int) - 1) 0 = Z) h hs hi.1 hi.2.1 hi.2.2 (by first | decide | omega) (wJ_mono hcal (fun z Z hz => ?_)) (fun Z hz => ?_)
  · rcases hz with ⟨z, -⟩ | ⟨-, z⟩
    · omega
    · exact z
  · obtain ⟨A, B, a, hB, hz⟩ := hz
    have eA : ∀ (j : Nat) (x : Int), j ≠ 345 → (j ≠ 237 ∨ (x ≠ 113 ∧ x ≠ 154 ∧ x ≠ 155)) → A j x = S j x := fun j x j0 j1 => (a.1 j x j0 (by omega)).trans ((w_up_no (by omega)).trans (w_up_no (by omega)))
    obtain ⟨m1, m2, m3, fr, m8⟩ := id hB
    have eB : ∀ (j : Nat) (x : Int), j ≠ 345 → ¬ rMp j x → (j ≠ 237 ∨ (x ≠ 113 ∧ x ≠ 154 ∧ x ≠ 155)) → B j x = S j x := fun j x j0 j1 j2 => (fr j x (by unfold rMp at j1; omega) (by unfold rMp at j1; omega)).trans (eA j x j0 j2)
    have xSB : rTx S B := rTx_of (eB 237 19 (by first | decide | omega) (by unfold rMp; omega) (by first | decide | omega)) (eB 237 102 (by first | decide | omega) (by unfold rMp; omega) (by first | decide | omega)) (fun j x j0 j1 => eB j x (by omega) (by unfold rMp; omega) (by omega))
    have hkB : rTk t B K := rTk_fr h1 xSB (fun j x j0 j1 => eB j x (by omega) (by unfold rMp; omega) (by omega))
    have hkZ := rTk_top (k := 0) (v := 0) (u := (0, 0, [])) hkB hh1 (rV_e (by first | decide | omega) rfl)
    rw [hz] at hkZ
    have eZ : ∀ (j : Nat) (x : Int), j ≠ 363 → j ≠ 364 → Z j x = B j x := fun j x j0 j1 => by rw [← hz]; exact (w_up_slot j1).trans (w_up_slot j0)
    have e154 : B 237 154 = (200 * t + (K.2.1.length : Int) - 1) := (fr 237 154 (Or.inl (by first | decide | omega)) (by first | decide | omega)).trans ((a.1 237 154 (by first | decide | omega) (by first | decide | omega)).trans T0_4)
    have e155 : B 237 155 = (K.2.1.getD (K.2.1.length - 1) (0, 0, 0, (0, 0, []), 0, 0, 0)).2.1 + 1 := (fr 237 155 (Or.inl (by first | decide | omega)) (by first | decide | omega)).trans ((a.1 237 155 (by first | decide | omega) (by first | decide | omega)).trans T0_5)
    have hMZ : w_ML Z := by rw [← hz]; exact w_ML_up (w_ML_up m8 (by omega)) (by omega)
    have hfB : rTm t rMp S B := fun j x o2 nn => eB j x o2.2.2.1 nn (by have := o2.1; omega)
    have hfZ : rTm t rMp S Z := by
      rw [← hz]
      exact rTm_up (rTm_up hfB (Or.inl (no_p (Or.inl rfl) (by omega)))) (Or.inl (no_p (Or.inr rfl) (by omega)))
    have ouA1 : rOu A o := rOu_ag hou (eA 237 104 (by first | decide | omega) (by first | decide | omega)) (fun x => eA 342 x (by first | decide | omega) (Or.inl (by first | decide | omega)))
    have ouB := rOu_a ouA1 hB hm
    unfold kP
    exact rp_m (P := fun Z => rOu Z (o ++ (pH T cs Th (K.1.getD (K.1.length - 1) (0, 0, []))) ++ [10])) h hMZ ((eZ 237 154 (by first | decide | omega) (by first | decide | omega)).trans e154) ((eZ 237 155 (by first | decide | omega) (by first | decide | omega)).trans e155) hkZ rfl hfZ (rOu_ag ouB ((w_up_slot (by first | decide | omega)).trans (eZ 237 104 (by first | decide | omega) (by first | decide | omega))) (fun x => (w_up_slot (by first | decide | omega)).trans (eZ 342 x (by first | decide | omega) (by first | decide | omega))))
theorem rnbhm_241 (h : stR t S K) (hs : S 357 t = 1) (hi : rIn S K 28 0 b9) (hX : w_X xs) (hou : rOu S o) (hK : KR 241 T n cs ms S) (hw : wHo cs ms os) (hth : rTh S sl Th) (hT : (Th.length : Int) ≤ 8000) (hl30 : ∀ q : Int, 0 ≤ q → q < (cs.length : Int) → (cNa T cs q).length ≤ 30) (hh1 : 1 ≤ K.1.length) (hk : (K.1.getD (K.1.length - 1) (0, 0, [])).1 = 7 ∨ (K.1.getD (K.1.length - 1) (0, 0, [])).1 = 8) (hy7 : (K.1.getD (K.1.length - 1) (0, 0, [])).1 = 7 → ((0 ≤ (K.1.getD (K.1.length - 1) (0, 0, [])).2.1 ∧ (K.1.getD (K.1.length - 1) (0, 0, [])).2.1 < (Th.length : Int)) ∧ (tO Th (K.1.getD (K.1.length - 1) (0, 0, [])).2.1).1 = 7) ∧ 0 ≤ (tO Th (K.1.getD (K.1.length - 1) (0, 0, [])).2.1).2.2.1 ∧ (tO Th (K.1.getD (K.1.length - 1) (0, 0, [])).2.1).2.2.1 < (cs.length : Int)) (hy8 : (K.1.getD (K.1.length - 1) (0, 0, [])).1 = 8 → 0 ≤ (K.1.getD (K.1.length - 1) (0, 0, [])).2.1 ∧ (K.1.getD (K.1.length - 1) (0, 0, [])).2.1 < (cs.length : Int)) (hm : 65536 < (o.length : Int) + ((pH T cs Th (K.1.getD (K.1.length - 1) (0, 0, []))).length : Int) + 1) : rSn xs d t S K := by
  obtain ⟨h1, h2, h3, h4b, ⟨h7, h8, h9, h9b⟩, -⟩ := id h
  have hcy := r_at h1 (i := K.1.length - 1) (by omega) (j := (2100 * t + (K.1.length : Int) - 1)) (by omega)
  have ef : ∀ (j : Nat) (x : Int), j ≠ 237 → (w_up (w_up S 237 154 (200 * t + (K.2.1.length : Int) - 1)) 237 155 ((K.2.1.getD (K.2.1.length - 1) (0, 0, 0, (0, 0, []), 0, 0, 0)).2.1 + 1)) j x = S j x := fun j x j0 => r_16 rfl j0
  have et : ∀ x : Int, x ≠ 154 → x ≠ 155 → (w_up (w_up S 237 154 (200 * t + (K.2.1.length : Int) - 1)) 237 155 ((K.2.1.getD (K.2.1.length - 1) (0, 0, 0, (0, 0, []), 0, 0, 0)).2.1 + 1)) 237 x = S 237 x := fun x x0 x1 => (w_up_at x1).trans (w_up_at x0)
  obtain ⟨o1, o2, o3⟩ := id hou
  have hM0 : w_ML (w_up (w_up S 237 154 (200 * t + (K.2.1.length : Int) - 1)) 237 155 ((K.2.1.getD (K.2.1.length - 1) (0, 0, 0, (0, 0, []), 0, 0, 0)).2.1 + 1)) := T0_ml h2
  have hpr : wJ (pe_GA xs) wY0 (fun _ => False) (d + 9) t_M_shows ((pe_at t_M_shows.bl 0).getD (0, [])).2 [(0, (2, 237)), (1, (0, (K.1.getD (K.1.length - 1) (0, 0, [])).1)), (2, (1, S 364 (2100 * t + (K.1.length : Int) - 1)))] [] (w_up (w_up S 237 154 (200 * t + (K.2.1.length : Int) - 1)) 237 155 ((K.2.1.getD (K.2.1.length - 1) (0, 0, 0, (0, 0, []), 0, 0, 0)).2.1 + 1)) (fun z Z => (65536 < (o.length : Int) + ((pH T cs Th (K.1.getD (K.1.length - 1) (0, 0, []))).length : Int) + 1 ∧ ∃ A : wS, spN (w_up (w_up S 237 154 (200 * t + (K.2.1.length : Int) - 1)) 237 155 ((K.2.1.getD (K.2.1.length - 1) (0, 0, 0, (0, 0, []), 0, 0, 0)).2.1 + 1)) A ∧ z = .inr 238 ∧ hZ 99 A = Z) ∨ ((o.length : Int) + ((pH T cs Th (K.1.getD (K.1.length - 1) (0, 0, []))).length : Int) + 1 ≤ 65536 ∧ z = .inl none ∧ ∃ A : wS, spN (w_up (w_up S 237 154 (200 * t + (K.2.1.length : Int) - 1)) 237 155 ((K.2.1.getD (K.2.1.length - 1) (0, 0, 0, (0, 0, []), 0, 0, 0)).2.1 + 1)) A ∧ ouA (o.length : Int) (pH T cs Th (K.1.getD (K.1.length - 1) (0, 0, []))) A Z)) := by
    have ev : S 364 (2100 * t + (K.1.length : Int) - 1) = (K.1.getD (K.1.length - 1) (0, 0, [])).2.1 := rV_v hcy (by omega)
    rw [ev]
    have hK0 : KR 241 T n cs ms (w_up (w_up (w_up S 237 154 (200 * t + (K.2.1.length : Int) - 1)) 237 155 ((K.2.1.getD (K.2.1.length - 1) (0, 0, 0, (0, 0, []), 0, 0, 0)).2.1 + 1)) 237 113 0) := KR_ag hK (fun j x hj => (w_up_no (by omega)).trans ((w_up_no (by omega)).trans (w_up_no (by omega))))
    have hM1 : w_ML (w_up (w_up (w_up S 237 154 (200 * t + (K.2.1.length : Int) - 1)) 237 155 ((K.2.1.getD (K.2.1.length - 1) (0, 0, 0, (0, 0, []), 0, 0, 0)).2.1 + 1)) 237 113 0) := w_ML_up hM0 (by first | decide | omega)
    have hpw : (pH T cs Th (K.1.getD (K.1.length - 1) (0, 0, []))).length ≤ 100 ∧ wJ (pe_GA xs) wY0 (fun _ => False) (d + 8) t_M_print ((pe_at t_M_print.bl 0).getD (0, [])).2 [(0, (2, 237)), (1, (0, (K.1.getD (K.1.length - 1) (0, 0, [])).1)), (2, (1, (K.1.getD (K.1.length - 1) (0, 0, [])).2.1))] [] (w_up (w_up (w_up S 237 154 (200 * t + (K.2.1.length : Int) - 1)) 237 155 ((K.2.1.getD (K.2.1.length - 1) (0, 0, 0, (0, 0, []), 0, 0, 0)).2.1 + 1)) 237 113 0) (fun o Z => o = .inl none ∧ spL 0 (pH T cs Th (K.1.getD (K.1.length - 1) (0, 0, []))) (w_up (w_up (w_up S 237 154 (200 * t + (K.2.1.length : Int) - 1)) 237 155 ((K.2.1.getD (K.2.1.length - 1) (0, 0, 0, (0, 0, []), 0, 0, 0)).2.1 + 1)) 237 113 0) Z) := by
      rcases hk with c | c
      · have z7 := hy7 c
        have e321 : (w_up (w_up (w_up S 237 154 (200 * t + (K.2.1.length : Int) - 1)) 237 155 ((K.2.1.getD (K.2.1.length - 1) (0, 0, 0, (0, 0, []), 0, 0, 0)).2.1 + 1)) 237 113 0) 321 (K.1.getD (K.1.length - 1) (0, 0, [])).2.1 = (tO Th (K.1.getD (K.1.length - 1) (0, 0, [])).2.1).2.2.1 := (w_up_slot (by first | decide | omega)).trans ((ef 321 _ (by first | decide | omega)).trans ((r_th hth z7.1.1.1 z7.1.1.2).2.2.2.1.trans (if_pos z7.1.2)))
        have el : hoL T cs 7 (K.1.getD (K.1.length - 1) (0, 0, [])).2.1 (tO Th (K.1.getD (K.1.length - 1) (0, 0, [])).2.1).2.2.1 = (pH T cs Th (K.1.getD (K.1.length - 1) (0, 0, []))) := (if_pos rfl).trans (if_pos c).symm
        have y := hl30 _ z7.2.1 z7.2.2
        have hw1 := rpr7_241 (xs := xs) (M := fun _ => False) (d := d + 2) (v := (K.1.getD (K.1.length - 1) (0, 0, [])).2.1) hM1 hK0 hw hX ⟨z7.1.1.1, by omega⟩ e321 z7.2 (by omega) (w_up_same _ _ _ _)
        rw [el] at hw1
        rw [c]
        exact ⟨by have y2 := shN_len (v := (K.1.getD (K.1.length - 1) (0, 0, [])).2.1); rw [← el, show hoL T cs 7 (K.1.getD (K.1.length - 1) (0, 0, [])).2.1 (tO Th (K.1.getD (K.1.length - 1) (0, 0, [])).2.1).2.2.1 = cNa T cs (tO Th (K.1.getD (K.1.length - 1) (0, 0, [])).2.1).2.2.1 ++ ([64] ++ shN (K.1.getD (K.1.length - 1) (0, 0, [])).2.1) from if_pos rfl, List.length_append, List.length_append]; show _ + (1 + _) ≤ 100; omega, hw1⟩
      · have z8 := hy8 c
        have el : hoL T cs 8 (K.1.getD (K.1.length - 1) (0, 0, [])).2.1 0 = (pH T cs Th (K.1.getD (K.1.length - 1) (0, 0, []))) := (if_neg (by first | decide | omega)).trans (if_neg (by omega)).symm
        have y := hl30 _ z8.1 z8.2
        have hw1 := rpr8_241 (xs := xs) (M := fun _ => False) (d := d + 2) (v := (K.1.getD (K.1.length - 1) (0, 0, [])).2.1) hM1 hK0 hw hX z8 (by omega) (w_up_same _ _ _ _)
        rw [el] at hw1
        rw [c]
        exact ⟨by rw [← el, show hoL T cs 8 (K.1.getD (K.1.length - 1) (0, 0, [])).2.1 0 = cNa T cs (K.1.getD (K.1.length - 1) (0, 0, [])).2.1 from if_neg (by first | decide | omega)]; omega, hw1⟩
    refine wJ_mono (msog (d := d + 2) (k := (K.1.getD (K.1.length - 1) (0, 0, [])).1) (v := (K.1.getD (K.1.length - 1) (0, 0, [])).2.1) (l := (pH T cs Th (K.1.getD (K.1.length - 1) (0, 0, [])))) hM0 (by omega) hpw.1 hpw.2 ((et 104 (by first | decide | omega) (by first | decide | omega)).trans o1) ⟨by omega, by omega⟩) (fun z Z hz => ?_)
    rcases hz with ⟨z1, A, a, z2, z3⟩ | ⟨z1, z2, A, a, z3⟩
    · exact Or.inl ⟨z1, A, spN_l a, z2, z3⟩
    · exact Or.inr ⟨z1, z2, A, spN_l a, z3⟩
  have hcal := yb0 (xs := xs) (d := d) (mP_of h) ((ef 363 _ (by first | decide | omega)).trans hcy.1) (ef 364 _ (by first | decide | omega)) (by omega) hpr
  refine rm_tA (R := fun A => spN (w_up (w_up S 237 154 (200 * t + (K.2.1.length : Int) - 1)) 237 155 ((K.2.1.getD (K.2.1.length - 1) (0, 0, 0, (0, 0, []), 0, 0, 0)).2.1 + 1)) A) h hs hi.1 hi.2.1 hi.2.2 (by first | decide | omega) (wJ_mono hcal (fun z Z hz => ?_)) (fun A a => ?_)
  · rcases hz with ⟨-, A, a, z1, z2⟩ | ⟨z1, -⟩
    · exact ⟨z1, A, a, z2⟩
    · omega
  · skip
    have eA : ∀ (j : Nat) (x : Int), j ≠ 345 → (j ≠ 237 ∨ (x ≠ 113 ∧ x ≠ 154 ∧ x ≠ 155)) → A j x = S j x := fun j x j0 j1 => (a.1 j x j0 (by omega)).trans ((w_up_no (by omega)).trans (w_up_no (by omega)))
    exact ⟨rTk_fr h1 (rTx_of (eA 237 19 (by first | decide | omega) (by first | decide | omega)) (eA 237 102 (by first | decide | omega) (by first | decide | omega)) (fun j x j0 j1 => eA j x (by omega) (by omega))) (fun j x j0 j1 => eA j x (by omega) (by omega)), fun j x o2 => eA j x o2.2.2.1 (by have := o2.1; omega), a.2⟩
theorem rnbh_261 (h : stR t S K) (hs : S 357 t = 1) (hi : rIn S K 28 0 b9) (hX : w_X xs) (hou : rOu S o) (hK : KR 261 T n cs ms S) (hw : wHo cs ms os) (hth : rTh S sl Th) (hT : (Th.length : Int) ≤ 8000) (hl30 : ∀ q : Int, 0 ≤ q → q < (cs.length : Int) → (cNa T cs q).length ≤ 30) (hh1 : 1 ≤ K.1.length) (hk : (K.1.getD (K.1.length - 1) (0, 0, [])).1 = 7 ∨ (K.1.getD (K.1.length - 1) (0, 0, [])).1 = 8) (hy7 : (K.1.getD (K.1.length - 1) (0, 0, [])).1 = 7 → ((0 ≤ (K.1.getD (K.1.length - 1) (0, 0, [])).2.1 ∧ (K.1.getD (K.1.length - 1) (0, 0, [])).2.1 < (Th.length : Int)) ∧ (tO Th (K.1.getD (K.1.length - 1) (0, 0, [])).2.1).1 = 7) ∧ 0 ≤ (tO Th (K.1.getD (K.1.length - 1) (0, 0, [])).2.1).2.2.1 ∧ (tO Th (K.1.getD (K.1.length - 1) (0, 0, [])).2.1).2.2.1 < (cs.length : Int)) (hy8 : (K.1.getD (K.1.length - 1) (0, 0, [])).1 = 8 → 0 ≤ (K.1.getD (K.1.length - 1) (0, 0, [])).2.1 ∧ (K.1.getD (K.1.length - 1) (0, 0, [])).2.1 < (cs.length : Int)) (hm : (o.length : Int) + ((pH T cs Th (K.1.getD (K.1.length - 1) (0, 0, []))).length : Int) + 1 ≤ 65536) : rSm xs d t rMp S (kP K 1 (0, 0, [])) (fun Z => rOu Z (o ++ (pH T cs Th (K.1.getD (K.1.length - 1) (0, 0, []))) ++ [10])) := by
  obtain ⟨h1, h2, h3, h4b, ⟨h7, h8, h9, h9b⟩, -⟩ := id h
  have hcy := r_at h1 (i := K.1.length - 1) (by omega) (j := (2100 * t + (K.1.length : Int) - 1)) (by omega)
  have ef : ∀ (j : Nat) (x : Int), j ≠ 237 → (w_up (w_up S 237 154 (200 * t + (K.2.1.length : Int) - 1)) 237 155 ((K.2.1.getD (K.2.1.length - 1) (0, 0, 0, (0, 0, []), 0, 0, 0)).2.1 + 1)) j x = S j x := fun j x j0 => r_16 rfl j0
  have et : ∀ x : Int, x ≠ 154 → x ≠ 155 → (w_up (w_up S 237 154 (200 * t + (K.2.1.length : Int) - 1)) 237 155 ((K.2.1.getD (K.2.1.length - 1) (0, 0, 0, (0, 0, []), 0, 0, 0)).2.1 + 1)) 237 x = S 237 x := fun x x0 x1 => (w_up_at x1).trans (w_up_at x0)
  obtain ⟨o1, o2, o3⟩ := id hou
  have hM0 : w_ML (w_up (w_up S 237 154 (200 * t + (K.2.1.length : Int) - 1)) 237 155 ((K.2.1.getD (K.2.1.length - 1) (0, 0, 0, (0, 0, []), 0, 0, 0)).2.1 + 1)) := T0_ml h2
  have hpr : wJ (pe_GA xs) wY0 (fun _ => False) (d + 9) t_M_shows ((pe_at t_M_shows.bl 0).getD (0, [])).2 [(0, (2, 237)), (1, (0, (K.1.getD (K.1.length - 1) (0, 0, [])).1)), (2, (1, S 364 (2100 * t + (K.1.length : Int) - 1)))] [] (w_up (w_up S 237 154 (200 * t + (K.2.1.length : Int) - 1)) 237 155 ((K.2.1.getD (K.2.1.length - 1) (0, 0, 0, (0, 0, []), 0, 0, 0)).2.1 + 1)) (fun z Z => (65536 < (o.length : Int) + ((pH T cs Th (K.1.getD (K.1.length - 1) (0, 0, []))).length : Int) + 1 ∧ ∃ A : wS, spN (w_up (w_up S 237 154 (200 * t + (K.2.1.length : Int) - 1)) 237 155 ((K.2.1.getD (K.2.1.length - 1) (0, 0, 0, (0, 0, []), 0, 0, 0)).2.1 + 1)) A ∧ z = .inr 238 ∧ hZ 99 A = Z) ∨ ((o.length : Int) + ((pH T cs Th (K.1.getD (K.1.length - 1) (0, 0, []))).length : Int) + 1 ≤ 65536 ∧ z = .inl none ∧ ∃ A : wS, spN (w_up (w_up S 237 154 (200 * t + (K.2.1.length : Int) - 1)) 237 155 ((K.2.1.getD (K.2.1.length - 1) (0, 0, 0, (0, 0, []), 0, 0, 0)).2.1 + 1)) A ∧ ouA (o.length : Int) (pH T cs Th (K.1.getD (K.1.length - 1) (0, 0, []))) A Z)) := by
    have ev : S 364 (2100 * t + (K.1.length : Int) - 1) = (K.1.getD (K.1.length - 1) (0, 0, [])).2.1 := rV_v hcy (by omega)
    rw [ev]
    have hK0 : KR 261 T n cs ms (w_up (w_up (w_up S 237 154 (200 * t + (K.2.1.length : Int) - 1)) 237 155 ((K.2.1.getD (K.2.1.length - 1) (0, 0, 0, (0, 0, []), 0, 0, 0)).2.1 + 1)) 237 113 0) := KR_ag hK (fun j x hj => (w_up_no (by omega)).trans ((w_up_no (by omega)).trans (w_up_no (by omega))))
    have hM1 : w_ML (w_up (w_up (w_up S 237 154 (200 * t + (K.2.1.length : Int) - 1)) 237 155 ((K.2.1.getD (K.2.1.length - 1) (0, 0, 0, (0, 0, []), 0, 0, 0)).2.1 + 1)) 237 113 0) := w_ML_up hM0 (by first | decide | omega)
    have hpw : (pH T cs Th (K.1.getD (K.1.length - 1) (0, 0, []))).length ≤ 100 ∧ wJ (pe_GA xs) wY0 (fun _ => False) (d + 8) t_M_print ((pe_at t_M_print.bl 0).getD (0, [])).2 [(0, (2, 237)), (1, (0, (K.1.getD (K.1.length - 1) (0, 0, [])).1)), (2, (1, (K.1.getD (K.1.length - 1) (0, 0, [])).2.1))] [] (w_up (w_up (w_up S 237 154 (200 * t + (K.2.1.length : Int) - 1)) 237 155 ((K.2.1.getD (K.2.1.length - 1) (0, 0, 0, (0, 0, []), 0, 0, 0)).2.1 + 1)) 237 113 0) (fun o Z => o = .inl none ∧ spL 0 (pH T cs Th (K.1.getD (K.1.length - 1) (0, 0, []))) (w_up (w_up (w_up S 237 154 (200 * t + (K.2.1.length : Int) - 1)) 237 155 ((K.2.1.getD (K.2.1.length - 1) (0, 0, 0, (0, 0, []), 0, 0, 0)).2.1 + 1)) 237 113 0) Z) := by
      rcases hk with c | c
      · have z7 := hy7 c
        have e321 : (w_up (w_up (w_up S 237 154 (200 * t + (K.2.1.length : Int) - 1)) 237 155 ((K.2.1.getD (K.2.1.length - 1) (0, 0, 0, (0, 0, []), 0, 0, 0)).2.1 + 1)) 237 113 0) 321 (K.1.getD (K.1.length - 1) (0, 0, [])).2.1 = (tO Th (K.1.getD (K.1.length - 1) (0, 0, [])).2.1).2.2.1 := (w_up_slot (by first | decide | omega)).trans ((ef 321 _ (by first | decide | omega)).trans ((r_th hth z7.1.1.1 z7.1.1.2).2.2.2.1.trans (if_pos z7.1.2)))
        have el : hoL T cs 7 (K.1.getD (K.1.length - 1) (0, 0, [])).2.1 (tO Th (K.1.getD (K.1.length - 1) (0, 0, [])).2.1).2.2.1 = (pH T cs Th (K.1.getD (K.1.length - 1) (0, 0, []))) := (if_pos rfl).trans (if_pos c).symm
        have y := hl30 _ z7.2.1 z7.2.2
        have hw1 := rpr7_261 (xs := xs) (M := fun _ => False) (d := d + 2) (v := (K.1.getD (K.1.length - 1) (0, 0, [])).2.1) hM1 hK0 hw hX ⟨z7.1.1.1, by omega⟩ e321 z7.2 (by omega) (w_up_same _ _ _ _)
        rw [el] at hw1
        rw [c]
        exact ⟨by have y2 := shN_len (v := (K.1.getD (K.1.length - 1) (0, 0, [])).2.1); rw [← el, show hoL T cs 7 (K.1.getD (K.1.length - 1) (0, 0, [])).2.1 (tO Th (K.1.getD (K.1.length - 1) (0, 0, [])).2.1).2.2.1 = cNa T cs (tO Th (K.1.getD (K.1.length - 1) (0, 0, [])).2.1).2.2.1 ++ ([64] ++ shN (K.1.getD (K.1.length - 1) (0, 0, [])).2.1) from if_pos rfl, List.length_append, List.length_append]; show _ + (1 + _) ≤ 100; omega, hw1⟩
      · have z8 := hy8 c
        have el : hoL T cs 8 (K.1.getD (K.1.length - 1) (0, 0, [])).2.1 0 = (pH T cs Th (K.1.getD (K.1.length - 1) (0, 0, []))) := (if_neg (by first | decide | omega)).trans (if_neg (by omega)).symm
        have y := hl30 _ z8.1 z8.2
        have hw1 := rpr8_261 (xs := xs) (M := fun _ => False) (d := d + 2) (v := (K.1.getD (K.1.length - 1) (0, 0, [])).2.1) hM1 hK0 hw hX z8 (by omega) (w_up_same _ _ _ _)
        rw [el] at hw1
        rw [c]
        exact ⟨by rw [← el, show hoL T cs 8 (K.1.getD (K.1.length - 1) (0, 0, [])).2.1 0 = cNa T cs (K.1.getD (K.1.length - 1) (0, 0, [])).2.1 from if_neg (by first | decide | omega)]; omega, hw1⟩
    refine wJ_mono (msog (d := d + 2) (k := (K.1.getD (K.1.length - 1) (0, 0, [])).1) (v := (K.1.getD (K.1.length - 1) (0, 0, [])).2.1) (l := (pH T cs Th (K.1.getD (K.1.length - 1) (0, 0, [])))) hM0 (by omega) hpw.1 hpw.2 ((et 104 (by first | decide | omega) (by first | decide | omega)).trans o1) ⟨by omega, by omega⟩) (fun z Z hz => ?_)
    rcases hz with ⟨z1, A, a, z2, z3⟩ | ⟨z1, z2, A, a, z3⟩
    · exact Or.inl ⟨z1, A, spN_l a, z2, z3⟩
    · exact Or.inr ⟨z1, z2, A, spN_l a, z3⟩
  have hcal := yb0 (xs := xs) (d := d) (mP_of h) ((ef 363 _ (by first | decide | omega)).trans hcy.1) (ef 364 _ (by first | decide | omega)) (by omega) hpr
  refine rg_t (R := fun Z => ∃ A B : wS, spN (w_up (w_up S 237 154 (200 * t + (K.2.1.length : Int) - 1)) 237 155 ((K.2.1.getD (K.2.1.length - 1) (0, 0, 0, (0, 0, []), 0, 0, 0)).2.1 + 1)) A ∧ ouA (o.length : Int) (pH T cs Th (K.1.getD (K.1.length - 1) (0, 0, []))) A B ∧ w_up (w_up B 363 (2100 * t + (K.1.length : Int) - 1) 0) 364 (2100 * t + (K.1.length : Int) - 1) 0 = Z) h hs hi.1 hi.2.1 hi.2.2 (by first | decide | omega) (wJ_mono hcal (fun z Z hz => ?_)) (fun Z hz => ?_)
  · rcases hz with ⟨z, -⟩ | ⟨-, z⟩
    · omega
    · exact z
  · obtain ⟨A, B, a, hB, hz⟩ := hz
    have eA : ∀ (j : Nat) (x : Int), j ≠ 345 → (j ≠ 237 ∨ (x ≠ 113 ∧ x ≠ 154 ∧ x ≠ 155)) → A j x = S j x := fun j x j0 j1 => (a.1 j x j0 (by omega)).trans ((w_up_no (by omega)).trans (w_up_no (by omega)))
    obtain ⟨m1, m2, m3, fr, m8⟩ := id hB
    have eB : ∀ (j : Nat) (x : Int), j ≠ 345 → ¬ rMp j x → (j ≠ 237 ∨ (x ≠ 113 ∧ x ≠ 154 ∧ x ≠ 155)) → B j x = S j x := fun j x j0 j1 j2 => (fr j x (by unfold rMp at j1; omega) (by unfold rMp at j1; omega)).trans (eA j x j0 j2)
    have xSB : rTx S B := rTx_of (eB 237 19 (by first | decide | omega) (by unfold rMp; omega) (by first | decide | omega)) (eB 237 102 (by first | decide | omega) (by unfold rMp; omega) (by first | decide | omega)) (fun j x j0 j1 => eB j x (by omega) (by unfold rMp; omega) (by omega))
    have hkB : rTk t B K := rTk_fr h1 xSB (fun j x j0 j1 => eB j x (by omega) (by unfold rMp; omega) (by omega))
    have hkZ := rTk_top (k := 0) (v := 0) (u := (0, 0, [])) hkB hh1 (rV_e (by first | decide | omega) rfl)
    rw [hz] at hkZ
    have eZ : ∀ (j : Nat) (x : Int), j ≠ 363 → j ≠ 364 → Z j x = B j x := fun j x j0 j1 => by rw [← hz]; exact (w_up_slot j1).trans (w_up_slot j0)
    have e154 : B 237 154 = (200 * t + (K.2.1.length : Int) - 1) := (fr 237 154 (Or.inl (by first | decide | omega)) (by first | decide | omega)).trans ((a.1 237 154 (by first | decide | omega) (by first | decide | omega)).trans T0_4)
    have e155 : B 237 155 = (K.2.1.getD (K.2.1.length - 1) (0, 0, 0, (0, 0, []), 0, 0, 0)).2.1 + 1 := (fr 237 155 (Or.inl (by first | decide | omega)) (by first | decide | omega)).trans ((a.1 237 155 (by first | decide | omega) (by first | decide | omega)).trans T0_5)
    have hMZ : w_ML Z := by rw [← hz]; exact w_ML_up (w_ML_up m8 (by omega)) (by omega)
    have hfB : rTm t rMp S B := fun j x o2 nn => eB j x o2.2.2.1 nn (by have := o2.1; omega)
    have hfZ : rTm t rMp S Z := by
      rw [← hz]
      exact rTm_up (rTm_up hfB (Or.inl (no_p (Or.inl rfl) (by omega)))) (Or.inl (no_p (Or.inr rfl) (by omega)))
    have ouA1 : rOu A o := rOu_ag hou (eA 237 104 (by first | decide | omega) (by first | decide | omega)) (fun x => eA 342 x (by first | decide | omega) (Or.inl (by first | decide | omega)))
    have ouB := rOu_a ouA1 hB hm
    unfold kP
    exact rp_m (P := fun Z => rOu Z (o ++ (pH T cs Th (K.1.getD (K.1.length - 1) (0, 0, []))) ++ [10])) h hMZ ((eZ 237 154 (by first | decide | omega) (by first | decide | omega)).trans e154) ((eZ 237 155 (by first | decide | omega) (by first | decide | omega)).trans e155) hkZ rfl hfZ (rOu_ag ouB ((w_up_slot (by first | decide | omega)).trans (eZ 237 104 (by first | decide | omega) (by first | decide | omega))) (fun x => (w_up_slot (by first | decide | omega)).trans (eZ 342 x (by first | decide | omega) (by first | decide | omega))))
theorem rnbhm_261 (h : stR t S K) (hs : S 357 t = 1) (hi : rIn S K 28 0 b9) (hX : w_X xs) (hou : rOu S o) (hK : KR 261 T n cs ms S) (hw : wHo cs ms os) (hth : rTh S sl Th) (hT : (Th.length : Int) ≤ 8000) (hl30 : ∀ q : Int, 0 ≤ q → q < (cs.length : Int) → (cNa T cs q).length ≤ 30) (hh1 : 1 ≤ K.1.length) (hk : (K.1.getD (K.1.length - 1) (0, 0, [])).1 = 7 ∨ (K.1.getD (K.1.length - 1) (0, 0, [])).1 = 8) (hy7 : (K.1.getD (K.1.length - 1) (0, 0, [])).1 = 7 → ((0 ≤ (K.1.getD (K.1.length - 1) (0, 0, [])).2.1 ∧ (K.1.getD (K.1.length - 1) (0, 0, [])).2.1 < (Th.length : Int)) ∧ (tO Th (K.1.getD (K.1.length - 1) (0, 0, [])).2.1).1 = 7) ∧ 0 ≤ (tO Th (K.1.getD (K.1.length - 1) (0, 0, [])).2.1).2.2.1 ∧ (tO Th (K.1.getD (K.1.length - 1) (0, 0, [])).2.1).2.2.1 < (cs.length : Int)) (hy8 : (K.1.getD (K.1.length - 1) (0, 0, [])).1 = 8 → 0 ≤ (K.1.getD (K.1.length - 1) (0, 0, [])).2.1 ∧ (K.1.getD (K.1.length - 1) (0, 0, [])).2.1 < (cs.length : Int)) (hm : 65536 < (o.length : Int) + ((pH T cs Th (K.1.getD (K.1.length - 1) (0, 0, []))).length : Int) + 1) : rSn xs d t S K := by
  obtain ⟨h1, h2, h3, h4b, ⟨h7, h8, h9, h9b⟩, -⟩ := id h
  have hcy := r_at h1 (i := K.1.length - 1) (by omega) (j := (2100 * t + (K.1.length : Int) - 1)) (by omega)
  have ef : ∀ (j : Nat) (x : Int), j ≠ 237 → (w_up (w_up S 237 154 (200 * t + (K.2.1.length : Int) - 1)) 237 155 ((K.2.1.getD (K.2.1.length - 1) (0, 0, 0, (0, 0, []), 0, 0, 0)).2.1 + 1)) j x = S j x := fun j x j0 => r_16 rfl j0
  have et : ∀ x : Int, x ≠ 154 → x ≠ 155 → (w_up (w_up S 237 154 (200 * t + (K.2.1.length : Int) - 1)) 237 155 ((K.2.1.getD (K.2.1.length - 1) (0, 0, 0, (0, 0, []), 0, 0, 0)).2.1 + 1)) 237 x = S 237 x := fun x x0 x1 => (w_up_at x1).trans (w_up_at x0)
  obtain ⟨o1, o2, o3⟩ := id hou
  have hM0 : w_ML (w_up (w_up S 237 154 (200 * t + (K.2.1.length : Int) - 1)) 237 155 ((K.2.1.getD (K.2.1.length - 1) (0, 0, 0, (0, 0, []), 0, 0, 0)).2.1 + 1)) := T0_ml h2
  have hpr : wJ (pe_GA xs) wY0 (fun _ => False) (d + 9) t_M_shows ((pe_at t_M_shows.bl 0).getD (0, [])).2 [(0, (2, 237)), (1, (0, (K.1.getD (K.1.length - 1) (0, 0, [])).1)), (2, (1, S 364 (2100 * t + (K.1.length : Int) - 1)))] [] (w_up (w_up S 237 154 (200 * t + (K.2.1.length : Int) - 1)) 237 155 ((K.2.1.getD (K.2.1.length - 1) (0, 0, 0, (0, 0, []), 0, 0, 0)).2.1 + 1)) (fun z Z => (65536 < (o.length : Int) + ((pH T cs Th (K.1.getD (K.1.length - 1) (0, 0, []))).length : Int) + 1 ∧ ∃ A : wS, spN (w_up (w_up S 237 154 (200 * t + (K.2.1.length : Int) - 1)) 237 155 ((K.2.1.getD (K.2.1.length - 1) (0, 0, 0, (0, 0, []), 0, 0, 0)).2.1 + 1)) A ∧ z = .inr 238 ∧ hZ 99 A = Z) ∨ ((o.length : Int) + ((pH T cs Th (K.1.getD (K.1.length - 1) (0, 0, []))).length : Int) + 1 ≤ 65536 ∧ z = .inl none ∧ ∃ A : wS, spN (w_up (w_up S 237 154 (200 * t + (K.2.1.length : Int) - 1)) 237 155 ((K.2.1.getD (K.2.1.length - 1) (0, 0, 0, (0, 0, []), 0, 0, 0)).2.1 + 1)) A ∧ ouA (o.length : Int) (pH T cs Th (K.1.getD (K.1.length - 1) (0, 0, []))) A Z)) := by
    have ev : S 364 (2100 * t + (K.1.length : Int) - 1) = (K.1.getD (K.1.length - 1) (0, 0, [])).2.1 := rV_v hcy (by omega)
    rw [ev]
    have hK0 : KR 261 T n cs ms (w_up (w_up (w_up S 237 154 (200 * t + (K.2.1.length : Int) - 1)) 237 155 ((K.2.1.getD (K.2.1.length - 1) (0, 0, 0, (0, 0, []), 0, 0, 0)).2.1 + 1)) 237 113 0) := KR_ag hK (fun j x hj => (w_up_no (by omega)).trans ((w_up_no (by omega)).trans (w_up_no (by omega))))
    have hM1 : w_ML (w_up (w_up (w_up S 237 154 (200 * t + (K.2.1.length : Int) - 1)) 237 155 ((K.2.1.getD (K.2.1.length - 1) (0, 0, 0, (0, 0, []), 0, 0, 0)).2.1 + 1)) 237 113 0) := w_ML_up hM0 (by first | decide | omega)
    have hpw : (pH T cs Th (K.1.getD (K.1.length - 1) (0, 0, []))).length ≤ 100 ∧ wJ (pe_GA xs) wY0 (fun _ => False) (d + 8) t_M_print ((pe_at t_M_print.bl 0).getD (0, [])).2 [(0, (2, 237)), (1, (0, (K.1.getD (K.1.length - 1) (0, 0, [])).1)), (2, (1, (K.1.getD (K.1.length - 1) (0, 0, [])).2.1))] [] (w_up (w_up (w_up S 237 154 (200 * t + (K.2.1.length : Int) - 1)) 237 155 ((K.2.1.getD (K.2.1.length - 1) (0, 0, 0, (0, 0, []), 0, 0, 0)).2.1 + 1)) 237 113 0) (fun o Z => o = .inl none ∧ spL 0 (pH T cs Th (K.1.getD (K.1.length - 1) (0, 0, []))) (w_up (w_up (w_up S 237 154 (200 * t + (K.2.1.length : Int) - 1)) 237 155 ((K.2.1.getD (K.2.1.length - 1) (0, 0, 0, (0, 0, []), 0, 0, 0)).2.1 + 1)) 237 113 0) Z) := by
      rcases hk with c | c
      · have z7 := hy7 c
        have e321 : (w_up (w_up (w_up S 237 154 (200 * t + (K.2.1.length : Int) - 1)) 237 155 ((K.2.1.getD (K.2.1.length - 1) (0, 0, 0, (0, 0, []), 0, 0, 0)).2.1 + 1)) 237 113 0) 321 (K.1.getD (K.1.length - 1) (0, 0, [])).2.1 = (tO Th (K.1.getD (K.1.length - 1) (0, 0, [])).2.1).2.2.1 := (w_up_slot (by first | decide | omega)).trans ((ef 321 _ (by first | decide | omega)).trans ((r_th hth z7.1.1.1 z7.1.1.2).2.2.2.1.trans (if_pos z7.1.2)))
        have el : hoL T cs 7 (K.1.getD (K.1.length - 1) (0, 0, [])).2.1 (tO Th (K.1.getD (K.1.length - 1) (0, 0, [])).2.1).2.2.1 = (pH T cs Th (K.1.getD (K.1.length - 1) (0, 0, []))) := (if_pos rfl).trans (if_pos c).symm
        have y := hl30 _ z7.2.1 z7.2.2
        have hw1 := rpr7_261 (xs := xs) (M := fun _ => False) (d := d + 2) (v := (K.1.getD (K.1.length - 1) (0, 0, [])).2.1) hM1 hK0 hw hX ⟨z7.1.1.1, by omega⟩ e321 z7.2 (by omega) (w_up_same _ _ _ _)
        rw [el] at hw1
        rw [c]
        exact ⟨by have y2 := shN_len (v := (K.1.getD (K.1.length - 1) (0, 0, [])).2.1); rw [← el, show hoL T cs 7 (K.1.getD (K.1.length - 1) (0, 0, [])).2.1 (tO Th (K.1.getD (K.1.length - 1) (0, 0, [])).2.1).2.2.1 = cNa T cs (tO Th (K.1.getD (K.1.length - 1) (0, 0, [])).2.1).2.2.1 ++ ([64] ++ shN (K.1.getD (K.1.length - 1) (0, 0, [])).2.1) from if_pos rfl, List.length_append, List.length_append]; show _ + (1 + _) ≤ 100; omega, hw1⟩
      · have z8 := hy8 c
        have el : hoL T cs 8 (K.1.getD (K.1.length - 1) (0, 0, [])).2.1 0 = (pH T cs Th (K.1.getD (K.1.length - 1) (0, 0, []))) := (if_neg (by first | decide | omega)).trans (if_neg (by omega)).symm
        have y := hl30 _ z8.1 z8.2
        have hw1 := rpr8_261 (xs := xs) (M := fun _ => False) (d := d + 2) (v := (K.1.getD (K.1.length - 1) (0, 0, [])).2.1) hM1 hK0 hw hX z8 (by omega) (w_up_same _ _ _ _)
        rw [el] at hw1
        rw [c]
        exact ⟨by rw [← el, show hoL T cs 8 (K.1.getD (K.1.length - 1) (0, 0, [])).2.1 0 = cNa T cs (K.1.getD (K.1.length - 1) (0, 0, [])).2.1 from if_neg (by first | decide | omega)]; omega, hw1⟩
    refine wJ_mono (msog (d := d + 2) (k := (K.1.getD (K.1.length - 1) (0, 0, [])).1) (v := (K.1.getD (K.1.length - 1) (0, 0, [])).2.1) (l := (pH T cs Th (K.1.getD (K.1.length - 1) (0, 0, [])))) hM0 (by omega) hpw.1 hpw.2 ((et 104 (by first | decide | omega) (by first | decide | omega)).trans o1) ⟨by omega, by omega⟩) (fun z Z hz => ?_)
    rcases hz with ⟨z1, A, a, z2, z3⟩ | ⟨z1, z2, A, a, z3⟩
    · exact Or.inl ⟨z1, A, spN_l a, z2, z3⟩
    · exact Or.inr ⟨z1, z2, A, spN_l a, z3⟩
  have hcal := yb0 (xs := xs) (d := d) (mP_of h) ((ef 363 _ (by first | decide | omega)).trans hcy.1) (ef 364 _ (by first | decide | omega)) (by omega) hpr
  refine rm_tA (R := fun A => spN (w_up (w_up S 237 154 (200 * t + (K.2.1.length : Int) - 1)) 237 155 ((K.2.1.getD (K.2.1.length - 1) (0, 0, 0, (0, 0, []), 0, 0, 0)).2.1 + 1)) A) h hs hi.1 hi.2.1 hi.2.2 (by first | decide | omega) (wJ_mono hcal (fun z Z hz => ?_)) (fun A a => ?_)
  · rcases hz with ⟨-, A, a, z1, z2⟩ | ⟨z1, -⟩
    · exact ⟨z1, A, a, z2⟩
    · omega
  · skip
    have eA : ∀ (j : Nat) (x : Int), j ≠ 345 → (j ≠ 237 ∨ (x ≠ 113 ∧ x ≠ 154 ∧ x ≠ 155)) → A j x = S j x := fun j x j0 j1 => (a.1 j x j0 (by omega)).trans ((w_up_no (by omega)).trans (w_up_no (by omega)))
    exact ⟨rTk_fr h1 (rTx_of (eA 237 19 (by first | decide | omega) (by first | decide | omega)) (eA 237 102 (by first | decide | omega) (by first | decide | omega)) (fun j x j0 j1 => eA j x (by omega) (by omega))) (fun j x j0 j1 => eA j x (by omega) (by omega)), fun j x o2 => eA j x o2.2.2.1 (by have := o2.1; omega), a.2⟩
end Wic
