/-! PART 9z: endClass, whole. -/
section W9z
variable {xs : List (Nat × List Int32)} {M : Nat → Prop} {d : Nat} {A B C S Z : wS} {Q : wO → wS → Prop} {T : Int → Int} {n : Int} {c i : Nat}
/-- k members have been asked for their fields -/
def l2_I (m0 t0 w sc : Nat) (fi : Int) (rs : List hMR) (S Z : wS) (k : Nat) : Prop := (∀ (j : Nat) (i : Int), (j ≠ sc ∨ i < 0) → (j ≠ m0 + 15 ∨ i < fi) → Z j i = S j i) ∧ (∀ (q : Nat) (r : hMR), rs[q]? = some r → (r.2.1 ≠ 1 ∨ k ≤ q) → Z (m0 + 15) (fi + (q : Int)) = S (m0 + 15) (fi + (q : Int))) ∧ (∀ (q : Nat) (r : hMR), q < k → rs[q]? = some r → r.2.1 = 1 → ∃ hd x : Int, fo_h S m0 w (fi + (q : Int)) hd ∧ fo_r S m0 t0 w (fi + (q : Int)) hd x ∧ Z (m0 + 15) (fi + (q : Int)) = x) ∧ gI Z ∧ rmR S Z
theorem fo_h_cg {m0 w : Nat} {m hd : Int} (e : ∀ j : Nat, (j = m0 + 3 ∨ j = m0 + 4 ∨ j = m0 + 5 ∨ j = m0 + 14 ∨ j = w + 1 ∨ j = w + 2 ∨ j = w + 3) → Z j = S j) (h : fo_h Z m0 w m hd) : fo_h S m0 w m hd := by
  unfold fo_h at h ⊢
  rw [e (m0 + 3) (by omega), e (m0 + 4) (by omega), e (m0 + 5) (by omega), e (m0 + 14) (by omega), e (w + 1) (by omega), e (w + 2) (by omega), e (w + 3) (by omega)] at h
  exact h
theorem fo_r_cg {m0 t0 w : Nat} {m hd x : Int} (e : ∀ j : Nat, ((m0 ≤ j ∧ j ≤ m0 + 14) ∨ (w ≤ j ∧ j ≤ w + 3) ∨ (t0 ≤ j ∧ j ≤ t0 + 4)) → Z j = S j) (h : fo_r Z m0 t0 w m hd x) : fo_r S m0 t0 w m hd x := by
  unfold fo_r fo_2 at h ⊢
  rw [e m0 (by omega), e (m0 + 1) (by omega), e (m0 + 2) (by omega), e (m0 + 3) (by omega), e (m0 + 4) (by omega), e (m0 + 6) (by omega), e (m0 + 14) (by omega), e w (by omega), e (w + 1) (by omega), e (w + 2) (by omega), e (w + 3) (by omega), e (t0 + 1) (by omega), e (t0 + 3) (by omega), e (t0 + 4) (by omega)] at h
  exact h
theorem fo_r_rg {m0 t0 ho w : Nat} {m hd x : Int} (hcb : cb_I t0 ho S) (hcl : 0 ≤ S m0 m ∧ S m0 m < S ho 2) (h : fo_r S m0 t0 w m hd x) : -1 ≤ x ∧ x < 400 := by
  rcases h with ⟨-, h⟩ | ⟨-, nd, -, h⟩
  · omega
  · have hnr := nf_f_rg (S (m0 + 1)) (S (m0 + 14)) (S (m0 + 2)) (S (t0 + 4)) (S (t0 + 3)) (S (t0 + 1)) nd (-1) (S ho 4) (S ho 2) (fun q q0 q1 => ⟨(hcb.2.2 q q0 q1).1, (hcb.2.2 q q0 q1).2.1, (hcb.2.2 q q0 q1).2.2.2⟩) ((S m0 m).toNat + 2) (S m0 m) (by omega) hcl.2
    have hm4 := hcb.2.1
    unfold fo_2 at h
    rw [h]
    split
    · omega
    · split
      · omega
      · split <;> omega
theorem ec8_73 {kc fi : Int} {rs : List hMR} (hX : w_X xs) (hC : w_CL S) (hcb : cb_I 87 73 S) (hW : wd_at S 74 64) (hL : wd_L S 74 64) (hk : S 73 2 = kc + 1 ∧ 0 ≤ kc ∧ kc < 60) (hms : ∀ (q : Nat) (r : hMR), rs[q]? = some r → mr_at 97 74 T S (fi + (q : Int)) r ∧ r.1 = kc ∧ (r.2.1 ≠ 2 → r.2.2.2.2.2.2.2 - r.2.2.2.2.2.2.1 ≤ 30)) (hN : S 73 4 = fi + (rs.length : Int)) (hfi : 0 ≤ fi ∧ fi + (rs.length : Int) ≤ 400) : ∀ (f k : Nat) (Z : wS), rs.length - k < f → k ≤ rs.length → l2_I 97 87 74 119 fi rs S Z k → wJ (pe_GA xs) wY0 (mS [117, 118]) (d + 8) t_XO_endClass ((pe_at t_XO_endClass.bl 8).getD (0, [])).2 [(0, (2, 73)), (1, (0, kc)), (3, (0, (fi + (k : Int))))] [] Z (fun o Z2 => o = .inl none ∧ l2_I 97 87 74 119 fi rs S Z2 rs.length) := by
  intro f
  induction f with
  | zero => intro k Z h; exact absurd h (Nat.not_lt_zero _)
  | succ f ih =>
    intro k Z hf hkl hz
    obtain ⟨z1, z2, z3, z4, z5⟩ := hz
    have hCz : w_CL Z := fun y hy => (z1 y.1 (-1) (by omega) (by omega)).trans (hC y hy)
    have er : ∀ j : Nat, j ≠ 119 → j ≠ 112 → Z j = S j := fun j h1 h2 => funext fun i => z1 j i (by omega) (by omega)
    have zN : Z 73 4 = fi + (rs.length : Int) := (z1 73 4 (by omega) (by omega)).trans hN
    have l15 : Z 112 (-1) = 400 := cl_112 hCz
    refine wa_iload_n (n := 3) rfl ?_
    refine wa_aload_n (n := 0) rfl ?_
    refine wb_gfi 73 rfl (wy_pr rfl) wt_73 wf_3_4 (v := (fi + (rs.length : Int))) (zN) (fun r1 => ?_)
    refine wa_icmpge (w_rg0 (by omega) (by omega)) (w_rg0 (by omega) (by omega)) ⟨_, rfl⟩ (fun c2 => ?_) (fun c2 => ?_)
    · skip
      refine wa_return rfl ?_
      have hke : k = rs.length := by omega
      subst hke
      exact ⟨rfl, z1, z2, z3, z4, z5⟩
    · skip
      have hkr : k < rs.length := by omega
      obtain ⟨g, hgk⟩ : ∃ g, rs[k]? = some g := ⟨_, List.getElem?_eq_getElem hkr⟩
      have hg := (hms k g hgk).1
      have hgc := (hms k g hgk).2.1
      have hg30 := (hms k g hgk).2.2
      have g1 : Z 98 (fi + (k : Int)) = g.2.1 := (congrFun (er 98 (by decide) (by decide)) _).trans hg.1.2.1
      refine wa_aload_n (n := 0) rfl ?_
      refine wb_gf4 73 rfl (wy_pr rfl) wt_73 wf_3_3 (v := 96) wl_73_3 ?_
      refine wa_iconst ?_
      refine wb_aald5 96 1 rfl rfl (wy_pr rfl) wt_96 (by rw [show _ = _ from ((cl_96 hCz))]; omega) wl_96_1 ?_
      refine wa_iload_n (n := 3) rfl ?_
      refine wb_iald 98 rfl (wy_pr rfl) wt_98 (n := 400) ((cl_98 hCz)) (by omega) (by omega) (v := (g.2.1)) (g1) (fun r3 => ?_)
      refine wa_iconst ?_
      refine wa_icmpne (w_rg0 (by omega) (by omega)) (w_rg0 (by omega) (by omega)) ⟨_, rfl⟩ (fun c4 => ?_) (fun c4 => ?_)
      · skip
        refine wa_iinc rfl rfl ?_
        refine wa_goto ⟨_, rfl⟩ ?_
        refine wJ_S (ih (k + 1) Z (by omega) (by omega) ⟨z1, fun q r hr hq => ?_, fun q r hq hr h1 => ?_, z4, z5⟩) ⟨rfl, rfl, by rw [show fi + ((k + 1 : Nat) : Int) = fi + (k : Int) + 1 by omega]; rfl, trivial⟩
        · by_cases hqk : q = k
          · subst hqk; exact z2 q r hr (Or.inr (Nat.le_refl _))
          · exact z2 q r hr (by omega)
        · by_cases hqk : q = k
          · subst hqk; rw [hgk] at hr; cases hr; exact absurd h1 (by omega)
          · exact z3 q r (by omega) hr h1
      · skip
        refine wa_aload_n (n := 0) rfl ?_
        refine wb_gf4 73 rfl (wy_pr rfl) wt_73 wf_3_3 (v := 96) wl_73_3 ?_
        refine wa_bipush (w_rg2 (by omega) (by omega)) ?_
        refine wb_aald5 96 15 rfl rfl (wy_pr rfl) wt_96 (by rw [show _ = _ from ((cl_96 hCz))]; omega) wl_96_15 ?_
        refine wa_iload_n (n := 3) rfl ?_
        refine wa_aload_n (n := 0) rfl ?_
        refine wa_iload_n (n := 3) rfl ?_
        have hwn := hg.2.2.2.2 (by omega)
        have hcbz : cb_I 87 73 Z := by unfold cb_I; rw [er 73 (by decide) (by decide), er (87 + 1) (by decide) (by decide), er (87 + 3) (by decide) (by decide), er (87 + 4) (by decide) (by decide)]; exact hcb
        have hWz : wd_at Z 74 64 := wd_at_ag hW (fun x hx => er _ (by omega) (by omega))
        have hLz : wd_L Z 74 64 := wd_L_ag hL (fun x hx => congrFun (er _ (by omega) (by omega)) _)
        have e0 : Z 97 (fi + (k : Int)) = kc := (congrFun (er 97 (by decide) (by decide)) _).trans (hg.1.1.trans hgc)
        have eh : Z 73 2 = kc + 1 := (congrFun (er 73 (by decide) (by decide)) 2).trans hk.1
        have e14 : Z 111 (fi + (k : Int)) = S 111 (fi + (k : Int)) := congrFun (er 111 (by decide) (by decide)) _
        have ew7 : Z 74 7 = S 74 7 := congrFun (er 74 (by decide) (by decide)) 7
        have ew3 : Z 77 = S 77 := er 77 (by decide) (by decide)
        have hw13 : 13 ≤ S 111 (fi + (k : Int)) ∧ S 111 (fi + (k : Int)) < S 74 7 := hwn.1
        have hwz : S 77 (S 111 (fi + (k : Int))) = g.2.2.2.2.2.2.2 - g.2.2.2.2.2.2.1 := hwn.2.1
        refine wa_cv 73 rfl (wy_pr rfl) wt_73 (M2 := fun _ => False) rfl at_XO_fieldOf ⟨_, rfl⟩ rfl rfl ⟨(Or.inr ⟨wy_pr rfl, fun q => q⟩), trivial, trivial, trivial⟩ ⟨trivial, (Or.inr ⟨wy_pr rfl, fun q => q⟩), trivial⟩ (fun _ _ q => False.elim q) (fo_73 (S := Z) (m := (fi + (k : Int))) hX z4 hCz hcbz hWz hLz ⟨by omega, by omega⟩ ⟨by omega, by omega⟩ ⟨by omega, by omega⟩ (by rw [e14, ew3, hwz]; exact hg30 (by omega))) (fun oq5 Sq5 hp6 q5 => ?_)
        rcases q5 with ⟨hd, x, rfl, f1, f2, f3, f4, f5⟩
        show wJ _ _ _ _ _ _ _ _ _ _
        generalize Sq5 = Zn at f1 f4 f5 ⊢
        have hCn : w_CL Zn := fun y hy => (f1 y.1 (-1) (by omega)).trans (hCz y hy)
        have hxr := fo_r_rg hcbz ⟨by show 0 ≤ Z 97 (fi + (k : Int)); omega, by show Z 97 (fi + (k : Int)) < Z 73 2; omega⟩ f3
        have f2S : fo_h S 97 74 (fi + (k : Int)) hd := fo_h_cg (fun j hj => er j (by omega) (by omega)) f2
        have f3S : fo_r S 97 87 74 (fi + (k : Int)) hd x := fo_r_cg (fun j hj => er j (by omega) (by omega)) f3
        refine wb_iast 112 rfl (wy_pr rfl) wt_112 (n := 400) ((cl_112 hCn)) (by omega) (by omega) ⟨(by omega), (by omega)⟩ ?_
        refine wa_fall ⟨_, rfl⟩ ?_
        refine wa_iinc rfl rfl ?_
        refine wa_goto ⟨_, rfl⟩ ?_
        have zn : ∀ (j : Nat) (i : Int), (j ≠ 119 ∨ i < 0) → (j ≠ 112 ∨ i ≠ (fi + (k : Int))) → (w_up Zn 112 (fi + (k : Int)) x) j i = Z j i := fun j i a1 a2 => (w_up_no (by omega)).trans (f1 j i a1)
        refine wJ_S (ih (k + 1) (w_up Zn 112 (fi + (k : Int)) x) (by omega) (by omega) ⟨fun j i a1 a2 => (zn j i a1 (by omega)).trans (z1 j i a1 a2), fun q r hr hq => ?_, fun q r hq hr h1 => ?_, (gI_up f4 (by omega) (by omega) (by omega)), rmR_tr z5 (rmR_up f5 (by omega) (by decide))⟩) ⟨rfl, rfl, by rw [show fi + ((k + 1 : Nat) : Int) = fi + (k : Int) + 1 by omega]; rfl, trivial⟩
        · have hqk : q ≠ k := fun e => by subst e; rw [hgk] at hr; cases hr; omega
          exact (zn 112 _ (by omega) (by omega)).trans (z2 q r hr (by omega))
        · by_cases hqk : q = k
          · subst hqk; exact ⟨hd, x, f2S, f3S, w_up_same _ _ _ _⟩
          · obtain ⟨h2, x2, y1, y2, y3⟩ := z3 q r (by omega) hr h1
            exact ⟨h2, x2, y1, y2, (zn 112 _ (by omega) (by omega)).trans y3⟩
theorem ec_73 {kc fi f0 x0 n0 : Int} {rs : List hMR} (hX : w_X xs) (hC : w_CL S) (hcb : cb_I 87 73 S) (hW : wd_at S 74 64) (hL : wd_L S 74 64) (hk : S 73 2 = kc + 1 ∧ 0 ≤ kc ∧ kc < 60) (hms : ∀ (q : Nat) (r : hMR), rs[q]? = some r → mr_at 97 74 T S (fi + (q : Int)) r ∧ r.1 = kc ∧ (r.2.1 ≠ 2 → r.2.2.2.2.2.2.2 - r.2.2.2.2.2.2.1 ≤ 30)) (hN : S 73 4 = fi + (rs.length : Int)) (hfi : S 91 kc = fi ∧ 0 ≤ fi ∧ fi + (rs.length : Int) ≤ 400) (hty : ∀ (q : Nat) (r : hMR), rs[q]? = some r → 0 ≤ r.2.2.2.1 ∧ r.2.2.2.1 ≤ 68) (hI : gI S) (hst : S 116 2 = n0 ∧ n0 ≤ 400 ∧ rw_S 116 117 118 S) (hf0 : f0 = (if S 88 kc = -1 then 0 else S 94 (S 88 kc)) ∧ 0 ≤ f0 ∧ f0 ≤ 1000) (hx0 : x0 = (if S 88 kc = -1 then -1 else S 95 (S 88 kc)) ∧ -1 ≤ x0 ∧ x0 < 400) : wJ (pe_GA xs) wY0 (mS [117, 118]) (d + 8) t_XO_endClass ((pe_at t_XO_endClass.bl 0).getD (0, [])).2 [(0, (2, 73))] [] S (fun o Z => o = .inl none ∧ ∃ Z1, le_I 97 87 116 117 118 119 fi kc n0 f0 x0 rs (w_up (w_up S 94 kc f0) 95 kc x0) Z1 rs.length ∧ l2_I 97 87 74 119 fi rs Z1 Z rs.length) := by
  have hk1 := hk.1
  have hA := hcb.2.2 kc hk.2.1 (by omega)
  have hA : (-1 ≤ S 88 kc ∧ S 88 kc < kc) ∧ 0 ≤ S 91 kc ∧ 0 ≤ S 90 kc ∧ S 91 kc + S 90 kc ≤ S 73 4 := hA
  have hfk := hfi.1
  obtain ⟨hf1, hf2, hf3⟩ := hf0
  obtain ⟨hx1, hx2, hx3⟩ := hx0
  have hCs : w_CL (w_up (w_up S 94 kc f0) 95 kc x0) := w_CL_up (w_CL_up hC (by omega)) (by omega)
  have hgs : gI (w_up (w_up S 94 kc f0) 95 kc x0) := gI_up (gI_up hI (by omega) (by omega) (by omega)) (by omega) (by omega) (by omega)
  refine wa_aload_n (n := 0) rfl ?_
  refine wb_gfi 73 rfl (wy_pr rfl) wt_73 wf_3_2 (v := (kc + 1)) (hk1) (fun r1 => ?_)
  refine wa_iconst ?_
  refine wa_isub ?_
  rw [show (((kc + 1) - 1) : Int) = kc by omega]
  refine wa_istore_n (n := 1) rfl ?_
  refine wa_aload_n (n := 0) rfl ?_
  refine wb_gf4 73 rfl (wy_pr rfl) wt_73 wf_3_1 (v := 86) wl_73_1 ?_
  refine wa_iconst ?_
  refine wb_aald5 86 1 rfl rfl (wy_pr rfl) wt_86 (by rw [show _ = _ from ((cl_86 hC))]; omega) wl_86_1 ?_
  refine wa_iload_n (n := 1) rfl ?_
  refine wb_iald 88 rfl (wy_pr rfl) wt_88 (n := 60) ((cl_88 hC)) (by omega) (by omega) (v := (S 88 kc)) rfl (fun r2 => ?_)
  refine wa_istore_n (n := 2) rfl ?_
  refine wa_aload_n (n := 0) rfl ?_
  refine wb_gf4 73 rfl (wy_pr rfl) wt_73 wf_3_1 (v := 86) wl_73_1 ?_
  refine wa_bipush (w_rg2 (by omega) (by omega)) ?_
  refine wb_aald5 86 7 rfl rfl (wy_pr rfl) wt_86 (by rw [show _ = _ from ((cl_86 hC))]; omega) wl_86_7 ?_
  refine wa_iload_n (n := 1) rfl ?_
  refine wa_iload_n (n := 2) rfl ?_
  refine wa_iconst ?_
  refine wa_icmpne (w_rg0 (by omega) (by omega)) (w_rg0 (by omega) (by omega)) ⟨_, rfl⟩ (fun c3 => ?_) (fun c3 => ?_)
  · skip
    refine wa_aload_n (n := 0) rfl ?_
    refine wb_gf4 73 rfl (wy_pr rfl) wt_73 wf_3_1 (v := 86) wl_73_1 ?_
    refine wa_bipush (w_rg2 (by omega) (by omega)) ?_
    refine wb_aald5 86 7 rfl rfl (wy_pr rfl) wt_86 (by rw [show _ = _ from ((cl_86 hC))]; omega) wl_86_7 ?_
    refine wa_iload_n (n := 2) rfl ?_
    refine wb_iald 94 rfl (wy_pr rfl) wt_94 (n := 60) ((cl_94 hC)) (by omega) (by omega) (v := (S 94 (S 88 kc))) rfl (fun r4 => ?_)
    refine wa_fall ⟨_, rfl⟩ ?_
    refine wb_iast 94 rfl (wy_pr rfl) wt_94 (n := 60) ((cl_94 hC)) (by omega) (by omega) ⟨(by omega), (by omega)⟩ ?_
    refine wa_aload_n (n := 0) rfl ?_
    refine wb_gf4 73 rfl (wy_pr rfl) wt_73 wf_3_1 (v := 86) wl_73_1 ?_
    refine wa_bipush (w_rg2 (by omega) (by omega)) ?_
    refine wb_aald5 86 8 rfl rfl (wy_pr rfl) wt_86 (by rw [show _ = _ from ((w_up_slot (by decide)).trans ((cl_86 hC)))]; omega) wl_86_8 ?_
    refine wa_iload_n (n := 1) rfl ?_
    refine wa_iload_n (n := 2) rfl ?_
    refine wa_iconst ?_
    refine wa_icmpne (w_rg0 (by omega) (by omega)) (w_rg0 (by omega) (by omega)) ⟨_, rfl⟩ (fun c5 => ?_) (fun c5 => ?_)
    · skip
      refine wa_aload_n (n := 0) rfl ?_
      refine wb_gf4 73 rfl (wy_pr rfl) wt_73 wf_3_1 (v := 86) wl_73_1 ?_
      refine wa_bipush (w_rg2 (by omega) (by omega)) ?_
      refine wb_aald5 86 8 rfl rfl (wy_pr rfl) wt_86 (by rw [show _ = _ from ((w_up_slot (by decide)).trans ((cl_86 hC)))]; omega) wl_86_8 ?_
      refine wa_iload_n (n := 2) rfl ?_
      refine wb_iald 95 rfl (wy_pr rfl) wt_95 (n := 60) ((w_up_slot (by decide)).trans ((cl_95 hC))) (by omega) (by omega) (v := (S 95 (S 88 kc))) (w_up_slot (by decide)) (fun r6 => ?_)
      refine wa_fall ⟨_, rfl⟩ ?_
      refine wb_iast 95 rfl (wy_pr rfl) wt_95 (n := 60) ((w_up_slot (by decide)).trans ((cl_95 hC))) (by omega) (by omega) ⟨(by omega), (by omega)⟩ ?_
      refine wa_aload_n (n := 0) rfl ?_
      refine wb_gf4 73 rfl (wy_pr rfl) wt_73 wf_3_1 (v := 86) wl_73_1 ?_
      refine wa_iconst ?_
      refine wb_aald5 86 4 rfl rfl (wy_pr rfl) wt_86 (by rw [show _ = _ from ((w_up_slot (by decide)).trans ((w_up_slot (by decide)).trans ((cl_86 hC))))]; omega) wl_86_4 ?_
      refine wa_iload_n (n := 1) rfl ?_
      refine wb_iald 91 rfl (wy_pr rfl) wt_91 (n := 60) ((w_up_slot (by decide)).trans ((w_up_slot (by decide)).trans ((cl_91 hC)))) (by omega) (by omega) (v := fi) ((w_up_slot (by decide)).trans ((w_up_slot (by decide)).trans (hfk))) (fun r7 => ?_)
      refine wa_istore_n (n := 3) rfl ?_
      refine wa_fall ⟨_, rfl⟩ ?_
      have e7 : (S 94 (S 88 kc)) = f0 := by rw [hf1]; first | exact (if_pos (by omega)).symm | exact (if_neg (by omega)).symm
      have e8 : (S 95 (S 88 kc)) = x0 := by rw [hx1]; first | exact (if_pos (by omega)).symm | exact (if_neg (by omega)).symm
      rw [show (w_up (w_up S 94 kc (S 94 (S 88 kc))) 95 kc (S 95 (S 88 kc))) = (w_up (w_up S 94 kc f0) 95 kc x0) by rw [e7, e8]]
      have hmsS : ∀ (q : Nat) (r : hMR), rs[q]? = some r → mr_at 97 74 T (w_up (w_up S 94 kc f0) 95 kc x0) (fi + (q : Int)) r := fun q r hr => mr_at_ag (hms q r hr).1 (fun x hx => (w_up_slot (by omega)).trans (w_up_slot (by omega))) (fun x hx => funext fun y => (w_up_slot (by omega)).trans (w_up_slot (by omega)))
      have hle0 : le_I 97 87 116 117 118 119 fi kc n0 f0 x0 rs (w_up (w_up S 94 kc f0) 95 kc x0) (w_up (w_up S 94 kc f0) 95 kc x0) 0 := ⟨⟨fun _ _ _ _ _ _ _ _ _ _ => rfl, fun _ _ _ => ⟨rfl, rfl⟩⟩, ⟨hst.1.trans (by show n0 = n0 + 0; omega), ?_, ?_⟩, fun q r hq => absurd hq (Nat.not_lt_zero _), (show rw_S 116 117 118 (w_up (w_up S 94 kc f0) 95 kc x0) from hst.2.2), hgs, rmR_rfl _⟩
      · have hn00 : 0 ≤ n0 := by have := hst.2.2.1.1; have e := hst.1; omega
        refine wJ_S (ec5_73 (S := (w_up (w_up S 94 kc f0) 95 kc x0)) (kc := kc) (fi := fi) (n0 := n0) (f0 := f0) (x0 := x0) (rs := rs) hCs hk (fun q r hr => ⟨hmsS q r hr, hty q r hr⟩) hN hfi ⟨hf2, hf3⟩ ⟨hn00, hst.2.1⟩ ⟨hx2, hx3⟩ (fun Z1 z => ?_) (rs.length + 1) 0 (w_up (w_up S 94 kc f0) 95 kc x0) (by omega) (by omega) hle0) ⟨rfl, rfl, by rw [show fi + ((0 : Nat) : Int) = fi by omega]; rfl, trivial⟩
        have zr := z.1.1
        have zz : ∀ (j : Nat) (i : Int), j < 388 → j ≠ 117 → j ≠ 118 → j ≠ 116 → j ≠ 112 → j ≠ 113 → j ≠ 94 → j ≠ 95 → j ≠ 119 → Z1 j i = S j i := fun j i a1 a2 a3 a4 a5 a6 a7 a8 a9 => (zr j i (by omega) (by unfold wG; omega) a2 a3 (by omega) (by omega) (by omega) (by omega)).trans ((w_up_slot (by omega)).trans (w_up_slot (by omega)))
        have ez : ∀ j : Nat, j < 388 → j ≠ 117 → j ≠ 118 → j ≠ 116 → j ≠ 112 → j ≠ 113 → j ≠ 94 → j ≠ 95 → j ≠ 119 → Z1 j = S j := fun j a1 a2 a3 a4 a5 a6 a7 a8 a9 => funext fun i => zz j i a1 a2 a3 a4 a5 a6 a7 a8 a9
        have hC1 : w_CL Z1 := fun y hy => (zr y.1 (-1) (by have := (wz_lt y hy).1; omega) (by have := (wz_lt y hy).1; unfold wG; omega) (by intro e; exact absurd (wz_no y hy) (by rw [e]; decide)) (by intro e; exact absurd (wz_no y hy) (by rw [e]; decide)) (by omega) (by omega) (by omega) (by omega)).trans (hCs y hy)
        have hW1 : wd_at Z1 74 64 := wd_at_ag hW (fun x hx => ez _ (by omega) (by omega) (by omega) (by omega) (by omega) (by omega) (by omega) (by omega) (by omega))
        have hL1 : wd_L Z1 74 64 := wd_L_ag hL (fun x hx => zz _ _ (by omega) (by omega) (by omega) (by omega) (by omega) (by omega) (by omega) (by omega) (by omega))
        have hcb1 : cb_I 87 73 Z1 := by unfold cb_I; rw [ez 73 (by decide) (by decide) (by decide) (by decide) (by decide) (by decide) (by decide) (by decide) (by decide), ez (87 + 1) (by decide) (by decide) (by decide) (by decide) (by decide) (by decide) (by decide) (by decide) (by decide), ez (87 + 3) (by decide) (by decide) (by decide) (by decide) (by decide) (by decide) (by decide) (by decide) (by decide), ez (87 + 4) (by decide) (by decide) (by decide) (by decide) (by decide) (by decide) (by decide) (by decide) (by decide)]; exact hcb
        have hms1 : ∀ (q : Nat) (r : hMR), rs[q]? = some r → mr_at 97 74 T Z1 (fi + (q : Int)) r ∧ r.1 = kc ∧ (r.2.1 ≠ 2 → r.2.2.2.2.2.2.2 - r.2.2.2.2.2.2.1 ≤ 30) := fun q r hr => ⟨mr_at_ag (hms q r hr).1 (fun x hx => zz _ _ (by omega) (by omega) (by omega) (by omega) (by omega) (by omega) (by omega) (by omega) (by omega)) (fun x hx => ez _ (by omega) (by omega) (by omega) (by omega) (by omega) (by omega) (by omega) (by omega) (by omega)), (hms q r hr).2⟩
        have hN1 : Z1 73 4 = fi + (rs.length : Int) := (zz 73 4 (by decide) (by decide) (by decide) (by decide) (by decide) (by decide) (by decide) (by decide) (by decide)).trans hN
        have hk2 : Z1 73 2 = kc + 1 ∧ 0 ≤ kc ∧ kc < 60 := ⟨(zz 73 2 (by decide) (by decide) (by decide) (by decide) (by decide) (by decide) (by decide) (by decide) (by decide)).trans hk.1, hk.2⟩
        have z4k : Z1 91 kc = fi := (zz 91 kc (by decide) (by decide) (by decide) (by decide) (by decide) (by decide) (by decide) (by decide) (by decide)).trans hfk
        refine wa_aload_n (n := 0) rfl ?_
        refine wb_gf4 73 rfl (wy_pr rfl) wt_73 wf_3_1 (v := 86) wl_73_1 ?_
        refine wa_iconst ?_
        refine wb_aald5 86 4 rfl rfl (wy_pr rfl) wt_86 (by rw [show _ = _ from ((cl_86 hC1))]; omega) wl_86_4 ?_
        refine wa_iload_n (n := 1) rfl ?_
        refine wb_iald 91 rfl (wy_pr rfl) wt_91 (n := 60) ((cl_91 hC1)) (by omega) (by omega) (v := fi) (z4k) (fun r68 => ?_)
        refine wa_istore_n (n := 3) rfl ?_
        refine wa_fall ⟨_, rfl⟩ ?_
        refine wJ_mono (wJ_S (ec8_73 (S := Z1) hX hC1 hcb1 hW1 hL1 hk2 hms1 hN1 hfi.2 (rs.length + 1) 0 Z1 (by omega) (by omega) ⟨fun _ _ _ _ => rfl, fun _ _ _ _ => rfl, fun q r hq => absurd hq (Nat.not_lt_zero _), z.2.2.2.2.1, rmR_rfl _⟩) ⟨rfl, rfl, by rw [show fi + ((0 : Nat) : Int) = fi by omega]; rfl, trivial⟩) (fun o Z2 h2 => ⟨h2.1, Z1, z, h2.2⟩)
      · exact ((w_up_slot (by decide)).trans (w_up_same _ _ _ _)).trans (by show f0 = f0 + 0; omega)
      · exact w_up_same _ _ _ _
    · skip
      exact absurd c5 (by omega)
  · skip
    refine wa_iconst ?_
    refine wa_goto ⟨_, rfl⟩ ?_
    refine wb_iast 94 rfl (wy_pr rfl) wt_94 (n := 60) ((cl_94 hC)) (by omega) (by omega) ⟨(by omega), (by omega)⟩ ?_
    refine wa_aload_n (n := 0) rfl ?_
    refine wb_gf4 73 rfl (wy_pr rfl) wt_73 wf_3_1 (v := 86) wl_73_1 ?_
    refine wa_bipush (w_rg2 (by omega) (by omega)) ?_
    refine wb_aald5 86 8 rfl rfl (wy_pr rfl) wt_86 (by rw [show _ = _ from ((w_up_slot (by decide)).trans ((cl_86 hC)))]; omega) wl_86_8 ?_
    refine wa_iload_n (n := 1) rfl ?_
    refine wa_iload_n (n := 2) rfl ?_
    refine wa_iconst ?_
    refine wa_icmpne (w_rg0 (by omega) (by omega)) (w_rg0 (by omega) (by omega)) ⟨_, rfl⟩ (fun c8 => ?_) (fun c8 => ?_)
    · skip
      exact absurd c8 (by omega)
    · skip
      refine wa_iconst ?_
      refine wa_goto ⟨_, rfl⟩ ?_
      refine wb_iast 95 rfl (wy_pr rfl) wt_95 (n := 60) ((w_up_slot (by decide)).trans ((cl_95 hC))) (by omega) (by omega) ⟨(by omega), (by omega)⟩ ?_
      refine wa_aload_n (n := 0) rfl ?_
      refine wb_gf4 73 rfl (wy_pr rfl) wt_73 wf_3_1 (v := 86) wl_73_1 ?_
      refine wa_iconst ?_
      refine wb_aald5 86 4 rfl rfl (wy_pr rfl) wt_86 (by rw [show _ = _ from ((w_up_slot (by decide)).trans ((w_up_slot (by decide)).trans ((cl_86 hC))))]; omega) wl_86_4 ?_
      refine wa_iload_n (n := 1) rfl ?_
      refine wb_iald 91 rfl (wy_pr rfl) wt_91 (n := 60) ((w_up_slot (by decide)).trans ((w_up_slot (by decide)).trans ((cl_91 hC)))) (by omega) (by omega) (v := fi) ((w_up_slot (by decide)).trans ((w_up_slot (by decide)).trans (hfk))) (fun r9 => ?_)
      refine wa_istore_n (n := 3) rfl ?_
      refine wa_fall ⟨_, rfl⟩ ?_
      have e7 : 0 = f0 := by rw [hf1]; first | exact (if_pos (by omega)).symm | exact (if_neg (by omega)).symm
      have e8 : (-1) = x0 := by rw [hx1]; first | exact (if_pos (by omega)).symm | exact (if_neg (by omega)).symm
      rw [show (w_up (w_up S 94 kc 0) 95 kc (-1)) = (w_up (w_up S 94 kc f0) 95 kc x0) by rw [e7, e8]]
      have hmsS : ∀ (q : Nat) (r : hMR), rs[q]? = some r → mr_at 97 74 T (w_up (w_up S 94 kc f0) 95 kc x0) (fi + (q : Int)) r := fun q r hr => mr_at_ag (hms q r hr).1 (fun x hx => (w_up_slot (by omega)).trans (w_up_slot (by omega))) (fun x hx => funext fun y => (w_up_slot (by omega)).trans (w_up_slot (by omega)))
      have hle0 : le_I 97 87 116 117 118 119 fi kc n0 f0 x0 rs (w_up (w_up S 94 kc f0) 95 kc x0) (w_up (w_up S 94 kc f0) 95 kc x0) 0 := ⟨⟨fun _ _ _ _ _ _ _ _ _ _ => rfl, fun _ _ _ => ⟨rfl, rfl⟩⟩, ⟨hst.1.trans (by show n0 = n0 + 0; omega), ?_, ?_⟩, fun q r hq => absurd hq (Nat.not_lt_zero _), (show rw_S 116 117 118 (w_up (w_up S 94 kc f0) 95 kc x0) from hst.2.2), hgs, rmR_rfl _⟩
      · have hn00 : 0 ≤ n0 := by have := hst.2.2.1.1; have e := hst.1; omega
        refine wJ_S (ec5_73 (S := (w_up (w_up S 94 kc f0) 95 kc x0)) (kc := kc) (fi := fi) (n0 := n0) (f0 := f0) (x0 := x0) (rs := rs) hCs hk (fun q r hr => ⟨hmsS q r hr, hty q r hr⟩) hN hfi ⟨hf2, hf3⟩ ⟨hn00, hst.2.1⟩ ⟨hx2, hx3⟩ (fun Z1 z => ?_) (rs.length + 1) 0 (w_up (w_up S 94 kc f0) 95 kc x0) (by omega) (by omega) hle0) ⟨rfl, rfl, by rw [show fi + ((0 : Nat) : Int) = fi by omega]; rfl, trivial⟩
        have zr := z.1.1
        have zz : ∀ (j : Nat) (i : Int), j < 388 → j ≠ 117 → j ≠ 118 → j ≠ 116 → j ≠ 112 → j ≠ 113 → j ≠ 94 → j ≠ 95 → j ≠ 119 → Z1 j i = S j i := fun j i a1 a2 a3 a4 a5 a6 a7 a8 a9 => (zr j i (by omega) (by unfold wG; omega) a2 a3 (by omega) (by omega) (by omega) (by omega)).trans ((w_up_slot (by omega)).trans (w_up_slot (by omega)))
        have ez : ∀ j : Nat, j < 388 → j ≠ 117 → j ≠ 118 → j ≠ 116 → j ≠ 112 → j ≠ 113 → j ≠ 94 → j ≠ 95 → j ≠ 119 → Z1 j = S j := fun j a1 a2 a3 a4 a5 a6 a7 a8 a9 => funext fun i => zz j i a1 a2 a3 a4 a5 a6 a7 a8 a9
        have hC1 : w_CL Z1 := fun y hy => (zr y.1 (-1) (by have := (wz_lt y hy).1; omega) (by have := (wz_lt y hy).1; unfold wG; omega) (by intro e; exact absurd (wz_no y hy) (by rw [e]; decide)) (by intro e; exact absurd (wz_no y hy) (by rw [e]; decide)) (by omega) (by omega) (by omega) (by omega)).trans (hCs y hy)
        have hW1 : wd_at Z1 74 64 := wd_at_ag hW (fun x hx => ez _ (by omega) (by omega) (by omega) (by omega) (by omega) (by omega) (by omega) (by omega) (by omega))
        have hL1 : wd_L Z1 74 64 := wd_L_ag hL (fun x hx => zz _ _ (by omega) (by omega) (by omega) (by omega) (by omega) (by omega) (by omega) (by omega) (by omega))
        have hcb1 : cb_I 87 73 Z1 := by unfold cb_I; rw [ez 73 (by decide) (by decide) (by decide) (by decide) (by decide) (by decide) (by decide) (by decide) (by decide), ez (87 + 1) (by decide) (by decide) (by decide) (by decide) (by decide) (by decide) (by decide) (by decide) (by decide), ez (87 + 3) (by decide) (by decide) (by decide) (by decide) (by decide) (by decide) (by decide) (by decide) (by decide), ez (87 + 4) (by decide) (by decide) (by decide) (by decide) (by decide) (by decide) (by decide) (by decide) (by decide)]; exact hcb
        have hms1 : ∀ (q : Nat) (r : hMR), rs[q]? = some r → mr_at 97 74 T Z1 (fi + (q : Int)) r ∧ r.1 = kc ∧ (r.2.1 ≠ 2 → r.2.2.2.2.2.2.2 - r.2.2.2.2.2.2.1 ≤ 30) := fun q r hr => ⟨mr_at_ag (hms q r hr).1 (fun x hx => zz _ _ (by omega) (by omega) (by omega) (by omega) (by omega) (by omega) (by omega) (by omega) (by omega)) (fun x hx => ez _ (by omega) (by omega) (by omega) (by omega) (by omega) (by omega) (by omega) (by omega) (by omega)), (hms q r hr).2⟩
        have hN1 : Z1 73 4 = fi + (rs.length : Int) := (zz 73 4 (by decide) (by decide) (by decide) (by decide) (by decide) (by decide) (by decide) (by decide) (by decide)).trans hN
        have hk2 : Z1 73 2 = kc + 1 ∧ 0 ≤ kc ∧ kc < 60 := ⟨(zz 73 2 (by decide) (by decide) (by decide) (by decide) (by decide) (by decide) (by decide) (by decide) (by decide)).trans hk.1, hk.2⟩
        have z4k : Z1 91 kc = fi := (zz 91 kc (by decide) (by decide) (by decide) (by decide) (by decide) (by decide) (by decide) (by decide) (by decide)).trans hfk
        refine wa_aload_n (n := 0) rfl ?_
        refine wb_gf4 73 rfl (wy_pr rfl) wt_73 wf_3_1 (v := 86) wl_73_1 ?_
        refine wa_iconst ?_
        refine wb_aald5 86 4 rfl rfl (wy_pr rfl) wt_86 (by rw [show _ = _ from ((cl_86 hC1))]; omega) wl_86_4 ?_
        refine wa_iload_n (n := 1) rfl ?_
        refine wb_iald 91 rfl (wy_pr rfl) wt_91 (n := 60) ((cl_91 hC1)) (by omega) (by omega) (v := fi) (z4k) (fun r70 => ?_)
        refine wa_istore_n (n := 3) rfl ?_
        refine wa_fall ⟨_, rfl⟩ ?_
        refine wJ_mono (wJ_S (ec8_73 (S := Z1) hX hC1 hcb1 hW1 hL1 hk2 hms1 hN1 hfi.2 (rs.length + 1) 0 Z1 (by omega) (by omega) ⟨fun _ _ _ _ => rfl, fun _ _ _ _ => rfl, fun q r hq => absurd hq (Nat.not_lt_zero _), z.2.2.2.2.1, rmR_rfl _⟩) ⟨rfl, rfl, by rw [show fi + ((0 : Nat) : Int) = fi by omega]; rfl, trivial⟩) (fun o Z2 h2 => ⟨h2.1, Z1, z, h2.2⟩)
      · exact ((w_up_slot (by decide)).trans (w_up_same _ _ _ _)).trans (by show f0 = f0 + 0; omega)
      · exact w_up_same _ _ _ _
theorem ec8_162 {kc fi : Int} {rs : List hMR} (hX : w_X xs) (hC : w_CL S) (hcb : cb_I 176 162 S) (hW : wd_at S 163 64) (hL : wd_L S 163 64) (hk : S 162 2 = kc + 1 ∧ 0 ≤ kc ∧ kc < 60) (hms : ∀ (q : Nat) (r : hMR), rs[q]? = some r → mr_at 186 163 T S (fi + (q : Int)) r ∧ r.1 = kc ∧ (r.2.1 ≠ 2 → r.2.2.2.2.2.2.2 - r.2.2.2.2.2.2.1 ≤ 30)) (hN : S 162 4 = fi + (rs.length : Int)) (hfi : 0 ≤ fi ∧ fi + (rs.length : Int) ≤ 400) : ∀ (f k : Nat) (Z : wS), rs.length - k < f → k ≤ rs.length → l2_I 186 176 163 208 fi rs S Z k → wJ (pe_GA xs) wY0 (mS [206, 207]) (d + 8) t_XO_endClass ((pe_at t_XO_endClass.bl 8).getD (0, [])).2 [(0, (2, 162)), (1, (0, kc)), (3, (0, (fi + (k : Int))))] [] Z (fun o Z2 => o = .inl none ∧ l2_I 186 176 163 208 fi rs S Z2 rs.length) := by
  intro f
  induction f with
  | zero => intro k Z h; exact absurd h (Nat.not_lt_zero _)
  | succ f ih =>
    intro k Z hf hkl hz
    obtain ⟨z1, z2, z3, z4, z5⟩ := hz
    have hCz : w_CL Z := fun y hy => (z1 y.1 (-1) (by omega) (by omega)).trans (hC y hy)
    have er : ∀ j : Nat, j ≠ 208 → j ≠ 201 → Z j = S j := fun j h1 h2 => funext fun i => z1 j i (by omega) (by omega)
    have zN : Z 162 4 = fi + (rs.length : Int) := (z1 162 4 (by omega) (by omega)).trans hN
    have l15 : Z 201 (-1) = 400 := cl_201 hCz
    refine wa_iload_n (n := 3) rfl ?_
    refine wa_aload_n (n := 0) rfl ?_
    refine wb_gfi 162 rfl (wy_pr rfl) wt_162 wf_3_4 (v := (fi + (rs.length : Int))) (zN) (fun r1 => ?_)
    refine wa_icmpge (w_rg0 (by omega) (by omega)) (w_rg0 (by omega) (by omega)) ⟨_, rfl⟩ (fun c2 => ?_) (fun c2 => ?_)
    · skip
      refine wa_return rfl ?_
      have hke : k = rs.length := by omega
      subst hke
      exact ⟨rfl, z1, z2, z3, z4, z5⟩
    · skip
      have hkr : k < rs.length := by omega
      obtain ⟨g, hgk⟩ : ∃ g, rs[k]? = some g := ⟨_, List.getElem?_eq_getElem hkr⟩
      have hg := (hms k g hgk).1
      have hgc := (hms k g hgk).2.1
      have hg30 := (hms k g hgk).2.2
      have g1 : Z 187 (fi + (k : Int)) = g.2.1 := (congrFun (er 187 (by decide) (by decide)) _).trans hg.1.2.1
      refine wa_aload_n (n := 0) rfl ?_
      refine wb_gf4 162 rfl (wy_pr rfl) wt_162 wf_3_3 (v := 185) wl_162_3 ?_
      refine wa_iconst ?_
      refine wb_aald5 185 1 rfl rfl (wy_pr rfl) wt_185 (by rw [show _ = _ from ((cl_185 hCz))]; omega) wl_185_1 ?_
      refine wa_iload_n (n := 3) rfl ?_
      refine wb_iald 187 rfl (wy_pr rfl) wt_187 (n := 400) ((cl_187 hCz)) (by omega) (by omega) (v := (g.2.1)) (g1) (fun r3 => ?_)
      refine wa_iconst ?_
      refine wa_icmpne (w_rg0 (by omega) (by omega)) (w_rg0 (by omega) (by omega)) ⟨_, rfl⟩ (fun c4 => ?_) (fun c4 => ?_)
      · skip
        refine wa_iinc rfl rfl ?_
        refine wa_goto ⟨_, rfl⟩ ?_
        refine wJ_S (ih (k + 1) Z (by omega) (by omega) ⟨z1, fun q r hr hq => ?_, fun q r hq hr h1 => ?_, z4, z5⟩) ⟨rfl, rfl, by rw [show fi + ((k + 1 : Nat) : Int) = fi + (k : Int) + 1 by omega]; rfl, trivial⟩
        · by_cases hqk : q = k
          · subst hqk; exact z2 q r hr (Or.inr (Nat.le_refl _))
          · exact z2 q r hr (by omega)
        · by_cases hqk : q = k
          · subst hqk; rw [hgk] at hr; cases hr; exact absurd h1 (by omega)
          · exact z3 q r (by omega) hr h1
      · skip
        refine wa_aload_n (n := 0) rfl ?_
        refine wb_gf4 162 rfl (wy_pr rfl) wt_162 wf_3_3 (v := 185) wl_162_3 ?_
        refine wa_bipush (w_rg2 (by omega) (by omega)) ?_
        refine wb_aald5 185 15 rfl rfl (wy_pr rfl) wt_185 (by rw [show _ = _ from ((cl_185 hCz))]; omega) wl_185_15 ?_
        refine wa_iload_n (n := 3) rfl ?_
        refine wa_aload_n (n := 0) rfl ?_
        refine wa_iload_n (n := 3) rfl ?_
        have hwn := hg.2.2.2.2 (by omega)
        have hcbz : cb_I 176 162 Z := by unfold cb_I; rw [er 162 (by decide) (by decide), er (176 + 1) (by decide) (by decide), er (176 + 3) (by decide) (by decide), er (176 + 4) (by decide) (by decide)]; exact hcb
        have hWz : wd_at Z 163 64 := wd_at_ag hW (fun x hx => er _ (by omega) (by omega))
        have hLz : wd_L Z 163 64 := wd_L_ag hL (fun x hx => congrFun (er _ (by omega) (by omega)) _)
        have e0 : Z 186 (fi + (k : Int)) = kc := (congrFun (er 186 (by decide) (by decide)) _).trans (hg.1.1.trans hgc)
        have eh : Z 162 2 = kc + 1 := (congrFun (er 162 (by decide) (by decide)) 2).trans hk.1
        have e14 : Z 200 (fi + (k : Int)) = S 200 (fi + (k : Int)) := congrFun (er 200 (by decide) (by decide)) _
        have ew7 : Z 163 7 = S 163 7 := congrFun (er 163 (by decide) (by decide)) 7
        have ew3 : Z 166 = S 166 := er 166 (by decide) (by decide)
        have hw13 : 13 ≤ S 200 (fi + (k : Int)) ∧ S 200 (fi + (k : Int)) < S 163 7 := hwn.1
        have hwz : S 166 (S 200 (fi + (k : Int))) = g.2.2.2.2.2.2.2 - g.2.2.2.2.2.2.1 := hwn.2.1
        refine wa_cv 162 rfl (wy_pr rfl) wt_162 (M2 := fun _ => False) rfl at_XO_fieldOf ⟨_, rfl⟩ rfl rfl ⟨(Or.inr ⟨wy_pr rfl, fun q => q⟩), trivial, trivial, trivial⟩ ⟨trivial, (Or.inr ⟨wy_pr rfl, fun q => q⟩), trivial⟩ (fun _ _ q => False.elim q) (fo_162 (S := Z) (m := (fi + (k : Int))) hX z4 hCz hcbz hWz hLz ⟨by omega, by omega⟩ ⟨by omega, by omega⟩ ⟨by omega, by omega⟩ (by rw [e14, ew3, hwz]; exact hg30 (by omega))) (fun oq5 Sq5 hp6 q5 => ?_)
        rcases q5 with ⟨hd, x, rfl, f1, f2, f3, f4, f5⟩
        show wJ _ _ _ _ _ _ _ _ _ _
        generalize Sq5 = Zn at f1 f4 f5 ⊢
        have hCn : w_CL Zn := fun y hy => (f1 y.1 (-1) (by omega)).trans (hCz y hy)
        have hxr := fo_r_rg hcbz ⟨by show 0 ≤ Z 186 (fi + (k : Int)); omega, by show Z 186 (fi + (k : Int)) < Z 162 2; omega⟩ f3
        have f2S : fo_h S 186 163 (fi + (k : Int)) hd := fo_h_cg (fun j hj => er j (by omega) (by omega)) f2
        have f3S : fo_r S 186 176 163 (fi + (k : Int)) hd x := fo_r_cg (fun j hj => er j (by omega) (by omega)) f3
        refine wb_iast 201 rfl (wy_pr rfl) wt_201 (n := 400) ((cl_201 hCn)) (by omega) (by omega) ⟨(by omega), (by omega)⟩ ?_
        refine wa_fall ⟨_, rfl⟩ ?_
        refine wa_iinc rfl rfl ?_
        refine wa_goto ⟨_, rfl⟩ ?_
        have zn : ∀ (j : Nat) (i : Int), (j ≠ 208 ∨ i < 0) → (j ≠ 201 ∨ i ≠ (fi + (k : Int))) → (w_up Zn 201 (fi + (k : Int)) x) j i = Z j i := fun j i a1 a2 => (w_up_no (by omega)).trans (f1 j i a1)
        refine wJ_S (ih (k + 1) (w_up Zn 201 (fi + (k : Int)) x) (by omega) (by omega) ⟨fun j i a1 a2 => (zn j i a1 (by omega)).trans (z1 j i a1 a2), fun q r hr hq => ?_, fun q r hq hr h1 => ?_, (gI_up f4 (by omega) (by omega) (by omega)), rmR_tr z5 (rmR_up f5 (by omega) (by decide))⟩) ⟨rfl, rfl, by rw [show fi + ((k + 1 : Nat) : Int) = fi + (k : Int) + 1 by omega]; rfl, trivial⟩
        · have hqk : q ≠ k := fun e => by subst e; rw [hgk] at hr; cases hr; omega
          exact (zn 201 _ (by omega) (by omega)).trans (z2 q r hr (by omega))
        · by_cases hqk : q = k
          · subst hqk; exact ⟨hd, x, f2S, f3S, w_up_same _ _ _ _⟩
          · obtain ⟨h2, x2, y1, y2, y3⟩ := z3 q r (by omega) hr h1
            exact ⟨h2, x2, y1, y2, (zn 201 _ (by omega) (by omega)).trans y3⟩
theorem ec_162 {kc fi f0 x0 n0 : Int} {rs : List hMR} (hX : w_X xs) (hC : w_CL S) (hcb : cb_I 176 162 S) (hW : wd_at S 163 64) (hL : wd_L S 163 64) (hk : S 162 2 = kc + 1 ∧ 0 ≤ kc ∧ kc < 60) (hms : ∀ (q : Nat) (r : hMR), rs[q]? = some r → mr_at 186 163 T S (fi + (q : Int)) r ∧ r.1 = kc ∧ (r.2.1 ≠ 2 → r.2.2.2.2.2.2.2 - r.2.2.2.2.2.2.1 ≤ 30)) (hN : S 162 4 = fi + (rs.length : Int)) (hfi : S 180 kc = fi ∧ 0 ≤ fi ∧ fi + (rs.length : Int) ≤ 400) (hty : ∀ (q : Nat) (r : hMR), rs[q]? = some r → 0 ≤ r.2.2.2.1 ∧ r.2.2.2.1 ≤ 68) (hI : gI S) (hst : S 205 2 = n0 ∧ n0 ≤ 400 ∧ rw_S 205 206 207 S) (hf0 : f0 = (if S 177 kc = -1 then 0 else S 183 (S 177 kc)) ∧ 0 ≤ f0 ∧ f0 ≤ 1000) (hx0 : x0 = (if S 177 kc = -1 then -1 else S 184 (S 177 kc)) ∧ -1 ≤ x0 ∧ x0 < 400) : wJ (pe_GA xs) wY0 (mS [206, 207]) (d + 8) t_XO_endClass ((pe_at t_XO_endClass.bl 0).getD (0, [])).2 [(0, (2, 162))] [] S (fun o Z => o = .inl none ∧ ∃ Z1, le_I 186 176 205 206 207 208 fi kc n0 f0 x0 rs (w_up (w_up S 183 kc f0) 184 kc x0) Z1 rs.length ∧ l2_I 186 176 163 208 fi rs Z1 Z rs.length) := by
  have hk1 := hk.1
  have hA := hcb.2.2 kc hk.2.1 (by omega)
  have hA : (-1 ≤ S 177 kc ∧ S 177 kc < kc) ∧ 0 ≤ S 180 kc ∧ 0 ≤ S 179 kc ∧ S 180 kc + S 179 kc ≤ S 162 4 := hA
  have hfk := hfi.1
  obtain ⟨hf1, hf2, hf3⟩ := hf0
  obtain ⟨hx1, hx2, hx3⟩ := hx0
  have hCs : w_CL (w_up (w_up S 183 kc f0) 184 kc x0) := w_CL_up (w_CL_up hC (by omega)) (by omega)
  have hgs : gI (w_up (w_up S 183 kc f0) 184 kc x0) := gI_up (gI_up hI (by omega) (by omega) (by omega)) (by omega) (by omega) (by omega)
  refine wa_aload_n (n := 0) rfl ?_
  refine wb_gfi 162 rfl (wy_pr rfl) wt_162 wf_3_2 (v := (kc + 1)) (hk1) (fun r1 => ?_)
  refine wa_iconst ?_
  refine wa_isub ?_
  rw [show (((kc + 1) - 1) : Int) = kc by omega]
  refine wa_istore_n (n := 1) rfl ?_
  refine wa_aload_n (n := 0) rfl ?_
  refine wb_gf4 162 rfl (wy_pr rfl) wt_162 wf_3_1 (v := 175) wl_162_1 ?_
  refine wa_iconst ?_
  refine wb_aald5 175 1 rfl rfl (wy_pr rfl) wt_175 (by rw [show _ = _ from ((cl_175 hC))]; omega) wl_175_1 ?_
  refine wa_iload_n (n := 1) rfl ?_
  refine wb_iald 177 rfl (wy_pr rfl) wt_177 (n := 60) ((cl_177 hC)) (by omega) (by omega) (v := (S 177 kc)) rfl (fun r2 => ?_)
  refine wa_istore_n (n := 2) rfl ?_
  refine wa_aload_n (n := 0) rfl ?_
  refine wb_gf4 162 rfl (wy_pr rfl) wt_162 wf_3_1 (v := 175) wl_162_1 ?_
  refine wa_bipush (w_rg2 (by omega) (by omega)) ?_
  refine wb_aald5 175 7 rfl rfl (wy_pr rfl) wt_175 (by rw [show _ = _ from ((cl_175 hC))]; omega) wl_175_7 ?_
  refine wa_iload_n (n := 1) rfl ?_
  refine wa_iload_n (n := 2) rfl ?_
  refine wa_iconst ?_
  refine wa_icmpne (w_rg0 (by omega) (by omega)) (w_rg0 (by omega) (by omega)) ⟨_, rfl⟩ (fun c3 => ?_) (fun c3 => ?_)
  · skip
    refine wa_aload_n (n := 0) rfl ?_
    refine wb_gf4 162 rfl (wy_pr rfl) wt_162 wf_3_1 (v := 175) wl_162_1 ?_
    refine wa_bipush (w_rg2 (by omega) (by omega)) ?_
    refine wb_aald5 175 7 rfl rfl (wy_pr rfl) wt_175 (by rw [show _ = _ from ((cl_175 hC))]; omega) wl_175_7 ?_
    refine wa_iload_n (n := 2) rfl ?_
    refine wb_iald 183 rfl (wy_pr rfl) wt_183 (n := 60) ((cl_183 hC)) (by omega) (by omega) (v := (S 183 (S 177 kc))) rfl (fun r4 => ?_)
    refine wa_fall ⟨_, rfl⟩ ?_
    refine wb_iast 183 rfl (wy_pr rfl) wt_183 (n := 60) ((cl_183 hC)) (by omega) (by omega) ⟨(by omega), (by omega)⟩ ?_
    refine wa_aload_n (n := 0) rfl ?_
    refine wb_gf4 162 rfl (wy_pr rfl) wt_162 wf_3_1 (v := 175) wl_162_1 ?_
    refine wa_bipush (w_rg2 (by omega) (by omega)) ?_
    refine wb_aald5 175 8 rfl rfl (wy_pr rfl) wt_175 (by rw [show _ = _ from ((w_up_slot (by decide)).trans ((cl_175 hC)))]; omega) wl_175_8 ?_
    refine wa_iload_n (n := 1) rfl ?_
    refine wa_iload_n (n := 2) rfl ?_
    refine wa_iconst ?_
    refine wa_icmpne (w_rg0 (by omega) (by omega)) (w_rg0 (by omega) (by omega)) ⟨_, rfl⟩ (fun c5 => ?_) (fun c5 => ?_)
    · skip
      refine wa_aload_n (n := 0) rfl ?_
      refine wb_gf4 162 rfl (wy_pr rfl) wt_162 wf_3_1 (v := 175) wl_162_1 ?_
      refine wa_bipush (w_rg2 (by omega) (by omega)) ?_
      refine wb_aald5 175 8 rfl rfl (wy_pr rfl) wt_175 (by rw [show _ = _ from ((w_up_slot (by decide)).trans ((cl_175 hC)))]; omega) wl_175_8 ?_
      refine wa_iload_n (n := 2) rfl ?_
      refine wb_iald 184 rfl (wy_pr rfl) wt_184 (n := 60) ((w_up_slot (by decide)).trans ((cl_184 hC))) (by omega) (by omega) (v := (S 184 (S 177 kc))) (w_up_slot (by decide)) (fun r6 => ?_)
      refine wa_fall ⟨_, rfl⟩ ?_
      refine wb_iast 184 rfl (wy_pr rfl) wt_184 (n := 60) ((w_up_slot (by decide)).trans ((cl_184 hC))) (by omega) (by omega) ⟨(by omega), (by omega)⟩ ?_
      refine wa_aload_n (n := 0) rfl ?_
      refine wb_gf4 162 rfl (wy_pr rfl) wt_162 wf_3_1 (v := 175) wl_162_1 ?_
      refine wa_iconst ?_
      refine wb_aald5 175 4 rfl rfl (wy_pr rfl) wt_175 (by rw [show _ = _ from ((w_up_slot (by decide)).trans ((w_up_slot (by decide)).trans ((cl_175 hC))))]; omega) wl_175_4 ?_
      refine wa_iload_n (n := 1) rfl ?_
      refine wb_iald 180 rfl (wy_pr rfl) wt_180 (n := 60) ((w_up_slot (by decide)).trans ((w_up_slot (by decide)).trans ((cl_180 hC)))) (by omega) (by omega) (v := fi) ((w_up_slot (by decide)).trans ((w_up_slot (by decide)).trans (hfk))) (fun r7 => ?_)
      refine wa_istore_n (n := 3) rfl ?_
      refine wa_fall ⟨_, rfl⟩ ?_
      have e7 : (S 183 (S 177 kc)) = f0 := by rw [hf1]; first | exact (if_pos (by omega)).symm | exact (if_neg (by omega)).symm
      have e8 : (S 184 (S 177 kc)) = x0 := by rw [hx1]; first | exact (if_pos (by omega)).symm | exact (if_neg (by omega)).symm
      rw [show (w_up (w_up S 183 kc (S 183 (S 177 kc))) 184 kc (S 184 (S 177 kc))) = (w_up (w_up S 183 kc f0) 184 kc x0) by rw [e7, e8]]
      have hmsS : ∀ (q : Nat) (r : hMR), rs[q]? = some r → mr_at 186 163 T (w_up (w_up S 183 kc f0) 184 kc x0) (fi + (q : Int)) r := fun q r hr => mr_at_ag (hms q r hr).1 (fun x hx => (w_up_slot (by omega)).trans (w_up_slot (by omega))) (fun x hx => funext fun y => (w_up_slot (by omega)).trans (w_up_slot (by omega)))
      have hle0 : le_I 186 176 205 206 207 208 fi kc n0 f0 x0 rs (w_up (w_up S 183 kc f0) 184 kc x0) (w_up (w_up S 183 kc f0) 184 kc x0) 0 := ⟨⟨fun _ _ _ _ _ _ _ _ _ _ => rfl, fun _ _ _ => ⟨rfl, rfl⟩⟩, ⟨hst.1.trans (by show n0 = n0 + 0; omega), ?_, ?_⟩, fun q r hq => absurd hq (Nat.not_lt_zero _), (show rw_S 205 206 207 (w_up (w_up S 183 kc f0) 184 kc x0) from hst.2.2), hgs, rmR_rfl _⟩
      · have hn00 : 0 ≤ n0 := by have := hst.2.2.1.1; have e := hst.1; omega
        refine wJ_S (ec5_162 (S := (w_up (w_up S 183 kc f0) 184 kc x0)) (kc := kc) (fi := fi) (n0 := n0) (f0 := f0) (x0 := x0) (rs := rs) hCs hk (fun q r hr => ⟨hmsS q r hr, hty q r hr⟩) hN hfi ⟨hf2, hf3⟩ ⟨hn00, hst.2.1⟩ ⟨hx2, hx3⟩ (fun Z1 z => ?_) (rs.length + 1) 0 (w_up (w_up S 183 kc f0) 184 kc x0) (by omega) (by omega) hle0) ⟨rfl, rfl, by rw [show fi + ((0 : Nat) : Int) = fi by omega]; rfl, trivial⟩
        have zr := z.1.1
        have zz : ∀ (j : Nat) (i : Int), j < 388 → j ≠ 206 → j ≠ 207 → j ≠ 205 → j ≠ 201 → j ≠ 202 → j ≠ 183 → j ≠ 184 → j ≠ 208 → Z1 j i = S j i := fun j i a1 a2 a3 a4 a5 a6 a7 a8 a9 => (zr j i (by omega) (by unfold wG; omega) a2 a3 (by omega) (by omega) (by omega) (by omega)).trans ((w_up_slot (by omega)).trans (w_up_slot (by omega)))
        have ez : ∀ j : Nat, j < 388 → j ≠ 206 → j ≠ 207 → j ≠ 205 → j ≠ 201 → j ≠ 202 → j ≠ 183 → j ≠ 184 → j ≠ 208 → Z1 j = S j := fun j a1 a2 a3 a4 a5 a6 a7 a8 a9 => funext fun i => zz j i a1 a2 a3 a4 a5 a6 a7 a8 a9
        have hC1 : w_CL Z1 := fun y hy => (zr y.1 (-1) (by have := (wz_lt y hy).1; omega) (by have := (wz_lt y hy).1; unfold wG; omega) (by intro e; exact absurd (wz_no y hy) (by rw [e]; decide)) (by intro e; exact absurd (wz_no y hy) (by rw [e]; decide)) (by omega) (by omega) (by omega) (by omega)).trans (hCs y hy)
        have hW1 : wd_at Z1 163 64 := wd_at_ag hW (fun x hx => ez _ (by omega) (by omega) (by omega) (by omega) (by omega) (by omega) (by omega) (by omega) (by omega))
        have hL1 : wd_L Z1 163 64 := wd_L_ag hL (fun x hx => zz _ _ (by omega) (by omega) (by omega) (by omega) (by omega) (by omega) (by omega) (by omega) (by omega))
        have hcb1 : cb_I 176 162 Z1 := by unfold cb_I; rw [ez 162 (by decide) (by decide) (by decide) (by decide) (by decide) (by decide) (by decide) (by decide) (by decide), ez (176 + 1) (by decide) (by decide) (by decide) (by decide) (by decide) (by decide) (by decide) (by decide) (by decide), ez (176 + 3) (by decide) (by decide) (by decide) (by decide) (by decide) (by decide) (by decide) (by decide) (by decide), ez (176 + 4) (by decide) (by decide) (by decide) (by decide) (by decide) (by decide) (by decide) (by decide) (by decide)]; exact hcb
        have hms1 : ∀ (q : Nat) (r : hMR), rs[q]? = some r → mr_at 186 163 T Z1 (fi + (q : Int)) r ∧ r.1 = kc ∧ (r.2.1 ≠ 2 → r.2.2.2.2.2.2.2 - r.2.2.2.2.2.2.1 ≤ 30) := fun q r hr => ⟨mr_at_ag (hms q r hr).1 (fun x hx => zz _ _ (by omega) (by omega) (by omega) (by omega) (by omega) (by omega) (by omega) (by omega) (by omega)) (fun x hx => ez _ (by omega) (by omega) (by omega) (by omega) (by omega) (by omega) (by omega) (by omega) (by omega)), (hms q r hr).2⟩
        have hN1 : Z1 162 4 = fi + (rs.length : Int) := (zz 162 4 (by decide) (by decide) (by decide) (by decide) (by decide) (by decide) (by decide) (by decide) (by decide)).trans hN
        have hk2 : Z1 162 2 = kc + 1 ∧ 0 ≤ kc ∧ kc < 60 := ⟨(zz 162 2 (by decide) (by decide) (by decide) (by decide) (by decide) (by decide) (by decide) (by decide) (by decide)).trans hk.1, hk.2⟩
        have z4k : Z1 180 kc = fi := (zz 180 kc (by decide) (by decide) (by decide) (by decide) (by decide) (by decide) (by decide) (by decide) (by decide)).trans hfk
        refine wa_aload_n (n := 0) rfl ?_
        refine wb_gf4 162 rfl (wy_pr rfl) wt_162 wf_3_1 (v := 175) wl_162_1 ?_
        refine wa_iconst ?_
        refine wb_aald5 175 4 rfl rfl (wy_pr rfl) wt_175 (by rw [show _ = _ from ((cl_175 hC1))]; omega) wl_175_4 ?_
        refine wa_iload_n (n := 1) rfl ?_
        refine wb_iald 180 rfl (wy_pr rfl) wt_180 (n := 60) ((cl_180 hC1)) (by omega) (by omega) (v := fi) (z4k) (fun r68 => ?_)
        refine wa_istore_n (n := 3) rfl ?_
        refine wa_fall ⟨_, rfl⟩ ?_
        refine wJ_mono (wJ_S (ec8_162 (S := Z1) hX hC1 hcb1 hW1 hL1 hk2 hms1 hN1 hfi.2 (rs.length + 1) 0 Z1 (by omega) (by omega) ⟨fun _ _ _ _ => rfl, fun _ _ _ _ => rfl, fun q r hq => absurd hq (Nat.not_lt_zero _), z.2.2.2.2.1, rmR_rfl _⟩) ⟨rfl, rfl, by rw [show fi + ((0 : Nat) : Int) = fi by omega]; rfl, trivial⟩) (fun o Z2 h2 => ⟨h2.1, Z1, z, h2.2⟩)
      · exact ((w_up_slot (by decide)).trans (w_up_same _ _ _ _)).trans (by show f0 = f0 + 0; omega)
      · exact w_up_same _ _ _ _
    · skip
      exact absurd c5 (by omega)
  · skip
    refine wa_iconst ?_
    refine wa_goto ⟨_, rfl⟩ ?_
    refine wb_iast 183 rfl (wy_pr rfl) wt_183 (n := 60) ((cl_183 hC)) (by omega) (by omega) ⟨(by omega), (by omega)⟩ ?_
    refine wa_aload_n (n := 0) rfl ?_
    refine wb_gf4 162 rfl (wy_pr rfl) wt_162 wf_3_1 (v := 175) wl_162_1 ?_
    refine wa_bipush (w_rg2 (by omega) (by omega)) ?_
    refine wb_aald5 175 8 rfl rfl (wy_pr rfl) wt_175 (by rw [show _ = _ from ((w_up_slot (by decide)).trans ((cl_175 hC)))]; omega) wl_175_8 ?_
    refine wa_iload_n (n := 1) rfl ?_
    refine wa_iload_n (n := 2) rfl ?_
    refine wa_iconst ?_
    refine wa_icmpne (w_rg0 (by omega) (by omega)) (w_rg0 (by omega) (by omega)) ⟨_, rfl⟩ (fun c8 => ?_) (fun c8 => ?_)
    · skip
      exact absurd c8 (by omega)
    · skip
      refine wa_iconst ?_
      refine wa_goto ⟨_, rfl⟩ ?_
      refine wb_iast 184 rfl (wy_pr rfl) wt_184 (n := 60) ((w_up_slot (by decide)).trans ((cl_184 hC))) (by omega) (by omega) ⟨(by omega), (by omega)⟩ ?_
      refine wa_aload_n (n := 0) rfl ?_
      refine wb_gf4 162 rfl (wy_pr rfl) wt_162 wf_3_1 (v := 175) wl_162_1 ?_
      refine wa_iconst ?_
      refine wb_aald5 175 4 rfl rfl (wy_pr rfl) wt_175 (by rw [show _ = _ from ((w_up_slot (by decide)).trans ((w_up_slot (by decide)).trans ((cl_175 hC))))]; omega) wl_175_4 ?_
      refine wa_iload_n (n := 1) rfl ?_
      refine wb_iald 180 rfl (wy_pr rfl) wt_180 (n := 60) ((w_up_slot (by decide)).trans ((w_up_slot (by decide)).trans ((cl_180 hC)))) (by omega) (by omega) (v := fi) ((w_up_slot (by decide)).trans ((w_up_slot (by decide)).trans (hfk))) (fun r9 => ?_)
      refine wa_istore_n (n := 3) rfl ?_
      refine wa_fall ⟨_, rfl⟩ ?_
      have e7 : 0 = f0 := by rw [hf1]; first | exact (if_pos (by omega)).symm | exact (if_neg (by omega)).symm
      have e8 : (-1) = x0 := by rw [hx1]; first | exact (if_pos (by omega)).symm | exact (if_neg (by omega)).symm
      rw [show (w_up (w_up S 183 kc 0) 184 kc (-1)) = (w_up (w_up S 183 kc f0) 184 kc x0) by rw [e7, e8]]
      have hmsS : ∀ (q : Nat) (r : hMR), rs[q]? = some r → mr_at 186 163 T (w_up (w_up S 183 kc f0) 184 kc x0) (fi + (q : Int)) r := fun q r hr => mr_at_ag (hms q r hr).1 (fun x hx => (w_up_slot (by omega)).trans (w_up_slot (by omega))) (fun x hx => funext fun y => (w_up_slot (by omega)).trans (w_up_slot (by omega)))
      have hle0 : le_I 186 176 205 206 207 208 fi kc n0 f0 x0 rs (w_up (w_up S 183 kc f0) 184 kc x0) (w_up (w_up S 183 kc f0) 184 kc x0) 0 := ⟨⟨fun _ _ _ _ _ _ _ _ _ _ => rfl, fun _ _ _ => ⟨rfl, rfl⟩⟩, ⟨hst.1.trans (by show n0 = n0 + 0; omega), ?_, ?_⟩, fun q r hq => absurd hq (Nat.not_lt_zero _), (show rw_S 205 206 207 (w_up (w_up S 183 kc f0) 184 kc x0) from hst.2.2), hgs, rmR_rfl _⟩
      · have hn00 : 0 ≤ n0 := by have := hst.2.2.1.1; have e := hst.1; omega
        refine wJ_S (ec5_162 (S := (w_up (w_up S 183 kc f0) 184 kc x0)) (kc := kc) (fi := fi) (n0 := n0) (f0 := f0) (x0 := x0) (rs := rs) hCs hk (fun q r hr => ⟨hmsS q r hr, hty q r hr⟩) hN hfi ⟨hf2, hf3⟩ ⟨hn00, hst.2.1⟩ ⟨hx2, hx3⟩ (fun Z1 z => ?_) (rs.length + 1) 0 (w_up (w_up S 183 kc f0) 184 kc x0) (by omega) (by omega) hle0) ⟨rfl, rfl, by rw [show fi + ((0 : Nat) : Int) = fi by omega]; rfl, trivial⟩
        have zr := z.1.1
        have zz : ∀ (j : Nat) (i : Int), j < 388 → j ≠ 206 → j ≠ 207 → j ≠ 205 → j ≠ 201 → j ≠ 202 → j ≠ 183 → j ≠ 184 → j ≠ 208 → Z1 j i = S j i := fun j i a1 a2 a3 a4 a5 a6 a7 a8 a9 => (zr j i (by omega) (by unfold wG; omega) a2 a3 (by omega) (by omega) (by omega) (by omega)).trans ((w_up_slot (by omega)).trans (w_up_slot (by omega)))
        have ez : ∀ j : Nat, j < 388 → j ≠ 206 → j ≠ 207 → j ≠ 205 → j ≠ 201 → j ≠ 202 → j ≠ 183 → j ≠ 184 → j ≠ 208 → Z1 j = S j := fun j a1 a2 a3 a4 a5 a6 a7 a8 a9 => funext fun i => zz j i a1 a2 a3 a4 a5 a6 a7 a8 a9
        have hC1 : w_CL Z1 := fun y hy => (zr y.1 (-1) (by have := (wz_lt y hy).1; omega) (by have := (wz_lt y hy).1; unfold wG; omega) (by intro e; exact absurd (wz_no y hy) (by rw [e]; decide)) (by intro e; exact absurd (wz_no y hy) (by rw [e]; decide)) (by omega) (by omega) (by omega) (by omega)).trans (hCs y hy)
        have hW1 : wd_at Z1 163 64 := wd_at_ag hW (fun x hx => ez _ (by omega) (by omega) (by omega) (by omega) (by omega) (by omega) (by omega) (by omega) (by omega))
        have hL1 : wd_L Z1 163 64 := wd_L_ag hL (fun x hx => zz _ _ (by omega) (by omega) (by omega) (by omega) (by omega) (by omega) (by omega) (by omega) (by omega))
        have hcb1 : cb_I 176 162 Z1 := by unfold cb_I; rw [ez 162 (by decide) (by decide) (by decide) (by decide) (by decide) (by decide) (by decide) (by decide) (by decide), ez (176 + 1) (by decide) (by decide) (by decide) (by decide) (by decide) (by decide) (by decide) (by decide) (by decide), ez (176 + 3) (by decide) (by decide) (by decide) (by decide) (by decide) (by decide) (by decide) (by decide) (by decide), ez (176 + 4) (by decide) (by decide) (by decide) (by decide) (by decide) (by decide) (by decide) (by decide) (by decide)]; exact hcb
        have hms1 : ∀ (q : Nat) (r : hMR), rs[q]? = some r → mr_at 186 163 T Z1 (fi + (q : Int)) r ∧ r.1 = kc ∧ (r.2.1 ≠ 2 → r.2.2.2.2.2.2.2 - r.2.2.2.2.2.2.1 ≤ 30) := fun q r hr => ⟨mr_at_ag (hms q r hr).1 (fun x hx => zz _ _ (by omega) (by omega) (by omega) (by omega) (by omega) (by omega) (by omega) (by omega) (by omega)) (fun x hx => ez _ (by omega) (by omega) (by omega) (by omega) (by omega) (by omega) (by omega) (by omega) (by omega)), (hms q r hr).2⟩
        have hN1 : Z1 162 4 = fi + (rs.length : Int) := (zz 162 4 (by decide) (by decide) (by decide) (by decide) (by decide) (by decide) (by decide) (by decide) (by decide)).trans hN
        have hk2 : Z1 162 2 = kc + 1 ∧ 0 ≤ kc ∧ kc < 60 := ⟨(zz 162 2 (by decide) (by decide) (by decide) (by decide) (by decide) (by decide) (by decide) (by decide) (by decide)).trans hk.1, hk.2⟩
        have z4k : Z1 180 kc = fi := (zz 180 kc (by decide) (by decide) (by decide) (by decide) (by decide) (by decide) (by decide) (by decide) (by decide)).trans hfk
        refine wa_aload_n (n := 0) rfl ?_
        refine wb_gf4 162 rfl (wy_pr rfl) wt_162 wf_3_1 (v := 175) wl_162_1 ?_
        refine wa_iconst ?_
        refine wb_aald5 175 4 rfl rfl (wy_pr rfl) wt_175 (by rw [show _ = _ from ((cl_175 hC1))]; omega) wl_175_4 ?_
        refine wa_iload_n (n := 1) rfl ?_
        refine wb_iald 180 rfl (wy_pr rfl) wt_180 (n := 60) ((cl_180 hC1)) (by omega) (by omega) (v := fi) (z4k) (fun r70 => ?_)
        refine wa_istore_n (n := 3) rfl ?_
        refine wa_fall ⟨_, rfl⟩ ?_
        refine wJ_mono (wJ_S (ec8_162 (S := Z1) hX hC1 hcb1 hW1 hL1 hk2 hms1 hN1 hfi.2 (rs.length + 1) 0 Z1 (by omega) (by omega) ⟨fun _ _ _ _ => rfl, fun _ _ _ _ => rfl, fun q r hq => absurd hq (Nat.not_lt_zero _), z.2.2.2.2.1, rmR_rfl _⟩) ⟨rfl, rfl, by rw [show fi + ((0 : Nat) : Int) = fi by omega]; rfl, trivial⟩) (fun o Z2 h2 => ⟨h2.1, Z1, z, h2.2⟩)
      · exact ((w_up_slot (by decide)).trans (w_up_same _ _ _ _)).trans (by show f0 = f0 + 0; omega)
      · exact w_up_same _ _ _ _
end W9z
