/-! PART im: the loops of steps, of both sides. -/
section Wim
variable {xs : List (Nat × List Int32)} {M : Nat → Prop} {d : Nat} {S Z : wS} {Q : wO → wS → Prop} {α : Type} {run : α → Prop} {t n : Int}
/-- up to so many steps: how many are done, where they lead -/
def lpN (run : α → Prop) (stp : α → Int → α → Prop) : Nat → α → Int → α → Prop
  | 0, a, k, b => k = 0 ∧ a = b
  | f + 1, a, k, b => (run a ∧ ∃ e c, stp a e c ∧ lpN run stp f c (k - e) b) ∨ (¬ run a ∧ k = 0 ∧ a = b)
theorem lpN_s {stp : α → Int → α → Prop} : ∀ (f : Nat) {a b : α} {k : Int}, ¬ run a → lpN run stp f a k b → k = 0 ∧ a = b
  | 0, _, _, _, _, h => h
  | f + 1, _, _, _, hr, h => h.elim (fun z => absurd z.1 hr) (fun z => z.2)
theorem lpN_m {s1 s2 : α → Int → α → Prop} (h : ∀ a e c, s1 a e c → s2 a e c) : ∀ (f : Nat) {a b : α} {k : Int}, lpN run s1 f a k b → lpN run s2 f a k b
  | 0, _, _, _, g => g
  | f + 1, _, _, _, g => g.elim (fun ⟨z, e, c, g1, g2⟩ => Or.inl ⟨z, e, c, h _ _ _ g1, lpN_m h f g2⟩) Or.inr
theorem lpN_x {stp : α → Int → α → Prop} {wf : α → Prop} (h : ∀ a, wf a → run a → ∃ e c, stp a e c ∧ wf c ∧ (e = 0 ∨ e = 1)) : ∀ (f : Nat) (a : α), wf a → ∃ k b, lpN run stp f a k b ∧ wf b ∧ 0 ≤ k ∧ k ≤ (f : Int)
  | 0, a, w => ⟨0, a, ⟨rfl, rfl⟩, w, by omega, by omega⟩
  | f + 1, a, w => by
    by_cases r : run a
    · obtain ⟨e, c, h1, h2, h3⟩ := h a w r
      obtain ⟨k, b, g1, g2, g3, g4⟩ := lpN_x h f c h2
      exact ⟨k + e, b, Or.inl ⟨r, e, c, h1, by rw [show k + e - e = k by omega]; exact g1⟩, g2, by omega, by omega⟩
    · exact ⟨0, a, Or.inr ⟨r, rfl, rfl⟩, w, by omega, by omega⟩
/-- a step of the class leads from a to c -/
def lpC (xs : List (Nat × List Int32)) (M : Nat → Prop) (d w : Nat) (R : α → wS → Prop) (a : α) (e : Int) (c : α) : Prop := (e = 0 ∨ e = 1) ∧ ∀ S : wS, R a S → wJ (pe_GA xs) wY0 M d t_XK_step ((pe_at t_XK_step.bl 0).getD (0, [])).2 [(0, (2, (w : Int)))] [] S (fun o Z => o = .inl (some (0, e)) ∧ R c Z)
/-- a turn of the reference leads from a to c -/
def lpR (xs : List (Nat × List Int32)) (d : Nat) (t : Int) (run : α → Prop) (R : α → wS → Prop) (a : α) (e : Int) (c : α) : Prop := (e = 0 ∨ e = 1) ∧ (e = 0 → ¬ run c) ∧ ∀ S : wS, R a S → rTurn xs d t S (fun Z dn => dn = e ∧ (w_ML Z → R c Z))
theorem xssl_215 {R : α → wS → Prop} {b : α} (hR : ∀ a S, R a S → (S 215 13 = 1 ↔ run a)) (hM0 : ¬ M 0) (hMw : ¬ M 215) (hn : n ≤ 1000) : ∀ (f : Nat) (i k0 k : Int) (a : α) (S : wS), i + (f : Int) = n → (0 ≤ i ∧ 0 ≤ k0 ∧ k0 ≤ i) → R a S → lpN run (lpC xs M d 215 R) f a k b → wJ (pe_GA xs) wY0 M (d + 1) t_X_steps ((pe_at t_X_steps.bl 4).getD (0, [])).2 [(0, (2, 0)), (1, (0, t)), (2, (0, n)), (3, (2, 215)), (4, (0, k0)), (5, (0, i))] [] S (fun o Z => o = .inl (some (0, k0 + k)) ∧ R b Z) := by
  intro f
  induction f with
  | zero =>
    intro i k0 k a S hi h0 hRa hch
    obtain ⟨rfl, rfl⟩ := hch
    refine wa_iload (n := 5) rfl ?_
    refine wa_iload_n (n := 2) rfl ?_
    refine wa_icmpge (w_rg0 (by omega) (by omega)) (w_rg0 (by omega) (by omega)) ⟨_, rfl⟩ (fun c1 => ?_) (fun c1 => ?_)
    · skip
      refine wa_iload (n := 4) rfl ?_
      refine wa_ireturn rfl ?_
      exact ⟨congrArg (fun z => Sum.inl (some (0, z))) (by omega), hRa⟩
    · skip
      exfalso; omega
  | succ f ih =>
    intro i k0 k a S hi h0 hRa hch
    have hrn := hR a S hRa
    rcases hch with ⟨hr, e, c, ⟨he, hst⟩, hch⟩ | ⟨hr, rfl, rfl⟩
    · skip
      refine wa_iload (n := 5) rfl ?_
      refine wa_iload_n (n := 2) rfl ?_
      refine wa_icmpge (w_rg0 (by omega) (by omega)) (w_rg0 (by omega) (by omega)) ⟨_, rfl⟩ (fun c101 => ?_) (fun c101 => ?_)
      · skip
        exfalso; omega
      · skip
        refine wa_aload_n (n := 3) rfl ?_
        refine wb_gfi 215 rfl (wy_pr rfl) wt_215 wf_8_13 (v := (S 215 13)) rfl (fun r102 => ?_)
        refine wa_iconst ?_
        refine wa_icmpne (w_rg0 (by omega) (by omega)) (w_rg0 (by omega) (by omega)) ⟨_, rfl⟩ (fun c103 => ?_) (fun c103 => ?_)
        · skip
          exact absurd (hrn.mpr hr) (by omega)
        · skip
          refine wa_aload_n (n := 3) rfl ?_
          refine wa_cv 215 rfl (wy_pr rfl) wt_215 (M2 := M) rfl at_XK_step ⟨_, rfl⟩ rfl rfl ⟨(Or.inr ⟨wy_pr rfl, (by first | exact hM0 | exact hMw)⟩), trivial, trivial, (Or.inr ⟨wy_pr rfl, (by first | exact hM0 | exact hMw)⟩), trivial, trivial, trivial⟩ trivial (fun _ _ q => q) (hst S hRa) (fun oq104 Sq104 hp105 q104 => ?_)
          rcases q104 with ⟨rfl, hz⟩
          show wJ _ _ _ _ _ _ _ _ _ _
          refine wa_ifeq (w_rg0 (by omega) (by omega)) ⟨_, rfl⟩ (fun c106 => ?_) (fun c106 => ?_)
          · skip
            refine wa_iinc rfl rfl ?_
            refine wa_goto ⟨_, rfl⟩ ?_
            refine wJ_mono (wJ_S (ih (i + 1) k0 (k - e) c _ (by omega) (by omega) hz hch) ⟨rfl, rfl, rfl, rfl, rfl, rfl, trivial⟩) (fun o Z hq => ⟨hq.1.trans (congrArg (fun z => Sum.inl (some (0, z))) (by omega)), hq.2⟩)
          · skip
            refine wa_iinc rfl rfl ?_
            refine wa_fall ⟨_, rfl⟩ ?_
            refine wa_iinc rfl rfl ?_
            refine wa_goto ⟨_, rfl⟩ ?_
            refine wJ_mono (wJ_S (ih (i + 1) (k0 + 1) (k - e) c _ (by omega) (by omega) hz hch) ⟨rfl, rfl, rfl, rfl, rfl, rfl, trivial⟩) (fun o Z hq => ⟨hq.1.trans (congrArg (fun z => Sum.inl (some (0, z))) (by omega)), hq.2⟩)
    · skip
      refine wa_iload (n := 5) rfl ?_
      refine wa_iload_n (n := 2) rfl ?_
      refine wa_icmpge (w_rg0 (by omega) (by omega)) (w_rg0 (by omega) (by omega)) ⟨_, rfl⟩ (fun c201 => ?_) (fun c201 => ?_)
      · skip
        exfalso; omega
      · skip
        refine wa_aload_n (n := 3) rfl ?_
        refine wb_gfi 215 rfl (wy_pr rfl) wt_215 wf_8_13 (v := (S 215 13)) rfl (fun r202 => ?_)
        refine wa_iconst ?_
        refine wa_icmpne (w_rg0 (by omega) (by omega)) (w_rg0 (by omega) (by omega)) ⟨_, rfl⟩ (fun c203 => ?_) (fun c203 => ?_)
        · skip
          refine wa_iload (n := 4) rfl ?_
          refine wa_ireturn rfl ?_
          exact ⟨congrArg (fun z => Sum.inl (some (0, z))) (by omega), hRa⟩
        · skip
          exact absurd (hrn.mp (by omega)) hr
theorem xssl_226 {R : α → wS → Prop} {b : α} (hR : ∀ a S, R a S → (S 226 13 = 1 ↔ run a)) (hM0 : ¬ M 0) (hMw : ¬ M 226) (hn : n ≤ 1000) : ∀ (f : Nat) (i k0 k : Int) (a : α) (S : wS), i + (f : Int) = n → (0 ≤ i ∧ 0 ≤ k0 ∧ k0 ≤ i) → R a S → lpN run (lpC xs M d 226 R) f a k b → wJ (pe_GA xs) wY0 M (d + 1) t_X_steps ((pe_at t_X_steps.bl 4).getD (0, [])).2 [(0, (2, 0)), (1, (0, t)), (2, (0, n)), (3, (2, 226)), (4, (0, k0)), (5, (0, i))] [] S (fun o Z => o = .inl (some (0, k0 + k)) ∧ R b Z) := by
  intro f
  induction f with
  | zero =>
    intro i k0 k a S hi h0 hRa hch
    obtain ⟨rfl, rfl⟩ := hch
    refine wa_iload (n := 5) rfl ?_
    refine wa_iload_n (n := 2) rfl ?_
    refine wa_icmpge (w_rg0 (by omega) (by omega)) (w_rg0 (by omega) (by omega)) ⟨_, rfl⟩ (fun c1 => ?_) (fun c1 => ?_)
    · skip
      refine wa_iload (n := 4) rfl ?_
      refine wa_ireturn rfl ?_
      exact ⟨congrArg (fun z => Sum.inl (some (0, z))) (by omega), hRa⟩
    · skip
      exfalso; omega
  | succ f ih =>
    intro i k0 k a S hi h0 hRa hch
    have hrn := hR a S hRa
    rcases hch with ⟨hr, e, c, ⟨he, hst⟩, hch⟩ | ⟨hr, rfl, rfl⟩
    · skip
      refine wa_iload (n := 5) rfl ?_
      refine wa_iload_n (n := 2) rfl ?_
      refine wa_icmpge (w_rg0 (by omega) (by omega)) (w_rg0 (by omega) (by omega)) ⟨_, rfl⟩ (fun c101 => ?_) (fun c101 => ?_)
      · skip
        exfalso; omega
      · skip
        refine wa_aload_n (n := 3) rfl ?_
        refine wb_gfi 226 rfl (wy_pr rfl) wt_226 wf_8_13 (v := (S 226 13)) rfl (fun r102 => ?_)
        refine wa_iconst ?_
        refine wa_icmpne (w_rg0 (by omega) (by omega)) (w_rg0 (by omega) (by omega)) ⟨_, rfl⟩ (fun c103 => ?_) (fun c103 => ?_)
        · skip
          exact absurd (hrn.mpr hr) (by omega)
        · skip
          refine wa_aload_n (n := 3) rfl ?_
          refine wa_cv 226 rfl (wy_pr rfl) wt_226 (M2 := M) rfl at_XK_step ⟨_, rfl⟩ rfl rfl ⟨(Or.inr ⟨wy_pr rfl, (by first | exact hM0 | exact hMw)⟩), trivial, trivial, (Or.inr ⟨wy_pr rfl, (by first | exact hM0 | exact hMw)⟩), trivial, trivial, trivial⟩ trivial (fun _ _ q => q) (hst S hRa) (fun oq104 Sq104 hp105 q104 => ?_)
          rcases q104 with ⟨rfl, hz⟩
          show wJ _ _ _ _ _ _ _ _ _ _
          refine wa_ifeq (w_rg0 (by omega) (by omega)) ⟨_, rfl⟩ (fun c106 => ?_) (fun c106 => ?_)
          · skip
            refine wa_iinc rfl rfl ?_
            refine wa_goto ⟨_, rfl⟩ ?_
            refine wJ_mono (wJ_S (ih (i + 1) k0 (k - e) c _ (by omega) (by omega) hz hch) ⟨rfl, rfl, rfl, rfl, rfl, rfl, trivial⟩) (fun o Z hq => ⟨hq.1.trans (congrArg (fun z => Sum.inl (some (0, z))) (by omega)), hq.2⟩)
          · skip
            refine wa_iinc rfl rfl ?_
            refine wa_fall ⟨_, rfl⟩ ?_
            refine wa_iinc rfl rfl ?_
            refine wa_goto ⟨_, rfl⟩ ?_
            refine wJ_mono (wJ_S (ih (i + 1) (k0 + 1) (k - e) c _ (by omega) (by omega) hz hch) ⟨rfl, rfl, rfl, rfl, rfl, rfl, trivial⟩) (fun o Z hq => ⟨hq.1.trans (congrArg (fun z => Sum.inl (some (0, z))) (by omega)), hq.2⟩)
    · skip
      refine wa_iload (n := 5) rfl ?_
      refine wa_iload_n (n := 2) rfl ?_
      refine wa_icmpge (w_rg0 (by omega) (by omega)) (w_rg0 (by omega) (by omega)) ⟨_, rfl⟩ (fun c201 => ?_) (fun c201 => ?_)
      · skip
        exfalso; omega
      · skip
        refine wa_aload_n (n := 3) rfl ?_
        refine wb_gfi 226 rfl (wy_pr rfl) wt_226 wf_8_13 (v := (S 226 13)) rfl (fun r202 => ?_)
        refine wa_iconst ?_
        refine wa_icmpne (w_rg0 (by omega) (by omega)) (w_rg0 (by omega) (by omega)) ⟨_, rfl⟩ (fun c203 => ?_) (fun c203 => ?_)
        · skip
          refine wa_iload (n := 4) rfl ?_
          refine wa_ireturn rfl ?_
          exact ⟨congrArg (fun z => Sum.inl (some (0, z))) (by omega), hRa⟩
        · skip
          exact absurd (hrn.mp (by omega)) hr
theorem xss (hI : gI S) (hC : w_CL S) (h161 : S 161 (-1) = 2 ∧ S 161 0 = 215 ∧ S 161 1 = 226) (ht : -2147483648 ≤ t ∧ t ≤ 2147483647) (hn : -2147483648 ≤ n ∧ n ≤ 2147483647) (h1 : ¬ (0 ≤ t ∧ t < 2 ∧ 1 ≤ n ∧ n ≤ 1000) → ∀ o Z, nxO S 16 o Z → Q o Z) (h2 : (0 ≤ t ∧ t < 2 ∧ 1 ≤ n ∧ n ≤ 1000) → (t = 0 ∧ S 215 13 ≠ 1 ∨ t = 1 ∧ S 226 13 ≠ 1) → ∀ o Z, nxO S 17 o Z → Q o Z) (h30 : (0 ≤ t ∧ t < 2 ∧ 1 ≤ n ∧ n ≤ 1000) → t = 0 → S 215 13 = 1 → wJ (pe_GA xs) wY0 M (d + 7) t_X_steps ((pe_at t_X_steps.bl 4).getD (0, [])).2 [(0, (2, 0)), (1, (0, t)), (2, (0, n)), (3, (2, 215)), (4, (0, 0)), (5, (0, 0))] [] S Q) (h31 : (0 ≤ t ∧ t < 2 ∧ 1 ≤ n ∧ n ≤ 1000) → t = 1 → S 226 13 = 1 → wJ (pe_GA xs) wY0 M (d + 7) t_X_steps ((pe_at t_X_steps.bl 4).getD (0, [])).2 [(0, (2, 0)), (1, (0, t)), (2, (0, n)), (3, (2, 226)), (4, (0, 0)), (5, (0, 0))] [] S Q) : wJ (pe_GA xs) wY0 M (d + 7) t_X_steps ((pe_at t_X_steps.bl 0).getD (0, [])).2 [(0, (2, 0)), (1, (0, t)), (2, (0, n))] [] S Q := wJ_E (fun ⟨ad, hp0, hE⟩ => by
  have hG : 0 ≤ S wG 1 := wE_G hE
  refine wa_iload_n (n := 1) rfl ?_
  refine wa_iflt (w_rg0 (by omega) (by omega)) ⟨_, rfl⟩ (fun c1 => ?_) (fun c1 => ?_)
  · skip
    have g0 : 0 ≤ S wG 1 := hG
    refine wa_nx (nN S 48) (nN_rg g0 (by decide)) (wt_nX ⟨by decide, by decide⟩) (by decide +kernel) ⟨(Or.inr ⟨wy_pr rfl, fun q => q⟩), trivial, trivial, trivial⟩ trivial (nx_d (by omega) (by decide)) ?_
    refine wa_th ?_
    exact h1 (by omega) _ _ ⟨_, rfl, fun j x j0 j1 => w_nw_o j0 j1, gI_nx hI (by first | decide | omega) ⟨by decide, by decide⟩, w_nw_GX, wt_nX ⟨by decide, by decide⟩, w_pr_nx (by first | decide | omega)⟩
  · skip
    refine wa_iload_n (n := 1) rfl ?_
    refine wa_iconst ?_
    refine wa_icmpge (w_rg0 (by omega) (by omega)) (w_rg0 (by omega) (by omega)) ⟨_, rfl⟩ (fun c2 => ?_) (fun c2 => ?_)
    · skip
      have g0 : 0 ≤ S wG 1 := hG
      refine wa_nx (nN S 48) (nN_rg g0 (by decide)) (wt_nX ⟨by decide, by decide⟩) (by decide +kernel) ⟨(Or.inr ⟨wy_pr rfl, fun q => q⟩), trivial, trivial, trivial⟩ trivial (nx_d (by omega) (by decide)) ?_
      refine wa_th ?_
      exact h1 (by omega) _ _ ⟨_, rfl, fun j x j0 j1 => w_nw_o j0 j1, gI_nx hI (by first | decide | omega) ⟨by decide, by decide⟩, w_nw_GX, wt_nX ⟨by decide, by decide⟩, w_pr_nx (by first | decide | omega)⟩
    · skip
      refine wa_iload_n (n := 2) rfl ?_
      refine wa_iconst ?_
      refine wa_icmplt (w_rg0 (by omega) (by omega)) (w_rg0 (by omega) (by omega)) ⟨_, rfl⟩ (fun c3 => ?_) (fun c3 => ?_)
      · skip
        have g0 : 0 ≤ S wG 1 := hG
        refine wa_nx (nN S 48) (nN_rg g0 (by decide)) (wt_nX ⟨by decide, by decide⟩) (by decide +kernel) ⟨(Or.inr ⟨wy_pr rfl, fun q => q⟩), trivial, trivial, trivial⟩ trivial (nx_d (by omega) (by decide)) ?_
        refine wa_th ?_
        exact h1 (by omega) _ _ ⟨_, rfl, fun j x j0 j1 => w_nw_o j0 j1, gI_nx hI (by first | decide | omega) ⟨by decide, by decide⟩, w_nw_GX, wt_nX ⟨by decide, by decide⟩, w_pr_nx (by first | decide | omega)⟩
      · skip
        refine wa_iload_n (n := 2) rfl ?_
        refine wa_sipush (by omega) ?_
        refine wa_icmple (w_rg0 (by omega) (by omega)) (w_rg0 (by omega) (by omega)) ⟨_, rfl⟩ (fun c4 => ?_) (fun c4 => ?_)
        · skip
          rcases (show t = 0 ∨ t = 1 by omega) with e | e
          · subst e
            refine wa_aload_n (n := 0) rfl ?_
            refine wb_gf4 0 rfl (wy_pr rfl) wt_0 wf_10_9 (v := 161) wl_0_9 ?_
            refine wa_iload_n (n := 1) rfl ?_
            refine wb_aald14 161 rfl (wy_pr rfl) wt_161 (by omega) (n := 2) (h161.1) (by omega) (v := 215) (h161.2.1) ?_
            refine wa_astore_n (n := 3) rfl ?_
            refine wa_aload_n (n := 3) rfl ?_
            refine wb_gfi 215 rfl (wy_pr rfl) wt_215 wf_8_13 (v := (S 215 13)) rfl (fun r5 => ?_)
            refine wa_iconst ?_
            refine wa_icmpeq (w_rg0 (by omega) (by omega)) (w_rg0 (by omega) (by omega)) ⟨_, rfl⟩ (fun c6 => ?_) (fun c6 => ?_)
            · skip
              refine wa_iconst ?_
              refine wa_istore (n := 4) rfl ?_
              refine wa_iconst ?_
              refine wa_istore (n := 5) rfl ?_
              refine wa_fall ⟨_, rfl⟩ ?_
              exact wJ_S (h30 (by omega) rfl (by omega)) ⟨rfl, rfl, rfl, rfl, rfl, rfl, trivial⟩
            · skip
              have g0 : 0 ≤ S wG 1 := hG
              refine wa_nx (nN S 49) (nN_rg g0 (by decide)) (wt_nX ⟨by decide, by decide⟩) (by decide +kernel) ⟨(Or.inr ⟨wy_pr rfl, fun q => q⟩), (Or.inr ⟨wy_pr rfl, fun q => q⟩), trivial, trivial, trivial⟩ trivial (nx_d (by omega) (by decide)) ?_
              refine wa_th ?_
              exact h2 (by omega) (by omega) _ _ ⟨_, rfl, fun j x j0 j1 => w_nw_o j0 j1, gI_nx hI (by first | decide | omega) ⟨by decide, by decide⟩, w_nw_GX, wt_nX ⟨by decide, by decide⟩, w_pr_nx (by first | decide | omega)⟩
          · subst e
            refine wa_aload_n (n := 0) rfl ?_
            refine wb_gf4 0 rfl (wy_pr rfl) wt_0 wf_10_9 (v := 161) wl_0_9 ?_
            refine wa_iload_n (n := 1) rfl ?_
            refine wb_aald14 161 rfl (wy_pr rfl) wt_161 (by omega) (n := 2) (h161.1) (by omega) (v := 226) (h161.2.2) ?_
            refine wa_astore_n (n := 3) rfl ?_
            refine wa_aload_n (n := 3) rfl ?_
            refine wb_gfi 226 rfl (wy_pr rfl) wt_226 wf_8_13 (v := (S 226 13)) rfl (fun r7 => ?_)
            refine wa_iconst ?_
            refine wa_icmpeq (w_rg0 (by omega) (by omega)) (w_rg0 (by omega) (by omega)) ⟨_, rfl⟩ (fun c8 => ?_) (fun c8 => ?_)
            · skip
              refine wa_iconst ?_
              refine wa_istore (n := 4) rfl ?_
              refine wa_iconst ?_
              refine wa_istore (n := 5) rfl ?_
              refine wa_fall ⟨_, rfl⟩ ?_
              exact wJ_S (h31 (by omega) rfl (by omega)) ⟨rfl, rfl, rfl, rfl, rfl, rfl, trivial⟩
            · skip
              have g0 : 0 ≤ S wG 1 := hG
              refine wa_nx (nN S 49) (nN_rg g0 (by decide)) (wt_nX ⟨by decide, by decide⟩) (by decide +kernel) ⟨(Or.inr ⟨wy_pr rfl, fun q => q⟩), (Or.inr ⟨wy_pr rfl, fun q => q⟩), trivial, trivial, trivial⟩ trivial (nx_d (by omega) (by decide)) ?_
              refine wa_th ?_
              exact h2 (by omega) (by omega) _ _ ⟨_, rfl, fun j x j0 j1 => w_nw_o j0 j1, gI_nx hI (by first | decide | omega) ⟨by decide, by decide⟩, w_nw_GX, wt_nX ⟨by decide, by decide⟩, w_pr_nx (by first | decide | omega)⟩
        · skip
          refine wa_fall ⟨_, rfl⟩ ?_
          have g0 : 0 ≤ S wG 1 := hG
          refine wa_nx (nN S 48) (nN_rg g0 (by decide)) (wt_nX ⟨by decide, by decide⟩) (by decide +kernel) ⟨(Or.inr ⟨wy_pr rfl, fun q => q⟩), trivial, trivial, trivial⟩ trivial (nx_d (by omega) (by decide)) ?_
          refine wa_th ?_
          exact h1 (by omega) _ _ ⟨_, rfl, fun j x j0 j1 => w_nw_o j0 j1, gI_nx hI (by first | decide | omega) ⟨by decide, by decide⟩, w_nw_GX, wt_nX ⟨by decide, by decide⟩, w_pr_nx (by first | decide | omega)⟩)
theorem mss_e (hM : w_ML S) {k : Int} (h151 : S 237 151 = t) (ht : 0 ≤ t ∧ t ≤ 1) (hn : 0 ≤ n ∧ n ≤ 1000) (hk : 0 ≤ k ∧ k ≤ n) (hs : k = n ∨ S 357 t ≠ 1) : wJ (pe_GA xs) wY0 M (d + 13) t_M_steps ((pe_at t_M_steps.bl 4).getD (0, [])).2 [(0, (2, 237)), (1, (0, t)), (2, (0, n)), (3, (0, k))] [] S (fun o Z => o = .inl (some (0, k)) ∧ S = Z) := by
  refine wa_iload_n (n := 3) rfl ?_
  refine wa_iload_n (n := 2) rfl ?_
  refine wa_icmpge (w_rg0 (by omega) (by omega)) (w_rg0 (by omega) (by omega)) ⟨_, rfl⟩ (fun c1 => ?_) (fun c1 => ?_)
  · skip
    refine wa_iload_n (n := 3) rfl ?_
    refine wa_ireturn rfl ?_
    exact ⟨rfl, rfl⟩
  · skip
    refine wa_aload_n (n := 0) rfl ?_
    refine wb_gf4 237 rfl (wy_pr rfl) wt_237 wf_15_132 (v := 357) wl_237_132 ?_
    refine wa_aload_n (n := 0) rfl ?_
    refine wb_gfi 237 rfl (wy_pr rfl) wt_237 wf_15_151 (v := t) (h151) (fun r2 => ?_)
    refine wb_iald 357 rfl (wy_pr rfl) wt_357 (n := 2) ((ml_357 hM)) (by omega) (by omega) (v := (S 357 t)) rfl (fun r3 => ?_)
    refine wa_iconst ?_
    refine wa_icmpne (w_rg0 (by omega) (by omega)) (w_rg0 (by omega) (by omega)) ⟨_, rfl⟩ (fun c4 => ?_) (fun c4 => ?_)
    · skip
      refine wa_iload_n (n := 3) rfl ?_
      refine wa_ireturn rfl ?_
      exact ⟨rfl, rfl⟩
    · skip
      exfalso; omega
theorem mssl {R : α → wS → Prop} {b : α} (hR : ∀ a S, R a S → (S 357 t = 1 ↔ run a) ∧ w_ML S ∧ S 237 151 = t) (ht : 0 ≤ t ∧ t ≤ 1) (hn : n ≤ 1000) : ∀ (f : Nat) (k0 k : Int) (a : α) (S : wS), k0 + (f : Int) = n → 0 ≤ k0 → R a S → lpN run (lpR xs d t run R) f a k b → wJ (pe_GA xs) wY0 M (d + 13) t_M_steps ((pe_at t_M_steps.bl 4).getD (0, [])).2 [(0, (2, 237)), (1, (0, t)), (2, (0, n)), (3, (0, k0))] [] S (fun o Z => o = .inl (some (0, k0 + k)) ∧ R b Z) := by
  intro f
  induction f with
  | zero =>
    intro k0 k a S hi h0 hRa hch
    obtain ⟨rfl, rfl⟩ := hch
    obtain ⟨-, hM, h151⟩ := hR a S hRa
    refine wJ_mono (mss_e hM h151 ht (by omega) (by omega) (Or.inl (by omega))) (fun o Z hq => ⟨hq.1.trans (congrArg (fun z => Sum.inl (some (0, z))) (by omega)), hq.2 ▸ hRa⟩)
  | succ f ih =>
    intro k0 k a S hi h0 hRa hch
    obtain ⟨hrn, hM, h151⟩ := hR a S hRa
    rcases hch with ⟨hr, e, c, ⟨he, hec, hst⟩, hch⟩ | ⟨hr, rfl, rfl⟩
    · refine hst S hRa M _ n k0 t (by omega) (by omega) (fun Z2 dn hz hdn hml => ?_)
      obtain ⟨rfl, hRc⟩ := hz
      replace hRc := hRc hml
      rcases he with he | he
      · obtain ⟨hk, rfl⟩ := lpN_s f (hec he) hch
        obtain ⟨hrn2, hM2, h152⟩ := hR c Z2 hRc
        refine wJ_mono (mss_e hM2 h152 ht (by omega) (by omega) (Or.inr (fun z => hec he (hrn2.mp z)))) (fun o Z hq => ⟨hq.1.trans (congrArg (fun z => Sum.inl (some (0, z))) (by omega)), hq.2 ▸ hRc⟩)
      · refine wJ_mono (ih (k0 + dn) (k - dn) c Z2 (by omega) (by omega) hRc hch) (fun o Z hq => ⟨hq.1.trans (congrArg (fun z => Sum.inl (some (0, z))) (by omega)), hq.2⟩)
    · refine wJ_mono (mss_e hM h151 ht (by omega) (by omega) (Or.inr (fun z => hr (hrn.mp z)))) (fun o Z hq => ⟨hq.1.trans (congrArg (fun z => Sum.inl (some (0, z))) (by omega)), hq.2 ▸ hRa⟩)
/-- the reference has taken a task -/
def tkZ (t : Int) (S : wS) : wS := (w_up (w_up (w_up (w_up (w_up S 237 0 0) 237 151 t) 237 152 (2100 * t)) 237 153 (200 * t)) 237 154 (((200 * t) + (S 358 t)) - 1))
theorem mss_o (hM : w_ML S) (h58 : ∀ t : Int, 0 ≤ t → t ≤ 1 → 0 ≤ S 358 t ∧ S 358 t ≤ 200) (ht : -2147483648 ≤ t ∧ t ≤ 2147483647) (hn : -2147483648 ≤ n ∧ n ≤ 2147483647) (h1 : ¬ (0 ≤ t ∧ t < 2 ∧ 1 ≤ n ∧ n ≤ 1000) → Q (.inl (some (0, 0))) (w_up S 237 0 1)) (h2 : (0 ≤ t ∧ t < 2 ∧ 1 ≤ n ∧ n ≤ 1000) → S 357 t ≠ 1 → Q (.inl (some (0, 0))) (w_up S 237 0 2)) (h3 : (0 ≤ t ∧ t < 2 ∧ 1 ≤ n ∧ n ≤ 1000) → S 357 t = 1 → wJ (pe_GA xs) wY0 M (d + 13) t_M_steps ((pe_at t_M_steps.bl 4).getD (0, [])).2 [(0, (2, 237)), (1, (0, t)), (2, (0, n)), (3, (0, 0))] [] (tkZ t S) Q) : wJ (pe_GA xs) wY0 M (d + 13) t_M_steps ((pe_at t_M_steps.bl 0).getD (0, [])).2 [(0, (2, 237)), (1, (0, t)), (2, (0, n))] [] S Q := by
  refine wa_iload_n (n := 1) rfl ?_
  refine wa_i2l (w_rg0 (by omega) (by omega)) ?_
  refine wa_lconst ?_
  refine wa_lconst ?_
  refine wa_cs (M2 := fun _ => False) rfl at_M_in ⟨_, rfl⟩ rfl rfl ⟨(Or.inr ⟨wy_pr rfl, fun q => q⟩), trivial, trivial, trivial⟩ trivial (fun _ _ q => False.elim q) (in_ok (S := S) (a := t) (lo := 0) (hi := 1) ⟨by omega, by omega⟩ ⟨by omega, by omega⟩ ⟨by omega, by omega⟩) (fun oq2 Sq2 hp3 q2 => ?_)
  rcases q2 with ⟨rfl, ⟨rfl, hin1⟩ | ⟨rfl, hin1⟩⟩
  · skip
    show wJ _ _ _ _ _ _ _ _ _ _
    refine wa_ifeq (w_rg0 (by omega) (by omega)) ⟨_, rfl⟩ (fun c4 => ?_) (fun c4 => ?_)
    · skip
      exact absurd c4 (by omega)
    · skip
      refine wa_iload_n (n := 2) rfl ?_
      refine wa_i2l (w_rg0 (by omega) (by omega)) ?_
      refine wa_lconst ?_
      refine wb_kl (n := 1000) rfl ?_
      refine wa_cs (M2 := fun _ => False) rfl at_M_in ⟨_, rfl⟩ rfl rfl ⟨(Or.inr ⟨wy_pr rfl, fun q => q⟩), trivial, trivial, trivial⟩ trivial (fun _ _ q => False.elim q) (in_ok (S := S) (a := n) (lo := 1) (hi := 1000) ⟨by omega, by omega⟩ ⟨by omega, by omega⟩ ⟨by omega, by omega⟩) (fun oq6 Sq6 hp7 q6 => ?_)
      rcases q6 with ⟨rfl, ⟨rfl, hin5⟩ | ⟨rfl, hin5⟩⟩
      · skip
        show wJ _ _ _ _ _ _ _ _ _ _
        refine wa_ifne (w_rg0 (by omega) (by omega)) ⟨_, rfl⟩ (fun c8 => ?_) (fun c8 => ?_)
        · skip
          have h58b := h58 t (by omega) (by omega)
          refine wa_aload_n (n := 0) rfl ?_
          refine wb_gf4 237 rfl (wy_pr rfl) wt_237 wf_15_132 (v := 357) wl_237_132 ?_
          refine wa_iload_n (n := 1) rfl ?_
          refine wb_iald 357 rfl (wy_pr rfl) wt_357 (n := 2) ((ml_357 hM)) (by omega) (by omega) (v := (S 357 t)) rfl (fun r9 => ?_)
          refine wa_iconst ?_
          refine wa_icmpeq (w_rg0 (by omega) (by omega)) (w_rg0 (by omega) (by omega)) ⟨_, rfl⟩ (fun c10 => ?_) (fun c10 => ?_)
          · skip
            refine wa_aload_n (n := 0) rfl ?_
            refine wa_iconst ?_
            refine wb_pfi 237 rfl (wy_pr rfl) wt_237 wf_15_0 (n := 0) rfl ⟨(by omega), (by omega)⟩ ?_
            refine wa_aload_n (n := 0) rfl ?_
            refine wa_iload_n (n := 1) rfl ?_
            refine wa_cv 237 rfl (wy_pr rfl) wt_237 (M2 := fun _ => False) rfl at_M_takesTask ⟨_, rfl⟩ rfl rfl ⟨(Or.inr ⟨wy_pr rfl, fun q => q⟩), trivial, trivial, trivial⟩ trivial (fun _ _ q => False.elim q) ?_ (fun _ _ _ q => q)
            refine wa_aload_n (n := 0) rfl ?_
            refine wa_iload_n (n := 1) rfl ?_
            refine wb_pfi 237 rfl (wy_pr rfl) wt_237 wf_15_151 (n := 151) rfl ⟨(by omega), (by omega)⟩ ?_
            refine wa_aload_n (n := 0) rfl ?_
            refine wa_sipush (by omega) ?_
            refine wa_iload_n (n := 1) rfl ?_
            refine wa_imul ?_
            refine wb_pfi 237 rfl (wy_pr rfl) wt_237 wf_15_152 (n := 152) rfl ⟨(by omega), (by omega)⟩ ?_
            refine wa_aload_n (n := 0) rfl ?_
            refine wa_sipush (by omega) ?_
            refine wa_iload_n (n := 1) rfl ?_
            refine wa_imul ?_
            refine wb_pfi 237 rfl (wy_pr rfl) wt_237 wf_15_153 (n := 153) rfl ⟨(by omega), (by omega)⟩ ?_
            refine wa_aload_n (n := 0) rfl ?_
            refine wa_aload_n (n := 0) rfl ?_
            refine wb_gfi 237 rfl (wy_pr rfl) wt_237 wf_15_153 (v := (200 * t)) (w_up_same _ _ _ _) (fun r11 => ?_)
            refine wa_aload_n (n := 0) rfl ?_
            refine wb_gf4 237 rfl (wy_pr rfl) wt_237 wf_15_133 (v := 358) wl_237_133 ?_
            refine wa_iload_n (n := 1) rfl ?_
            refine wb_iald 358 rfl (wy_pr rfl) wt_358 (n := 2) ((w_up_slot (by decide)).trans ((w_up_slot (by decide)).trans ((w_up_slot (by decide)).trans ((w_up_slot (by decide)).trans ((ml_358 hM)))))) (by omega) (by omega) (v := (S 358 t)) ((w_up_slot (by decide)).trans ((w_up_slot (by decide)).trans ((w_up_slot (by decide)).trans (w_up_slot (by decide))))) (fun r12 => ?_)
            refine wa_iadd ?_
            refine wa_iconst ?_
            refine wa_isub ?_
            refine wb_pfi 237 rfl (wy_pr rfl) wt_237 wf_15_154 (n := 154) rfl ⟨(by omega), (by omega)⟩ ?_
            refine wa_return rfl ?_
            show wJ _ _ _ _ _ _ _ _ _ _
            refine wa_iconst ?_
            refine wa_istore_n (n := 3) rfl ?_
            refine wa_fall ⟨_, rfl⟩ ?_
            exact wJ_S (h3 (by omega) (by omega)) ⟨rfl, rfl, rfl, rfl, trivial⟩
          · skip
            refine wa_aload_n (n := 0) rfl ?_
            refine wa_iconst ?_
            refine wb_pfi 237 rfl (wy_pr rfl) wt_237 wf_15_0 (n := 0) rfl ⟨(by omega), (by omega)⟩ ?_
            refine wa_iconst ?_
            refine wa_ireturn rfl ?_
            exact h2 (by omega) (by omega)
        · skip
          exact absurd c8 (by omega)
      · skip
        show wJ _ _ _ _ _ _ _ _ _ _
        refine wa_ifne (w_rg0 (by omega) (by omega)) ⟨_, rfl⟩ (fun c13 => ?_) (fun c13 => ?_)
        · skip
          exact absurd c13 (by omega)
        · skip
          refine wa_fall ⟨_, rfl⟩ ?_
          refine wa_aload_n (n := 0) rfl ?_
          refine wa_iconst ?_
          refine wb_pfi 237 rfl (wy_pr rfl) wt_237 wf_15_0 (n := 0) rfl ⟨(by omega), (by omega)⟩ ?_
          refine wa_iconst ?_
          refine wa_ireturn rfl ?_
          exact h1 (by omega)
  · skip
    show wJ _ _ _ _ _ _ _ _ _ _
    refine wa_ifeq (w_rg0 (by omega) (by omega)) ⟨_, rfl⟩ (fun c14 => ?_) (fun c14 => ?_)
    · skip
      refine wa_aload_n (n := 0) rfl ?_
      refine wa_iconst ?_
      refine wb_pfi 237 rfl (wy_pr rfl) wt_237 wf_15_0 (n := 0) rfl ⟨(by omega), (by omega)⟩ ?_
      refine wa_iconst ?_
      refine wa_ireturn rfl ?_
      exact h1 (by omega)
    · skip
      exact absurd c14 (by omega)
end Wim
