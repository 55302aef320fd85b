/-! PART g3: shows of the reference: what a value prints comes to the output. -/
section Wg3
variable {xs : List (Nat × List Int32)} {M : Nat → Prop} {d : Nat} {S S0 Z A : wS} {k v on : Int} {l : List Int}
/-- signs have come to the output; then a ten -/
def ouI (on : Int) (l : List Int) (i : Nat) (S0 S : wS) : Prop := (∀ k : Nat, k < i → S 342 (on + (k : Int)) = l.getD k 0) ∧ (∀ (j : Nat) (x : Int), (j ≠ 342 ∨ x < on ∨ on + (i : Int) ≤ x) → S j x = S0 j x) ∧ w_ML S
def ouA (on : Int) (l : List Int) (S Z : wS) : Prop := (∀ k : Nat, k < l.length → Z 342 (on + (k : Int)) = l.getD k 0) ∧ Z 342 (on + (l.length : Int)) = 10 ∧ Z 237 104 = on + (l.length : Int) + 1 ∧ (∀ (j : Nat) (x : Int), (j ≠ 342 ∨ x < on ∨ on + (l.length : Int) + 1 ≤ x) → (j ≠ 237 ∨ x ≠ 104) → Z j x = S j x) ∧ w_ML Z
theorem ouI_s {i : Nat} {v : Int} (h : ouI on l i S0 S) (hn : 0 ≤ on) (hv : v = l.getD i 0) : ouI on l (i + 1) S0 (w_up S 342 (on + (i : Int)) v) := by
  obtain ⟨h1, h2, h3⟩ := h
  refine ⟨fun k hk => ?_, fun j x hx => (w_up_no (by omega)).trans (h2 j x (by omega)), w_ML_up h3 (by omega)⟩
  by_cases c : k = i
  · rw [c]; exact (w_up_same _ _ _ _).trans hv
  · exact (w_up_at (by omega)).trans (h1 k (by omega))
theorem ouA_of (h : ouI on l l.length S0 S) (hn : 0 ≤ on) : ouA on l S0 (w_up (w_up S 342 (on + (l.length : Int)) 10) 237 104 (on + ((l.length : Int) + 1))) := by
  obtain ⟨h1, h2, h3⟩ := h
  refine ⟨fun k hk => (w_up_slot (by first | decide | omega)).trans ((w_up_at (by omega)).trans (h1 k hk)), (w_up_slot (by first | decide | omega)).trans (w_up_same _ _ _ _), (w_up_same _ _ _ _).trans (by omega), fun j x j0 j1 => (w_up_no (by omega)).trans ((w_up_no (by omega)).trans (h2 j x (by omega))), w_ML_up (w_ML_up h3 (by omega)) (by first | decide | omega)⟩
theorem so0_l {tx p0 : Int} (hsrc : ∀ i : Nat, i < l.length → S0 345 (i : Int) = l.getD i 0) (hln : (l.length : Int) ≤ 256) (h104 : S0 237 104 = on) (hon : 0 ≤ on ∧ on + (l.length : Int) + 1 ≤ 65536) : ∀ (f i : Nat) (S : wS), i + f = l.length → ouI on l i S0 S → wJ (pe_GA xs) wY0 M (d + 1) t_M_shows ((pe_at t_M_shows.bl 10).getD (0, [])).2 [(0, (2, 237)), (1, (0, k)), (2, (1, v)), (4, (0, 0)), (5, (0, tx)), (6, (0, (l.length : Int))), (7, (0, (i : Int)))] [] S (fun o Z => o = .inl none ∧ ouA on l S0 Z) := by
  intro f
  induction f with
  | zero =>
    intro i S hi hs
    have hM := hs.2.2
    have e4 : S 237 104 = on := (hs.2.1 237 104 (Or.inl (by first | decide | omega))).trans h104
    have ei : i = l.length := by omega
    subst ei
    refine wa_iload (n := 7) rfl ?_
    refine wa_iload (n := 6) rfl ?_
    refine wa_icmpge (w_rg0 (by omega) (by omega)) (w_rg0 (by omega) (by omega)) ⟨_, rfl⟩ (fun c1 => ?_) (fun c1 => ?_)
    · skip
      refine wa_aload_n (n := 0) rfl ?_
      refine wb_gf4 237 rfl (wy_pr rfl) wt_237 wf_15_105 (v := 342) wl_237_105 ?_
      refine wa_aload_n (n := 0) rfl ?_
      refine wb_gfi 237 rfl (wy_pr rfl) wt_237 wf_15_104 (v := on) (e4) (fun r2 => ?_)
      refine wa_iload (n := 6) rfl ?_
      refine wa_iadd ?_
      refine wa_bipush (w_rg2 (by omega) (by omega)) ?_
      refine wb_bast 342 rfl (wy_pr rfl) wt_342 (n := 65536) ((ml_342 hM)) (by omega) (by omega) ⟨(by omega), (by omega)⟩ ?_
      refine wa_aload_n (n := 0) rfl ?_
      refine wa_dup (by decide) ?_
      refine wb_gfi 237 rfl (wy_pr rfl) wt_237 wf_15_104 (v := on) ((w_up_slot (by decide)).trans (e4)) (fun r3 => ?_)
      refine wa_iload (n := 6) rfl ?_
      refine wa_iconst ?_
      refine wa_iadd ?_
      refine wa_iadd ?_
      refine wb_pfi 237 rfl (wy_pr rfl) wt_237 wf_15_104 (n := 104) rfl ⟨(by omega), (by omega)⟩ ?_
      refine wa_return rfl ?_
      exact ⟨rfl, ouA_of hs hon.1⟩
    · skip
      exfalso; omega
  | succ f ih =>
    intro i S hi hs
    have hM := hs.2.2
    have e4 : S 237 104 = on := (hs.2.1 237 104 (Or.inl (by first | decide | omega))).trans h104
    have hsi := hsrc i (by omega)
    have es : S 345 (i : Int) = l.getD i 0 := (hs.2.1 345 (i : Int) (Or.inl (by first | decide | omega))).trans hsi
    refine wa_iload (n := 7) rfl ?_
    refine wa_iload (n := 6) rfl ?_
    refine wa_icmpge (w_rg0 (by omega) (by omega)) (w_rg0 (by omega) (by omega)) ⟨_, rfl⟩ (fun c51 => ?_) (fun c51 => ?_)
    · skip
      exfalso; omega
    · skip
      refine wa_aload_n (n := 0) rfl ?_
      refine wb_gf4 237 rfl (wy_pr rfl) wt_237 wf_15_105 (v := 342) wl_237_105 ?_
      refine wa_aload_n (n := 0) rfl ?_
      refine wb_gfi 237 rfl (wy_pr rfl) wt_237 wf_15_104 (v := on) (e4) (fun r52 => ?_)
      refine wa_iload (n := 7) rfl ?_
      refine wa_iadd ?_
      refine wa_iload (n := 4) rfl ?_
      refine wa_ifeq (w_rg0 (by omega) (by omega)) ⟨_, rfl⟩ (fun c53 => ?_) (fun c53 => ?_)
      · skip
        refine wa_aload_n (n := 0) rfl ?_
        refine wb_gf4 237 rfl (wy_pr rfl) wt_237 wf_15_112 (v := 345) wl_237_112 ?_
        refine wa_iload (n := 7) rfl ?_
        refine wb_bald 345 rfl (wy_pr rfl) wt_345 (n := 256) ((ml_345 hM)) (by omega) (by omega) (v := (l.getD i 0)) (es) (fun r54 => ?_)
        refine wa_fall ⟨_, rfl⟩ ?_
        refine wb_bast 342 rfl (wy_pr rfl) wt_342 (n := 65536) ((ml_342 hM)) (by omega) (by omega) ⟨(by omega), (by omega)⟩ ?_
        refine wa_iinc rfl rfl ?_
        refine wa_goto ⟨_, rfl⟩ ?_
        exact wJ_S (ih (i + 1) _ (by omega) (ouI_s hs hon.1 rfl)) ⟨rfl, rfl, rfl, rfl, rfl, rfl, rfl, trivial⟩
      · skip
        exact absurd c53 (by omega)
theorem so1_l {tx p0 : Int} (htx : 0 ≤ tx ∧ tx < 16000) (h84 : S0 284 tx = p0) (hp0 : 0 ≤ p0 ∧ p0 + (l.length : Int) ≤ 269632) (hsrc : ∀ i : Nat, i < l.length → S0 283 (p0 + (i : Int)) = l.getD i 0) (h104 : S0 237 104 = on) (hon : 0 ≤ on ∧ on + (l.length : Int) + 1 ≤ 65536) : ∀ (f i : Nat) (S : wS), i + f = l.length → ouI on l i S0 S → wJ (pe_GA xs) wY0 M (d + 1) t_M_shows ((pe_at t_M_shows.bl 10).getD (0, [])).2 [(0, (2, 237)), (1, (0, k)), (2, (1, v)), (4, (0, 1)), (5, (0, tx)), (6, (0, (l.length : Int))), (7, (0, (i : Int)))] [] S (fun o Z => o = .inl none ∧ ouA on l S0 Z) := by
  intro f
  induction f with
  | zero =>
    intro i S hi hs
    have hM := hs.2.2
    have e4 : S 237 104 = on := (hs.2.1 237 104 (Or.inl (by first | decide | omega))).trans h104
    have ei : i = l.length := by omega
    subst ei
    refine wa_iload (n := 7) rfl ?_
    refine wa_iload (n := 6) rfl ?_
    refine wa_icmpge (w_rg0 (by omega) (by omega)) (w_rg0 (by omega) (by omega)) ⟨_, rfl⟩ (fun c1 => ?_) (fun c1 => ?_)
    · skip
      refine wa_aload_n (n := 0) rfl ?_
      refine wb_gf4 237 rfl (wy_pr rfl) wt_237 wf_15_105 (v := 342) wl_237_105 ?_
      refine wa_aload_n (n := 0) rfl ?_
      refine wb_gfi 237 rfl (wy_pr rfl) wt_237 wf_15_104 (v := on) (e4) (fun r2 => ?_)
      refine wa_iload (n := 6) rfl ?_
      refine wa_iadd ?_
      refine wa_bipush (w_rg2 (by omega) (by omega)) ?_
      refine wb_bast 342 rfl (wy_pr rfl) wt_342 (n := 65536) ((ml_342 hM)) (by omega) (by omega) ⟨(by omega), (by omega)⟩ ?_
      refine wa_aload_n (n := 0) rfl ?_
      refine wa_dup (by decide) ?_
      refine wb_gfi 237 rfl (wy_pr rfl) wt_237 wf_15_104 (v := on) ((w_up_slot (by decide)).trans (e4)) (fun r3 => ?_)
      refine wa_iload (n := 6) rfl ?_
      refine wa_iconst ?_
      refine wa_iadd ?_
      refine wa_iadd ?_
      refine wb_pfi 237 rfl (wy_pr rfl) wt_237 wf_15_104 (n := 104) rfl ⟨(by omega), (by omega)⟩ ?_
      refine wa_return rfl ?_
      exact ⟨rfl, ouA_of hs hon.1⟩
    · skip
      exfalso; omega
  | succ f ih =>
    intro i S hi hs
    have hM := hs.2.2
    have e4 : S 237 104 = on := (hs.2.1 237 104 (Or.inl (by first | decide | omega))).trans h104
    have hsi := hsrc i (by omega)
    have e84 : S 284 tx = p0 := (hs.2.1 284 tx (Or.inl (by first | decide | omega))).trans h84
    have es : S 283 (p0 + (i : Int)) = l.getD i 0 := (hs.2.1 283 (p0 + (i : Int)) (Or.inl (by first | decide | omega))).trans hsi
    refine wa_iload (n := 7) rfl ?_
    refine wa_iload (n := 6) rfl ?_
    refine wa_icmpge (w_rg0 (by omega) (by omega)) (w_rg0 (by omega) (by omega)) ⟨_, rfl⟩ (fun c51 => ?_) (fun c51 => ?_)
    · skip
      exfalso; omega
    · skip
      refine wa_aload_n (n := 0) rfl ?_
      refine wb_gf4 237 rfl (wy_pr rfl) wt_237 wf_15_105 (v := 342) wl_237_105 ?_
      refine wa_aload_n (n := 0) rfl ?_
      refine wb_gfi 237 rfl (wy_pr rfl) wt_237 wf_15_104 (v := on) (e4) (fun r52 => ?_)
      refine wa_iload (n := 7) rfl ?_
      refine wa_iadd ?_
      refine wa_iload (n := 4) rfl ?_
      refine wa_ifeq (w_rg0 (by omega) (by omega)) ⟨_, rfl⟩ (fun c53 => ?_) (fun c53 => ?_)
      · skip
        exact absurd c53 (by omega)
      · skip
        refine wa_aload_n (n := 0) rfl ?_
        refine wb_gf4 237 rfl (wy_pr rfl) wt_237 wf_15_21 (v := 283) wl_237_21 ?_
        refine wa_aload_n (n := 0) rfl ?_
        refine wb_gf4 237 rfl (wy_pr rfl) wt_237 wf_15_22 (v := 284) wl_237_22 ?_
        refine wa_iload (n := 5) rfl ?_
        refine wb_iald 284 rfl (wy_pr rfl) wt_284 (n := 16000) ((ml_284 hM)) (by omega) (by omega) (v := p0) (e84) (fun r54 => ?_)
        refine wa_iload (n := 7) rfl ?_
        refine wa_iadd ?_
        refine wb_bald 283 rfl (wy_pr rfl) wt_283 (n := 269632) ((ml_283 hM)) (by omega) (by omega) (v := (l.getD i 0)) (es) (fun r55 => ?_)
        refine wa_goto ⟨_, rfl⟩ ?_
        refine wb_bast 342 rfl (wy_pr rfl) wt_342 (n := 65536) ((ml_342 hM)) (by omega) (by omega) ⟨(by omega), (by omega)⟩ ?_
        refine wa_iinc rfl rfl ?_
        refine wa_goto ⟨_, rfl⟩ ?_
        exact wJ_S (ih (i + 1) _ (by omega) (ouI_s hs hon.1 rfl)) ⟨rfl, rfl, rfl, rfl, rfl, rfl, rfl, trivial⟩
set_option maxHeartbeats 4000000 in
theorem mso (hX : w_X xs) (hM : w_ML S) (hk : k = 0 ∨ k = 1 ∨ k = 2 ∨ k = 4 ∨ k = 5 ∨ k = 6) (hv : -9223372036854775808 ≤ v ∧ v ≤ 9223372036854775807) (h104 : S 237 104 = on) (hon : 0 ≤ on ∧ on ≤ 65536) : wJ (pe_GA xs) wY0 M (d + 7) t_M_shows ((pe_at t_M_shows.bl 0).getD (0, [])).2 [(0, (2, 237)), (1, (0, k)), (2, (1, v))] [] S (fun o Z => (65536 < on + ((vL k v).length : Int) + 1 ∧ ∃ A : wS, spL 0 (vL k v) (w_up S 237 113 0) A ∧ o = .inr 238 ∧ hZ 99 A = Z) ∨ (on + ((vL k v).length : Int) + 1 ≤ 65536 ∧ o = .inl none ∧ ∃ A : wS, spL 0 (vL k v) (w_up S 237 113 0) A ∧ ouA on (vL k v) A Z)) := by
  have hlv := vL_len (k := k) (v := v)
  refine wa_iload_n (n := 1) rfl ?_
  refine wa_iconst ?_
  refine wa_icmpne (w_rg0 (by omega) (by omega)) (w_rg0 (by omega) (by omega)) ⟨_, rfl⟩ (fun c1 => ?_) (fun c1 => ?_)
  · skip
    refine wa_iconst ?_
    refine wa_fall ⟨_, rfl⟩ ?_
    refine wa_istore (n := 4) rfl ?_
    refine wa_iload (n := 4) rfl ?_
    refine wa_ifeq (w_rg0 (by omega) (by omega)) ⟨_, rfl⟩ (fun c2 => ?_) (fun c2 => ?_)
    · skip
      refine wa_iconst ?_
      refine wa_fall ⟨_, rfl⟩ ?_
      refine wa_istore (n := 5) rfl ?_
      refine wa_aload_n (n := 0) rfl ?_
      refine wa_iconst ?_
      refine wb_pfi 237 rfl (wy_pr rfl) wt_237 wf_15_113 (n := 113) rfl ⟨(by omega), (by omega)⟩ ?_
      refine wa_iload (n := 4) rfl ?_
      refine wa_ifne (w_rg0 (by omega) (by omega)) ⟨_, rfl⟩ (fun c3 => ?_) (fun c3 => ?_)
      · skip
        exact absurd c3 (by omega)
      · skip
        refine wa_aload_n (n := 0) rfl ?_
        refine wa_iload_n (n := 1) rfl ?_
        refine wa_lload_n (n := 2) rfl ?_
        refine wa_cv 237 rfl (wy_pr rfl) wt_237 (M2 := fun _ => False) rfl at_M_print ⟨_, rfl⟩ rfl rfl ⟨trivial, trivial, (Or.inr ⟨wy_pr rfl, fun q => q⟩), trivial, trivial, trivial⟩ trivial (fun _ _ q => False.elim q) (mprn (S := (w_up S 237 113 0)) (k := k) (v := v) hX (w_ML_up hM (by decide)) (w_up_same _ _ _ _) hk hv) (fun oq4 Sq4 hp5 q4 => ?_)
        rcases q4 with ⟨rfl, hsl⟩
        show wJ _ _ _ _ _ _ _ _ _ _
        have hA13 := hsl.2.1
        have hA4 : Sq4 237 104 = on := (hsl.2.2.1 237 104 (Or.inl (by first | decide | omega)) (by first | decide | omega)).trans ((w_up_at (by first | decide | omega)).trans h104)
        have hAM := hsl.2.2.2
        have hA13b : Sq4 237 113 = ((vL k v).length : Int) := hA13.trans (Int.zero_add _)
        refine wa_fall ⟨_, rfl⟩ ?_
        refine wa_iload (n := 4) rfl ?_
        refine wa_ifeq (w_rg0 (by omega) (by omega)) ⟨_, rfl⟩ (fun c6 => ?_) (fun c6 => ?_)
        · skip
          refine wa_aload_n (n := 0) rfl ?_
          refine wb_gfi 237 rfl (wy_pr rfl) wt_237 wf_15_113 (v := ((vL k v).length : Int)) (hA13b) (fun r7 => ?_)
          refine wa_fall ⟨_, rfl⟩ ?_
          refine wa_istore (n := 6) rfl ?_
          refine wa_aload_n (n := 0) rfl ?_
          refine wa_aload_n (n := 0) rfl ?_
          refine wb_gfi 237 rfl (wy_pr rfl) wt_237 wf_15_104 (v := on) (hA4) (fun r8 => ?_)
          refine wa_iload (n := 6) rfl ?_
          refine wa_iadd ?_
          refine wa_iconst ?_
          refine wa_iadd ?_
          refine wb_ki (n := 65536) rfl ?_
          refine wa_icmpgt (w_rg0 (by omega) (by omega)) (w_rg0 (by omega) (by omega)) ⟨_, rfl⟩ (fun c9 => ?_) (fun c9 => ?_)
          · skip
            refine wa_iconst ?_
            refine wa_fall ⟨_, rfl⟩ ?_
            refine wa_cv 237 rfl (wy_pr rfl) wt_237 (M2 := fun _ => False) rfl at_M_room ⟨_, rfl⟩ rfl rfl ⟨trivial, trivial, trivial, (Or.inr ⟨wy_pr rfl, fun q => q⟩), trivial, trivial, trivial⟩ trivial (fun _ _ q => False.elim q) ?_ (fun _ _ _ q => q)
            refine wa_iload_n (n := 1) rfl ?_
            refine wa_ifne (w_rg0 (by omega) (by omega)) ⟨_, rfl⟩ (fun c10 => ?_) (fun c10 => ?_)
            · skip
              exact absurd c10 (by omega)
            · skip
              refine wa_aload_n (n := 0) rfl ?_
              refine wb_gf4 237 rfl (wy_pr rfl) wt_237 wf_15_1 (v := 238) wl_237_1 ?_
              refine wa_bipush (w_rg2 (by omega) (by omega)) ?_
              refine wa_iconst ?_
              refine wa_cv 238 rfl (wy_pr rfl) wt_238 (M2 := fun _ => False) rfl at_MH_of ⟨_, rfl⟩ rfl rfl ⟨(Or.inr ⟨wy_pr rfl, fun q => q⟩), trivial, trivial⟩ trivial (fun _ _ q => False.elim q) ?_ (fun _ _ _ q => q)
              refine wa_aload_n (n := 0) rfl ?_
              refine wa_iload_n (n := 1) rfl ?_
              refine wb_pfi 238 rfl (wy_pr rfl) wt_238 wf_11_5 (n := 5) rfl ⟨(by omega), (by omega)⟩ ?_
              refine wa_aload_n (n := 0) rfl ?_
              refine wa_iload_n (n := 2) rfl ?_
              refine wb_pfi 238 rfl (wy_pr rfl) wt_238 wf_11_6 (n := 6) rfl ⟨(by omega), (by omega)⟩ ?_
              refine wa_aload_n (n := 0) rfl ?_
              refine wa_oreturn rfl ?_
              show wJ _ _ _ _ _ _ _ _ _ _
              refine wa_th (j := 238) ?_
              refine ⟨rfl, ?_⟩
              exact Or.inl ⟨by omega, Sq4, hsl, rfl, rfl⟩
          · skip
            refine wa_iconst ?_
            refine wa_goto ⟨_, rfl⟩ ?_
            refine wa_cv 237 rfl (wy_pr rfl) wt_237 (M2 := fun _ => False) rfl at_M_room ⟨_, rfl⟩ rfl rfl ⟨trivial, trivial, trivial, (Or.inr ⟨wy_pr rfl, fun q => q⟩), trivial, trivial, trivial⟩ trivial (fun _ _ q => False.elim q) ?_ (fun _ _ _ q => q)
            refine wa_iload_n (n := 1) rfl ?_
            refine wa_ifne (w_rg0 (by omega) (by omega)) ⟨_, rfl⟩ (fun c11 => ?_) (fun c11 => ?_)
            · skip
              refine wa_return rfl ?_
              show wJ _ _ _ _ _ _ _ _ _ _
              refine wa_iconst ?_
              refine wa_istore (n := 7) rfl ?_
              refine wa_fall ⟨_, rfl⟩ ?_
              refine wJ_mono (wJ_S (so0_l (tx := 0) (p0 := 0) (l := (vL k v)) (fun i hi => by have := hsl.1 i hi; rw [Int.zero_add] at this; exact this) (by omega) hA4 ⟨by omega, by omega⟩ (vL k v).length 0 Sq4 (by omega) ⟨fun k hk => absurd hk (Nat.not_lt_zero _), fun _ _ _ => rfl, hAM⟩) ⟨rfl, rfl, rfl, rfl, rfl, rfl, rfl, trivial⟩) (fun o Z hz => Or.inr ⟨by omega, hz.1, Sq4, hsl, hz.2⟩)
            · skip
              exact absurd c11 (by omega)
        · skip
          exact absurd c6 (by omega)
    · skip
      exact absurd c2 (by omega)
  · skip
    exact absurd c1 (by omega)
end Wg3
