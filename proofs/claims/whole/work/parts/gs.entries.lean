/-! PART gs: entries of the reference: staleness, copies; the class of a value. -/
section Wgs
variable {xs : List (Nat × List Int32)} {M : Nat → Prop} {d : Nat} {S Z A : wS} {H : List aH} {T : List aO} {sl : Nat → List Int} {E : Int → List aE} {e : aE} {u : aV} {r s kd k v : Int} {Pr ch : Int → Int}
/-- an entry of the reference -/
def rEc (S : wS) (e : aE) (r : Int) : Prop := (S 377 r = e.1 ∧ S 378 r = e.2.1 ∧ S 379 r = e.2.2.1 ∧ S 380 r = e.2.2.2.1 ∧ S 381 r = e.2.2.2.2.1 ∧ S 382 r = e.2.2.2.2.2.1) ∧ S 383 r = e.2.2.2.2.2.2.1 ∧ S 384 r = e.2.2.2.2.2.2.2.1 ∧ S 385 r = e.2.2.2.2.2.2.2.2
def rSe (S : wS) (E : Int → List aE) : Prop := (0 ≤ S 237 47 ∧ S 237 47 ≤ 4000) ∧ ∀ s : Int, 0 ≤ s → s < S 237 47 → S 376 s = ((E s).length : Int) ∧ (E s).length ≤ 4 ∧ ∀ i : Nat, i < (E s).length → rEc S ((E s).getD i (0, 0, 0, 0, 0, 0, 0, 0, 0)) (5 * s + (i : Int))
theorem rEc_ag {r q : Int} (h : rEc S e r) (f : ∀ j : Nat, 377 ≤ j → j ≤ 385 → Z j q = S j r) : rEc Z e q := by
  obtain ⟨⟨h1, h2, h3, h4, h5, h6⟩, h7, h8, h9⟩ := h
  exact ⟨⟨(f 377 (by first | decide | omega) (by first | decide | omega)).trans h1, (f 378 (by first | decide | omega) (by first | decide | omega)).trans h2, (f 379 (by first | decide | omega) (by first | decide | omega)).trans h3, (f 380 (by first | decide | omega) (by first | decide | omega)).trans h4, (f 381 (by first | decide | omega) (by first | decide | omega)).trans h5, (f 382 (by first | decide | omega) (by first | decide | omega)).trans h6⟩, (f 383 (by first | decide | omega) (by first | decide | omega)).trans h7, (f 384 (by first | decide | omega) (by first | decide | omega)).trans h8, (f 385 (by first | decide | omega) (by first | decide | omega)).trans h9⟩
theorem rSe_ag (h : rSe S E) (f : ∀ (j : Nat) (x : Int), (376 ≤ j ∧ j ≤ 385) ∨ (j = 237 ∧ x = 47) → Z j x = S j x) : rSe Z E := by
  obtain ⟨h1, h2⟩ := h
  have e47 : Z 237 47 = S 237 47 := f 237 47 (Or.inr ⟨rfl, rfl⟩)
  refine ⟨by rw [e47]; exact h1, fun s s0 s1 => ?_⟩
  rw [e47] at s1
  obtain ⟨a1, a2, a3⟩ := h2 s s0 s1
  exact ⟨(f 376 s (Or.inl (by omega))).trans a1, a2, fun i hi => rEc_ag (a3 i hi) (fun j j0 j1 => f j _ (Or.inl (by omega)))⟩
/-- the class of a value, as the reference tells it -/
def clR (S : wS) (k b : Int) : Int := if k = 0 then 0 else if k = 1 then 6 else if k = 2 then (if b = wb_l2i b then 4 else 5) else if k = 3 then 7 else if k = 7 then 9 + S 321 b else 8
theorem clR_e (hv : rVl S k v u) (ht : rTh S sl T) (ho : vOk T u) : clR S k v = clO T u := by
  unfold clR clO
  rw [hv.1]
  by_cases c3 : u.1 = 3
  · rw [c3]; exact ((if_neg (by first | decide | omega)).trans ((if_neg (by first | decide | omega)).trans ((if_neg (by first | decide | omega)).trans (if_pos rfl)))).trans ((if_neg (by first | decide | omega)).trans ((if_neg (by first | decide | omega)).trans ((if_neg (by first | decide | omega)).trans (if_pos rfl)))).symm
  · rw [(hv.2.1 c3).1]
    by_cases c7 : u.1 = 7
    · obtain ⟨y, y2⟩ := ho.2.1 (by omega) (by omega)
      rw [(r_th ht y.1 y.2).2.2.2.1, y2, if_pos c7]
      repeat rw [if_pos c7]
    · rw [if_neg c7, if_neg c7]
theorem hSt_s {f : Nat} {u ho si : Int} (h1 : u ≠ -1) (h2 : si < ch u) : hSt Pr ch ho si (f + 1) u = 1 := (if_neg h1).trans (if_pos h2)
theorem hSt_h {f : Nat} {u ho si : Int} (h1 : u ≠ -1) (h2 : ¬ si < ch u) (h3 : u = ho) : hSt Pr ch ho si (f + 1) u = 0 := (if_neg h1).trans ((if_neg h2).trans (if_pos h3))
theorem hSt_g {f : Nat} {u ho si : Int} (h1 : u ≠ -1) (h2 : ¬ si < ch u) (h3 : u ≠ ho) : hSt Pr ch ho si (f + 1) u = hSt Pr ch ho si f (Pr u) := (if_neg h1).trans ((if_neg h2).trans (if_neg h3))
theorem mty_ok {b : Int} (hM : w_ML S) (hk : 0 ≤ k ∧ k ≤ 8) (h7 : k = 7 → 0 ≤ b ∧ b < 8000 ∧ 0 ≤ S 321 b ∧ S 321 b < 60) (hb : -9223372036854775808 ≤ b ∧ b ≤ 9223372036854775807) : wJ (pe_GA xs) wY0 M d t_M_typeOf ((pe_at t_M_typeOf.bl 0).getD (0, [])).2 [(0, (2, 237)), (1, (0, k)), (2, (1, b))] [] S (fun o Z => S = Z ∧ o = .inl (some (0, clR S k b))) := by
  have hbr := wb_l2i_rg b
  refine wa_iload_n (n := 1) rfl ?_
  by_cases c1 : k = 0
  · refine wb_sw (w_rg0 (by omega) (by omega)) (tb := 1) (by rw [c1]; rfl) ⟨_, rfl⟩ ?_
    refine wa_iconst ?_
    refine wa_ireturn rfl ?_
    refine ⟨rfl, congrArg (fun z => Sum.inl (some (0, z))) ?_⟩
    unfold clR
    repeat first | rw [if_pos (by omega)] | rw [if_neg (by omega)]
  by_cases c2 : k = 1
  · refine wb_sw (w_rg0 (by omega) (by omega)) (tb := 2) (by rw [c2]; rfl) ⟨_, rfl⟩ ?_
    refine wa_bipush (w_rg2 (by omega) (by omega)) ?_
    refine wa_ireturn rfl ?_
    refine ⟨rfl, congrArg (fun z => Sum.inl (some (0, z))) ?_⟩
    unfold clR
    repeat first | rw [if_pos (by omega)] | rw [if_neg (by omega)]
  by_cases c3 : k = 2
  · refine wb_sw (w_rg0 (by omega) (by omega)) (tb := 3) (by rw [c3]; rfl) ⟨_, rfl⟩ ?_
    refine wa_lload_n (n := 2) rfl ?_
    refine wa_lload_n (n := 2) rfl ?_
    refine wa_l2i ?_
    refine wa_i2l (w_rg0 (by omega) (by omega)) ?_
    refine wa_lcmp (w_rg1 (by omega) (by omega)) (w_rg1 (by omega) (by omega)) ?_
    refine wa_ifne (by have := @wb_lcmp_cases; exact w_lcmp_rg) ⟨_, rfl⟩ (fun c4 => ?_) (fun c4 => ?_)
    · skip
      have c4x := @wb_lcmp_cases b (wb_l2i b)
      refine wa_iconst ?_
      refine wa_fall ⟨_, rfl⟩ ?_
      refine wa_ireturn rfl ?_
      refine ⟨rfl, congrArg (fun z => Sum.inl (some (0, z))) ?_⟩
      unfold clR
      repeat first | rw [if_pos (by omega)] | rw [if_neg (by omega)]
    · skip
      have c4x := @wb_lcmp_cases b (wb_l2i b)
      refine wa_iconst ?_
      refine wa_goto ⟨_, rfl⟩ ?_
      refine wa_ireturn rfl ?_
      refine ⟨rfl, congrArg (fun z => Sum.inl (some (0, z))) ?_⟩
      unfold clR
      repeat first | rw [if_pos (by omega)] | rw [if_neg (by omega)]
  by_cases c5 : k = 3
  · refine wb_sw (w_rg0 (by omega) (by omega)) (tb := 6) (by rw [c5]; rfl) ⟨_, rfl⟩ ?_
    refine wa_bipush (w_rg2 (by omega) (by omega)) ?_
    refine wa_ireturn rfl ?_
    refine ⟨rfl, congrArg (fun z => Sum.inl (some (0, z))) ?_⟩
    unfold clR
    repeat first | rw [if_pos (by omega)] | rw [if_neg (by omega)]
  by_cases c6 : k = 4
  · refine wb_sw (w_rg0 (by omega) (by omega)) (tb := 8) (by rw [c6]; rfl) ⟨_, rfl⟩ ?_
    refine wa_bipush (w_rg2 (by omega) (by omega)) ?_
    refine wa_ireturn rfl ?_
    refine ⟨rfl, congrArg (fun z => Sum.inl (some (0, z))) ?_⟩
    unfold clR
    repeat first | rw [if_pos (by omega)] | rw [if_neg (by omega)]
  by_cases c7 : k = 5
  · refine wb_sw (w_rg0 (by omega) (by omega)) (tb := 8) (by rw [c7]; rfl) ⟨_, rfl⟩ ?_
    refine wa_bipush (w_rg2 (by omega) (by omega)) ?_
    refine wa_ireturn rfl ?_
    refine ⟨rfl, congrArg (fun z => Sum.inl (some (0, z))) ?_⟩
    unfold clR
    repeat first | rw [if_pos (by omega)] | rw [if_neg (by omega)]
  by_cases c8 : k = 6
  · refine wb_sw (w_rg0 (by omega) (by omega)) (tb := 8) (by rw [c8]; rfl) ⟨_, rfl⟩ ?_
    refine wa_bipush (w_rg2 (by omega) (by omega)) ?_
    refine wa_ireturn rfl ?_
    refine ⟨rfl, congrArg (fun z => Sum.inl (some (0, z))) ?_⟩
    unfold clR
    repeat first | rw [if_pos (by omega)] | rw [if_neg (by omega)]
  by_cases c9 : k = 7
  · refine wb_sw (w_rg0 (by omega) (by omega)) (tb := 7) (by rw [c9]; rfl) ⟨_, rfl⟩ ?_
    refine wa_bipush (w_rg2 (by omega) (by omega)) ?_
    refine wa_aload_n (n := 0) rfl ?_
    refine wb_gf4 237 rfl (wy_pr rfl) wt_237 wf_15_77 (v := 321) wl_237_77 ?_
    refine wa_lload_n (n := 2) rfl ?_
    refine wb_l2i_r (wb_l2i_id ⟨(by omega), (by omega)⟩) ?_
    refine wb_iald 321 rfl (wy_pr rfl) wt_321 (n := 8000) ((ml_321 hM)) (by omega) (by omega) (v := (S 321 b)) rfl (fun r10 => ?_)
    refine wa_iadd ?_
    refine wa_ireturn rfl ?_
    refine ⟨rfl, congrArg (fun z => Sum.inl (some (0, z))) ?_⟩
    unfold clR
    repeat first | rw [if_pos (by omega)] | rw [if_neg (by omega)]
  refine wb_sw (w_rg0 (by omega) (by omega)) (tb := 8) (w_tb_df (by simp only [List.length_cons, List.length_nil]; omega)) ⟨_, rfl⟩ ?_
  refine wa_bipush (w_rg2 (by omega) (by omega)) ?_
  refine wa_ireturn rfl ?_
  refine ⟨rfl, congrArg (fun z => Sum.inl (some (0, z))) ?_⟩
  unfold clR
  repeat first | rw [if_pos (by omega)] | rw [if_neg (by omega)]
theorem rst_l {ho si : Int} (hM : w_ML S) (ht : rTh S sl T) (hH : rHs S H) (hw : wSh T H) (hT : (T.length : Int) ≤ 8000) (h82 : S 237 82 ≤ 60000) (hr : 0 ≤ r ∧ r < 20000) (h80 : S 380 r = ho) (h83 : S 383 r = si) : ∀ (f : Nat) (u : Int), cEn (aPr T H) f u → (u = -1 ∨ isO T u) → wJ (pe_GA xs) wY0 M (d + 1) t_M_isStale ((pe_at t_M_isStale.bl 6).getD (0, [])).2 [(0, (2, 237)), (1, (0, r)), (2, (0, kd)), (3, (0, 1)), (4, (0, u))] [] S (fun o Z => S = Z ∧ o = .inl (some (0, hSt (aPr T H) (aCg T) ho si f u))) := by
  intro f
  induction f with
  | zero =>
    intro u hc hu
    have hc2 : u = -1 := hc
    have e : hSt (aPr T H) (aCg T) ho si 0 u = 0 := rfl
    rw [e]
    refine wa_iload (n := 4) rfl ?_
    refine wa_iflt (w_rg0 (by omega) (by omega)) ⟨_, rfl⟩ (fun c1 => ?_) (fun c1 => ?_)
    · skip
      refine wa_iconst ?_
      refine wa_zreturn rfl (Or.inl rfl) ?_
      exact ⟨rfl, rfl⟩
    · skip
      exact absurd c1 (by omega)
  | succ f ih =>
    intro u hc hu
    by_cases cu : u = -1
    · rw [cu, hSt_n]
      refine wa_iload (n := 4) rfl ?_
      refine wa_iflt (w_rg0 (by omega) (by omega)) ⟨_, rfl⟩ (fun c51 => ?_) (fun c51 => ?_)
      · skip
        refine wa_iconst ?_
        refine wa_zreturn rfl (Or.inl rfl) ?_
        exact ⟨rfl, rfl⟩
      · skip
        exact absurd c51 (by omega)
    have hu1 : isO T u := hu.elim (fun z => absurd z cu) id
    have hs1 := wSh_sh hw hu1
    have e5 := (r_th ht hu1.1.1 hu1.1.2).2.1
    have e9 : S 329 (tO T u).2.1 = aPr T H u := (rHs_e hH hs1.1 hs1.2).1
    have hs2 := hu1.1
    have hpr := wSh_pr hw hu1
    have hpg : -1 ≤ aPr T H u ∧ aPr T H u < (T.length : Int) := by rcases hpr with z | z; omega; have := z.1; omega
    have hH4 := hw.1.2.1
    have e24 : S 324 u = aCg T u := (r_th ht hu1.1.1 hu1.1.2).2.2.2.2.2.2.2
    refine wa_iload (n := 4) rfl ?_
    refine wa_iflt (w_rg0 (by omega) (by omega)) ⟨_, rfl⟩ (fun c101 => ?_) (fun c101 => ?_)
    · skip
      refine wa_iconst ?_
      refine wa_zreturn rfl (Or.inl rfl) ?_
      first | (rw [hSt_h cu (by omega) (by omega)]; exact ⟨rfl, rfl⟩) | (exfalso; omega)
    · skip
      refine wa_aload_n (n := 0) rfl ?_
      refine wb_gf4 237 rfl (wy_pr rfl) wt_237 wf_15_80 (v := 324) wl_237_80 ?_
      refine wa_iload (n := 4) rfl ?_
      refine wb_iald 324 rfl (wy_pr rfl) wt_324 (n := 8000) ((ml_324 hM)) (by omega) (by omega) (v := (aCg T u)) (e24) (fun r102 => ?_)
      refine wa_aload_n (n := 0) rfl ?_
      refine wb_gf4 237 rfl (wy_pr rfl) wt_237 wf_15_163 (v := 383) wl_237_163 ?_
      refine wa_iload_n (n := 1) rfl ?_
      refine wb_iald 383 rfl (wy_pr rfl) wt_383 (n := 20000) ((ml_383 hM)) (by omega) (by omega) (v := si) (h83) (fun r103 => ?_)
      refine wa_icmple (w_rg0 (by omega) (by omega)) (w_rg0 (by omega) (by omega)) ⟨_, rfl⟩ (fun c104 => ?_) (fun c104 => ?_)
      · skip
        refine wa_iload (n := 4) rfl ?_
        refine wa_aload_n (n := 0) rfl ?_
        refine wb_gf4 237 rfl (wy_pr rfl) wt_237 wf_15_160 (v := 380) wl_237_160 ?_
        refine wa_iload_n (n := 1) rfl ?_
        refine wb_iald 380 rfl (wy_pr rfl) wt_380 (n := 20000) ((ml_380 hM)) (by omega) (by omega) (v := ho) (h80) (fun r105 => ?_)
        refine wa_icmpne (w_rg0 (by omega) (by omega)) (w_rg0 (by omega) (by omega)) ⟨_, rfl⟩ (fun c106 => ?_) (fun c106 => ?_)
        · skip
          refine wa_aload_n (n := 0) rfl ?_
          refine wa_iload (n := 4) rfl ?_
          refine wa_cv 237 rfl (wy_pr rfl) wt_237 (M2 := fun _ => False) rfl at_M_protoOf ⟨_, rfl⟩ rfl rfl ⟨(Or.inr ⟨wy_pr rfl, fun q => q⟩), trivial, trivial, trivial, trivial, trivial⟩ trivial (fun _ _ q => False.elim q) ?_ (fun _ _ _ q => q)
          refine wa_aload_n (n := 0) rfl ?_
          refine wb_gf4 237 rfl (wy_pr rfl) wt_237 wf_15_88 (v := 329) wl_237_88 ?_
          refine wa_aload_n (n := 0) rfl ?_
          refine wb_gf4 237 rfl (wy_pr rfl) wt_237 wf_15_71 (v := 315) wl_237_71 ?_
          refine wa_iload_n (n := 1) rfl ?_
          refine wb_iald 315 rfl (wy_pr rfl) wt_315 (n := 8000) ((ml_315 hM)) (by omega) (by omega) (v := (tO T u).2.1) (e5) (fun r107 => ?_)
          refine wb_iald 329 rfl (wy_pr rfl) wt_329 (n := 4001) ((ml_329 hM)) (by omega) (by omega) (v := (aPr T H u)) (e9) (fun r108 => ?_)
          refine wa_ireturn rfl ?_
          show wJ _ _ _ _ _ _ _ _ _ _
          refine wa_istore (n := 4) rfl ?_
          refine wa_goto ⟨_, rfl⟩ ?_
          rw [hSt_g cu (by omega) (by omega)]
          exact wJ_S (ih (aPr T H u) (hc.elim (fun z => absurd z cu) id) hpr) ⟨rfl, rfl, rfl, rfl, rfl, trivial⟩
        · skip
          refine wa_iconst ?_
          refine wa_zreturn rfl (Or.inl rfl) ?_
          first | (rw [hSt_h cu (by omega) (by omega)]; exact ⟨rfl, rfl⟩) | (exfalso; omega)
      · skip
        refine wa_iconst ?_
        refine wa_zreturn rfl (Or.inr rfl) ?_
        rw [hSt_s cu (by omega)]
        exact ⟨rfl, rfl⟩
theorem rst_ok (hM : w_ML S) (ht : rTh S sl T) (hH : rHs S H) (hw : wSh T H) (hT : (T.length : Int) ≤ 8000) (h82 : S 237 82 ≤ 60000) (hr : 0 ≤ r ∧ r < 20000) (he : rEc S e r) (hsh : eSn kd e ≠ -1 → 0 ≤ e.2.1 ∧ e.2.1 < (H.length : Int)) (hwf : -1 ≤ e.2.2.2.1 ∧ 0 ≤ e.2.2.2.2.2.2.1 ∧ 0 ≤ kd ∧ kd ≤ 6) : wJ (pe_GA xs) wY0 M (d + 2) t_M_isStale ((pe_at t_M_isStale.bl 0).getD (0, [])).2 [(0, (2, 237)), (1, (0, r)), (2, (0, kd))] [] S (fun o Z => S = Z ∧ o = .inl (some (0, eSt T H kd e))) := by
  obtain ⟨⟨a1, a2, a3, a4, a5, a6⟩, a7, a8, a9⟩ := id he
  have hH4 := hw.1.2.1
  have hsn : (eSn kd e = -1 ∧ ¬ (e.1 = 0 ∧ (kd = 0 ∨ kd = 2 ∨ kd = 5) ∧ ¬ (0 ≤ e.2.2.2.2.1 ∧ e.2.2.2.1 = -1))) ∨ (eSn kd e = e.2.2.2.2.2.2.1 ∧ (e.1 = 0 ∧ (kd = 0 ∨ kd = 2 ∨ kd = 5) ∧ ¬ (0 ≤ e.2.2.2.2.1 ∧ e.2.2.2.1 = -1))) := by
    unfold eSn
    by_cases c : e.1 = 0 ∧ (kd = 0 ∨ kd = 2 ∨ kd = 5) ∧ ¬ (0 ≤ e.2.2.2.2.1 ∧ e.2.2.2.1 = -1)
    · exact Or.inr ⟨if_pos c, c⟩
    · exact Or.inl ⟨if_neg c, c⟩
  refine wa_aload_n (n := 0) rfl ?_
  refine wb_gf4 237 rfl (wy_pr rfl) wt_237 wf_15_157 (v := 377) wl_237_157 ?_
  refine wa_iload_n (n := 1) rfl ?_
  refine wb_iald 377 rfl (wy_pr rfl) wt_377 (n := 20000) ((ml_377 hM)) (by omega) (by omega) (v := (e.1)) (a1) (fun r301 => ?_)
  refine wa_ifne (w_rg0 (by omega) (by omega)) ⟨_, rfl⟩ (fun c302 => ?_) (fun c302 => ?_)
  · skip
    refine wa_iconst ?_
    refine wa_fall ⟨_, rfl⟩ ?_
    refine wa_istore_n (n := 3) rfl ?_
    refine wa_iload_n (n := 3) rfl ?_
    refine wa_ifeq (w_rg0 (by omega) (by omega)) ⟨_, rfl⟩ (fun c303 => ?_) (fun c303 => ?_)
    · skip
      refine wa_iconst ?_
      refine wa_zreturn rfl (Or.inl rfl) ?_
      have hs2 := hsn.resolve_right (fun z => by omega)
      have ev : eSt T H kd e = 0 := if_pos hs2.1
      rw [ev]
      exact ⟨rfl, rfl⟩
    · skip
      exact absurd c303 (by omega)
  · skip
    refine wa_iload_n (n := 2) rfl ?_
    refine wa_ifeq (w_rg0 (by omega) (by omega)) ⟨_, rfl⟩ (fun c304 => ?_) (fun c304 => ?_)
    · skip
      refine wa_iconst ?_
      refine wa_goto ⟨_, rfl⟩ ?_
      refine wa_istore_n (n := 3) rfl ?_
      refine wa_iload_n (n := 3) rfl ?_
      refine wa_ifeq (w_rg0 (by omega) (by omega)) ⟨_, rfl⟩ (fun c305 => ?_) (fun c305 => ?_)
      · skip
        exact absurd c305 (by omega)
      · skip
        refine wa_aload_n (n := 0) rfl ?_
        refine wb_gf4 237 rfl (wy_pr rfl) wt_237 wf_15_161 (v := 381) wl_237_161 ?_
        refine wa_iload_n (n := 1) rfl ?_
        refine wb_iald 381 rfl (wy_pr rfl) wt_381 (n := 20000) ((ml_381 hM)) (by omega) (by omega) (v := (e.2.2.2.2.1)) (a5) (fun r306 => ?_)
        refine wa_iflt (w_rg0 (by omega) (by omega)) ⟨_, rfl⟩ (fun c307 => ?_) (fun c307 => ?_)
        · skip
          have hs2 := hsn.resolve_left (fun z => by omega)
          have hg := hsh (by omega)
          have e29 : S 329 e.2.1 = qPr H e.2.1 := by
            have z := (hH.2 e.2.1.toNat (by omega)).1
            rw [show ((e.2.1.toNat : Nat) : Int) = e.2.1 by omega] at z
            exact z
          have hpo : qPr H e.2.1 = -1 ∨ isO T (qPr H e.2.1) := hw.2.2.2.2.2.1 e.2.1 hg.1 hg.2
          have ev : eSt T H kd e = hSt (aPr T H) (aCg T) e.2.2.2.1 e.2.2.2.2.2.2.1 T.length (qPr H e.2.1) := by
            unfold eSt aSt
            rw [if_neg (by omega), hs2.1]
          rw [ev]
          refine wa_aload_n (n := 0) rfl ?_
          refine wb_gf4 237 rfl (wy_pr rfl) wt_237 wf_15_88 (v := 329) wl_237_88 ?_
          refine wa_aload_n (n := 0) rfl ?_
          refine wb_gf4 237 rfl (wy_pr rfl) wt_237 wf_15_158 (v := 378) wl_237_158 ?_
          refine wa_iload_n (n := 1) rfl ?_
          refine wb_iald 378 rfl (wy_pr rfl) wt_378 (n := 20000) ((ml_378 hM)) (by omega) (by omega) (v := (e.2.1)) (a2) (fun r308 => ?_)
          refine wb_iald 329 rfl (wy_pr rfl) wt_329 (n := 4001) ((ml_329 hM)) (by omega) (by omega) (v := (qPr H e.2.1)) (e29) (fun r309 => ?_)
          refine wa_istore (n := 4) rfl ?_
          refine wa_fall ⟨_, rfl⟩ ?_
          exact wJ_S (rst_l hM ht hH hw hT h82 hr a4 a7 T.length _ (wSh_en hw hpo) hpo) ⟨rfl, rfl, rfl, rfl, rfl, trivial⟩
        · skip
          refine wa_aload_n (n := 0) rfl ?_
          refine wb_gf4 237 rfl (wy_pr rfl) wt_237 wf_15_160 (v := 380) wl_237_160 ?_
          refine wa_iload_n (n := 1) rfl ?_
          refine wb_iald 380 rfl (wy_pr rfl) wt_380 (n := 20000) ((ml_380 hM)) (by omega) (by omega) (v := (e.2.2.2.1)) (a4) (fun r310 => ?_)
          refine wa_ifge (w_rg0 (by omega) (by omega)) ⟨_, rfl⟩ (fun c311 => ?_) (fun c311 => ?_)
          · skip
            have hs2 := hsn.resolve_left (fun z => by omega)
            have hg := hsh (by omega)
            have e29 : S 329 e.2.1 = qPr H e.2.1 := by
              have z := (hH.2 e.2.1.toNat (by omega)).1
              rw [show ((e.2.1.toNat : Nat) : Int) = e.2.1 by omega] at z
              exact z
            have hpo : qPr H e.2.1 = -1 ∨ isO T (qPr H e.2.1) := hw.2.2.2.2.2.1 e.2.1 hg.1 hg.2
            have ev : eSt T H kd e = hSt (aPr T H) (aCg T) e.2.2.2.1 e.2.2.2.2.2.2.1 T.length (qPr H e.2.1) := by
              unfold eSt aSt
              rw [if_neg (by omega), hs2.1]
            rw [ev]
            refine wa_aload_n (n := 0) rfl ?_
            refine wb_gf4 237 rfl (wy_pr rfl) wt_237 wf_15_88 (v := 329) wl_237_88 ?_
            refine wa_aload_n (n := 0) rfl ?_
            refine wb_gf4 237 rfl (wy_pr rfl) wt_237 wf_15_158 (v := 378) wl_237_158 ?_
            refine wa_iload_n (n := 1) rfl ?_
            refine wb_iald 378 rfl (wy_pr rfl) wt_378 (n := 20000) ((ml_378 hM)) (by omega) (by omega) (v := (e.2.1)) (a2) (fun r312 => ?_)
            refine wb_iald 329 rfl (wy_pr rfl) wt_329 (n := 4001) ((ml_329 hM)) (by omega) (by omega) (v := (qPr H e.2.1)) (e29) (fun r313 => ?_)
            refine wa_istore (n := 4) rfl ?_
            refine wa_fall ⟨_, rfl⟩ ?_
            exact wJ_S (rst_l hM ht hH hw hT h82 hr a4 a7 T.length _ (wSh_en hw hpo) hpo) ⟨rfl, rfl, rfl, rfl, rfl, trivial⟩
          · skip
            refine wa_fall ⟨_, rfl⟩ ?_
            refine wa_iconst ?_
            refine wa_zreturn rfl (Or.inl rfl) ?_
            have hs2 := hsn.resolve_right (fun z => by omega)
            have ev : eSt T H kd e = 0 := if_pos hs2.1
            rw [ev]
            exact ⟨rfl, rfl⟩
    · skip
      refine wa_iload_n (n := 2) rfl ?_
      refine wa_iconst ?_
      refine wa_icmpeq (w_rg0 (by omega) (by omega)) (w_rg0 (by omega) (by omega)) ⟨_, rfl⟩ (fun c314 => ?_) (fun c314 => ?_)
      · skip
        refine wa_iconst ?_
        refine wa_goto ⟨_, rfl⟩ ?_
        refine wa_istore_n (n := 3) rfl ?_
        refine wa_iload_n (n := 3) rfl ?_
        refine wa_ifeq (w_rg0 (by omega) (by omega)) ⟨_, rfl⟩ (fun c315 => ?_) (fun c315 => ?_)
        · skip
          exact absurd c315 (by omega)
        · skip
          refine wa_aload_n (n := 0) rfl ?_
          refine wb_gf4 237 rfl (wy_pr rfl) wt_237 wf_15_161 (v := 381) wl_237_161 ?_
          refine wa_iload_n (n := 1) rfl ?_
          refine wb_iald 381 rfl (wy_pr rfl) wt_381 (n := 20000) ((ml_381 hM)) (by omega) (by omega) (v := (e.2.2.2.2.1)) (a5) (fun r316 => ?_)
          refine wa_iflt (w_rg0 (by omega) (by omega)) ⟨_, rfl⟩ (fun c317 => ?_) (fun c317 => ?_)
          · skip
            have hs2 := hsn.resolve_left (fun z => by omega)
            have hg := hsh (by omega)
            have e29 : S 329 e.2.1 = qPr H e.2.1 := by
              have z := (hH.2 e.2.1.toNat (by omega)).1
              rw [show ((e.2.1.toNat : Nat) : Int) = e.2.1 by omega] at z
              exact z
            have hpo : qPr H e.2.1 = -1 ∨ isO T (qPr H e.2.1) := hw.2.2.2.2.2.1 e.2.1 hg.1 hg.2
            have ev : eSt T H kd e = hSt (aPr T H) (aCg T) e.2.2.2.1 e.2.2.2.2.2.2.1 T.length (qPr H e.2.1) := by
              unfold eSt aSt
              rw [if_neg (by omega), hs2.1]
            rw [ev]
            refine wa_aload_n (n := 0) rfl ?_
            refine wb_gf4 237 rfl (wy_pr rfl) wt_237 wf_15_88 (v := 329) wl_237_88 ?_
            refine wa_aload_n (n := 0) rfl ?_
            refine wb_gf4 237 rfl (wy_pr rfl) wt_237 wf_15_158 (v := 378) wl_237_158 ?_
            refine wa_iload_n (n := 1) rfl ?_
            refine wb_iald 378 rfl (wy_pr rfl) wt_378 (n := 20000) ((ml_378 hM)) (by omega) (by omega) (v := (e.2.1)) (a2) (fun r318 => ?_)
            refine wb_iald 329 rfl (wy_pr rfl) wt_329 (n := 4001) ((ml_329 hM)) (by omega) (by omega) (v := (qPr H e.2.1)) (e29) (fun r319 => ?_)
            refine wa_istore (n := 4) rfl ?_
            refine wa_fall ⟨_, rfl⟩ ?_
            exact wJ_S (rst_l hM ht hH hw hT h82 hr a4 a7 T.length _ (wSh_en hw hpo) hpo) ⟨rfl, rfl, rfl, rfl, rfl, trivial⟩
          · skip
            refine wa_aload_n (n := 0) rfl ?_
            refine wb_gf4 237 rfl (wy_pr rfl) wt_237 wf_15_160 (v := 380) wl_237_160 ?_
            refine wa_iload_n (n := 1) rfl ?_
            refine wb_iald 380 rfl (wy_pr rfl) wt_380 (n := 20000) ((ml_380 hM)) (by omega) (by omega) (v := (e.2.2.2.1)) (a4) (fun r320 => ?_)
            refine wa_ifge (w_rg0 (by omega) (by omega)) ⟨_, rfl⟩ (fun c321 => ?_) (fun c321 => ?_)
            · skip
              have hs2 := hsn.resolve_left (fun z => by omega)
              have hg := hsh (by omega)
              have e29 : S 329 e.2.1 = qPr H e.2.1 := by
                have z := (hH.2 e.2.1.toNat (by omega)).1
                rw [show ((e.2.1.toNat : Nat) : Int) = e.2.1 by omega] at z
                exact z
              have hpo : qPr H e.2.1 = -1 ∨ isO T (qPr H e.2.1) := hw.2.2.2.2.2.1 e.2.1 hg.1 hg.2
              have ev : eSt T H kd e = hSt (aPr T H) (aCg T) e.2.2.2.1 e.2.2.2.2.2.2.1 T.length (qPr H e.2.1) := by
                unfold eSt aSt
                rw [if_neg (by omega), hs2.1]
              rw [ev]
              refine wa_aload_n (n := 0) rfl ?_
              refine wb_gf4 237 rfl (wy_pr rfl) wt_237 wf_15_88 (v := 329) wl_237_88 ?_
              refine wa_aload_n (n := 0) rfl ?_
              refine wb_gf4 237 rfl (wy_pr rfl) wt_237 wf_15_158 (v := 378) wl_237_158 ?_
              refine wa_iload_n (n := 1) rfl ?_
              refine wb_iald 378 rfl (wy_pr rfl) wt_378 (n := 20000) ((ml_378 hM)) (by omega) (by omega) (v := (e.2.1)) (a2) (fun r322 => ?_)
              refine wb_iald 329 rfl (wy_pr rfl) wt_329 (n := 4001) ((ml_329 hM)) (by omega) (by omega) (v := (qPr H e.2.1)) (e29) (fun r323 => ?_)
              refine wa_istore (n := 4) rfl ?_
              refine wa_fall ⟨_, rfl⟩ ?_
              exact wJ_S (rst_l hM ht hH hw hT h82 hr a4 a7 T.length _ (wSh_en hw hpo) hpo) ⟨rfl, rfl, rfl, rfl, rfl, trivial⟩
            · skip
              refine wa_fall ⟨_, rfl⟩ ?_
              refine wa_iconst ?_
              refine wa_zreturn rfl (Or.inl rfl) ?_
              have hs2 := hsn.resolve_right (fun z => by omega)
              have ev : eSt T H kd e = 0 := if_pos hs2.1
              rw [ev]
              exact ⟨rfl, rfl⟩
      · skip
        refine wa_iload_n (n := 2) rfl ?_
        refine wa_iconst ?_
        refine wa_icmpne (w_rg0 (by omega) (by omega)) (w_rg0 (by omega) (by omega)) ⟨_, rfl⟩ (fun c324 => ?_) (fun c324 => ?_)
        · skip
          refine wa_iconst ?_
          refine wa_fall ⟨_, rfl⟩ ?_
          refine wa_istore_n (n := 3) rfl ?_
          refine wa_iload_n (n := 3) rfl ?_
          refine wa_ifeq (w_rg0 (by omega) (by omega)) ⟨_, rfl⟩ (fun c325 => ?_) (fun c325 => ?_)
          · skip
            refine wa_iconst ?_
            refine wa_zreturn rfl (Or.inl rfl) ?_
            have hs2 := hsn.resolve_right (fun z => by omega)
            have ev : eSt T H kd e = 0 := if_pos hs2.1
            rw [ev]
            exact ⟨rfl, rfl⟩
          · skip
            exact absurd c325 (by omega)
        · skip
          refine wa_fall ⟨_, rfl⟩ ?_
          refine wa_iconst ?_
          refine wa_goto ⟨_, rfl⟩ ?_
          refine wa_istore_n (n := 3) rfl ?_
          refine wa_iload_n (n := 3) rfl ?_
          refine wa_ifeq (w_rg0 (by omega) (by omega)) ⟨_, rfl⟩ (fun c326 => ?_) (fun c326 => ?_)
          · skip
            exact absurd c326 (by omega)
          · skip
            refine wa_aload_n (n := 0) rfl ?_
            refine wb_gf4 237 rfl (wy_pr rfl) wt_237 wf_15_161 (v := 381) wl_237_161 ?_
            refine wa_iload_n (n := 1) rfl ?_
            refine wb_iald 381 rfl (wy_pr rfl) wt_381 (n := 20000) ((ml_381 hM)) (by omega) (by omega) (v := (e.2.2.2.2.1)) (a5) (fun r327 => ?_)
            refine wa_iflt (w_rg0 (by omega) (by omega)) ⟨_, rfl⟩ (fun c328 => ?_) (fun c328 => ?_)
            · skip
              have hs2 := hsn.resolve_left (fun z => by omega)
              have hg := hsh (by omega)
              have e29 : S 329 e.2.1 = qPr H e.2.1 := by
                have z := (hH.2 e.2.1.toNat (by omega)).1
                rw [show ((e.2.1.toNat : Nat) : Int) = e.2.1 by omega] at z
                exact z
              have hpo : qPr H e.2.1 = -1 ∨ isO T (qPr H e.2.1) := hw.2.2.2.2.2.1 e.2.1 hg.1 hg.2
              have ev : eSt T H kd e = hSt (aPr T H) (aCg T) e.2.2.2.1 e.2.2.2.2.2.2.1 T.length (qPr H e.2.1) := by
                unfold eSt aSt
                rw [if_neg (by omega), hs2.1]
              rw [ev]
              refine wa_aload_n (n := 0) rfl ?_
              refine wb_gf4 237 rfl (wy_pr rfl) wt_237 wf_15_88 (v := 329) wl_237_88 ?_
              refine wa_aload_n (n := 0) rfl ?_
              refine wb_gf4 237 rfl (wy_pr rfl) wt_237 wf_15_158 (v := 378) wl_237_158 ?_
              refine wa_iload_n (n := 1) rfl ?_
              refine wb_iald 378 rfl (wy_pr rfl) wt_378 (n := 20000) ((ml_378 hM)) (by omega) (by omega) (v := (e.2.1)) (a2) (fun r329 => ?_)
              refine wb_iald 329 rfl (wy_pr rfl) wt_329 (n := 4001) ((ml_329 hM)) (by omega) (by omega) (v := (qPr H e.2.1)) (e29) (fun r330 => ?_)
              refine wa_istore (n := 4) rfl ?_
              refine wa_fall ⟨_, rfl⟩ ?_
              exact wJ_S (rst_l hM ht hH hw hT h82 hr a4 a7 T.length _ (wSh_en hw hpo) hpo) ⟨rfl, rfl, rfl, rfl, rfl, trivial⟩
            · skip
              refine wa_aload_n (n := 0) rfl ?_
              refine wb_gf4 237 rfl (wy_pr rfl) wt_237 wf_15_160 (v := 380) wl_237_160 ?_
              refine wa_iload_n (n := 1) rfl ?_
              refine wb_iald 380 rfl (wy_pr rfl) wt_380 (n := 20000) ((ml_380 hM)) (by omega) (by omega) (v := (e.2.2.2.1)) (a4) (fun r331 => ?_)
              refine wa_ifge (w_rg0 (by omega) (by omega)) ⟨_, rfl⟩ (fun c332 => ?_) (fun c332 => ?_)
              · skip
                have hs2 := hsn.resolve_left (fun z => by omega)
                have hg := hsh (by omega)
                have e29 : S 329 e.2.1 = qPr H e.2.1 := by
                  have z := (hH.2 e.2.1.toNat (by omega)).1
                  rw [show ((e.2.1.toNat : Nat) : Int) = e.2.1 by omega] at z
                  exact z
                have hpo : qPr H e.2.1 = -1 ∨ isO T (qPr H e.2.1) := hw.2.2.2.2.2.1 e.2.1 hg.1 hg.2
                have ev : eSt T H kd e = hSt (aPr T H) (aCg T) e.2.2.2.1 e.2.2.2.2.2.2.1 T.length (qPr H e.2.1) := by
                  unfold eSt aSt
                  rw [if_neg (by omega), hs2.1]
                rw [ev]
                refine wa_aload_n (n := 0) rfl ?_
                refine wb_gf4 237 rfl (wy_pr rfl) wt_237 wf_15_88 (v := 329) wl_237_88 ?_
                refine wa_aload_n (n := 0) rfl ?_
                refine wb_gf4 237 rfl (wy_pr rfl) wt_237 wf_15_158 (v := 378) wl_237_158 ?_
                refine wa_iload_n (n := 1) rfl ?_
                refine wb_iald 378 rfl (wy_pr rfl) wt_378 (n := 20000) ((ml_378 hM)) (by omega) (by omega) (v := (e.2.1)) (a2) (fun r333 => ?_)
                refine wb_iald 329 rfl (wy_pr rfl) wt_329 (n := 4001) ((ml_329 hM)) (by omega) (by omega) (v := (qPr H e.2.1)) (e29) (fun r334 => ?_)
                refine wa_istore (n := 4) rfl ?_
                refine wa_fall ⟨_, rfl⟩ ?_
                exact wJ_S (rst_l hM ht hH hw hT h82 hr a4 a7 T.length _ (wSh_en hw hpo) hpo) ⟨rfl, rfl, rfl, rfl, rfl, trivial⟩
              · skip
                refine wa_fall ⟨_, rfl⟩ ?_
                refine wa_iconst ?_
                refine wa_zreturn rfl (Or.inl rfl) ?_
                have hs2 := hsn.resolve_right (fun z => by omega)
                have ev : eSt T H kd e = 0 := if_pos hs2.1
                rw [ev]
                exact ⟨rfl, rfl⟩
/-- a row is another one's copy -/
def cpZ (a b : Int) (S : wS) : wS := w_up (w_up (w_up (w_up (w_up (w_up (w_up (w_up (w_up S 377 b (S 377 a)) 378 b (S 378 a)) 379 b (S 379 a)) 380 b (S 380 a)) 381 b (S 381 a)) 382 b (S 382 a)) 383 b (S 383 a)) 384 b (S 384 a)) 385 b (S 385 a)
theorem cps_ok {a b : Int} (hM : w_ML S) (ha : 0 ≤ a ∧ a < 20000) (hb : 0 ≤ b ∧ b < 20000) : wJ (pe_GA xs) wY0 M d t_M_copies ((pe_at t_M_copies.bl 0).getD (0, [])).2 [(0, (2, 237)), (1, (0, a)), (2, (0, b))] [] S (fun o Z => o = .inl none ∧ cpZ a b S = Z) := by
  refine wa_aload_n (n := 0) rfl ?_
  refine wb_gf4 237 rfl (wy_pr rfl) wt_237 wf_15_157 (v := 377) wl_237_157 ?_
  refine wa_iload_n (n := 2) rfl ?_
  refine wa_aload_n (n := 0) rfl ?_
  refine wb_gf4 237 rfl (wy_pr rfl) wt_237 wf_15_157 (v := 377) wl_237_157 ?_
  refine wa_iload_n (n := 1) rfl ?_
  refine wb_iald 377 rfl (wy_pr rfl) wt_377 (n := 20000) ((ml_377 hM)) (by omega) (by omega) (v := (S 377 a)) rfl (fun r1 => ?_)
  refine wb_iast 377 rfl (wy_pr rfl) wt_377 (n := 20000) ((ml_377 hM)) (by omega) (by omega) ⟨(by omega), (by omega)⟩ ?_
  refine wa_aload_n (n := 0) rfl ?_
  refine wb_gf4 237 rfl (wy_pr rfl) wt_237 wf_15_158 (v := 378) wl_237_158 ?_
  refine wa_iload_n (n := 2) rfl ?_
  refine wa_aload_n (n := 0) rfl ?_
  refine wb_gf4 237 rfl (wy_pr rfl) wt_237 wf_15_158 (v := 378) wl_237_158 ?_
  refine wa_iload_n (n := 1) rfl ?_
  refine wb_iald 378 rfl (wy_pr rfl) wt_378 (n := 20000) ((w_up_slot (by decide)).trans ((ml_378 hM))) (by omega) (by omega) (v := (S 378 a)) (w_up_slot (by decide)) (fun r2 => ?_)
  refine wb_iast 378 rfl (wy_pr rfl) wt_378 (n := 20000) ((w_up_slot (by decide)).trans ((ml_378 hM))) (by omega) (by omega) ⟨(by omega), (by omega)⟩ ?_
  refine wa_aload_n (n := 0) rfl ?_
  refine wb_gf4 237 rfl (wy_pr rfl) wt_237 wf_15_159 (v := 379) wl_237_159 ?_
  refine wa_iload_n (n := 2) rfl ?_
  refine wa_aload_n (n := 0) rfl ?_
  refine wb_gf4 237 rfl (wy_pr rfl) wt_237 wf_15_159 (v := 379) wl_237_159 ?_
  refine wa_iload_n (n := 1) rfl ?_
  refine wb_iald 379 rfl (wy_pr rfl) wt_379 (n := 20000) ((w_up_slot (by decide)).trans ((w_up_slot (by decide)).trans ((ml_379 hM)))) (by omega) (by omega) (v := (S 379 a)) ((w_up_slot (by decide)).trans (w_up_slot (by decide))) (fun r3 => ?_)
  refine wb_iast 379 rfl (wy_pr rfl) wt_379 (n := 20000) ((w_up_slot (by decide)).trans ((w_up_slot (by decide)).trans ((ml_379 hM)))) (by omega) (by omega) ⟨(by omega), (by omega)⟩ ?_
  refine wa_aload_n (n := 0) rfl ?_
  refine wb_gf4 237 rfl (wy_pr rfl) wt_237 wf_15_160 (v := 380) wl_237_160 ?_
  refine wa_iload_n (n := 2) rfl ?_
  refine wa_aload_n (n := 0) rfl ?_
  refine wb_gf4 237 rfl (wy_pr rfl) wt_237 wf_15_160 (v := 380) wl_237_160 ?_
  refine wa_iload_n (n := 1) rfl ?_
  refine wb_iald 380 rfl (wy_pr rfl) wt_380 (n := 20000) ((w_up_slot (by decide)).trans ((w_up_slot (by decide)).trans ((w_up_slot (by decide)).trans ((ml_380 hM))))) (by omega) (by omega) (v := (S 380 a)) ((w_up_slot (by decide)).trans ((w_up_slot (by decide)).trans (w_up_slot (by decide)))) (fun r4 => ?_)
  refine wb_iast 380 rfl (wy_pr rfl) wt_380 (n := 20000) ((w_up_slot (by decide)).trans ((w_up_slot (by decide)).trans ((w_up_slot (by decide)).trans ((ml_380 hM))))) (by omega) (by omega) ⟨(by omega), (by omega)⟩ ?_
  refine wa_aload_n (n := 0) rfl ?_
  refine wb_gf4 237 rfl (wy_pr rfl) wt_237 wf_15_161 (v := 381) wl_237_161 ?_
  refine wa_iload_n (n := 2) rfl ?_
  refine wa_aload_n (n := 0) rfl ?_
  refine wb_gf4 237 rfl (wy_pr rfl) wt_237 wf_15_161 (v := 381) wl_237_161 ?_
  refine wa_iload_n (n := 1) rfl ?_
  refine wb_iald 381 rfl (wy_pr rfl) wt_381 (n := 20000) ((w_up_slot (by decide)).trans ((w_up_slot (by decide)).trans ((w_up_slot (by decide)).trans ((w_up_slot (by decide)).trans ((ml_381 hM)))))) (by omega) (by omega) (v := (S 381 a)) ((w_up_slot (by decide)).trans ((w_up_slot (by decide)).trans ((w_up_slot (by decide)).trans (w_up_slot (by decide))))) (fun r5 => ?_)
  refine wb_iast 381 rfl (wy_pr rfl) wt_381 (n := 20000) ((w_up_slot (by decide)).trans ((w_up_slot (by decide)).trans ((w_up_slot (by decide)).trans ((w_up_slot (by decide)).trans ((ml_381 hM)))))) (by omega) (by omega) ⟨(by omega), (by omega)⟩ ?_
  refine wa_aload_n (n := 0) rfl ?_
  refine wb_gf4 237 rfl (wy_pr rfl) wt_237 wf_15_162 (v := 382) wl_237_162 ?_
  refine wa_iload_n (n := 2) rfl ?_
  refine wa_aload_n (n := 0) rfl ?_
  refine wb_gf4 237 rfl (wy_pr rfl) wt_237 wf_15_162 (v := 382) wl_237_162 ?_
  refine wa_iload_n (n := 1) rfl ?_
  refine wb_iald 382 rfl (wy_pr rfl) wt_382 (n := 20000) ((w_up_slot (by decide)).trans ((w_up_slot (by decide)).trans ((w_up_slot (by decide)).trans ((w_up_slot (by decide)).trans ((w_up_slot (by decide)).trans ((ml_382 hM))))))) (by omega) (by omega) (v := (S 382 a)) ((w_up_slot (by decide)).trans ((w_up_slot (by decide)).trans ((w_up_slot (by decide)).trans ((w_up_slot (by decide)).trans (w_up_slot (by decide)))))) (fun r6 => ?_)
  refine wb_iast 382 rfl (wy_pr rfl) wt_382 (n := 20000) ((w_up_slot (by decide)).trans ((w_up_slot (by decide)).trans ((w_up_slot (by decide)).trans ((w_up_slot (by decide)).trans ((w_up_slot (by decide)).trans ((ml_382 hM))))))) (by omega) (by omega) ⟨(by omega), (by omega)⟩ ?_
  refine wa_aload_n (n := 0) rfl ?_
  refine wb_gf4 237 rfl (wy_pr rfl) wt_237 wf_15_163 (v := 383) wl_237_163 ?_
  refine wa_iload_n (n := 2) rfl ?_
  refine wa_aload_n (n := 0) rfl ?_
  refine wb_gf4 237 rfl (wy_pr rfl) wt_237 wf_15_163 (v := 383) wl_237_163 ?_
  refine wa_iload_n (n := 1) rfl ?_
  refine wb_iald 383 rfl (wy_pr rfl) wt_383 (n := 20000) ((w_up_slot (by decide)).trans ((w_up_slot (by decide)).trans ((w_up_slot (by decide)).trans ((w_up_slot (by decide)).trans ((w_up_slot (by decide)).trans ((w_up_slot (by decide)).trans ((ml_383 hM)))))))) (by omega) (by omega) (v := (S 383 a)) ((w_up_slot (by decide)).trans ((w_up_slot (by decide)).trans ((w_up_slot (by decide)).trans ((w_up_slot (by decide)).trans ((w_up_slot (by decide)).trans (w_up_slot (by decide))))))) (fun r7 => ?_)
  refine wb_iast 383 rfl (wy_pr rfl) wt_383 (n := 20000) ((w_up_slot (by decide)).trans ((w_up_slot (by decide)).trans ((w_up_slot (by decide)).trans ((w_up_slot (by decide)).trans ((w_up_slot (by decide)).trans ((w_up_slot (by decide)).trans ((ml_383 hM)))))))) (by omega) (by omega) ⟨(by omega), (by omega)⟩ ?_
  refine wa_aload_n (n := 0) rfl ?_
  refine wb_gf4 237 rfl (wy_pr rfl) wt_237 wf_15_164 (v := 384) wl_237_164 ?_
  refine wa_iload_n (n := 2) rfl ?_
  refine wa_aload_n (n := 0) rfl ?_
  refine wb_gf4 237 rfl (wy_pr rfl) wt_237 wf_15_164 (v := 384) wl_237_164 ?_
  refine wa_iload_n (n := 1) rfl ?_
  refine wb_iald 384 rfl (wy_pr rfl) wt_384 (n := 20000) ((w_up_slot (by decide)).trans ((w_up_slot (by decide)).trans ((w_up_slot (by decide)).trans ((w_up_slot (by decide)).trans ((w_up_slot (by decide)).trans ((w_up_slot (by decide)).trans ((w_up_slot (by decide)).trans ((ml_384 hM))))))))) (by omega) (by omega) (v := (S 384 a)) ((w_up_slot (by decide)).trans ((w_up_slot (by decide)).trans ((w_up_slot (by decide)).trans ((w_up_slot (by decide)).trans ((w_up_slot (by decide)).trans ((w_up_slot (by decide)).trans (w_up_slot (by decide)))))))) (fun r8 => ?_)
  refine wb_iast 384 rfl (wy_pr rfl) wt_384 (n := 20000) ((w_up_slot (by decide)).trans ((w_up_slot (by decide)).trans ((w_up_slot (by decide)).trans ((w_up_slot (by decide)).trans ((w_up_slot (by decide)).trans ((w_up_slot (by decide)).trans ((w_up_slot (by decide)).trans ((ml_384 hM))))))))) (by omega) (by omega) ⟨(by omega), (by omega)⟩ ?_
  refine wa_aload_n (n := 0) rfl ?_
  refine wb_gf4 237 rfl (wy_pr rfl) wt_237 wf_15_165 (v := 385) wl_237_165 ?_
  refine wa_iload_n (n := 2) rfl ?_
  refine wa_aload_n (n := 0) rfl ?_
  refine wb_gf4 237 rfl (wy_pr rfl) wt_237 wf_15_165 (v := 385) wl_237_165 ?_
  refine wa_iload_n (n := 1) rfl ?_
  refine wb_lald 385 rfl (wy_pr rfl) wt_385 (n := 20000) ((w_up_slot (by decide)).trans ((w_up_slot (by decide)).trans ((w_up_slot (by decide)).trans ((w_up_slot (by decide)).trans ((w_up_slot (by decide)).trans ((w_up_slot (by decide)).trans ((w_up_slot (by decide)).trans ((w_up_slot (by decide)).trans ((ml_385 hM)))))))))) (by omega) (by omega) (v := (S 385 a)) ((w_up_slot (by decide)).trans ((w_up_slot (by decide)).trans ((w_up_slot (by decide)).trans ((w_up_slot (by decide)).trans ((w_up_slot (by decide)).trans ((w_up_slot (by decide)).trans ((w_up_slot (by decide)).trans (w_up_slot (by decide))))))))) (fun r9 => ?_)
  refine wb_last 385 rfl (wy_pr rfl) wt_385 (n := 20000) ((w_up_slot (by decide)).trans ((w_up_slot (by decide)).trans ((w_up_slot (by decide)).trans ((w_up_slot (by decide)).trans ((w_up_slot (by decide)).trans ((w_up_slot (by decide)).trans ((w_up_slot (by decide)).trans ((w_up_slot (by decide)).trans ((ml_385 hM)))))))))) (by omega) (by omega) ⟨(by omega), (by omega)⟩ ?_
  refine wa_return rfl ?_
  exact ⟨rfl, rfl⟩
end Wgs
