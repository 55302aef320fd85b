/-! PART 9o: the class's readParameters. -/
section W9o
variable {xs : List (Nat × List Int32)} {M : Nat → Prop} {d : Nat} {A B C S Z : wS} {Q : wO → wS → Prop} {T : Int → Int} {n : Int} {c i : Nat}
theorem lx_sf_35 (a d e h : Int) (h4 : (lx_sf a d e h).1 = 4) : sk (lx_sf a d e h).2.1 = 35 ↔ (lx_sf a d e h).2.1 = 262 := by
  unfold lx_sf at h4 ⊢
  by_cases c1 : d = 61 ∧ a = 61
  · rw [if_pos c1]; decide
  rw [if_neg c1] at h4 ⊢
  by_cases c2 : d = 61 ∧ a = 33
  · rw [if_pos c2]; decide
  rw [if_neg c2] at h4 ⊢
  by_cases c3 : d = 61 ∧ a = 60
  · rw [if_pos c3]; decide
  rw [if_neg c3] at h4 ⊢
  by_cases c4 : d = 61 ∧ a = 62
  · rw [if_pos c4]; decide
  rw [if_neg c4] at h4 ⊢
  by_cases c5 : a = 38 ∧ d = 38
  · rw [if_pos c5]; decide
  rw [if_neg c5] at h4 ⊢
  by_cases c6 : a = 124 ∧ d = 124
  · rw [if_pos c6]; decide
  rw [if_neg c6] at h4 ⊢
  by_cases c7 : a = 46 ∧ d = 46 ∧ e = 46 ∧ h ≠ 0
  · rw [if_pos c7]; decide
  rw [if_neg c7] at h4 ⊢
  by_cases c8 : a = 40 ∨ a = 41 ∨ a = 123 ∨ a = 125 ∨ a = 91 ∨ a = 93 ∨ a = 44 ∨ a = 59 ∨ a = 46 ∨ a = 58 ∨ a = 61 ∨ a = 60 ∨ a = 62 ∨ a = 43 ∨ a = 45 ∨ a = 42 ∨ a = 47 ∨ a = 37 ∨ a = 33
  · rw [if_pos c8]
    show sk a = 35 ↔ a = 262
    rcases c8 with rfl | rfl | rfl | rfl | rfl | rfl | rfl | rfl | rfl | rfl | rfl | rfl | rfl | rfl | rfl | rfl | rfl | rfl | rfl <;> decide
  · rw [if_neg c8] at h4
    exact absurd (show (5 : Int) = 4 from h4) (by decide)
theorem tk_4_sf {p : Int} (h : lx_tk T n 1 p = 4) : (lx_sf (T p) (lx_at T n (p + 1)) (lx_at T n (p + 2)) 1).1 = 4 := by
  unfold lx_tk at h
  by_cases c1 : n ≤ p
  · rw [if_pos c1] at h; omega
  rw [if_neg c1] at h
  by_cases c2 : lx_le (T p) = true
  · rw [if_pos c2] at h; split at h <;> omega
  rw [if_neg c2] at h
  by_cases c3 : lx_di (T p) = true
  · rw [if_pos c3] at h; split at h <;> omega
  rw [if_neg c3] at h
  by_cases c4 : T p = 34
  · rw [if_pos c4] at h
    have := lx_tx_tk T n ((n - p).toNat + 1) (p + 1) []
    omega
  rw [if_neg c4] at h
  exact h
theorem kg_35 (hB : zT B T n) : lx_is (zq B (tp T n 1 i)) 262 = true ↔ kg T n (tp T n 1 i) = 35 := by
  unfold lx_is
  rw [decide_eq_true_iff, zT_6 hB, zT_9 hB]
  have hs := sk_rg (lx_si T n 1 (tp T n 1 i))
  by_cases hp : n ≤ tp T n 1 i
  · rw [show kg T n (tp T n 1 i) = 0 from if_pos hp, tk_0 hp]; omega
  · have ht := tk_n0 (T := T) (n := n) (h := 1) (p := tp T n 1 i) (by omega)
    rw [show kg T n (tp T n 1 i) = kh T n (tp T n 1 i) from if_neg hp]
    by_cases h4 : lx_tk T n 1 (tp T n 1 i) = 4
    · have h5 : sk (lx_si T n 1 (tp T n 1 i)) = 35 ↔ lx_si T n 1 (tp T n 1 i) = 262 := lx_sf_35 _ _ _ _ (tk_4_sf h4)
      unfold kh
      rw [if_neg (by omega), if_neg (by omega), if_neg (by omega), if_neg (by omega)]
      rw [h5]
      exact ⟨fun z => z.2, fun z => ⟨h4, z⟩⟩
    · unfold kh
      constructor
      · intro z; exact absurd z.1 h4
      · intro z
        exfalso
        revert z
        repeat' split
        all_goals omega
theorem ch_f_no {tk p e m : Int} {F N : Int → Int} (h : ∀ k : Int, 0 ≤ k → k < m → ¬ tp_q T (F k) (N k) p e = true) : ∀ (f : Nat) (k : Int), 0 ≤ k → ch_f T tk p e F N m f k = -1 := by
  intro f
  induction f with
  | zero => intro k _; rfl
  | succ f ih =>
    intro k hk
    rw [ch_f_s]
    by_cases hm : k < m
    · rw [if_pos hm, if_neg (fun z => h k hk hm z.2), ih (k + 1) (by omega)]
    · rw [if_neg hm]
/-- no class has the name of a word that is no name -/
theorem ch_rsv {b ho t0 t5 w : Nat} {p v : Int} (hB : zT B T n) (hI : wd_at Z w 64) (hR : cn_R b ho t0 t5 w T B Z) (hv : nt_I Z w T n p v) (h13 : v < 13) (hb : b ≠ 237 ∧ b + 9 ≠ 237 ∧ b + 10 ≠ 237) : ch_of (zq B p) b = -1 := by
  unfold ch_of
  rw [zT_T hB, zT_8 hB, zq_7, zq_o hb.1, zq_o hb.2.1, zq_o hb.2.2]
  refine ch_f_no (fun k k0 k1 z => ?_) _ 0 (by omega)
  have := (tp_q_w hI hR hv ⟨k0, k1⟩).1 z
  have := (hR.2.2.2 k k0 k1).2.1
  omega
theorem ty_hy {b : Nat} {p y av : Int} (h : ty_c B b p = .inr y) (hy : y ≠ 0 ∨ av ≠ 0) : hy_type (zq B p) b p av = .inr (y, lx_ne (zq B p) p) ∧ zq B p 237 6 = 1 ∧ (0 ≤ pl_of (zq B p) tx_27 ∨ 0 ≤ ch_of (zq B p) b) ∧ (y ≠ 0 → 0 < pl_of (zq B p) tx_27 ∨ 0 ≤ ch_of (zq B p) b) := by
  unfold ty_c at h
  unfold hy_type
  by_cases c1 : zq B p 237 6 = 1
  · rw [if_pos c1] at h ⊢
    by_cases c2 : 0 ≤ pl_of (zq B p) tx_27
    · rw [if_pos c2] at h
      have e : pl_of (zq B p) tx_27 = y := by cases h; rfl
      rw [if_neg (by omega), if_pos c2, e]
      exact ⟨rfl, c1, Or.inl (by omega), fun z => Or.inl (by omega)⟩
    · rw [if_neg c2] at h
      by_cases c3 : 0 ≤ ch_of (zq B p) b
      · rw [if_pos c3] at h
        rw [if_neg (by omega), if_neg c2, if_pos c3]
        cases h
        exact ⟨rfl, c1, Or.inr c3, fun _ => Or.inr c3⟩
      · rw [if_neg c3] at h; cases h
  · rw [if_neg c1] at h; cases h
theorem ty_in {b : Nat} {p e : Int} (h : ty_c B b p = .inl e) : (e = 1 ∧ zq B p 237 6 ≠ 1) ∨ (e = 3 ∧ zq B p 237 6 = 1 ∧ ¬ (0 ≤ pl_of (zq B p) tx_27 ∨ 0 ≤ ch_of (zq B p) b)) := by
  unfold ty_c at h
  by_cases c1 : zq B p 237 6 = 1
  · rw [if_pos c1] at h
    by_cases c2 : 0 ≤ pl_of (zq B p) tx_27
    · rw [if_pos c2] at h; cases h
    · rw [if_neg c2] at h
      by_cases c3 : 0 ≤ ch_of (zq B p) b
      · rw [if_pos c3] at h; cases h
      · rw [if_neg c3] at h; cases h; exact Or.inr ⟨rfl, c1, by omega⟩
  · rw [if_neg c1] at h; cases h; exact Or.inl ⟨rfl, c1⟩
/-- the parameters of the member m -/
def pm_I (m0 : Nat) (S : wS) (m : Int) (l : List Int) (v : Int) : Prop := S (m0 + 4) m = (l.length : Int) ∧ S (m0 + 5) m = v ∧ l.length ≤ 8 ∧ ∀ q : Nat, q < l.length → S (m0 + 6 + q) m = l.getD q 0
/-- the same but for the reader's place and the parameters of the member m -/
def pp_ag (m0 : Nat) (m : Int) (S Z : wS) : Prop := ∀ (j : Nat) (i : Int), (j ≠ 14 ∨ i ≠ 4) → (j < m0 + 4 ∨ m0 + 13 < j ∨ i ≠ m) → Z j i = S j i
theorem pp_tr {m0 : Nat} {m : Int} (h : pp_ag m0 m A B) (k : pp_ag m0 m B C) : pp_ag m0 m A C := fun j i a b => (k j i a b).trans (h j i a b)
theorem pm_add {m0 : Nat} {m t v : Int} {l : List Int} (h : pm_I m0 S m l 0) (hl : l.length < 8) (h4 : Z (m0 + 4) m = (l.length : Int) + 1) (h5 : Z (m0 + 5) m = v) (hs : Z (m0 + 6 + l.length) m = t) (ho : ∀ q : Nat, q < l.length → Z (m0 + 6 + q) m = S (m0 + 6 + q) m) : pm_I m0 Z m (l ++ [t]) v := by
  refine ⟨by rw [h4, List.length_append]; rfl, h5, by rw [List.length_append]; simp only [List.length_cons, List.length_nil]; omega, fun k hk => ?_⟩
  rw [List.length_append] at hk
  simp only [List.length_cons, List.length_nil] at hk
  by_cases he : k = l.length
  · subst he
    rw [hs, List.getD_eq_getElem?_getD, List.getElem?_append_right (Nat.le_refl _), Nat.sub_self]
    rfl
  · rw [ho k (by omega), h.2.2.2 k (by omega), List.getD_eq_getElem?_getD, List.getD_eq_getElem?_getD, List.getElem?_append_left (by omega)]
theorem ty_pl {b : Nat} {p y : Int} (h : ty_c B b p = .inr y) (hy : y < 9) : pl_of (zq B p) tx_27 = y := by
  unfold ty_c at h
  by_cases c1 : zq B p 237 6 = 1
  · rw [if_pos c1] at h
    by_cases c2 : 0 ≤ pl_of (zq B p) tx_27
    · rw [if_pos c2] at h; cases h; rfl
    · rw [if_neg c2] at h
      by_cases c3 : 0 ≤ ch_of (zq B p) b
      · rw [if_pos c3] at h; cases h; omega
      · rw [if_neg c3] at h; cases h
  · rw [if_neg c1] at h; cases h
theorem rp_l_73 {m : Int} (hm : 0 ≤ m ∧ m < 400) : ∀ (f i : Nat) (l : List Int) (u : Int) (S : wS), (n - tp T n 1 i).toNat < f → (hx : hx_I 241 73 87 92 74 T n c B S) → (hP : cx_P T n c i S) → pm_I 97 S m l 0 → (0 ≤ u ∧ u ≤ (i : Int)) → (hk : ∀ (i' : Nat) (l' : List Int) (v : Int) (u : Int) (Z : wS), pr_f B 241 f (tp T n 1 i) l = .inr (tp T n 1 i', l', v) → pp_ag 97 m S Z → hx_I 241 73 87 92 74 T n c B Z → cx_P T n c i' Z → pm_I 97 Z m l' v → wJ (pe_GA xs) wY0 M (d + 9) t_XT_readParameters ((pe_at t_XT_readParameters.bl 10).getD (0, [])).2 [(0, (2, 61)), (1, (0, m))] [] Z Q) → (hf : ∀ (e q : Int) (v : Nat) (Z0 Z : wS), pr_f B 241 f (tp T n 1 i) l = .inl (e, q) → pp_ag 97 m S Z0 → rz_ag Z0 Z v (e + 16 * q) → Q (.inr v) Z) → wJ (pe_GA xs) wY0 M (d + 9) t_XT_readParameters ((pe_at t_XT_readParameters.bl 3).getD (0, [])).2 [(0, (2, 61)), (1, (0, m)), (2, (2, 96)), (3, (0, 1)), (4, (0, u))] [] S Q := by
  intro f
  induction f with
  | zero => intro i l u S h; exact absurd h (Nat.not_lt_zero _)
  | succ f ih =>
    intro i l u S hf hx hP hpm hu hk hft
    have hB : zT B T n := hx.1
    have hT : cx_T 74 T n c S := hx.2.1
    have hI : gI S := hx.2.2.1
    have hW : wd_at S 74 64 := hx.2.2.2.1
    have hrw : rw_I S 74 := hx.2.2.2.2.1
    have hwc : 13 ≤ S 74 7 ∧ S 74 7 ≤ 400000 := hx.2.2.2.2.2.1
    have hR : cn_R 241 73 87 92 74 T B S := hx.2.2.2.2.2.2.1
    have hH : S 61 1 = 73 := hx.2.2.2.2.2.2.2
    have hC : w_CL S := hR.2.2.1
    have hN : S 73 2 = B 241 1 := hR.1
    have hN6 : 0 ≤ B 241 1 ∧ B 241 1 ≤ 60 := hR.2.1
    have hpos4 : S 14 4 = (i : Int) := hP.1
    have hg0 : pg T n c i := hP.2
    have hA0 := pg_at hT hg0
    have h16_0 := hA0.1
    have h15_0 := hA0.2.1
    have hpr0 := hA0.2.2
    have hkr0 := kg_rg T n (tp T n 1 i)
    have hcn : (c : Int) ≤ n ∧ n ≤ 65536 := ⟨hT.2.2.2.2.1, hT.2.2.2.2.2.1⟩
    have hRL := hT.2.2.2.2.2.2
    have hl15 : S 14 3 ≤ S 15 (-1) := hRL.1.2
    have hl16 : S 16 (-1) = S 15 (-1) := hRL.2.1
    have hl17 : S 17 (-1) = S 15 (-1) := hRL.2.2.1
    have hc3 : S 14 3 = (c : Int) + 1 := hT.1
    have hic0 : i ≤ c := hg0.1
    have hz6 : zq B (tp T n 1 i) 237 6 = lx_tk T n 1 (tp T n 1 i) := zT_6 hB
    have hp4 : S 101 m = (l.length : Int) := hpm.1
    have hp5 : S 102 m = 0 := hpm.2.1
    have hp8 := hpm.2.2.1
    have hne := tp_ne (i := i) hB
    refine wa_iload_n (n := 3) rfl ?_
    refine wa_ifeq (w_rg0 (by omega) (by omega)) ⟨_, rfl⟩ (fun c1 => ?_) (fun c1 => ?_)
    · skip
      exact absurd c1 (by omega)
    · skip
      refine wa_iload (n := 4) rfl ?_
      refine wa_aload_n (n := 0) rfl ?_
      refine wb_gf4 61 rfl (wy_pr rfl) wt_61 wf_4_0 (v := 14) wl_61_0 ?_
      refine wb_gfi 14 rfl (wy_pr rfl) wt_14 wf_6_3 (v := ((c : Int) + 1)) (hT.1) (fun r2 => ?_)
      refine wa_icmpge (w_rg0 (by omega) (by omega)) (w_rg0 (by omega) (by omega)) ⟨_, rfl⟩ (fun c3 => ?_) (fun c3 => ?_)
      · skip
        exfalso; omega
      · skip
        refine wa_aload_n (n := 0) rfl ?_
        refine wa_cv 61 rfl (wy_pr rfl) wt_61 (M2 := fun _ => False) rfl at_XT_typeHere ⟨_, rfl⟩ rfl rfl ⟨(Or.inr ⟨wy_pr rfl, fun q => q⟩), trivial, (Or.inr ⟨wy_pr rfl, fun q => q⟩), trivial, trivial, trivial⟩ trivial (fun _ _ q => False.elim q) (th_73 (S := S) (B := B) hx (show cx_P T n c (i) S from ⟨(hpos4), hg0⟩)) (fun oq5 Sq5 hp6 q5 => ?_)
        rcases q5 with ⟨y, hy4, rfl, hy2, rfl⟩ | ⟨e, hy4, v, rfl, hrz⟩
        · skip
          show wJ _ _ _ _ _ _ _ _ _ _
          have hyy0 := hy4
          have hkg5_0 := hy2
          refine wa_istore (n := 5) rfl ?_
          refine wa_iload (n := 5) rfl ?_
          refine wa_ifne (w_rg0 (by omega) (by omega)) ⟨_, rfl⟩ (fun c7 => ?_) (fun c7 => ?_)
          · skip
            refine wa_aload_n (n := 2) rfl ?_
            refine wa_iconst ?_
            refine wb_aald5 96 4 rfl rfl (wy_pr rfl) wt_96 (by rw [show _ = _ from ((cl_96 hC))]; omega) wl_96_4 ?_
            refine wa_iload_n (n := 1) rfl ?_
            refine wb_iald 101 rfl (wy_pr rfl) wt_101 (n := 400) ((cl_101 hC)) (by omega) (by omega) (v := (l.length : Int)) (hp4) (fun r8 => ?_)
            refine wa_bipush (w_rg2 (by omega) (by omega)) ?_
            refine wa_icmpne (w_rg0 (by omega) (by omega)) (w_rg0 (by omega) (by omega)) ⟨_, rfl⟩ (fun c9 => ?_) (fun c9 => ?_)
            · skip
              refine wa_aload_n (n := 2) rfl ?_
              refine wa_bipush (w_rg2 (by omega) (by omega)) ?_
              refine wa_aload_n (n := 2) rfl ?_
              refine wa_iconst ?_
              refine wb_aald5 96 4 rfl rfl (wy_pr rfl) wt_96 (by rw [show _ = _ from ((cl_96 hC))]; omega) wl_96_4 ?_
              refine wa_iload_n (n := 1) rfl ?_
              refine wb_iald 101 rfl (wy_pr rfl) wt_101 (n := 400) ((cl_101 hC)) (by omega) (by omega) (v := (l.length : Int)) (hp4) (fun r10 => ?_)
              refine wa_iadd ?_
              refine wb_aald5 96 (6 + l.length) rfl (by omega) (wy_pr rfl) wt_96 (by rw [show _ = _ from ((cl_96 hC))]; omega) (mr_ln_73 (by omega)) ?_
              refine wa_iload_n (n := 1) rfl ?_
              refine wa_iload (n := 5) rfl ?_
              refine wb_iast (103 + l.length) rfl (wy_p2 (by omega)) (mr_ty_73 (by omega)) (n := 400) ((cl_mr_73 hC (by omega))) (by omega) (by omega) ⟨(by omega), (by omega)⟩ ?_
              refine wa_aload_n (n := 2) rfl ?_
              refine wa_iconst ?_
              refine wb_aald5 96 4 rfl rfl (wy_pr rfl) wt_96 (by rw [show _ = _ from ((w_up_slot (by omega)).trans ((cl_96 hC)))]; omega) wl_96_4 ?_
              refine wa_iload_n (n := 1) rfl ?_
              refine wa_dup2 (by decide) (by decide) ?_
              refine wb_iald 101 rfl (wy_pr rfl) wt_101 (n := 400) ((w_up_slot (by omega)).trans ((cl_101 hC))) (by omega) (by omega) (v := (l.length : Int)) ((w_up_slot (by omega)).trans (hp4)) (fun r11 => ?_)
              refine wa_iconst ?_
              refine wa_iadd ?_
              refine wb_iast 101 rfl (wy_pr rfl) wt_101 (n := 400) ((w_up_slot (by omega)).trans ((cl_101 hC))) (by omega) (by omega) ⟨(by omega), (by omega)⟩ ?_
              refine wa_aload_n (n := 0) rfl ?_
              refine wb_gf4 61 rfl (wy_pr rfl) wt_61 wf_4_0 (v := 14) wl_61_0 ?_
              refine wa_cv 14 rfl (wy_pr rfl) wt_14 (M2 := fun _ => False) rfl at_XR_next ⟨_, rfl⟩ rfl rfl ⟨trivial, (Or.inr ⟨wy_pr rfl, fun q => q⟩), trivial, (Or.inr ⟨wy_pr rfl, fun q => q⟩), trivial, trivial, trivial⟩ trivial (fun _ _ q => False.elim q) (nx_c (S := (w_up (w_up S (103 + l.length) m y) 101 m ((l.length : Int) + 1))) (hx_T (hx_up (hx_up hx (by unfold hx_o; omega)) (by unfold hx_o; omega))) (show cx_P T n c (i) (w_up (w_up S (103 + l.length) m y) 101 m ((l.length : Int) + 1)) from ⟨((w_up_slot (by decide)).trans ((w_up_slot (by omega)).trans (hpos4))), hg0⟩) rfl (gI_up (gI_up hI (by omega) (by omega) (by omega)) (by omega) (by omega) (by omega)) (by omega)) (fun oq12 Sq12 hp13 q12 => ?_)
              rcases q12 with ⟨rfl, rfl⟩
              show wJ _ _ _ _ _ _ _ _ _ _
              have hg1 : pg T n c (i + 1) := pg_next hT hg0 (by omega) (by omega)
              have hA1 := pg_at hT hg1
              have h16_1 := hA1.1
              have h15_1 := hA1.2.1
              have hpr1 := hA1.2.2
              have hkr1 := kg_rg T n (tp T n 1 (i + 1))
              have hic1 := hg1.1
              have hlt1 := tp_lt hT hg0 (by omega) (by omega)
              refine wa_aload_n (n := 0) rfl ?_
              refine wb_gf4 61 rfl (wy_pr rfl) wt_61 wf_4_0 (v := 14) wl_61_0 ?_
              refine wa_cv 14 rfl (wy_pr rfl) wt_14 (M2 := fun _ => False) rfl at_XR_kind ⟨_, rfl⟩ rfl rfl ⟨trivial, (Or.inr ⟨wy_pr rfl, fun q => q⟩), trivial, (Or.inr ⟨wy_pr rfl, fun q => q⟩), trivial, trivial, trivial⟩ trivial (fun _ _ q => False.elim q) ?_ (fun _ _ _ q => q)
              refine wa_aload_n (n := 0) rfl ?_
              refine wb_gf4 14 rfl (wy_pr rfl) wt_14 wf_6_0 (v := 15) wl_14_0 ?_
              refine wa_aload_n (n := 0) rfl ?_
              refine wb_gfi 14 rfl (wy_pr rfl) wt_14 wf_6_4 (v := ((i + 1 : Nat) : Int)) (w_up_same _ _ _ _) (fun r14 => ?_)
              refine wb_bald 15 rfl (wy_pr rfl) wt_15 (n := (S 15 (-1))) ((w_up_slot (by decide)).trans ((w_up_slot (by decide)).trans (w_up_slot (by omega)))) (by omega) (by omega) (v := (kg T n (tp T n 1 (i + 1)))) ((w_up_slot (by decide)).trans ((w_up_slot (by decide)).trans ((w_up_slot (by omega)).trans (h15_1)))) (fun r15 => ?_)
              refine wa_ireturn rfl ?_
              show wJ _ _ _ _ _ _ _ _ _ _
              refine wa_bipush (w_rg2 (by omega) (by omega)) ?_
              refine wa_icmpne (w_rg0 (by omega) (by omega)) (w_rg0 (by omega) (by omega)) ⟨_, rfl⟩ (fun c16 => ?_) (fun c16 => ?_)
              · skip
                refine wa_aload_n (n := 0) rfl ?_
                refine wb_gf4 61 rfl (wy_pr rfl) wt_61 wf_4_0 (v := 14) wl_61_0 ?_
                refine wa_cv 14 rfl (wy_pr rfl) wt_14 (M2 := fun _ => False) rfl at_XR_kind ⟨_, rfl⟩ rfl rfl ⟨trivial, (Or.inr ⟨wy_pr rfl, fun q => q⟩), trivial, (Or.inr ⟨wy_pr rfl, fun q => q⟩), trivial, trivial, trivial⟩ trivial (fun _ _ q => False.elim q) ?_ (fun _ _ _ q => q)
                refine wa_aload_n (n := 0) rfl ?_
                refine wb_gf4 14 rfl (wy_pr rfl) wt_14 wf_6_0 (v := 15) wl_14_0 ?_
                refine wa_aload_n (n := 0) rfl ?_
                refine wb_gfi 14 rfl (wy_pr rfl) wt_14 wf_6_4 (v := ((i + 1 : Nat) : Int)) (w_up_same _ _ _ _) (fun r17 => ?_)
                refine wb_bald 15 rfl (wy_pr rfl) wt_15 (n := (S 15 (-1))) ((w_up_slot (by decide)).trans ((w_up_slot (by decide)).trans (w_up_slot (by omega)))) (by omega) (by omega) (v := (kg T n (tp T n 1 (i + 1)))) ((w_up_slot (by decide)).trans ((w_up_slot (by decide)).trans ((w_up_slot (by omega)).trans (h15_1)))) (fun r18 => ?_)
                refine wa_ireturn rfl ?_
                show wJ _ _ _ _ _ _ _ _ _ _
                refine wa_bipush (w_rg2 (by omega) (by omega)) ?_
                refine wa_icmpne (w_rg0 (by omega) (by omega)) (w_rg0 (by omega) (by omega)) ⟨_, rfl⟩ (fun c19 => ?_) (fun c19 => ?_)
                · skip
                  refine wa_iconst ?_
                  refine wa_fall ⟨_, rfl⟩ ?_
                  refine wa_istore_n (n := 3) rfl ?_
                  refine wa_iload_n (n := 3) rfl ?_
                  refine wa_ifeq (w_rg0 (by omega) (by omega)) ⟨_, rfl⟩ (fun c20 => ?_) (fun c20 => ?_)
                  · skip
                    refine wa_iinc rfl rfl ?_
                    refine wa_goto ⟨_, rfl⟩ ?_
                    refine wa_iload_n (n := 3) rfl ?_
                    refine wa_ifeq (w_rg0 (by omega) (by omega)) ⟨_, rfl⟩ (fun cz => ?_) (fun cz => absurd rfl cz)
                    have hh := ty_hy (av := 0) hyy0 (Or.inl (by omega))
                    have hstep : pr_f B 241 (f + 1) (tp T n 1 i) l = (if lx_is (zq B (tp T n 1 (i + 1))) 262 = true then .inr (lx_ne (zq B (tp T n 1 (i + 1))) (tp T n 1 (i + 1)), l ++ [y], 1) else if lx_is (zq B (tp T n 1 (i + 1))) 44 = true then pr_f B 241 f (lx_ne (zq B (tp T n 1 (i + 1))) (tp T n 1 (i + 1))) (l ++ [y]) else .inr ((tp T n 1 (i + 1)), l ++ [y], 0)) := by
                      rw [pr_f_s, if_pos hh.2.1, if_pos (hh.2.2.2 (by omega)), if_pos (by omega), hh.1, hne]
                    have h35 := kg_35 (i := i + 1) hB
                    have h16 := lx_is_kg (i := i + 1) hB (k := 16) (ch := 44) (by decide) sk_16
                    have hpm2 : pm_I 97 (w_up (w_up (w_up S (103 + l.length) m y) 101 m ((l.length : Int) + 1)) 14 4 ((i + 1 : Nat) : Int)) m (l ++ [y]) 0 := pm_add hpm (by omega) (((w_up_slot (by decide)).trans (w_up_same _ _ _ _))) (((w_up_slot (by decide)).trans ((w_up_slot (by decide)).trans ((w_up_slot (by omega)).trans (hp5))))) (((w_up_slot (by omega)).trans ((w_up_slot (by omega)).trans (w_up_same _ _ _ _)))) (fun q hq => ((w_up_slot (by omega)).trans ((w_up_slot (by omega)).trans ((w_up_slot (by omega)).trans (rfl)))))
                    have hhx : hx_I 241 73 87 92 74 T n c B (w_up (w_up (w_up S (103 + l.length) m y) 101 m ((l.length : Int) + 1)) 14 4 ((i + 1 : Nat) : Int)) := (hx_up (hx_up (hx_up hx (by unfold hx_o; omega)) (by unfold hx_o; omega)) (by unfold hx_o; omega))
                    exact wJ_S (hk (i + 1) (l ++ [y]) 0 0 (w_up (w_up (w_up S (103 + l.length) m y) 101 m ((l.length : Int) + 1)) 14 4 ((i + 1 : Nat) : Int)) (by rw [hstep, if_neg (fun z => absurd (h35.1 z) (by omega)), if_neg (fun z => absurd (h16.1 z) (by omega))]) (fun j x a1 a2 => (w_up_no (by omega)).trans ((w_up_no (by omega)).trans ((w_up_no (by omega)).trans (rfl)))) hhx (show cx_P T n c (i + 1) (w_up (w_up (w_up S (103 + l.length) m y) 101 m ((l.length : Int) + 1)) 14 4 ((i + 1 : Nat) : Int)) from ⟨(w_up_same _ _ _ _), hg1⟩) hpm2) ⟨rfl, rfl, trivial⟩
                  · skip
                    exact absurd c20 (by omega)
                · skip
                  refine wa_aload_n (n := 2) rfl ?_
                  refine wa_iconst ?_
                  refine wb_aald5 96 5 rfl rfl (wy_pr rfl) wt_96 (by rw [show _ = _ from ((w_up_slot (by decide)).trans ((w_up_slot (by decide)).trans ((w_up_slot (by omega)).trans ((cl_96 hC)))))]; omega) wl_96_5 ?_
                  refine wa_iload_n (n := 1) rfl ?_
                  refine wb_iald 102 rfl (wy_pr rfl) wt_102 (n := 400) ((w_up_slot (by decide)).trans ((w_up_slot (by decide)).trans ((w_up_slot (by omega)).trans ((cl_102 hC))))) (by omega) (by omega) (v := 0) ((w_up_slot (by decide)).trans ((w_up_slot (by decide)).trans ((w_up_slot (by omega)).trans (hp5)))) (fun r21 => ?_)
                  refine wa_ifne (w_rg0 (by omega) (by omega)) ⟨_, rfl⟩ (fun c22 => ?_) (fun c22 => ?_)
                  · skip
                    exact absurd c22 (by omega)
                  · skip
                    refine wa_iconst ?_
                    refine wa_goto ⟨_, rfl⟩ ?_
                    refine wa_istore_n (n := 3) rfl ?_
                    refine wa_iload_n (n := 3) rfl ?_
                    refine wa_ifeq (w_rg0 (by omega) (by omega)) ⟨_, rfl⟩ (fun c23 => ?_) (fun c23 => ?_)
                    · skip
                      exact absurd c23 (by omega)
                    · skip
                      refine wa_aload_n (n := 0) rfl ?_
                      refine wb_gf4 61 rfl (wy_pr rfl) wt_61 wf_4_0 (v := 14) wl_61_0 ?_
                      refine wa_cv 14 rfl (wy_pr rfl) wt_14 (M2 := fun _ => False) rfl at_XR_next ⟨_, rfl⟩ rfl rfl ⟨trivial, trivial, (Or.inr ⟨wy_pr rfl, fun q => q⟩), trivial, (Or.inr ⟨wy_pr rfl, fun q => q⟩), trivial, trivial⟩ trivial (fun _ _ q => False.elim q) (nx_c (S := (w_up (w_up (w_up S (103 + l.length) m y) 101 m ((l.length : Int) + 1)) 14 4 ((i + 1 : Nat) : Int))) (hx_T (hx_up (hx_up (hx_up hx (by unfold hx_o; omega)) (by unfold hx_o; omega)) (by unfold hx_o; omega))) (show cx_P T n c (i + 1) (w_up (w_up (w_up S (103 + l.length) m y) 101 m ((l.length : Int) + 1)) 14 4 ((i + 1 : Nat) : Int)) from ⟨(w_up_same _ _ _ _), hg1⟩) rfl (gI_up (gI_up (gI_up hI (by omega) (by omega) (by omega)) (by omega) (by omega) (by omega)) (by omega) (by omega) (by omega)) (by omega)) (fun oq24 Sq24 hp25 q24 => ?_)
                      rcases q24 with ⟨rfl, rfl⟩
                      show wJ _ _ _ _ _ _ _ _ _ _
                      have hg2 : pg T n c (i + 1 + 1) := pg_next hT hg1 (by omega) (by omega)
                      have hA2 := pg_at hT hg2
                      have h16_2 := hA2.1
                      have h15_2 := hA2.2.1
                      have hpr2 := hA2.2.2
                      have hkr2 := kg_rg T n (tp T n 1 (i + 1 + 1))
                      have hic2 := hg2.1
                      have hlt2 := tp_lt hT hg1 (by omega) (by omega)
                      refine wa_fall ⟨_, rfl⟩ ?_
                      refine wa_iinc rfl rfl ?_
                      refine wa_goto ⟨_, rfl⟩ ?_
                      have hh := ty_hy (av := 0) hyy0 (Or.inl (by omega))
                      have hstep : pr_f B 241 (f + 1) (tp T n 1 i) l = (if lx_is (zq B (tp T n 1 (i + 1))) 262 = true then .inr (lx_ne (zq B (tp T n 1 (i + 1))) (tp T n 1 (i + 1)), l ++ [y], 1) else if lx_is (zq B (tp T n 1 (i + 1))) 44 = true then pr_f B 241 f (lx_ne (zq B (tp T n 1 (i + 1))) (tp T n 1 (i + 1))) (l ++ [y]) else .inr ((tp T n 1 (i + 1)), l ++ [y], 0)) := by
                        rw [pr_f_s, if_pos hh.2.1, if_pos (hh.2.2.2 (by omega)), if_pos (by omega), hh.1, hne]
                      have h35 := kg_35 (i := i + 1) hB
                      have h16 := lx_is_kg (i := i + 1) hB (k := 16) (ch := 44) (by decide) sk_16
                      rw [if_neg (fun z => absurd (h35.1 z) (by omega)), if_pos (h16.2 (by omega)), tp_ne (i := i + 1) hB] at hstep
                      have hpm2 : pm_I 97 (w_up (w_up (w_up (w_up S (103 + l.length) m y) 101 m ((l.length : Int) + 1)) 14 4 ((i + 1 : Nat) : Int)) 14 4 ((i + 1 + 1 : Nat) : Int)) m (l ++ [y]) 0 := pm_add hpm (by omega) (((w_up_slot (by decide)).trans ((w_up_slot (by decide)).trans (w_up_same _ _ _ _)))) (((w_up_slot (by decide)).trans ((w_up_slot (by decide)).trans ((w_up_slot (by decide)).trans ((w_up_slot (by omega)).trans (hp5)))))) (((w_up_slot (by omega)).trans ((w_up_slot (by omega)).trans ((w_up_slot (by omega)).trans (w_up_same _ _ _ _))))) (fun q hq => ((w_up_slot (by omega)).trans ((w_up_slot (by omega)).trans ((w_up_slot (by omega)).trans ((w_up_slot (by omega)).trans (rfl))))))
                      have hhx : hx_I 241 73 87 92 74 T n c B (w_up (w_up (w_up (w_up S (103 + l.length) m y) 101 m ((l.length : Int) + 1)) 14 4 ((i + 1 : Nat) : Int)) 14 4 ((i + 1 + 1 : Nat) : Int)) := (hx_up (hx_up (hx_up (hx_up hx (by unfold hx_o; omega)) (by unfold hx_o; omega)) (by unfold hx_o; omega)) (by unfold hx_o; omega))
                      exact wJ_S (ih (i + 1 + 1) (l ++ [y]) (u + 1) (w_up (w_up (w_up (w_up S (103 + l.length) m y) 101 m ((l.length : Int) + 1)) 14 4 ((i + 1 : Nat) : Int)) 14 4 ((i + 1 + 1 : Nat) : Int)) (by omega) hhx (show cx_P T n c (i + 1 + 1) (w_up (w_up (w_up (w_up S (103 + l.length) m y) 101 m ((l.length : Int) + 1)) 14 4 ((i + 1 : Nat) : Int)) 14 4 ((i + 1 + 1 : Nat) : Int)) from ⟨(w_up_same _ _ _ _), hg2⟩) hpm2 ⟨by omega, by omega⟩ (fun i2 l2 v2 u2 Z2 e2 g2 => hk i2 l2 v2 u2 Z2 (hstep.trans e2) (pp_tr (fun j x a1 a2 => (w_up_no (by omega)).trans ((w_up_no (by omega)).trans ((w_up_no (by omega)).trans ((w_up_no (by omega)).trans (rfl))))) g2)) (fun e3 q3 v3 Z3 Z4 e2 g2 => hft e3 q3 v3 Z3 Z4 (hstep.trans e2) (pp_tr (fun j x a1 a2 => (w_up_no (by omega)).trans ((w_up_no (by omega)).trans ((w_up_no (by omega)).trans ((w_up_no (by omega)).trans (rfl))))) g2))) ⟨rfl, rfl, rfl, rfl, rfl, trivial⟩
              · skip
                refine wa_aload_n (n := 2) rfl ?_
                refine wa_iconst ?_
                refine wb_aald5 96 5 rfl rfl (wy_pr rfl) wt_96 (by rw [show _ = _ from ((w_up_slot (by decide)).trans ((w_up_slot (by decide)).trans ((w_up_slot (by omega)).trans ((cl_96 hC)))))]; omega) wl_96_5 ?_
                refine wa_iload_n (n := 1) rfl ?_
                refine wa_iconst ?_
                refine wb_iast 102 rfl (wy_pr rfl) wt_102 (n := 400) ((w_up_slot (by decide)).trans ((w_up_slot (by decide)).trans ((w_up_slot (by omega)).trans ((cl_102 hC))))) (by omega) (by omega) ⟨(by omega), (by omega)⟩ ?_
                refine wa_aload_n (n := 0) rfl ?_
                refine wb_gf4 61 rfl (wy_pr rfl) wt_61 wf_4_0 (v := 14) wl_61_0 ?_
                refine wa_cv 14 rfl (wy_pr rfl) wt_14 (M2 := fun _ => False) rfl at_XR_next ⟨_, rfl⟩ rfl rfl ⟨trivial, (Or.inr ⟨wy_pr rfl, fun q => q⟩), trivial, (Or.inr ⟨wy_pr rfl, fun q => q⟩), trivial, trivial, trivial⟩ trivial (fun _ _ q => False.elim q) (nx_c (S := (w_up (w_up (w_up (w_up S (103 + l.length) m y) 101 m ((l.length : Int) + 1)) 14 4 ((i + 1 : Nat) : Int)) 102 m 1)) (hx_T (hx_up (hx_up (hx_up (hx_up hx (by unfold hx_o; omega)) (by unfold hx_o; omega)) (by unfold hx_o; omega)) (by unfold hx_o; omega))) (show cx_P T n c (i + 1) (w_up (w_up (w_up (w_up S (103 + l.length) m y) 101 m ((l.length : Int) + 1)) 14 4 ((i + 1 : Nat) : Int)) 102 m 1) from ⟨((w_up_slot (by decide)).trans (w_up_same _ _ _ _)), hg1⟩) rfl (gI_up (gI_up (gI_up (gI_up hI (by omega) (by omega) (by omega)) (by omega) (by omega) (by omega)) (by omega) (by omega) (by omega)) (by omega) (by omega) (by omega)) (by omega)) (fun oq26 Sq26 hp27 q26 => ?_)
                rcases q26 with ⟨rfl, rfl⟩
                show wJ _ _ _ _ _ _ _ _ _ _
                have hg2 : pg T n c (i + 1 + 1) := pg_next hT hg1 (by omega) (by omega)
                have hA2 := pg_at hT hg2
                have h16_2 := hA2.1
                have h15_2 := hA2.2.1
                have hpr2 := hA2.2.2
                have hkr2 := kg_rg T n (tp T n 1 (i + 1 + 1))
                have hic2 := hg2.1
                have hlt2 := tp_lt hT hg1 (by omega) (by omega)
                refine wa_fall ⟨_, rfl⟩ ?_
                refine wa_aload_n (n := 0) rfl ?_
                refine wb_gf4 61 rfl (wy_pr rfl) wt_61 wf_4_0 (v := 14) wl_61_0 ?_
                refine wa_cv 14 rfl (wy_pr rfl) wt_14 (M2 := fun _ => False) rfl at_XR_kind ⟨_, rfl⟩ rfl rfl ⟨trivial, (Or.inr ⟨wy_pr rfl, fun q => q⟩), trivial, (Or.inr ⟨wy_pr rfl, fun q => q⟩), trivial, trivial, trivial⟩ trivial (fun _ _ q => False.elim q) ?_ (fun _ _ _ q => q)
                refine wa_aload_n (n := 0) rfl ?_
                refine wb_gf4 14 rfl (wy_pr rfl) wt_14 wf_6_0 (v := 15) wl_14_0 ?_
                refine wa_aload_n (n := 0) rfl ?_
                refine wb_gfi 14 rfl (wy_pr rfl) wt_14 wf_6_4 (v := ((i + 1 + 1 : Nat) : Int)) (w_up_same _ _ _ _) (fun r28 => ?_)
                refine wb_bald 15 rfl (wy_pr rfl) wt_15 (n := (S 15 (-1))) ((w_up_slot (by decide)).trans ((w_up_slot (by decide)).trans ((w_up_slot (by decide)).trans ((w_up_slot (by decide)).trans (w_up_slot (by omega)))))) (by omega) (by omega) (v := (kg T n (tp T n 1 (i + 1 + 1)))) ((w_up_slot (by decide)).trans ((w_up_slot (by decide)).trans ((w_up_slot (by decide)).trans ((w_up_slot (by decide)).trans ((w_up_slot (by omega)).trans (h15_2)))))) (fun r29 => ?_)
                refine wa_ireturn rfl ?_
                show wJ _ _ _ _ _ _ _ _ _ _
                refine wa_bipush (w_rg2 (by omega) (by omega)) ?_
                refine wa_icmpne (w_rg0 (by omega) (by omega)) (w_rg0 (by omega) (by omega)) ⟨_, rfl⟩ (fun c30 => ?_) (fun c30 => ?_)
                · skip
                  refine wa_iconst ?_
                  refine wa_fall ⟨_, rfl⟩ ?_
                  refine wa_istore_n (n := 3) rfl ?_
                  refine wa_iload_n (n := 3) rfl ?_
                  refine wa_ifeq (w_rg0 (by omega) (by omega)) ⟨_, rfl⟩ (fun c31 => ?_) (fun c31 => ?_)
                  · skip
                    refine wa_iinc rfl rfl ?_
                    refine wa_goto ⟨_, rfl⟩ ?_
                    refine wa_iload_n (n := 3) rfl ?_
                    refine wa_ifeq (w_rg0 (by omega) (by omega)) ⟨_, rfl⟩ (fun cz => ?_) (fun cz => absurd rfl cz)
                    have hh := ty_hy (av := 0) hyy0 (Or.inl (by omega))
                    have hstep : pr_f B 241 (f + 1) (tp T n 1 i) l = (if lx_is (zq B (tp T n 1 (i + 1))) 262 = true then .inr (lx_ne (zq B (tp T n 1 (i + 1))) (tp T n 1 (i + 1)), l ++ [y], 1) else if lx_is (zq B (tp T n 1 (i + 1))) 44 = true then pr_f B 241 f (lx_ne (zq B (tp T n 1 (i + 1))) (tp T n 1 (i + 1))) (l ++ [y]) else .inr ((tp T n 1 (i + 1)), l ++ [y], 0)) := by
                      rw [pr_f_s, if_pos hh.2.1, if_pos (hh.2.2.2 (by omega)), if_pos (by omega), hh.1, hne]
                    have h35 := kg_35 (i := i + 1) hB
                    have h16 := lx_is_kg (i := i + 1) hB (k := 16) (ch := 44) (by decide) sk_16
                    have hpm2 : pm_I 97 (w_up (w_up (w_up (w_up (w_up S (103 + l.length) m y) 101 m ((l.length : Int) + 1)) 14 4 ((i + 1 : Nat) : Int)) 102 m 1) 14 4 ((i + 1 + 1 : Nat) : Int)) m (l ++ [y]) 1 := pm_add hpm (by omega) (((w_up_slot (by decide)).trans ((w_up_slot (by decide)).trans ((w_up_slot (by decide)).trans (w_up_same _ _ _ _))))) (((w_up_slot (by decide)).trans (w_up_same _ _ _ _))) (((w_up_slot (by omega)).trans ((w_up_slot (by omega)).trans ((w_up_slot (by omega)).trans ((w_up_slot (by omega)).trans (w_up_same _ _ _ _)))))) (fun q hq => ((w_up_slot (by omega)).trans ((w_up_slot (by omega)).trans ((w_up_slot (by omega)).trans ((w_up_slot (by omega)).trans ((w_up_slot (by omega)).trans (rfl)))))))
                    have hhx : hx_I 241 73 87 92 74 T n c B (w_up (w_up (w_up (w_up (w_up S (103 + l.length) m y) 101 m ((l.length : Int) + 1)) 14 4 ((i + 1 : Nat) : Int)) 102 m 1) 14 4 ((i + 1 + 1 : Nat) : Int)) := (hx_up (hx_up (hx_up (hx_up (hx_up hx (by unfold hx_o; omega)) (by unfold hx_o; omega)) (by unfold hx_o; omega)) (by unfold hx_o; omega)) (by unfold hx_o; omega))
                    exact wJ_S (hk (i + 1 + 1) (l ++ [y]) 1 0 (w_up (w_up (w_up (w_up (w_up S (103 + l.length) m y) 101 m ((l.length : Int) + 1)) 14 4 ((i + 1 : Nat) : Int)) 102 m 1) 14 4 ((i + 1 + 1 : Nat) : Int)) (by rw [hstep, if_pos (h35.2 (by omega)), tp_ne (i := i + 1) hB]) (fun j x a1 a2 => (w_up_no (by omega)).trans ((w_up_no (by omega)).trans ((w_up_no (by omega)).trans ((w_up_no (by omega)).trans ((w_up_no (by omega)).trans (rfl)))))) hhx (show cx_P T n c (i + 1 + 1) (w_up (w_up (w_up (w_up (w_up S (103 + l.length) m y) 101 m ((l.length : Int) + 1)) 14 4 ((i + 1 : Nat) : Int)) 102 m 1) 14 4 ((i + 1 + 1 : Nat) : Int)) from ⟨(w_up_same _ _ _ _), hg2⟩) hpm2) ⟨rfl, rfl, trivial⟩
                  · skip
                    exact absurd c31 (by omega)
                · skip
                  refine wa_aload_n (n := 2) rfl ?_
                  refine wa_iconst ?_
                  refine wb_aald5 96 5 rfl rfl (wy_pr rfl) wt_96 (by rw [show _ = _ from ((w_up_slot (by decide)).trans ((w_up_slot (by decide)).trans ((w_up_slot (by decide)).trans ((w_up_slot (by decide)).trans ((w_up_slot (by omega)).trans ((cl_96 hC)))))))]; omega) wl_96_5 ?_
                  refine wa_iload_n (n := 1) rfl ?_
                  refine wb_iald 102 rfl (wy_pr rfl) wt_102 (n := 400) ((w_up_slot (by decide)).trans ((w_up_at (by omega)).trans ((w_up_slot (by decide)).trans ((w_up_slot (by decide)).trans ((w_up_slot (by omega)).trans ((cl_102 hC))))))) (by omega) (by omega) (v := 1) ((w_up_slot (by decide)).trans (w_up_same _ _ _ _)) (fun r32 => ?_)
                  refine wa_ifne (w_rg0 (by omega) (by omega)) ⟨_, rfl⟩ (fun c33 => ?_) (fun c33 => ?_)
                  · skip
                    refine wa_iconst ?_
                    refine wa_fall ⟨_, rfl⟩ ?_
                    refine wa_istore_n (n := 3) rfl ?_
                    refine wa_iload_n (n := 3) rfl ?_
                    refine wa_ifeq (w_rg0 (by omega) (by omega)) ⟨_, rfl⟩ (fun c34 => ?_) (fun c34 => ?_)
                    · skip
                      refine wa_iinc rfl rfl ?_
                      refine wa_goto ⟨_, rfl⟩ ?_
                      refine wa_iload_n (n := 3) rfl ?_
                      refine wa_ifeq (w_rg0 (by omega) (by omega)) ⟨_, rfl⟩ (fun cz => ?_) (fun cz => absurd rfl cz)
                      have hh := ty_hy (av := 0) hyy0 (Or.inl (by omega))
                      have hstep : pr_f B 241 (f + 1) (tp T n 1 i) l = (if lx_is (zq B (tp T n 1 (i + 1))) 262 = true then .inr (lx_ne (zq B (tp T n 1 (i + 1))) (tp T n 1 (i + 1)), l ++ [y], 1) else if lx_is (zq B (tp T n 1 (i + 1))) 44 = true then pr_f B 241 f (lx_ne (zq B (tp T n 1 (i + 1))) (tp T n 1 (i + 1))) (l ++ [y]) else .inr ((tp T n 1 (i + 1)), l ++ [y], 0)) := by
                        rw [pr_f_s, if_pos hh.2.1, if_pos (hh.2.2.2 (by omega)), if_pos (by omega), hh.1, hne]
                      have h35 := kg_35 (i := i + 1) hB
                      have h16 := lx_is_kg (i := i + 1) hB (k := 16) (ch := 44) (by decide) sk_16
                      have hpm2 : pm_I 97 (w_up (w_up (w_up (w_up (w_up S (103 + l.length) m y) 101 m ((l.length : Int) + 1)) 14 4 ((i + 1 : Nat) : Int)) 102 m 1) 14 4 ((i + 1 + 1 : Nat) : Int)) m (l ++ [y]) 1 := pm_add hpm (by omega) (((w_up_slot (by decide)).trans ((w_up_slot (by decide)).trans ((w_up_slot (by decide)).trans (w_up_same _ _ _ _))))) (((w_up_slot (by decide)).trans (w_up_same _ _ _ _))) (((w_up_slot (by omega)).trans ((w_up_slot (by omega)).trans ((w_up_slot (by omega)).trans ((w_up_slot (by omega)).trans (w_up_same _ _ _ _)))))) (fun q hq => ((w_up_slot (by omega)).trans ((w_up_slot (by omega)).trans ((w_up_slot (by omega)).trans ((w_up_slot (by omega)).trans ((w_up_slot (by omega)).trans (rfl)))))))
                      have hhx : hx_I 241 73 87 92 74 T n c B (w_up (w_up (w_up (w_up (w_up S (103 + l.length) m y) 101 m ((l.length : Int) + 1)) 14 4 ((i + 1 : Nat) : Int)) 102 m 1) 14 4 ((i + 1 + 1 : Nat) : Int)) := (hx_up (hx_up (hx_up (hx_up (hx_up hx (by unfold hx_o; omega)) (by unfold hx_o; omega)) (by unfold hx_o; omega)) (by unfold hx_o; omega)) (by unfold hx_o; omega))
                      exact wJ_S (hk (i + 1 + 1) (l ++ [y]) 1 0 (w_up (w_up (w_up (w_up (w_up S (103 + l.length) m y) 101 m ((l.length : Int) + 1)) 14 4 ((i + 1 : Nat) : Int)) 102 m 1) 14 4 ((i + 1 + 1 : Nat) : Int)) (by rw [hstep, if_pos (h35.2 (by omega)), tp_ne (i := i + 1) hB]) (fun j x a1 a2 => (w_up_no (by omega)).trans ((w_up_no (by omega)).trans ((w_up_no (by omega)).trans ((w_up_no (by omega)).trans ((w_up_no (by omega)).trans (rfl)))))) hhx (show cx_P T n c (i + 1 + 1) (w_up (w_up (w_up (w_up (w_up S (103 + l.length) m y) 101 m ((l.length : Int) + 1)) 14 4 ((i + 1 : Nat) : Int)) 102 m 1) 14 4 ((i + 1 + 1 : Nat) : Int)) from ⟨(w_up_same _ _ _ _), hg2⟩) hpm2) ⟨rfl, rfl, trivial⟩
                    · skip
                      exact absurd c34 (by omega)
                  · skip
                    exact absurd c33 (by omega)
            · skip
              refine wa_aload_n (n := 0) rfl ?_
              refine wa_iconst ?_
              refine wa_cv 61 rfl (wy_pr rfl) wt_61 (M2 := fun _ => False) rfl at_XT_refuse ⟨_, rfl⟩ rfl rfl ⟨trivial, (Or.inr ⟨wy_pr rfl, fun q => q⟩), trivial, (Or.inr ⟨wy_pr rfl, fun q => q⟩), trivial, trivial, trivial⟩ trivial (fun _ _ q => False.elim q) (rf_c (S := S) (k := 5) (p := (tp T n 1 i)) (i := (i : Int)) hI (hpos4) (h16_0) ⟨by omega, by have e : S 16 (-1) = S 16 (-1) := rfl; omega⟩ ⟨by omega, by omega⟩ ⟨by omega, by omega⟩) (fun oq36 Sq36 hp37 q36 => ?_)
              rcases q36 with ⟨v, rfl, rz35⟩
              have hrz := rz35
              have hkind : (5 : Int) = 5 := rfl
              refine ⟨rfl, ?_⟩
              have hh := ty_hy (av := 0) hyy0 (Or.inl (by omega))
              exact hft 5 _ v _ _ (by rw [pr_f_s, if_pos hh.2.1, if_pos (hh.2.2.2 (by omega)), if_neg (by omega)]) (fun j x a1 a2 => rfl) hrz
          · skip
            refine wa_aload_n (n := 0) rfl ?_
            refine wa_iconst ?_
            refine wa_cv 61 rfl (wy_pr rfl) wt_61 (M2 := fun _ => False) rfl at_XT_refuse ⟨_, rfl⟩ rfl rfl ⟨trivial, (Or.inr ⟨wy_pr rfl, fun q => q⟩), trivial, (Or.inr ⟨wy_pr rfl, fun q => q⟩), trivial, trivial, trivial⟩ trivial (fun _ _ q => False.elim q) (rf_c (S := S) (k := 3) (p := (tp T n 1 i)) (i := (i : Int)) hI (hpos4) (h16_0) ⟨by omega, by have e : S 16 (-1) = S 16 (-1) := rfl; omega⟩ ⟨by omega, by omega⟩ ⟨by omega, by omega⟩) (fun oq39 Sq39 hp40 q39 => ?_)
            rcases q39 with ⟨v, rfl, rz38⟩
            have hrz := rz38
            have hkind : (3 : Int) = 3 := rfl
            refine ⟨rfl, ?_⟩
            have hz1 := (ty_hy (av := 1) hyy0 (Or.inr (by decide))).2.1
            have hpv := pl_27_k hB hW hrw hwc.1 (pg_nt hT hg0 hkg5_0.1)
            have hnv := (pg_nt hT hg0 hkg5_0.1).2.1
            have hv9 : S 17 (i : Int) < 9 := by
              have h := ty_pl hyy0 (by omega)
              rw [hpv] at h; revert h; split <;> omega
            have hcr := ch_rsv hB hW hR (pg_nt hT hg0 hkg5_0.1) (by omega) (by decide)
            have hpl0 := ty_pl hyy0 (by omega)
            exact hft 3 _ v _ _ (by rw [pr_f_s, if_pos hz1, if_neg (by omega)]) (fun j x a1 a2 => rfl) hrz
        · skip
          have hyy := hy4
          refine ⟨rfl, ?_⟩
          rcases ty_in hyy with ⟨rfl, q1⟩ | ⟨rfl, q1, q2⟩
          · exact hft 1 _ v _ _ (by rw [pr_f_s]; exact if_neg q1) (fun j x a1 a2 => rfl) hrz
          · exact hft 3 _ v _ _ (by rw [pr_f_s, if_pos q1, if_neg (fun z => q2 (by omega))]) (fun j x a1 a2 => rfl) hrz
theorem rp_l_162 {m : Int} (hm : 0 ≤ m ∧ m < 400) : ∀ (f i : Nat) (l : List Int) (u : Int) (S : wS), (n - tp T n 1 i).toNat < f → (hx : hx_I 261 162 176 181 163 T n c B S) → (hP : cx_P T n c i S) → pm_I 186 S m l 0 → (0 ≤ u ∧ u ≤ (i : Int)) → (hk : ∀ (i' : Nat) (l' : List Int) (v : Int) (u : Int) (Z : wS), pr_f B 261 f (tp T n 1 i) l = .inr (tp T n 1 i', l', v) → pp_ag 186 m S Z → hx_I 261 162 176 181 163 T n c B Z → cx_P T n c i' Z → pm_I 186 Z m l' v → wJ (pe_GA xs) wY0 M (d + 9) t_XT_readParameters ((pe_at t_XT_readParameters.bl 10).getD (0, [])).2 [(0, (2, 61)), (1, (0, m))] [] Z Q) → (hf : ∀ (e q : Int) (v : Nat) (Z0 Z : wS), pr_f B 261 f (tp T n 1 i) l = .inl (e, q) → pp_ag 186 m S Z0 → rz_ag Z0 Z v (e + 16 * q) → Q (.inr v) Z) → wJ (pe_GA xs) wY0 M (d + 9) t_XT_readParameters ((pe_at t_XT_readParameters.bl 3).getD (0, [])).2 [(0, (2, 61)), (1, (0, m)), (2, (2, 185)), (3, (0, 1)), (4, (0, u))] [] S Q := by
  intro f
  induction f with
  | zero => intro i l u S h; exact absurd h (Nat.not_lt_zero _)
  | succ f ih =>
    intro i l u S hf hx hP hpm hu hk hft
    have hB : zT B T n := hx.1
    have hT : cx_T 163 T n c S := hx.2.1
    have hI : gI S := hx.2.2.1
    have hW : wd_at S 163 64 := hx.2.2.2.1
    have hrw : rw_I S 163 := hx.2.2.2.2.1
    have hwc : 13 ≤ S 163 7 ∧ S 163 7 ≤ 400000 := hx.2.2.2.2.2.1
    have hR : cn_R 261 162 176 181 163 T B S := hx.2.2.2.2.2.2.1
    have hH : S 61 1 = 162 := hx.2.2.2.2.2.2.2
    have hC : w_CL S := hR.2.2.1
    have hN : S 162 2 = B 261 1 := hR.1
    have hN6 : 0 ≤ B 261 1 ∧ B 261 1 ≤ 60 := hR.2.1
    have hpos4 : S 14 4 = (i : Int) := hP.1
    have hg0 : pg T n c i := hP.2
    have hA0 := pg_at hT hg0
    have h16_0 := hA0.1
    have h15_0 := hA0.2.1
    have hpr0 := hA0.2.2
    have hkr0 := kg_rg T n (tp T n 1 i)
    have hcn : (c : Int) ≤ n ∧ n ≤ 65536 := ⟨hT.2.2.2.2.1, hT.2.2.2.2.2.1⟩
    have hRL := hT.2.2.2.2.2.2
    have hl15 : S 14 3 ≤ S 15 (-1) := hRL.1.2
    have hl16 : S 16 (-1) = S 15 (-1) := hRL.2.1
    have hl17 : S 17 (-1) = S 15 (-1) := hRL.2.2.1
    have hc3 : S 14 3 = (c : Int) + 1 := hT.1
    have hic0 : i ≤ c := hg0.1
    have hz6 : zq B (tp T n 1 i) 237 6 = lx_tk T n 1 (tp T n 1 i) := zT_6 hB
    have hp4 : S 190 m = (l.length : Int) := hpm.1
    have hp5 : S 191 m = 0 := hpm.2.1
    have hp8 := hpm.2.2.1
    have hne := tp_ne (i := i) hB
    refine wa_iload_n (n := 3) rfl ?_
    refine wa_ifeq (w_rg0 (by omega) (by omega)) ⟨_, rfl⟩ (fun c1 => ?_) (fun c1 => ?_)
    · skip
      exact absurd c1 (by omega)
    · skip
      refine wa_iload (n := 4) rfl ?_
      refine wa_aload_n (n := 0) rfl ?_
      refine wb_gf4 61 rfl (wy_pr rfl) wt_61 wf_4_0 (v := 14) wl_61_0 ?_
      refine wb_gfi 14 rfl (wy_pr rfl) wt_14 wf_6_3 (v := ((c : Int) + 1)) (hT.1) (fun r2 => ?_)
      refine wa_icmpge (w_rg0 (by omega) (by omega)) (w_rg0 (by omega) (by omega)) ⟨_, rfl⟩ (fun c3 => ?_) (fun c3 => ?_)
      · skip
        exfalso; omega
      · skip
        refine wa_aload_n (n := 0) rfl ?_
        refine wa_cv 61 rfl (wy_pr rfl) wt_61 (M2 := fun _ => False) rfl at_XT_typeHere ⟨_, rfl⟩ rfl rfl ⟨(Or.inr ⟨wy_pr rfl, fun q => q⟩), trivial, (Or.inr ⟨wy_pr rfl, fun q => q⟩), trivial, trivial, trivial⟩ trivial (fun _ _ q => False.elim q) (th_162 (S := S) (B := B) hx (show cx_P T n c (i) S from ⟨(hpos4), hg0⟩)) (fun oq5 Sq5 hp6 q5 => ?_)
        rcases q5 with ⟨y, hy4, rfl, hy2, rfl⟩ | ⟨e, hy4, v, rfl, hrz⟩
        · skip
          show wJ _ _ _ _ _ _ _ _ _ _
          have hyy0 := hy4
          have hkg5_0 := hy2
          refine wa_istore (n := 5) rfl ?_
          refine wa_iload (n := 5) rfl ?_
          refine wa_ifne (w_rg0 (by omega) (by omega)) ⟨_, rfl⟩ (fun c7 => ?_) (fun c7 => ?_)
          · skip
            refine wa_aload_n (n := 2) rfl ?_
            refine wa_iconst ?_
            refine wb_aald5 185 4 rfl rfl (wy_pr rfl) wt_185 (by rw [show _ = _ from ((cl_185 hC))]; omega) wl_185_4 ?_
            refine wa_iload_n (n := 1) rfl ?_
            refine wb_iald 190 rfl (wy_pr rfl) wt_190 (n := 400) ((cl_190 hC)) (by omega) (by omega) (v := (l.length : Int)) (hp4) (fun r8 => ?_)
            refine wa_bipush (w_rg2 (by omega) (by omega)) ?_
            refine wa_icmpne (w_rg0 (by omega) (by omega)) (w_rg0 (by omega) (by omega)) ⟨_, rfl⟩ (fun c9 => ?_) (fun c9 => ?_)
            · skip
              refine wa_aload_n (n := 2) rfl ?_
              refine wa_bipush (w_rg2 (by omega) (by omega)) ?_
              refine wa_aload_n (n := 2) rfl ?_
              refine wa_iconst ?_
              refine wb_aald5 185 4 rfl rfl (wy_pr rfl) wt_185 (by rw [show _ = _ from ((cl_185 hC))]; omega) wl_185_4 ?_
              refine wa_iload_n (n := 1) rfl ?_
              refine wb_iald 190 rfl (wy_pr rfl) wt_190 (n := 400) ((cl_190 hC)) (by omega) (by omega) (v := (l.length : Int)) (hp4) (fun r10 => ?_)
              refine wa_iadd ?_
              refine wb_aald5 185 (6 + l.length) rfl (by omega) (wy_pr rfl) wt_185 (by rw [show _ = _ from ((cl_185 hC))]; omega) (mr_ln_162 (by omega)) ?_
              refine wa_iload_n (n := 1) rfl ?_
              refine wa_iload (n := 5) rfl ?_
              refine wb_iast (192 + l.length) rfl (wy_p2 (by omega)) (mr_ty_162 (by omega)) (n := 400) ((cl_mr_162 hC (by omega))) (by omega) (by omega) ⟨(by omega), (by omega)⟩ ?_
              refine wa_aload_n (n := 2) rfl ?_
              refine wa_iconst ?_
              refine wb_aald5 185 4 rfl rfl (wy_pr rfl) wt_185 (by rw [show _ = _ from ((w_up_slot (by omega)).trans ((cl_185 hC)))]; omega) wl_185_4 ?_
              refine wa_iload_n (n := 1) rfl ?_
              refine wa_dup2 (by decide) (by decide) ?_
              refine wb_iald 190 rfl (wy_pr rfl) wt_190 (n := 400) ((w_up_slot (by omega)).trans ((cl_190 hC))) (by omega) (by omega) (v := (l.length : Int)) ((w_up_slot (by omega)).trans (hp4)) (fun r11 => ?_)
              refine wa_iconst ?_
              refine wa_iadd ?_
              refine wb_iast 190 rfl (wy_pr rfl) wt_190 (n := 400) ((w_up_slot (by omega)).trans ((cl_190 hC))) (by omega) (by omega) ⟨(by omega), (by omega)⟩ ?_
              refine wa_aload_n (n := 0) rfl ?_
              refine wb_gf4 61 rfl (wy_pr rfl) wt_61 wf_4_0 (v := 14) wl_61_0 ?_
              refine wa_cv 14 rfl (wy_pr rfl) wt_14 (M2 := fun _ => False) rfl at_XR_next ⟨_, rfl⟩ rfl rfl ⟨trivial, (Or.inr ⟨wy_pr rfl, fun q => q⟩), trivial, (Or.inr ⟨wy_pr rfl, fun q => q⟩), trivial, trivial, trivial⟩ trivial (fun _ _ q => False.elim q) (nx_c (S := (w_up (w_up S (192 + l.length) m y) 190 m ((l.length : Int) + 1))) (hx_T (hx_up (hx_up hx (by unfold hx_o; omega)) (by unfold hx_o; omega))) (show cx_P T n c (i) (w_up (w_up S (192 + l.length) m y) 190 m ((l.length : Int) + 1)) from ⟨((w_up_slot (by decide)).trans ((w_up_slot (by omega)).trans (hpos4))), hg0⟩) rfl (gI_up (gI_up hI (by omega) (by omega) (by omega)) (by omega) (by omega) (by omega)) (by omega)) (fun oq12 Sq12 hp13 q12 => ?_)
              rcases q12 with ⟨rfl, rfl⟩
              show wJ _ _ _ _ _ _ _ _ _ _
              have hg1 : pg T n c (i + 1) := pg_next hT hg0 (by omega) (by omega)
              have hA1 := pg_at hT hg1
              have h16_1 := hA1.1
              have h15_1 := hA1.2.1
              have hpr1 := hA1.2.2
              have hkr1 := kg_rg T n (tp T n 1 (i + 1))
              have hic1 := hg1.1
              have hlt1 := tp_lt hT hg0 (by omega) (by omega)
              refine wa_aload_n (n := 0) rfl ?_
              refine wb_gf4 61 rfl (wy_pr rfl) wt_61 wf_4_0 (v := 14) wl_61_0 ?_
              refine wa_cv 14 rfl (wy_pr rfl) wt_14 (M2 := fun _ => False) rfl at_XR_kind ⟨_, rfl⟩ rfl rfl ⟨trivial, (Or.inr ⟨wy_pr rfl, fun q => q⟩), trivial, (Or.inr ⟨wy_pr rfl, fun q => q⟩), trivial, trivial, trivial⟩ trivial (fun _ _ q => False.elim q) ?_ (fun _ _ _ q => q)
              refine wa_aload_n (n := 0) rfl ?_
              refine wb_gf4 14 rfl (wy_pr rfl) wt_14 wf_6_0 (v := 15) wl_14_0 ?_
              refine wa_aload_n (n := 0) rfl ?_
              refine wb_gfi 14 rfl (wy_pr rfl) wt_14 wf_6_4 (v := ((i + 1 : Nat) : Int)) (w_up_same _ _ _ _) (fun r14 => ?_)
              refine wb_bald 15 rfl (wy_pr rfl) wt_15 (n := (S 15 (-1))) ((w_up_slot (by decide)).trans ((w_up_slot (by decide)).trans (w_up_slot (by omega)))) (by omega) (by omega) (v := (kg T n (tp T n 1 (i + 1)))) ((w_up_slot (by decide)).trans ((w_up_slot (by decide)).trans ((w_up_slot (by omega)).trans (h15_1)))) (fun r15 => ?_)
              refine wa_ireturn rfl ?_
              show wJ _ _ _ _ _ _ _ _ _ _
              refine wa_bipush (w_rg2 (by omega) (by omega)) ?_
              refine wa_icmpne (w_rg0 (by omega) (by omega)) (w_rg0 (by omega) (by omega)) ⟨_, rfl⟩ (fun c16 => ?_) (fun c16 => ?_)
              · skip
                refine wa_aload_n (n := 0) rfl ?_
                refine wb_gf4 61 rfl (wy_pr rfl) wt_61 wf_4_0 (v := 14) wl_61_0 ?_
                refine wa_cv 14 rfl (wy_pr rfl) wt_14 (M2 := fun _ => False) rfl at_XR_kind ⟨_, rfl⟩ rfl rfl ⟨trivial, (Or.inr ⟨wy_pr rfl, fun q => q⟩), trivial, (Or.inr ⟨wy_pr rfl, fun q => q⟩), trivial, trivial, trivial⟩ trivial (fun _ _ q => False.elim q) ?_ (fun _ _ _ q => q)
                refine wa_aload_n (n := 0) rfl ?_
                refine wb_gf4 14 rfl (wy_pr rfl) wt_14 wf_6_0 (v := 15) wl_14_0 ?_
                refine wa_aload_n (n := 0) rfl ?_
                refine wb_gfi 14 rfl (wy_pr rfl) wt_14 wf_6_4 (v := ((i + 1 : Nat) : Int)) (w_up_same _ _ _ _) (fun r17 => ?_)
                refine wb_bald 15 rfl (wy_pr rfl) wt_15 (n := (S 15 (-1))) ((w_up_slot (by decide)).trans ((w_up_slot (by decide)).trans (w_up_slot (by omega)))) (by omega) (by omega) (v := (kg T n (tp T n 1 (i + 1)))) ((w_up_slot (by decide)).trans ((w_up_slot (by decide)).trans ((w_up_slot (by omega)).trans (h15_1)))) (fun r18 => ?_)
                refine wa_ireturn rfl ?_
                show wJ _ _ _ _ _ _ _ _ _ _
                refine wa_bipush (w_rg2 (by omega) (by omega)) ?_
                refine wa_icmpne (w_rg0 (by omega) (by omega)) (w_rg0 (by omega) (by omega)) ⟨_, rfl⟩ (fun c19 => ?_) (fun c19 => ?_)
                · skip
                  refine wa_iconst ?_
                  refine wa_fall ⟨_, rfl⟩ ?_
                  refine wa_istore_n (n := 3) rfl ?_
                  refine wa_iload_n (n := 3) rfl ?_
                  refine wa_ifeq (w_rg0 (by omega) (by omega)) ⟨_, rfl⟩ (fun c20 => ?_) (fun c20 => ?_)
                  · skip
                    refine wa_iinc rfl rfl ?_
                    refine wa_goto ⟨_, rfl⟩ ?_
                    refine wa_iload_n (n := 3) rfl ?_
                    refine wa_ifeq (w_rg0 (by omega) (by omega)) ⟨_, rfl⟩ (fun cz => ?_) (fun cz => absurd rfl cz)
                    have hh := ty_hy (av := 0) hyy0 (Or.inl (by omega))
                    have hstep : pr_f B 261 (f + 1) (tp T n 1 i) l = (if lx_is (zq B (tp T n 1 (i + 1))) 262 = true then .inr (lx_ne (zq B (tp T n 1 (i + 1))) (tp T n 1 (i + 1)), l ++ [y], 1) else if lx_is (zq B (tp T n 1 (i + 1))) 44 = true then pr_f B 261 f (lx_ne (zq B (tp T n 1 (i + 1))) (tp T n 1 (i + 1))) (l ++ [y]) else .inr ((tp T n 1 (i + 1)), l ++ [y], 0)) := by
                      rw [pr_f_s, if_pos hh.2.1, if_pos (hh.2.2.2 (by omega)), if_pos (by omega), hh.1, hne]
                    have h35 := kg_35 (i := i + 1) hB
                    have h16 := lx_is_kg (i := i + 1) hB (k := 16) (ch := 44) (by decide) sk_16
                    have hpm2 : pm_I 186 (w_up (w_up (w_up S (192 + l.length) m y) 190 m ((l.length : Int) + 1)) 14 4 ((i + 1 : Nat) : Int)) m (l ++ [y]) 0 := pm_add hpm (by omega) (((w_up_slot (by decide)).trans (w_up_same _ _ _ _))) (((w_up_slot (by decide)).trans ((w_up_slot (by decide)).trans ((w_up_slot (by omega)).trans (hp5))))) (((w_up_slot (by omega)).trans ((w_up_slot (by omega)).trans (w_up_same _ _ _ _)))) (fun q hq => ((w_up_slot (by omega)).trans ((w_up_slot (by omega)).trans ((w_up_slot (by omega)).trans (rfl)))))
                    have hhx : hx_I 261 162 176 181 163 T n c B (w_up (w_up (w_up S (192 + l.length) m y) 190 m ((l.length : Int) + 1)) 14 4 ((i + 1 : Nat) : Int)) := (hx_up (hx_up (hx_up hx (by unfold hx_o; omega)) (by unfold hx_o; omega)) (by unfold hx_o; omega))
                    exact wJ_S (hk (i + 1) (l ++ [y]) 0 0 (w_up (w_up (w_up S (192 + l.length) m y) 190 m ((l.length : Int) + 1)) 14 4 ((i + 1 : Nat) : Int)) (by rw [hstep, if_neg (fun z => absurd (h35.1 z) (by omega)), if_neg (fun z => absurd (h16.1 z) (by omega))]) (fun j x a1 a2 => (w_up_no (by omega)).trans ((w_up_no (by omega)).trans ((w_up_no (by omega)).trans (rfl)))) hhx (show cx_P T n c (i + 1) (w_up (w_up (w_up S (192 + l.length) m y) 190 m ((l.length : Int) + 1)) 14 4 ((i + 1 : Nat) : Int)) from ⟨(w_up_same _ _ _ _), hg1⟩) hpm2) ⟨rfl, rfl, trivial⟩
                  · skip
                    exact absurd c20 (by omega)
                · skip
                  refine wa_aload_n (n := 2) rfl ?_
                  refine wa_iconst ?_
                  refine wb_aald5 185 5 rfl rfl (wy_pr rfl) wt_185 (by rw [show _ = _ from ((w_up_slot (by decide)).trans ((w_up_slot (by decide)).trans ((w_up_slot (by omega)).trans ((cl_185 hC)))))]; omega) wl_185_5 ?_
                  refine wa_iload_n (n := 1) rfl ?_
                  refine wb_iald 191 rfl (wy_pr rfl) wt_191 (n := 400) ((w_up_slot (by decide)).trans ((w_up_slot (by decide)).trans ((w_up_slot (by omega)).trans ((cl_191 hC))))) (by omega) (by omega) (v := 0) ((w_up_slot (by decide)).trans ((w_up_slot (by decide)).trans ((w_up_slot (by omega)).trans (hp5)))) (fun r21 => ?_)
                  refine wa_ifne (w_rg0 (by omega) (by omega)) ⟨_, rfl⟩ (fun c22 => ?_) (fun c22 => ?_)
                  · skip
                    exact absurd c22 (by omega)
                  · skip
                    refine wa_iconst ?_
                    refine wa_goto ⟨_, rfl⟩ ?_
                    refine wa_istore_n (n := 3) rfl ?_
                    refine wa_iload_n (n := 3) rfl ?_
                    refine wa_ifeq (w_rg0 (by omega) (by omega)) ⟨_, rfl⟩ (fun c23 => ?_) (fun c23 => ?_)
                    · skip
                      exact absurd c23 (by omega)
                    · skip
                      refine wa_aload_n (n := 0) rfl ?_
                      refine wb_gf4 61 rfl (wy_pr rfl) wt_61 wf_4_0 (v := 14) wl_61_0 ?_
                      refine wa_cv 14 rfl (wy_pr rfl) wt_14 (M2 := fun _ => False) rfl at_XR_next ⟨_, rfl⟩ rfl rfl ⟨trivial, trivial, (Or.inr ⟨wy_pr rfl, fun q => q⟩), trivial, (Or.inr ⟨wy_pr rfl, fun q => q⟩), trivial, trivial⟩ trivial (fun _ _ q => False.elim q) (nx_c (S := (w_up (w_up (w_up S (192 + l.length) m y) 190 m ((l.length : Int) + 1)) 14 4 ((i + 1 : Nat) : Int))) (hx_T (hx_up (hx_up (hx_up hx (by unfold hx_o; omega)) (by unfold hx_o; omega)) (by unfold hx_o; omega))) (show cx_P T n c (i + 1) (w_up (w_up (w_up S (192 + l.length) m y) 190 m ((l.length : Int) + 1)) 14 4 ((i + 1 : Nat) : Int)) from ⟨(w_up_same _ _ _ _), hg1⟩) rfl (gI_up (gI_up (gI_up hI (by omega) (by omega) (by omega)) (by omega) (by omega) (by omega)) (by omega) (by omega) (by omega)) (by omega)) (fun oq24 Sq24 hp25 q24 => ?_)
                      rcases q24 with ⟨rfl, rfl⟩
                      show wJ _ _ _ _ _ _ _ _ _ _
                      have hg2 : pg T n c (i + 1 + 1) := pg_next hT hg1 (by omega) (by omega)
                      have hA2 := pg_at hT hg2
                      have h16_2 := hA2.1
                      have h15_2 := hA2.2.1
                      have hpr2 := hA2.2.2
                      have hkr2 := kg_rg T n (tp T n 1 (i + 1 + 1))
                      have hic2 := hg2.1
                      have hlt2 := tp_lt hT hg1 (by omega) (by omega)
                      refine wa_fall ⟨_, rfl⟩ ?_
                      refine wa_iinc rfl rfl ?_
                      refine wa_goto ⟨_, rfl⟩ ?_
                      have hh := ty_hy (av := 0) hyy0 (Or.inl (by omega))
                      have hstep : pr_f B 261 (f + 1) (tp T n 1 i) l = (if lx_is (zq B (tp T n 1 (i + 1))) 262 = true then .inr (lx_ne (zq B (tp T n 1 (i + 1))) (tp T n 1 (i + 1)), l ++ [y], 1) else if lx_is (zq B (tp T n 1 (i + 1))) 44 = true then pr_f B 261 f (lx_ne (zq B (tp T n 1 (i + 1))) (tp T n 1 (i + 1))) (l ++ [y]) else .inr ((tp T n 1 (i + 1)), l ++ [y], 0)) := by
                        rw [pr_f_s, if_pos hh.2.1, if_pos (hh.2.2.2 (by omega)), if_pos (by omega), hh.1, hne]
                      have h35 := kg_35 (i := i + 1) hB
                      have h16 := lx_is_kg (i := i + 1) hB (k := 16) (ch := 44) (by decide) sk_16
                      rw [if_neg (fun z => absurd (h35.1 z) (by omega)), if_pos (h16.2 (by omega)), tp_ne (i := i + 1) hB] at hstep
                      have hpm2 : pm_I 186 (w_up (w_up (w_up (w_up S (192 + l.length) m y) 190 m ((l.length : Int) + 1)) 14 4 ((i + 1 : Nat) : Int)) 14 4 ((i + 1 + 1 : Nat) : Int)) m (l ++ [y]) 0 := pm_add hpm (by omega) (((w_up_slot (by decide)).trans ((w_up_slot (by decide)).trans (w_up_same _ _ _ _)))) (((w_up_slot (by decide)).trans ((w_up_slot (by decide)).trans ((w_up_slot (by decide)).trans ((w_up_slot (by omega)).trans (hp5)))))) (((w_up_slot (by omega)).trans ((w_up_slot (by omega)).trans ((w_up_slot (by omega)).trans (w_up_same _ _ _ _))))) (fun q hq => ((w_up_slot (by omega)).trans ((w_up_slot (by omega)).trans ((w_up_slot (by omega)).trans ((w_up_slot (by omega)).trans (rfl))))))
                      have hhx : hx_I 261 162 176 181 163 T n c B (w_up (w_up (w_up (w_up S (192 + l.length) m y) 190 m ((l.length : Int) + 1)) 14 4 ((i + 1 : Nat) : Int)) 14 4 ((i + 1 + 1 : Nat) : Int)) := (hx_up (hx_up (hx_up (hx_up hx (by unfold hx_o; omega)) (by unfold hx_o; omega)) (by unfold hx_o; omega)) (by unfold hx_o; omega))
                      exact wJ_S (ih (i + 1 + 1) (l ++ [y]) (u + 1) (w_up (w_up (w_up (w_up S (192 + l.length) m y) 190 m ((l.length : Int) + 1)) 14 4 ((i + 1 : Nat) : Int)) 14 4 ((i + 1 + 1 : Nat) : Int)) (by omega) hhx (show cx_P T n c (i + 1 + 1) (w_up (w_up (w_up (w_up S (192 + l.length) m y) 190 m ((l.length : Int) + 1)) 14 4 ((i + 1 : Nat) : Int)) 14 4 ((i + 1 + 1 : Nat) : Int)) from ⟨(w_up_same _ _ _ _), hg2⟩) hpm2 ⟨by omega, by omega⟩ (fun i2 l2 v2 u2 Z2 e2 g2 => hk i2 l2 v2 u2 Z2 (hstep.trans e2) (pp_tr (fun j x a1 a2 => (w_up_no (by omega)).trans ((w_up_no (by omega)).trans ((w_up_no (by omega)).trans ((w_up_no (by omega)).trans (rfl))))) g2)) (fun e3 q3 v3 Z3 Z4 e2 g2 => hft e3 q3 v3 Z3 Z4 (hstep.trans e2) (pp_tr (fun j x a1 a2 => (w_up_no (by omega)).trans ((w_up_no (by omega)).trans ((w_up_no (by omega)).trans ((w_up_no (by omega)).trans (rfl))))) g2))) ⟨rfl, rfl, rfl, rfl, rfl, trivial⟩
              · skip
                refine wa_aload_n (n := 2) rfl ?_
                refine wa_iconst ?_
                refine wb_aald5 185 5 rfl rfl (wy_pr rfl) wt_185 (by rw [show _ = _ from ((w_up_slot (by decide)).trans ((w_up_slot (by decide)).trans ((w_up_slot (by omega)).trans ((cl_185 hC)))))]; omega) wl_185_5 ?_
                refine wa_iload_n (n := 1) rfl ?_
                refine wa_iconst ?_
                refine wb_iast 191 rfl (wy_pr rfl) wt_191 (n := 400) ((w_up_slot (by decide)).trans ((w_up_slot (by decide)).trans ((w_up_slot (by omega)).trans ((cl_191 hC))))) (by omega) (by omega) ⟨(by omega), (by omega)⟩ ?_
                refine wa_aload_n (n := 0) rfl ?_
                refine wb_gf4 61 rfl (wy_pr rfl) wt_61 wf_4_0 (v := 14) wl_61_0 ?_
                refine wa_cv 14 rfl (wy_pr rfl) wt_14 (M2 := fun _ => False) rfl at_XR_next ⟨_, rfl⟩ rfl rfl ⟨trivial, (Or.inr ⟨wy_pr rfl, fun q => q⟩), trivial, (Or.inr ⟨wy_pr rfl, fun q => q⟩), trivial, trivial, trivial⟩ trivial (fun _ _ q => False.elim q) (nx_c (S := (w_up (w_up (w_up (w_up S (192 + l.length) m y) 190 m ((l.length : Int) + 1)) 14 4 ((i + 1 : Nat) : Int)) 191 m 1)) (hx_T (hx_up (hx_up (hx_up (hx_up hx (by unfold hx_o; omega)) (by unfold hx_o; omega)) (by unfold hx_o; omega)) (by unfold hx_o; omega))) (show cx_P T n c (i + 1) (w_up (w_up (w_up (w_up S (192 + l.length) m y) 190 m ((l.length : Int) + 1)) 14 4 ((i + 1 : Nat) : Int)) 191 m 1) from ⟨((w_up_slot (by decide)).trans (w_up_same _ _ _ _)), hg1⟩) rfl (gI_up (gI_up (gI_up (gI_up hI (by omega) (by omega) (by omega)) (by omega) (by omega) (by omega)) (by omega) (by omega) (by omega)) (by omega) (by omega) (by omega)) (by omega)) (fun oq26 Sq26 hp27 q26 => ?_)
                rcases q26 with ⟨rfl, rfl⟩
                show wJ _ _ _ _ _ _ _ _ _ _
                have hg2 : pg T n c (i + 1 + 1) := pg_next hT hg1 (by omega) (by omega)
                have hA2 := pg_at hT hg2
                have h16_2 := hA2.1
                have h15_2 := hA2.2.1
                have hpr2 := hA2.2.2
                have hkr2 := kg_rg T n (tp T n 1 (i + 1 + 1))
                have hic2 := hg2.1
                have hlt2 := tp_lt hT hg1 (by omega) (by omega)
                refine wa_fall ⟨_, rfl⟩ ?_
                refine wa_aload_n (n := 0) rfl ?_
                refine wb_gf4 61 rfl (wy_pr rfl) wt_61 wf_4_0 (v := 14) wl_61_0 ?_
                refine wa_cv 14 rfl (wy_pr rfl) wt_14 (M2 := fun _ => False) rfl at_XR_kind ⟨_, rfl⟩ rfl rfl ⟨trivial, (Or.inr ⟨wy_pr rfl, fun q => q⟩), trivial, (Or.inr ⟨wy_pr rfl, fun q => q⟩), trivial, trivial, trivial⟩ trivial (fun _ _ q => False.elim q) ?_ (fun _ _ _ q => q)
                refine wa_aload_n (n := 0) rfl ?_
                refine wb_gf4 14 rfl (wy_pr rfl) wt_14 wf_6_0 (v := 15) wl_14_0 ?_
                refine wa_aload_n (n := 0) rfl ?_
                refine wb_gfi 14 rfl (wy_pr rfl) wt_14 wf_6_4 (v := ((i + 1 + 1 : Nat) : Int)) (w_up_same _ _ _ _) (fun r28 => ?_)
                refine wb_bald 15 rfl (wy_pr rfl) wt_15 (n := (S 15 (-1))) ((w_up_slot (by decide)).trans ((w_up_slot (by decide)).trans ((w_up_slot (by decide)).trans ((w_up_slot (by decide)).trans (w_up_slot (by omega)))))) (by omega) (by omega) (v := (kg T n (tp T n 1 (i + 1 + 1)))) ((w_up_slot (by decide)).trans ((w_up_slot (by decide)).trans ((w_up_slot (by decide)).trans ((w_up_slot (by decide)).trans ((w_up_slot (by omega)).trans (h15_2)))))) (fun r29 => ?_)
                refine wa_ireturn rfl ?_
                show wJ _ _ _ _ _ _ _ _ _ _
                refine wa_bipush (w_rg2 (by omega) (by omega)) ?_
                refine wa_icmpne (w_rg0 (by omega) (by omega)) (w_rg0 (by omega) (by omega)) ⟨_, rfl⟩ (fun c30 => ?_) (fun c30 => ?_)
                · skip
                  refine wa_iconst ?_
                  refine wa_fall ⟨_, rfl⟩ ?_
                  refine wa_istore_n (n := 3) rfl ?_
                  refine wa_iload_n (n := 3) rfl ?_
                  refine wa_ifeq (w_rg0 (by omega) (by omega)) ⟨_, rfl⟩ (fun c31 => ?_) (fun c31 => ?_)
                  · skip
                    refine wa_iinc rfl rfl ?_
                    refine wa_goto ⟨_, rfl⟩ ?_
                    refine wa_iload_n (n := 3) rfl ?_
                    refine wa_ifeq (w_rg0 (by omega) (by omega)) ⟨_, rfl⟩ (fun cz => ?_) (fun cz => absurd rfl cz)
                    have hh := ty_hy (av := 0) hyy0 (Or.inl (by omega))
                    have hstep : pr_f B 261 (f + 1) (tp T n 1 i) l = (if lx_is (zq B (tp T n 1 (i + 1))) 262 = true then .inr (lx_ne (zq B (tp T n 1 (i + 1))) (tp T n 1 (i + 1)), l ++ [y], 1) else if lx_is (zq B (tp T n 1 (i + 1))) 44 = true then pr_f B 261 f (lx_ne (zq B (tp T n 1 (i + 1))) (tp T n 1 (i + 1))) (l ++ [y]) else .inr ((tp T n 1 (i + 1)), l ++ [y], 0)) := by
                      rw [pr_f_s, if_pos hh.2.1, if_pos (hh.2.2.2 (by omega)), if_pos (by omega), hh.1, hne]
                    have h35 := kg_35 (i := i + 1) hB
                    have h16 := lx_is_kg (i := i + 1) hB (k := 16) (ch := 44) (by decide) sk_16
                    have hpm2 : pm_I 186 (w_up (w_up (w_up (w_up (w_up S (192 + l.length) m y) 190 m ((l.length : Int) + 1)) 14 4 ((i + 1 : Nat) : Int)) 191 m 1) 14 4 ((i + 1 + 1 : Nat) : Int)) m (l ++ [y]) 1 := pm_add hpm (by omega) (((w_up_slot (by decide)).trans ((w_up_slot (by decide)).trans ((w_up_slot (by decide)).trans (w_up_same _ _ _ _))))) (((w_up_slot (by decide)).trans (w_up_same _ _ _ _))) (((w_up_slot (by omega)).trans ((w_up_slot (by omega)).trans ((w_up_slot (by omega)).trans ((w_up_slot (by omega)).trans (w_up_same _ _ _ _)))))) (fun q hq => ((w_up_slot (by omega)).trans ((w_up_slot (by omega)).trans ((w_up_slot (by omega)).trans ((w_up_slot (by omega)).trans ((w_up_slot (by omega)).trans (rfl)))))))
                    have hhx : hx_I 261 162 176 181 163 T n c B (w_up (w_up (w_up (w_up (w_up S (192 + l.length) m y) 190 m ((l.length : Int) + 1)) 14 4 ((i + 1 : Nat) : Int)) 191 m 1) 14 4 ((i + 1 + 1 : Nat) : Int)) := (hx_up (hx_up (hx_up (hx_up (hx_up hx (by unfold hx_o; omega)) (by unfold hx_o; omega)) (by unfold hx_o; omega)) (by unfold hx_o; omega)) (by unfold hx_o; omega))
                    exact wJ_S (hk (i + 1 + 1) (l ++ [y]) 1 0 (w_up (w_up (w_up (w_up (w_up S (192 + l.length) m y) 190 m ((l.length : Int) + 1)) 14 4 ((i + 1 : Nat) : Int)) 191 m 1) 14 4 ((i + 1 + 1 : Nat) : Int)) (by rw [hstep, if_pos (h35.2 (by omega)), tp_ne (i := i + 1) hB]) (fun j x a1 a2 => (w_up_no (by omega)).trans ((w_up_no (by omega)).trans ((w_up_no (by omega)).trans ((w_up_no (by omega)).trans ((w_up_no (by omega)).trans (rfl)))))) hhx (show cx_P T n c (i + 1 + 1) (w_up (w_up (w_up (w_up (w_up S (192 + l.length) m y) 190 m ((l.length : Int) + 1)) 14 4 ((i + 1 : Nat) : Int)) 191 m 1) 14 4 ((i + 1 + 1 : Nat) : Int)) from ⟨(w_up_same _ _ _ _), hg2⟩) hpm2) ⟨rfl, rfl, trivial⟩
                  · skip
                    exact absurd c31 (by omega)
                · skip
                  refine wa_aload_n (n := 2) rfl ?_
                  refine wa_iconst ?_
                  refine wb_aald5 185 5 rfl rfl (wy_pr rfl) wt_185 (by rw [show _ = _ from ((w_up_slot (by decide)).trans ((w_up_slot (by decide)).trans ((w_up_slot (by decide)).trans ((w_up_slot (by decide)).trans ((w_up_slot (by omega)).trans ((cl_185 hC)))))))]; omega) wl_185_5 ?_
                  refine wa_iload_n (n := 1) rfl ?_
                  refine wb_iald 191 rfl (wy_pr rfl) wt_191 (n := 400) ((w_up_slot (by decide)).trans ((w_up_at (by omega)).trans ((w_up_slot (by decide)).trans ((w_up_slot (by decide)).trans ((w_up_slot (by omega)).trans ((cl_191 hC))))))) (by omega) (by omega) (v := 1) ((w_up_slot (by decide)).trans (w_up_same _ _ _ _)) (fun r32 => ?_)
                  refine wa_ifne (w_rg0 (by omega) (by omega)) ⟨_, rfl⟩ (fun c33 => ?_) (fun c33 => ?_)
                  · skip
                    refine wa_iconst ?_
                    refine wa_fall ⟨_, rfl⟩ ?_
                    refine wa_istore_n (n := 3) rfl ?_
                    refine wa_iload_n (n := 3) rfl ?_
                    refine wa_ifeq (w_rg0 (by omega) (by omega)) ⟨_, rfl⟩ (fun c34 => ?_) (fun c34 => ?_)
                    · skip
                      refine wa_iinc rfl rfl ?_
                      refine wa_goto ⟨_, rfl⟩ ?_
                      refine wa_iload_n (n := 3) rfl ?_
                      refine wa_ifeq (w_rg0 (by omega) (by omega)) ⟨_, rfl⟩ (fun cz => ?_) (fun cz => absurd rfl cz)
                      have hh := ty_hy (av := 0) hyy0 (Or.inl (by omega))
                      have hstep : pr_f B 261 (f + 1) (tp T n 1 i) l = (if lx_is (zq B (tp T n 1 (i + 1))) 262 = true then .inr (lx_ne (zq B (tp T n 1 (i + 1))) (tp T n 1 (i + 1)), l ++ [y], 1) else if lx_is (zq B (tp T n 1 (i + 1))) 44 = true then pr_f B 261 f (lx_ne (zq B (tp T n 1 (i + 1))) (tp T n 1 (i + 1))) (l ++ [y]) else .inr ((tp T n 1 (i + 1)), l ++ [y], 0)) := by
                        rw [pr_f_s, if_pos hh.2.1, if_pos (hh.2.2.2 (by omega)), if_pos (by omega), hh.1, hne]
                      have h35 := kg_35 (i := i + 1) hB
                      have h16 := lx_is_kg (i := i + 1) hB (k := 16) (ch := 44) (by decide) sk_16
                      have hpm2 : pm_I 186 (w_up (w_up (w_up (w_up (w_up S (192 + l.length) m y) 190 m ((l.length : Int) + 1)) 14 4 ((i + 1 : Nat) : Int)) 191 m 1) 14 4 ((i + 1 + 1 : Nat) : Int)) m (l ++ [y]) 1 := pm_add hpm (by omega) (((w_up_slot (by decide)).trans ((w_up_slot (by decide)).trans ((w_up_slot (by decide)).trans (w_up_same _ _ _ _))))) (((w_up_slot (by decide)).trans (w_up_same _ _ _ _))) (((w_up_slot (by omega)).trans ((w_up_slot (by omega)).trans ((w_up_slot (by omega)).trans ((w_up_slot (by omega)).trans (w_up_same _ _ _ _)))))) (fun q hq => ((w_up_slot (by omega)).trans ((w_up_slot (by omega)).trans ((w_up_slot (by omega)).trans ((w_up_slot (by omega)).trans ((w_up_slot (by omega)).trans (rfl)))))))
                      have hhx : hx_I 261 162 176 181 163 T n c B (w_up (w_up (w_up (w_up (w_up S (192 + l.length) m y) 190 m ((l.length : Int) + 1)) 14 4 ((i + 1 : Nat) : Int)) 191 m 1) 14 4 ((i + 1 + 1 : Nat) : Int)) := (hx_up (hx_up (hx_up (hx_up (hx_up hx (by unfold hx_o; omega)) (by unfold hx_o; omega)) (by unfold hx_o; omega)) (by unfold hx_o; omega)) (by unfold hx_o; omega))
                      exact wJ_S (hk (i + 1 + 1) (l ++ [y]) 1 0 (w_up (w_up (w_up (w_up (w_up S (192 + l.length) m y) 190 m ((l.length : Int) + 1)) 14 4 ((i + 1 : Nat) : Int)) 191 m 1) 14 4 ((i + 1 + 1 : Nat) : Int)) (by rw [hstep, if_pos (h35.2 (by omega)), tp_ne (i := i + 1) hB]) (fun j x a1 a2 => (w_up_no (by omega)).trans ((w_up_no (by omega)).trans ((w_up_no (by omega)).trans ((w_up_no (by omega)).trans ((w_up_no (by omega)).trans (rfl)))))) hhx (show cx_P T n c (i + 1 + 1) (w_up (w_up (w_up (w_up (w_up S (192 + l.length) m y) 190 m ((l.length : Int) + 1)) 14 4 ((i + 1 : Nat) : Int)) 191 m 1) 14 4 ((i + 1 + 1 : Nat) : Int)) from ⟨(w_up_same _ _ _ _), hg2⟩) hpm2) ⟨rfl, rfl, trivial⟩
                    · skip
                      exact absurd c34 (by omega)
                  · skip
                    exact absurd c33 (by omega)
            · skip
              refine wa_aload_n (n := 0) rfl ?_
              refine wa_iconst ?_
              refine wa_cv 61 rfl (wy_pr rfl) wt_61 (M2 := fun _ => False) rfl at_XT_refuse ⟨_, rfl⟩ rfl rfl ⟨trivial, (Or.inr ⟨wy_pr rfl, fun q => q⟩), trivial, (Or.inr ⟨wy_pr rfl, fun q => q⟩), trivial, trivial, trivial⟩ trivial (fun _ _ q => False.elim q) (rf_c (S := S) (k := 5) (p := (tp T n 1 i)) (i := (i : Int)) hI (hpos4) (h16_0) ⟨by omega, by have e : S 16 (-1) = S 16 (-1) := rfl; omega⟩ ⟨by omega, by omega⟩ ⟨by omega, by omega⟩) (fun oq36 Sq36 hp37 q36 => ?_)
              rcases q36 with ⟨v, rfl, rz35⟩
              have hrz := rz35
              have hkind : (5 : Int) = 5 := rfl
              refine ⟨rfl, ?_⟩
              have hh := ty_hy (av := 0) hyy0 (Or.inl (by omega))
              exact hft 5 _ v _ _ (by rw [pr_f_s, if_pos hh.2.1, if_pos (hh.2.2.2 (by omega)), if_neg (by omega)]) (fun j x a1 a2 => rfl) hrz
          · skip
            refine wa_aload_n (n := 0) rfl ?_
            refine wa_iconst ?_
            refine wa_cv 61 rfl (wy_pr rfl) wt_61 (M2 := fun _ => False) rfl at_XT_refuse ⟨_, rfl⟩ rfl rfl ⟨trivial, (Or.inr ⟨wy_pr rfl, fun q => q⟩), trivial, (Or.inr ⟨wy_pr rfl, fun q => q⟩), trivial, trivial, trivial⟩ trivial (fun _ _ q => False.elim q) (rf_c (S := S) (k := 3) (p := (tp T n 1 i)) (i := (i : Int)) hI (hpos4) (h16_0) ⟨by omega, by have e : S 16 (-1) = S 16 (-1) := rfl; omega⟩ ⟨by omega, by omega⟩ ⟨by omega, by omega⟩) (fun oq39 Sq39 hp40 q39 => ?_)
            rcases q39 with ⟨v, rfl, rz38⟩
            have hrz := rz38
            have hkind : (3 : Int) = 3 := rfl
            refine ⟨rfl, ?_⟩
            have hz1 := (ty_hy (av := 1) hyy0 (Or.inr (by decide))).2.1
            have hpv := pl_27_k hB hW hrw hwc.1 (pg_nt hT hg0 hkg5_0.1)
            have hnv := (pg_nt hT hg0 hkg5_0.1).2.1
            have hv9 : S 17 (i : Int) < 9 := by
              have h := ty_pl hyy0 (by omega)
              rw [hpv] at h; revert h; split <;> omega
            have hcr := ch_rsv hB hW hR (pg_nt hT hg0 hkg5_0.1) (by omega) (by decide)
            have hpl0 := ty_pl hyy0 (by omega)
            exact hft 3 _ v _ _ (by rw [pr_f_s, if_pos hz1, if_neg (by omega)]) (fun j x a1 a2 => rfl) hrz
        · skip
          have hyy := hy4
          refine ⟨rfl, ?_⟩
          rcases ty_in hyy with ⟨rfl, q1⟩ | ⟨rfl, q1, q2⟩
          · exact hft 1 _ v _ _ (by rw [pr_f_s]; exact if_neg q1) (fun j x a1 a2 => rfl) hrz
          · exact hft 3 _ v _ _ (by rw [pr_f_s, if_pos q1, if_neg (fun z => q2 (by omega))]) (fun j x a1 a2 => rfl) hrz
end W9o
