/-! PART gj: link of the class's linker. -/
section Wgj
variable {xs : List (Nat × List Int32)} {M : Nat → Prop} {d : Nat} {S Z A : wS} {E : Int → List aE} {ix : Int → List Int} {fl : List Int} {ow : Int → Int} {s fo : Int} {e : aE}
/-- what the taking out of entries may change -/
def rmM (s : Int) (j : Nat) (x : Int) : Prop := (j = 57 ∧ 0 ≤ x) ∨ ((j = 44 ∨ j = 46) ∧ x = s) ∨ (j = 19 ∧ x = 12)
theorem rmZ_fr {a b : Int} (ha : 0 ≤ a) (hb : b = -1 ∨ 0 ≤ b) (j : Nat) (x : Int) (h : ¬ rmM s j x) : rmZ s b a S j x = S j x := by
  unfold rmM at h
  by_cases c : j = 57
  · rw [c]; exact rmZ_57 (by omega) (by omega)
  · exact rmZ_e j x (by omega) c (by omega)
theorem rmM_cl (hC : w_CL S) (hs : 0 ≤ s) (f : ∀ (j : Nat) (x : Int), ¬ rmM s j x → Z j x = S j x) : w_CL Z := fun q hq => (f q.1 (-1) (by unfold rmM; omega)).trans (hC q hq)
theorem rmM_g (hI : gI S) (hs : 0 ≤ s) (f : ∀ (j : Nat) (x : Int), ¬ rmM s j x → Z j x = S j x) : gI Z ∧ rmR S Z := by
  have hg : wG = 1000000 := rfl
  exact ⟨gI_ag2 hI (fun j hj => f j (-1) (by unfold rmM; omega)) (fun x _ => f 238 _ (by unfold rmM; omega)) (f 14 5 (by unfold rmM; omega)), rmR_ag (rmR_rfl S) (fun k _ => f k (-1) (by unfold rmM; omega)) (f wG 0 (by unfold rmM; omega)) (f wG 1 (by unfold rmM; omega))⟩
/-- what link may change -/
def lkM (s : Int) (j : Nat) (x : Int) : Prop := (48 ≤ j ∧ j ≤ 57) ∨ ((j = 41 ∨ j = 44 ∨ j = 45 ∨ j = 46) ∧ x = s) ∨ (j = 19 ∧ (x = 11 ∨ x = 12)) ∨ (j = 158 ∧ x = 14)
theorem l4_e {l : List Int} (h : l.length = 4) : ∃ a b c f : Int, l = [a, b, c] ++ [f] := by
  match l, h with
  | [a, b, c, f], _ => exact ⟨a, b, c, f, rfl⟩
theorem e4_e {l : List aE} (h : l.length = 4) : ∃ f : aE, l = l.take 3 ++ [f] := by
  match l, h with
  | [a, b, c, f], _ => exact ⟨f, rfl⟩
/-- what link leaves, and tells -/
def lkQ (s : Int) (E : Int → List aE) (e : aE) (fo : Int) (S : wS) (o : wO) (Z : wS) : Prop := o = .inl (some (0, fo)) ∧ (∃ (ix2 : Int → List Int) (fl2 : List Int) (ow2 : Int → Int), cSe Z (fUp E s (if S 41 s = 8 then [] else e :: (E s).take 3)) ix2 fl2 ow2) ∧ cEc Z (S 35 s) (S 36 s) e fo ∧ (0 ≤ fo ∧ fo < Z 48 (-1)) ∧ Z 41 s = S 41 s + 1 ∧ Z 45 s = (if S 41 s = 8 then 1 else S 45 s) ∧ (∀ (j : Nat) (x : Int), j < 4000000 → j ≠ wG → ¬ lkM s j x → Z j x = S j x) ∧ gI Z ∧ rmR S Z
theorem rl_ok (hse : cSe S E ix fl ow) (hs : 0 ≤ s ∧ s < S 19 9) (l6 : S 158 6 = s) (h4 : (E s).length = 4) (hC : w_CL S) : wJ (pe_GA xs) wY0 M (d + 1) t_XL_removeLast ((pe_at t_XL_removeLast.bl 0).getD (0, [])).2 [(0, (2, 158))] [] S (fun o Z => o = .inl none ∧ (∃ (ix2 : Int → List Int) (fl2 : List Int) (ow2 : Int → Int), cSe Z (fUp E s ((E s).take 3)) ix2 fl2 ow2) ∧ ∀ (j : Nat) (x : Int), ¬ rmM s j x → Z j x = S j x) := by
  have hl := hse.1
  have h35 := hl.2.1
  have h48 := hl.2.2.2
  have y1 := hse.2.1 s hs.1 hs.2
  obtain ⟨ea, hea⟩ := e4_e h4
  obtain ⟨a, b, c, f, hx⟩ := l4_e (l := ix s) (by rw [y1.2.2.1]; exact h4)
  have hch := y1.2.2.2.1
  rw [hx] at hch
  replace hch : chL (S 57) [a, b, c, f] (S 46 s) := hch
  obtain ⟨k1, k2, k3, k4, k5, k6, k7, k8, k9⟩ := hch
  have hin : ∀ z : Int, z ∈ [a, b, c, f] → z < S 19 11 := fun z hz => (y1.2.2.2.2.2.1 z (by rw [hx]; exact hz)).2
  have b1 := hin a (by simp only [List.mem_cons, true_or])
  have b2 := hin b (by simp only [List.mem_cons, true_or, or_true])
  have b3 := hin c (by simp only [List.mem_cons, true_or, or_true])
  have b4 := hin f (by simp only [List.mem_cons, true_or, or_true])
  have h44 : S 44 s = 4 := by rw [y1.1, h4]; rfl
  refine wa_iconst ?_
  refine wa_istore_n (n := 1) rfl ?_
  refine wa_aload_n (n := 0) rfl ?_
  refine wb_gf4 158 rfl (wy_pr rfl) wt_158 wf_5_2 (v := 34) wl_158_2 ?_
  refine wa_bipush (w_rg2 (by omega) (by omega)) ?_
  refine wb_aald5 34 11 rfl rfl (wy_pr rfl) wt_34 (by rw [show _ = _ from ((cl_34 hC))]; omega) wl_34_11 ?_
  refine wa_aload_n (n := 0) rfl ?_
  refine wb_gfi 158 rfl (wy_pr rfl) wt_158 wf_5_6 (v := s) (l6) (fun r1 => ?_)
  refine wb_iald 46 rfl (wy_pr rfl) wt_46 (n := (S 35 (-1))) ((hl.1 11 (by decide))) (by omega) (by omega) (v := a) (k1) (fun r2 => ?_)
  refine wa_istore_n (n := 2) rfl ?_
  refine wa_iconst ?_
  refine wa_istore_n (n := 3) rfl ?_
  refine wa_fall ⟨_, rfl⟩ ?_
  refine wJ_S (L2 := [(0, (2, 158)), (1, (0, (-1))), (2, (0, a)), (3, (0, 1))]) ?_ ⟨rfl, rfl, rfl, rfl, trivial⟩
  refine wa_iload_n (n := 3) rfl ?_
  refine wa_iconst ?_
  refine wa_icmpge (w_rg0 (by omega) (by omega)) (w_rg0 (by omega) (by omega)) ⟨_, rfl⟩ (fun c3 => ?_) (fun c3 => ?_)
  · skip
    exact absurd c3 (by omega)
  · skip
    refine wa_iload_n (n := 2) rfl ?_
    refine wa_istore_n (n := 1) rfl ?_
    refine wa_aload_n (n := 0) rfl ?_
    refine wb_gf4 158 rfl (wy_pr rfl) wt_158 wf_5_3 (v := 47) wl_158_3 ?_
    refine wa_bipush (w_rg2 (by omega) (by omega)) ?_
    refine wb_aald5 47 9 rfl rfl (wy_pr rfl) wt_47 (by rw [show _ = _ from ((cl_47 hC))]; omega) wl_47_9 ?_
    refine wa_iload_n (n := 2) rfl ?_
    refine wb_iald 57 rfl (wy_pr rfl) wt_57 (n := (S 48 (-1))) ((hl.2.2.1 9 (by decide))) (by omega) (by omega) (v := b) (k3) (fun r4 => ?_)
    refine wa_istore_n (n := 2) rfl ?_
    refine wa_iinc rfl rfl ?_
    refine wa_goto ⟨_, rfl⟩ ?_
    refine wJ_S (L2 := [(0, (2, 158)), (1, (0, a)), (2, (0, b)), (3, (0, 2))]) ?_ ⟨rfl, rfl, rfl, rfl, trivial⟩
    refine wa_iload_n (n := 3) rfl ?_
    refine wa_iconst ?_
    refine wa_icmpge (w_rg0 (by omega) (by omega)) (w_rg0 (by omega) (by omega)) ⟨_, rfl⟩ (fun c5 => ?_) (fun c5 => ?_)
    · skip
      exact absurd c5 (by omega)
    · skip
      refine wa_iload_n (n := 2) rfl ?_
      refine wa_istore_n (n := 1) rfl ?_
      refine wa_aload_n (n := 0) rfl ?_
      refine wb_gf4 158 rfl (wy_pr rfl) wt_158 wf_5_3 (v := 47) wl_158_3 ?_
      refine wa_bipush (w_rg2 (by omega) (by omega)) ?_
      refine wb_aald5 47 9 rfl rfl (wy_pr rfl) wt_47 (by rw [show _ = _ from ((cl_47 hC))]; omega) wl_47_9 ?_
      refine wa_iload_n (n := 2) rfl ?_
      refine wb_iald 57 rfl (wy_pr rfl) wt_57 (n := (S 48 (-1))) ((hl.2.2.1 9 (by decide))) (by omega) (by omega) (v := c) (k5) (fun r6 => ?_)
      refine wa_istore_n (n := 2) rfl ?_
      refine wa_iinc rfl rfl ?_
      refine wa_goto ⟨_, rfl⟩ ?_
      refine wJ_S (L2 := [(0, (2, 158)), (1, (0, b)), (2, (0, c)), (3, (0, 3))]) ?_ ⟨rfl, rfl, rfl, rfl, trivial⟩
      refine wa_iload_n (n := 3) rfl ?_
      refine wa_iconst ?_
      refine wa_icmpge (w_rg0 (by omega) (by omega)) (w_rg0 (by omega) (by omega)) ⟨_, rfl⟩ (fun c7 => ?_) (fun c7 => ?_)
      · skip
        exact absurd c7 (by omega)
      · skip
        refine wa_iload_n (n := 2) rfl ?_
        refine wa_istore_n (n := 1) rfl ?_
        refine wa_aload_n (n := 0) rfl ?_
        refine wb_gf4 158 rfl (wy_pr rfl) wt_158 wf_5_3 (v := 47) wl_158_3 ?_
        refine wa_bipush (w_rg2 (by omega) (by omega)) ?_
        refine wb_aald5 47 9 rfl rfl (wy_pr rfl) wt_47 (by rw [show _ = _ from ((cl_47 hC))]; omega) wl_47_9 ?_
        refine wa_iload_n (n := 2) rfl ?_
        refine wb_iald 57 rfl (wy_pr rfl) wt_57 (n := (S 48 (-1))) ((hl.2.2.1 9 (by decide))) (by omega) (by omega) (v := f) (k7) (fun r8 => ?_)
        refine wa_istore_n (n := 2) rfl ?_
        refine wa_iinc rfl rfl ?_
        refine wa_goto ⟨_, rfl⟩ ?_
        refine wJ_S (L2 := [(0, (2, 158)), (1, (0, c)), (2, (0, f)), (3, (0, 4))]) ?_ ⟨rfl, rfl, rfl, rfl, trivial⟩
        refine wa_iload_n (n := 3) rfl ?_
        refine wa_iconst ?_
        refine wa_icmpge (w_rg0 (by omega) (by omega)) (w_rg0 (by omega) (by omega)) ⟨_, rfl⟩ (fun c9 => ?_) (fun c9 => ?_)
        · skip
          refine wa_aload_n (n := 0) rfl ?_
          refine wb_gf4 158 rfl (wy_pr rfl) wt_158 wf_5_1 (v := 19) wl_158_1 ?_
          refine wa_aload_n (n := 0) rfl ?_
          refine wb_gfi 158 rfl (wy_pr rfl) wt_158 wf_5_6 (v := s) (l6) (fun r10 => ?_)
          refine wa_iload_n (n := 1) rfl ?_
          refine wa_iload_n (n := 2) rfl ?_
          refine wa_cv 19 rfl (wy_pr rfl) wt_19 (M2 := fun _ => False) rfl at_XC_removeEntry ⟨_, rfl⟩ rfl rfl ⟨(Or.inr ⟨wy_pr rfl, fun q => q⟩), trivial, trivial, trivial, trivial⟩ trivial (fun _ _ q => False.elim q) (re_ok (S := S) (s := s) (b := c) (a := f) hl ⟨by omega, by omega⟩ (Or.inr ⟨by omega, by omega⟩) ⟨by omega, by omega⟩ ⟨by omega, by omega⟩ hC) (fun oq11 Sq11 hp12 q11 => ?_)
          rcases q11 with ⟨rfl, rfl⟩
          show wJ _ _ _ _ _ _ _ _ _ _
          refine wa_return rfl ?_
          exact ⟨rfl, ⟨_, _, _, by have y := cSe_rm (b := c) (pe := (E s).take 3) (qe := []) (p := [a, b, c]) (q := []) hse hs hea hx (by rw [List.length_take, h4]; rfl) (Or.inr ⟨[a, b], rfl⟩); rw [List.append_nil] at y; exact y⟩, fun j x hj => rmZ_fr (by omega) (Or.inr (by omega)) j x hj⟩
        · skip
          exact absurd c9 (by omega)
theorem lkm_l (hs : 0 ≤ s) : ∀ (re : List aE) (rx : List Int) (E : Int → List aE) (ix : Int → List Int) (fl : List Int) (ow : Int → Int) (S : wS) (n : Int), cSe S E ix fl ow → s < S 19 9 → S 158 6 = s → w_CL S → E s = re → ix s = rx → n = (re.length : Int) → wJ (pe_GA xs) wY0 M (d + 1) t_XL_link ((pe_at t_XL_link.bl 1).getD (0, [])).2 [(0, (2, 158)), (1, (0, n))] [] S (fun o Z => o = .inl (some (0, S 158 14)) ∧ (∃ (ix2 : Int → List Int) (fl2 : List Int) (ow2 : Int → Int), cSe Z (fUp E s []) ix2 fl2 ow2) ∧ ∀ (j : Nat) (x : Int), ¬ rmM s j x → Z j x = S j x) := by
  intro re
  induction re with
  | nil =>
    intro rx E ix fl ow S n hse hs9 l6 hC hE hx hn
    replace hn : n = 0 := hn
    have h14 := hse.2.2.2.1
    have h48 := hse.1.2.2.2
    refine wa_iload_n (n := 1) rfl ?_
    refine wa_ifle (w_rg0 (by omega) (by omega)) ⟨_, rfl⟩ (fun c1 => ?_) (fun c1 => ?_)
    · skip
      refine wa_aload_n (n := 0) rfl ?_
      refine wb_gfi 158 rfl (wy_pr rfl) wt_158 wf_5_14 (v := (S 158 14)) rfl (fun r2 => ?_)
      refine wa_ireturn rfl ?_
      exact ⟨rfl, ⟨ix, fl, ow, by rw [fUp_eta hE]; exact hse⟩, fun _ _ _ => rfl⟩
    · skip
      exfalso; omega
  | cons e re ih =>
    intro rx E ix fl ow S n hse hs9 l6 hC hE hx hn
    have hl := hse.1
    have h35 := hl.2.1
    have h48 := hl.2.2.2
    have y1 := hse.2.1 s hs hs9
    rw [List.length_cons] at hn
    obtain ⟨a, rx, rfl⟩ : ∃ (a : Int) (r : List Int), rx = a :: r := by
      have z := y1.2.2.1
      rw [hE, hx, List.length_cons] at z
      cases rx with
      | nil => cases z
      | cons a r => exact ⟨a, r, rfl⟩
    have hch := y1.2.2.2.1
    rw [hx] at hch
    obtain ⟨k1, k2, k3⟩ := hch
    have ba := (y1.2.2.2.2.2.1 a (by rw [hx]; exact List.mem_cons.mpr (Or.inl rfl))).2
    have hre : re.length ≤ 3 := by
      have z2 := y1.2.1
      rw [hE, List.length_cons] at z2
      omega
    have h44 : 1 ≤ S 44 s ∧ S 44 s ≤ 4 := by
      have z := y1.1
      have z2 := y1.2.1
      rw [hE, List.length_cons] at z z2
      omega
    refine wa_iload_n (n := 1) rfl ?_
    refine wa_ifle (w_rg0 (by omega) (by omega)) ⟨_, rfl⟩ (fun c101 => ?_) (fun c101 => ?_)
    · skip
      exfalso; omega
    · skip
      refine wa_aload_n (n := 0) rfl ?_
      refine wb_gf4 158 rfl (wy_pr rfl) wt_158 wf_5_1 (v := 19) wl_158_1 ?_
      refine wa_aload_n (n := 0) rfl ?_
      refine wb_gfi 158 rfl (wy_pr rfl) wt_158 wf_5_6 (v := s) (l6) (fun r102 => ?_)
      refine wa_iconst ?_
      refine wa_aload_n (n := 0) rfl ?_
      refine wb_gf4 158 rfl (wy_pr rfl) wt_158 wf_5_2 (v := 34) wl_158_2 ?_
      refine wa_bipush (w_rg2 (by omega) (by omega)) ?_
      refine wb_aald5 34 11 rfl rfl (wy_pr rfl) wt_34 (by rw [show _ = _ from ((cl_34 hC))]; omega) wl_34_11 ?_
      refine wa_aload_n (n := 0) rfl ?_
      refine wb_gfi 158 rfl (wy_pr rfl) wt_158 wf_5_6 (v := s) (l6) (fun r103 => ?_)
      refine wb_iald 46 rfl (wy_pr rfl) wt_46 (n := (S 35 (-1))) ((hl.1 11 (by decide))) (by omega) (by omega) (v := a) (k1) (fun r104 => ?_)
      refine wa_cv 19 rfl (wy_pr rfl) wt_19 (M2 := fun _ => False) rfl at_XC_removeEntry ⟨_, rfl⟩ rfl rfl ⟨(Or.inr ⟨wy_pr rfl, fun q => q⟩), trivial, trivial⟩ trivial (fun _ _ q => False.elim q) (re_ok (S := S) (s := s) (b := -1) (a := a) hl ⟨by omega, by omega⟩ (Or.inl rfl) ⟨by omega, by omega⟩ h44 hC) (fun oq105 Sq105 hp106 q105 => ?_)
      rcases q105 with ⟨rfl, rfl⟩
      show wJ _ _ _ _ _ _ _ _ _ _
      refine wa_iinc rfl rfl ?_
      refine wa_goto ⟨_, rfl⟩ ?_
      have fr : ∀ (j : Nat) (x : Int), ¬ rmM s j x → rmZ s (-1) a S j x = S j x := fun j x hj => rmZ_fr k2 (Or.inl rfl) j x hj
      have hse2 := cSe_rm (b := -1) (pe := []) (qe := re) (p := []) (q := rx) hse ⟨hs, hs9⟩ hE hx rfl (Or.inl ⟨rfl, rfl⟩)
      refine wJ_S (wJ_mono (ih rx (fUp E s re) (fUp ix s rx) (a :: fl) (fUp ow a (-1)) (rmZ s (-1) a S) (n + -1) hse2 (by rw [fr 19 9 (by unfold rmM; omega)]; exact hs9) ((fr 158 6 (by unfold rmM; omega)).trans l6) (rmM_cl hC hs fr) fUp_s fUp_s (by omega)) (fun o Z hz => ?_)) ⟨rfl, rfl, trivial⟩
      rw [fUp_2, fr 158 14 (by unfold rmM; omega)] at hz
      exact ⟨hz.1, hz.2.1, fun j x hj => (hz.2.2 j x hj).trans (fr j x hj)⟩
set_option maxHeartbeats 4000000 in
theorem lnk_ok (hse : cSe S E ix fl ow) (hs : 0 ≤ s ∧ s < S 19 9) (l6 : S 158 6 = s) (l14 : S 158 14 = fo) (hC : w_CL S) (hI : gI S) (h41 : 0 ≤ S 41 s ∧ S 41 s ≤ 8) (hec : cEc S (S 35 s) (S 36 s) e fo) : wJ (pe_GA xs) wY0 (mS [48, 49, 50, 51, 52, 53, 54, 55, 56, 57]) (d + 4) t_XL_link ((pe_at t_XL_link.bl 0).getD (0, [])).2 [(0, (2, 158))] [] S (lkQ s E e fo S) := by
  have hg : wG = 1000000 := rfl
  have hl := hse.1
  have h35 := hl.2.1
  have h48 := hl.2.2.2
  have y1 := hse.2.1 s hs.1 hs.2
  have hfo := hse.2.2.2.1
  rw [l14] at hfo
  have h44 : 0 ≤ S 44 s ∧ S 44 s ≤ 4 := by
    have z := y1.1
    have z2 := y1.2.1
    omega
  obtain ⟨S1, hS1⟩ : ∃ X : wS, X = w_up S 41 s (S 41 s + 1) := ⟨_, rfl⟩
  have f1 : ∀ (j : Nat) (x : Int), (j ≠ 41 ∨ x ≠ s) → S1 j x = S j x := fun j x hj => by rw [hS1]; exact w_up_no (by omega)
  have e41 : S1 41 s = S 41 s + 1 := by rw [hS1]; exact w_up_same _ _ _ _
  have hse1 : cSe S1 E ix fl ow := cSe_ag hse (fun j x hj => f1 j x (by unfold cEo at hj; omega))
  have hC1 : w_CL S1 := by rw [hS1]; exact w_CL_up hC hs.1
  have hI1 : gI S1 := by rw [hS1]; exact gI_up hI hs.1 (by first | decide | omega) (by first | decide | omega)
  have hR1 : rmR S S1 := by rw [hS1]; exact rmR_up (rmR_rfl S) hs.1 (by first | decide | omega)
  have hec1 : cEc S1 (S 35 s) (S 36 s) e fo := cEc_ag hec (fun j j0 j1 => f1 j fo (by omega))
  have l6a : S1 158 6 = s := (f1 158 6 (by first | decide | omega)).trans l6
  have l14a : S1 158 14 = fo := (f1 158 14 (by first | decide | omega)).trans l14
  have hl1 := hse1.1
  have q35 : S1 35 (-1) = S 35 (-1) := f1 35 (-1) (by first | decide | omega)
  have q48 : S1 48 (-1) = S 48 (-1) := f1 48 (-1) (by first | decide | omega)
  have q9 : S1 19 9 = S 19 9 := f1 19 9 (by first | decide | omega)
  have q44 : S1 44 s = S 44 s := f1 44 s (by first | decide | omega)
  have q46 : S1 46 s = S 46 s := f1 46 s (by first | decide | omega)
  refine wa_aload_n (n := 0) rfl ?_
  refine wb_gf4 158 rfl (wy_pr rfl) wt_158 wf_5_2 (v := 34) wl_158_2 ?_
  refine wa_bipush (w_rg2 (by omega) (by omega)) ?_
  refine wb_aald5 34 6 rfl rfl (wy_pr rfl) wt_34 (by rw [show _ = _ from ((cl_34 hC))]; omega) wl_34_6 ?_
  refine wa_aload_n (n := 0) rfl ?_
  refine wb_gfi 158 rfl (wy_pr rfl) wt_158 wf_5_6 (v := s) (l6) (fun r301 => ?_)
  refine wa_dup2 (by decide) (by decide) ?_
  refine wb_iald 41 rfl (wy_pr rfl) wt_41 (n := (S 35 (-1))) ((hl.1 6 (by decide))) (by omega) (by omega) (v := (S 41 s)) rfl (fun r302 => ?_)
  refine wa_iconst ?_
  refine wa_iadd ?_
  refine wb_iast 41 rfl (wy_pr rfl) wt_41 (n := (S 35 (-1))) ((hl.1 6 (by decide))) (by omega) (by omega) ⟨(by omega), (by omega)⟩ ?_
  rw [show (w_up S 41 s ((S 41 s) + 1)) = S1 from hS1.symm]
  refine wa_aload_n (n := 0) rfl ?_
  refine wb_gf4 158 rfl (wy_pr rfl) wt_158 wf_5_2 (v := 34) wl_158_2 ?_
  refine wa_bipush (w_rg2 (by omega) (by omega)) ?_
  refine wb_aald5 34 6 rfl rfl (wy_pr rfl) wt_34 (by rw [show _ = _ from ((cl_34 hC1))]; omega) wl_34_6 ?_
  refine wa_aload_n (n := 0) rfl ?_
  refine wb_gfi 158 rfl (wy_pr rfl) wt_158 wf_5_6 (v := s) (l6a) (fun r303 => ?_)
  refine wb_iald 41 rfl (wy_pr rfl) wt_41 (n := (S1 35 (-1))) ((hl1.1 6 (by decide))) (by omega) (by omega) (v := (S 41 s + 1)) (e41) (fun r304 => ?_)
  refine wa_bipush (w_rg2 (by omega) (by omega)) ?_
  refine wa_icmplt (w_rg0 (by omega) (by omega)) (w_rg0 (by omega) (by omega)) ⟨_, rfl⟩ (fun c305 => ?_) (fun c305 => ?_)
  · skip
    refine wa_aload_n (n := 0) rfl ?_
    refine wb_gf4 158 rfl (wy_pr rfl) wt_158 wf_5_2 (v := 34) wl_158_2 ?_
    refine wa_bipush (w_rg2 (by omega) (by omega)) ?_
    refine wb_aald5 34 9 rfl rfl (wy_pr rfl) wt_34 (by rw [show _ = _ from ((cl_34 hC1))]; omega) wl_34_9 ?_
    refine wa_aload_n (n := 0) rfl ?_
    refine wb_gfi 158 rfl (wy_pr rfl) wt_158 wf_5_6 (v := s) (l6a) (fun r306 => ?_)
    refine wb_iald 44 rfl (wy_pr rfl) wt_44 (n := (S1 35 (-1))) ((hl1.1 9 (by decide))) (by omega) (by omega) (v := (S 44 s)) (q44) (fun r307 => ?_)
    refine wa_iconst ?_
    refine wa_icmpne (w_rg0 (by omega) (by omega)) (w_rg0 (by omega) (by omega)) ⟨_, rfl⟩ (fun c308 => ?_) (fun c308 => ?_)
    · skip
      have hseb := hse1
      have hIb := hI1
      have hRb := hR1
      have hCb := hC1
      have hecb := hec1
      have l14b := l14a
      have hn4 : (E s).length < 4 := by have z := y1.1; have z2 := y1.2.1; omega
      have htk : (E s).take 3 = E s := List.take_of_length_le (by omega)
      obtain ⟨Eb, hEb⟩ : ∃ X : Int → List aE, X = E := ⟨_, rfl⟩
      obtain ⟨ixb, flb, owb, hseb⟩ : ∃ (a : Int → List Int) (b : List Int) (c : Int → Int), cSe S1 Eb a b c := ⟨ix, fl, ow, by rw [hEb]; exact hse1⟩
      have hEs : Eb s = (E s).take 3 := by rw [hEb, htk]
      have hEf : fUp Eb s (e :: (E s).take 3) = fUp E s (e :: (E s).take 3) := by rw [hEb]
      have frb : ∀ (j : Nat) (x : Int), ¬ lkM s j x → S1 j x = S j x := fun j x hj => f1 j x (by unfold lkM at hj; omega)
      have e41b := e41
      have r35 : S1 35 s = S 35 s ∧ S1 36 s = S 36 s ∧ S1 19 9 = S 19 9 ∧ S1 45 s = S 45 s := ⟨f1 35 s (by first | decide | omega), f1 36 s (by first | decide | omega), q9, f1 45 s (by first | decide | omega)⟩
      have yb := hseb.2.1 s hs.1 (by rw [r35.2.2.1]; exact hs.2)
      have hb44 : 0 ≤ S1 44 s ∧ S1 44 s ≤ 3 := by have z := yb.1; rw [hEs, List.length_take] at z; omega
      have lnb := hseb.1
      have lb35 := lnb.2.1
      have lb48 := lnb.2.2.2
      have hfob := hseb.2.2.2.1
      rw [l14b] at hfob
      have hb46 : -1 ≤ S1 46 s ∧ S1 46 s ≤ 40000 := by
        have z := yb.2.2.2.1
        have z2 := yb.2.2.2.2.2.1
        revert z z2
        cases ixb s with
        | nil => intro z _; rw [show S1 46 s = -1 from z]; decide
        | cons c r => intro z z2; have z3 := (z2 c (List.mem_cons.mpr (Or.inl rfl))).2; have z4 := z.1; have z5 := z.2.1; omega
      have l6b : S1 158 6 = s := (frb 158 6 (by unfold lkM; omega)).trans l6
      refine wa_aload_n (n := 0) rfl ?_
      refine wb_gfi 158 rfl (wy_pr rfl) wt_158 wf_5_14 (v := fo) (l14b) (fun r309 => ?_)
      refine wa_istore_n (n := 1) rfl ?_
      refine wa_aload_n (n := 0) rfl ?_
      refine wb_gf4 158 rfl (wy_pr rfl) wt_158 wf_5_3 (v := 47) wl_158_3 ?_
      refine wa_bipush (w_rg2 (by omega) (by omega)) ?_
      refine wb_aald5 47 9 rfl rfl (wy_pr rfl) wt_47 (by rw [show _ = _ from ((cl_47 hCb))]; omega) wl_47_9 ?_
      refine wa_iload_n (n := 1) rfl ?_
      refine wa_aload_n (n := 0) rfl ?_
      refine wb_gf4 158 rfl (wy_pr rfl) wt_158 wf_5_2 (v := 34) wl_158_2 ?_
      refine wa_bipush (w_rg2 (by omega) (by omega)) ?_
      refine wb_aald5 34 11 rfl rfl (wy_pr rfl) wt_34 (by rw [show _ = _ from ((cl_34 hCb))]; omega) wl_34_11 ?_
      refine wa_aload_n (n := 0) rfl ?_
      refine wb_gfi 158 rfl (wy_pr rfl) wt_158 wf_5_6 (v := s) (l6b) (fun r310 => ?_)
      refine wb_iald 46 rfl (wy_pr rfl) wt_46 (n := (S1 35 (-1))) ((lnb.1 11 (by decide))) (by omega) (by omega) (v := (S1 46 s)) rfl (fun r311 => ?_)
      refine wb_iast 57 rfl (wy_pr rfl) wt_57 (n := (S1 48 (-1))) ((lnb.2.2.1 9 (by decide))) (by omega) (by omega) ⟨(by omega), (by omega)⟩ ?_
      refine wa_aload_n (n := 0) rfl ?_
      refine wb_gf4 158 rfl (wy_pr rfl) wt_158 wf_5_2 (v := 34) wl_158_2 ?_
      refine wa_bipush (w_rg2 (by omega) (by omega)) ?_
      refine wb_aald5 34 11 rfl rfl (wy_pr rfl) wt_34 (by rw [show _ = _ from ((w_up_slot (by decide)).trans ((cl_34 hCb)))]; omega) wl_34_11 ?_
      refine wa_aload_n (n := 0) rfl ?_
      refine wb_gfi 158 rfl (wy_pr rfl) wt_158 wf_5_6 (v := s) ((w_up_slot (by decide)).trans (l6b)) (fun r312 => ?_)
      refine wa_iload_n (n := 1) rfl ?_
      refine wb_iast 46 rfl (wy_pr rfl) wt_46 (n := (S1 35 (-1))) ((w_up_slot (by decide)).trans ((lnb.1 11 (by decide)))) (by omega) (by omega) ⟨(by omega), (by omega)⟩ ?_
      refine wa_aload_n (n := 0) rfl ?_
      refine wb_gf4 158 rfl (wy_pr rfl) wt_158 wf_5_2 (v := 34) wl_158_2 ?_
      refine wa_bipush (w_rg2 (by omega) (by omega)) ?_
      refine wb_aald5 34 9 rfl rfl (wy_pr rfl) wt_34 (by rw [show _ = _ from ((w_up_slot (by decide)).trans ((w_up_slot (by decide)).trans ((cl_34 hCb))))]; omega) wl_34_9 ?_
      refine wa_aload_n (n := 0) rfl ?_
      refine wb_gfi 158 rfl (wy_pr rfl) wt_158 wf_5_6 (v := s) ((w_up_slot (by decide)).trans ((w_up_slot (by decide)).trans (l6b))) (fun r313 => ?_)
      refine wa_dup2 (by decide) (by decide) ?_
      refine wb_iald 44 rfl (wy_pr rfl) wt_44 (n := (S1 35 (-1))) ((w_up_slot (by decide)).trans ((w_up_slot (by decide)).trans ((lnb.1 9 (by decide))))) (by omega) (by omega) (v := (S1 44 s)) ((w_up_slot (by decide)).trans (w_up_slot (by decide))) (fun r314 => ?_)
      refine wa_iconst ?_
      refine wa_iadd ?_
      refine wb_iast 44 rfl (wy_pr rfl) wt_44 (n := (S1 35 (-1))) ((w_up_slot (by decide)).trans ((w_up_slot (by decide)).trans ((lnb.1 9 (by decide))))) (by omega) (by omega) ⟨(by omega), (by omega)⟩ ?_
      refine wa_aload_n (n := 0) rfl ?_
      refine wa_aload_n (n := 0) rfl ?_
      refine wb_gf4 158 rfl (wy_pr rfl) wt_158 wf_5_1 (v := 19) wl_158_1 ?_
      have hlz : (w_up (w_up (w_up S1 57 fo (S1 46 s)) 46 s fo) 44 s ((S1 44 s) + 1)) = lkZ s fo S1 := by unfold lkZ; rw [show S1 46 s = _ from rfl, show S1 44 s = _ from rfl]
      have hI3 : gI (w_up (w_up (w_up S1 57 fo (S1 46 s)) 46 s fo) 44 s ((S1 44 s) + 1)) := gI_up (gI_up (gI_up hIb hfo.1 (by first | decide | omega) (by first | decide | omega)) hs.1 (by first | decide | omega) (by first | decide | omega)) hs.1 (by first | decide | omega) (by first | decide | omega)
      have hR3 : rmR S (w_up (w_up (w_up S1 57 fo (S1 46 s)) 46 s fo) 44 s ((S1 44 s) + 1)) := rmR_up (rmR_up (rmR_up hRb hfo.1 (by first | decide | omega)) hs.1 (by first | decide | omega)) hs.1 (by first | decide | omega)
      have hl3 : cSl (w_up (w_up (w_up S1 57 fo (S1 46 s)) 46 s fo) 44 s ((S1 44 s) + 1)) := by
        obtain ⟨q1, q2, q3, q4⟩ := hseb.1
        have fl3 : ∀ (j : Nat) (x : Int), x < 0 → (w_up (w_up (w_up S1 57 fo (S1 46 s)) 46 s fo) 44 s ((S1 44 s) + 1)) j x = S1 j x := fun j x hx => (w_up_no (by omega)).trans ((w_up_no (by omega)).trans (w_up_no (by omega)))
        have f19 : ∀ x : Int, (w_up (w_up (w_up S1 57 fo (S1 46 s)) 46 s fo) 44 s ((S1 44 s) + 1)) 19 x = S1 19 x := fun x => (w_up_slot (by first | decide | omega)).trans ((w_up_slot (by first | decide | omega)).trans (w_up_slot (by first | decide | omega)))
        exact ⟨fun x hx => by rw [fl3 (35 + x) (-1) (by first | decide | omega), fl3 35 (-1) (by first | decide | omega)]; exact q1 x hx, by rw [fl3 35 (-1) (by first | decide | omega), f19]; exact q2, fun x hx => by rw [fl3 (48 + x) (-1) (by first | decide | omega), fl3 48 (-1) (by first | decide | omega)]; exact q3 x hx, by rw [fl3 48 (-1) (by first | decide | omega), f19]; exact q4⟩
      have h12 : (w_up (w_up (w_up S1 57 fo (S1 46 s)) 46 s fo) 44 s ((S1 44 s) + 1)) 19 12 = -1 ∨ (0 ≤ (w_up (w_up (w_up S1 57 fo (S1 46 s)) 46 s fo) 44 s ((S1 44 s) + 1)) 19 12 ∧ (w_up (w_up (w_up S1 57 fo (S1 46 s)) 46 s fo) 44 s ((S1 44 s) + 1)) 19 12 < (w_up (w_up (w_up S1 57 fo (S1 46 s)) 46 s fo) 44 s ((S1 44 s) + 1)) 19 11) := by
        rw [show (w_up (w_up (w_up S1 57 fo (S1 46 s)) 46 s fo) 44 s ((S1 44 s) + 1)) 19 12 = S1 19 12 from (w_up_slot (by first | decide | omega)).trans ((w_up_slot (by first | decide | omega)).trans (w_up_slot (by first | decide | omega))), show (w_up (w_up (w_up S1 57 fo (S1 46 s)) 46 s fo) 44 s ((S1 44 s) + 1)) 19 11 = S1 19 11 from (w_up_slot (by first | decide | omega)).trans ((w_up_slot (by first | decide | omega)).trans (w_up_slot (by first | decide | omega)))]
        have z := hseb.2.2.1
        revert z
        cases hflb : flb with
        | nil => intro z; exact Or.inl z.1
        | cons c r => intro z; exact Or.inr ⟨by rw [z.1.1]; exact z.1.2.1, by rw [z.1.1]; exact (z.2.2 c (List.mem_cons.mpr (Or.inl rfl))).2⟩
      refine wa_cv 19 rfl (wy_pr rfl) wt_19 (M2 := mS [48, 49, 50, 51, 52, 53, 54, 55, 56, 57]) rfl at_XC_takeEntry ⟨_, rfl⟩ rfl rfl ⟨trivial, (Or.inr ⟨wy_pr rfl, mS_no rfl⟩), trivial⟩ ⟨(Or.inr ⟨wy_pr rfl, mS_no rfl⟩), trivial⟩ (fun _ _ q => q) (te_ok (S := (w_up (w_up (w_up S1 57 fo (S1 46 s)) 46 s fo) 44 s ((S1 44 s) + 1))) hl3 hI3 (w_CL_up (w_CL_up (w_CL_up hCb hfo.1) hs.1) hs.1) h12) (fun oq315 Sq315 hp316 q315 => ?_)
      rcases q315 with ⟨r, rfl, hte, hrr, hgI4, hrm4⟩
      show wJ _ _ _ _ _ _ _ _ _ _
      refine wb_pfi 158 rfl (wy_pr rfl) wt_158 wf_5_14 (n := 14) rfl ⟨(by omega), (by omega)⟩ ?_
      refine wa_fall ⟨_, rfl⟩ ?_
      refine wa_iload_n (n := 1) rfl ?_
      refine wa_ireturn rfl ?_
      rw [hlz] at hte
      have hcl := cSe_lk hseb ⟨hs.1, by rw [r35.2.2.1]; exact hs.2⟩ l14b (by rw [r35.1, r35.2.1]; exact hecb) (by rw [hEs, List.length_take]; omega) hte
      rw [hEs, hEf, r35.1, r35.2.1] at hcl
      obtain ⟨⟨fl9, ow9, hse9⟩, hec9, hr9⟩ := hcl
      have h14n : r ≠ -1 := by omega
      have hc41 : ¬ S 41 s = 8 := by omega
      have frT : ∀ (j : Nat) (x : Int), ¬ lkM s j x → lkZ s fo S1 j x = S j x := fun j x hj => (lkZ_e j x (by unfold lkM at hj; omega) (by unfold lkM at hj; omega)).trans (frb j x hj)
      have frA : ∀ (j : Nat) (x : Int), j < 4000000 → j ≠ wG → ¬ lkM s j x → Sq315 j x = S j x := fun j x j0 j1 hj => by
        rcases hte with ⟨-, -, z⟩ | ⟨-, -, B9, z, z9⟩
        · rw [← z]; exact (w_up_no (by unfold lkM at hj; omega)).trans (frT j x hj)
        · rw [← z9, w_up_no (by unfold lkM at hj; omega)]
          rcases z with ⟨-, y⟩ | ⟨-, y, -, -⟩
          · rw [← y]; exact frT j x hj
          · exact (y.2 j x j0 j1 (by unfold lkM at hj; omega)).trans (frT j x hj)
      have e41z : Sq315 41 s = S 41 s + 1 := by
        have zT : lkZ s fo S1 41 s = S 41 s + 1 := (lkZ_e 41 s (Or.inl (by first | decide | omega)) (Or.inl (by first | decide | omega))).trans e41b
        rcases hte with ⟨-, -, z⟩ | ⟨-, -, B9, z, z9⟩
        · rw [← z]; exact (w_up_slot (by first | decide | omega)).trans zT
        · rw [← z9, w_up_slot (by first | decide | omega)]
          rcases z with ⟨-, y⟩ | ⟨-, y, -, -⟩
          · rw [← y]; exact zT
          · exact (y.2 41 s (by first | decide | omega) (by first | decide | omega) (by first | decide | omega)).trans zT
      have e45z : Sq315 45 s = S 45 s := by
        have zT : lkZ s fo S1 45 s = S 45 s := (lkZ_e 45 s (Or.inl (by first | decide | omega)) (Or.inl (by first | decide | omega))).trans r35.2.2.2
        rcases hte with ⟨-, -, z⟩ | ⟨-, -, B9, z, z9⟩
        · rw [← z]; exact (w_up_slot (by first | decide | omega)).trans zT
        · rw [← z9, w_up_slot (by first | decide | omega)]
          rcases z with ⟨-, y⟩ | ⟨-, y, -, -⟩
          · rw [← y]; exact zT
          · exact (y.2 45 s (by first | decide | omega) (by first | decide | omega) (by first | decide | omega)).trans zT
      have hxm : fo ∈ (fUp ixb s (fo :: ixb s)) s := by rw [fUp_s]; exact List.mem_cons.mpr (Or.inl rfl)
      have h9l := ((hse9.2.1 s hs.1 (by rw [w_up_slot (by first | decide | omega)]; exact (frA 19 9 (by first | decide | omega) (by first | decide | omega) (by unfold lkM; omega)).symm ▸ hs.2)).2.2.2.2.2.1 fo hxm).2
      have h9c := hse9.1.2.2.2
      exact ⟨rfl, ⟨_, fl9, ow9, by rw [if_neg hc41]; exact hse9⟩, hec9, ⟨hfo.1, by omega⟩, (w_up_slot (by first | decide | omega)).trans e41z, by rw [if_neg hc41]; exact (w_up_slot (by first | decide | omega)).trans e45z, fun j x j0 j1 j2 => (w_up_no (by unfold lkM at j2; omega)).trans (frA j x j0 j1 j2), gI_up hgI4 (by first | decide | omega) (by first | decide | omega) (by first | decide | omega), rmR_up (rmR_tr hR3 hrm4) (by first | decide | omega) (by first | decide | omega)⟩
    · skip
      refine wa_aload_n (n := 0) rfl ?_
      have h4 : (E s).length = 4 := by have z := y1.1; omega
      refine wa_cv 158 rfl (wy_pr rfl) wt_158 (M2 := mS []) rfl at_XL_removeLast ⟨_, rfl⟩ rfl rfl ⟨(Or.inr ⟨wy_pr rfl, mS_no rfl⟩), trivial⟩ trivial (fun _ _ q => mS_sub (by decide) q) (rl_ok hse1 ⟨hs.1, by rw [q9]; exact hs.2⟩ l6a h4 hC1) (fun oq317 Sq317 hp318 q317 => ?_)
      rcases q317 with ⟨rfl, ⟨ix2, fl2, ow2, hse2⟩, frl⟩
      show wJ _ _ _ _ _ _ _ _ _ _
      refine wa_fall ⟨_, rfl⟩ ?_
      have hIb : gI Sq317 ∧ rmR S1 Sq317 := rmM_g hI1 hs.1 frl
      have hRb : rmR S Sq317 := rmR_tr hR1 hIb.2
      replace hIb := hIb.1
      have hCb : w_CL Sq317 := rmM_cl hC1 hs.1 frl
      have hecb : cEc Sq317 (S 35 s) (S 36 s) e fo := cEc_ag hec1 (fun j j0 j1 => frl j fo (by unfold rmM; omega))
      have l14b : Sq317 158 14 = fo := (frl 158 14 (by unfold rmM; omega)).trans l14a
      obtain ⟨Eb, hEb⟩ : ∃ X : Int → List aE, X = fUp E s ((E s).take 3) := ⟨_, rfl⟩
      obtain ⟨ixb, flb, owb, hseb⟩ : ∃ (a : Int → List Int) (b : List Int) (c : Int → Int), cSe Sq317 Eb a b c := ⟨ix2, fl2, ow2, by rw [hEb]; exact hse2⟩
      have hEs : Eb s = (E s).take 3 := by rw [hEb, fUp_s]
      have hEf : fUp Eb s (e :: (E s).take 3) = fUp E s (e :: (E s).take 3) := by rw [hEb, fUp_2]
      have frb : ∀ (j : Nat) (x : Int), ¬ lkM s j x → Sq317 j x = S j x := fun j x hj => (frl j x (by unfold rmM; unfold lkM at hj; omega)).trans (f1 j x (by unfold lkM at hj; omega))
      have e41b : Sq317 41 s = S 41 s + 1 := (frl 41 s (by unfold rmM; omega)).trans e41
      have r35 : Sq317 35 s = S 35 s ∧ Sq317 36 s = S 36 s ∧ Sq317 19 9 = S 19 9 ∧ Sq317 45 s = S 45 s := ⟨(frl 35 s (by unfold rmM; omega)).trans (f1 35 s (by first | decide | omega)), (frl 36 s (by unfold rmM; omega)).trans (f1 36 s (by first | decide | omega)), (frl 19 9 (by unfold rmM; omega)).trans q9, (frl 45 s (by unfold rmM; omega)).trans (f1 45 s (by first | decide | omega))⟩
      have yb := hseb.2.1 s hs.1 (by rw [r35.2.2.1]; exact hs.2)
      have hb44 : 0 ≤ Sq317 44 s ∧ Sq317 44 s ≤ 3 := by have z := yb.1; rw [hEs, List.length_take] at z; omega
      have lnb := hseb.1
      have lb35 := lnb.2.1
      have lb48 := lnb.2.2.2
      have hfob := hseb.2.2.2.1
      rw [l14b] at hfob
      have hb46 : -1 ≤ Sq317 46 s ∧ Sq317 46 s ≤ 40000 := by
        have z := yb.2.2.2.1
        have z2 := yb.2.2.2.2.2.1
        revert z z2
        cases ixb s with
        | nil => intro z _; rw [show Sq317 46 s = -1 from z]; decide
        | cons c r => intro z z2; have z3 := (z2 c (List.mem_cons.mpr (Or.inl rfl))).2; have z4 := z.1; have z5 := z.2.1; omega
      have l6b : Sq317 158 6 = s := (frb 158 6 (by unfold lkM; omega)).trans l6
      refine wa_aload_n (n := 0) rfl ?_
      refine wb_gfi 158 rfl (wy_pr rfl) wt_158 wf_5_14 (v := fo) (l14b) (fun r319 => ?_)
      refine wa_istore_n (n := 1) rfl ?_
      refine wa_aload_n (n := 0) rfl ?_
      refine wb_gf4 158 rfl (wy_pr rfl) wt_158 wf_5_3 (v := 47) wl_158_3 ?_
      refine wa_bipush (w_rg2 (by omega) (by omega)) ?_
      refine wb_aald5 47 9 rfl rfl (wy_pr rfl) wt_47 (by rw [show _ = _ from ((cl_47 hCb))]; omega) wl_47_9 ?_
      refine wa_iload_n (n := 1) rfl ?_
      refine wa_aload_n (n := 0) rfl ?_
      refine wb_gf4 158 rfl (wy_pr rfl) wt_158 wf_5_2 (v := 34) wl_158_2 ?_
      refine wa_bipush (w_rg2 (by omega) (by omega)) ?_
      refine wb_aald5 34 11 rfl rfl (wy_pr rfl) wt_34 (by rw [show _ = _ from ((cl_34 hCb))]; omega) wl_34_11 ?_
      refine wa_aload_n (n := 0) rfl ?_
      refine wb_gfi 158 rfl (wy_pr rfl) wt_158 wf_5_6 (v := s) (l6b) (fun r320 => ?_)
      refine wb_iald 46 rfl (wy_pr rfl) wt_46 (n := (Sq317 35 (-1))) ((lnb.1 11 (by decide))) (by omega) (by omega) (v := (Sq317 46 s)) rfl (fun r321 => ?_)
      refine wb_iast 57 rfl (wy_pr rfl) wt_57 (n := (Sq317 48 (-1))) ((lnb.2.2.1 9 (by decide))) (by omega) (by omega) ⟨(by omega), (by omega)⟩ ?_
      refine wa_aload_n (n := 0) rfl ?_
      refine wb_gf4 158 rfl (wy_pr rfl) wt_158 wf_5_2 (v := 34) wl_158_2 ?_
      refine wa_bipush (w_rg2 (by omega) (by omega)) ?_
      refine wb_aald5 34 11 rfl rfl (wy_pr rfl) wt_34 (by rw [show _ = _ from ((w_up_slot (by decide)).trans ((cl_34 hCb)))]; omega) wl_34_11 ?_
      refine wa_aload_n (n := 0) rfl ?_
      refine wb_gfi 158 rfl (wy_pr rfl) wt_158 wf_5_6 (v := s) ((w_up_slot (by decide)).trans (l6b)) (fun r322 => ?_)
      refine wa_iload_n (n := 1) rfl ?_
      refine wb_iast 46 rfl (wy_pr rfl) wt_46 (n := (Sq317 35 (-1))) ((w_up_slot (by decide)).trans ((lnb.1 11 (by decide)))) (by omega) (by omega) ⟨(by omega), (by omega)⟩ ?_
      refine wa_aload_n (n := 0) rfl ?_
      refine wb_gf4 158 rfl (wy_pr rfl) wt_158 wf_5_2 (v := 34) wl_158_2 ?_
      refine wa_bipush (w_rg2 (by omega) (by omega)) ?_
      refine wb_aald5 34 9 rfl rfl (wy_pr rfl) wt_34 (by rw [show _ = _ from ((w_up_slot (by decide)).trans ((w_up_slot (by decide)).trans ((cl_34 hCb))))]; omega) wl_34_9 ?_
      refine wa_aload_n (n := 0) rfl ?_
      refine wb_gfi 158 rfl (wy_pr rfl) wt_158 wf_5_6 (v := s) ((w_up_slot (by decide)).trans ((w_up_slot (by decide)).trans (l6b))) (fun r323 => ?_)
      refine wa_dup2 (by decide) (by decide) ?_
      refine wb_iald 44 rfl (wy_pr rfl) wt_44 (n := (Sq317 35 (-1))) ((w_up_slot (by decide)).trans ((w_up_slot (by decide)).trans ((lnb.1 9 (by decide))))) (by omega) (by omega) (v := (Sq317 44 s)) ((w_up_slot (by decide)).trans (w_up_slot (by decide))) (fun r324 => ?_)
      refine wa_iconst ?_
      refine wa_iadd ?_
      refine wb_iast 44 rfl (wy_pr rfl) wt_44 (n := (Sq317 35 (-1))) ((w_up_slot (by decide)).trans ((w_up_slot (by decide)).trans ((lnb.1 9 (by decide))))) (by omega) (by omega) ⟨(by omega), (by omega)⟩ ?_
      refine wa_aload_n (n := 0) rfl ?_
      refine wa_aload_n (n := 0) rfl ?_
      refine wb_gf4 158 rfl (wy_pr rfl) wt_158 wf_5_1 (v := 19) wl_158_1 ?_
      have hlz : (w_up (w_up (w_up Sq317 57 fo (Sq317 46 s)) 46 s fo) 44 s ((Sq317 44 s) + 1)) = lkZ s fo Sq317 := by unfold lkZ; rw [show Sq317 46 s = _ from rfl, show Sq317 44 s = _ from rfl]
      have hI3 : gI (w_up (w_up (w_up Sq317 57 fo (Sq317 46 s)) 46 s fo) 44 s ((Sq317 44 s) + 1)) := gI_up (gI_up (gI_up hIb hfo.1 (by first | decide | omega) (by first | decide | omega)) hs.1 (by first | decide | omega) (by first | decide | omega)) hs.1 (by first | decide | omega) (by first | decide | omega)
      have hR3 : rmR S (w_up (w_up (w_up Sq317 57 fo (Sq317 46 s)) 46 s fo) 44 s ((Sq317 44 s) + 1)) := rmR_up (rmR_up (rmR_up hRb hfo.1 (by first | decide | omega)) hs.1 (by first | decide | omega)) hs.1 (by first | decide | omega)
      have hl3 : cSl (w_up (w_up (w_up Sq317 57 fo (Sq317 46 s)) 46 s fo) 44 s ((Sq317 44 s) + 1)) := by
        obtain ⟨q1, q2, q3, q4⟩ := hseb.1
        have fl3 : ∀ (j : Nat) (x : Int), x < 0 → (w_up (w_up (w_up Sq317 57 fo (Sq317 46 s)) 46 s fo) 44 s ((Sq317 44 s) + 1)) j x = Sq317 j x := fun j x hx => (w_up_no (by omega)).trans ((w_up_no (by omega)).trans (w_up_no (by omega)))
        have f19 : ∀ x : Int, (w_up (w_up (w_up Sq317 57 fo (Sq317 46 s)) 46 s fo) 44 s ((Sq317 44 s) + 1)) 19 x = Sq317 19 x := fun x => (w_up_slot (by first | decide | omega)).trans ((w_up_slot (by first | decide | omega)).trans (w_up_slot (by first | decide | omega)))
        exact ⟨fun x hx => by rw [fl3 (35 + x) (-1) (by first | decide | omega), fl3 35 (-1) (by first | decide | omega)]; exact q1 x hx, by rw [fl3 35 (-1) (by first | decide | omega), f19]; exact q2, fun x hx => by rw [fl3 (48 + x) (-1) (by first | decide | omega), fl3 48 (-1) (by first | decide | omega)]; exact q3 x hx, by rw [fl3 48 (-1) (by first | decide | omega), f19]; exact q4⟩
      have h12 : (w_up (w_up (w_up Sq317 57 fo (Sq317 46 s)) 46 s fo) 44 s ((Sq317 44 s) + 1)) 19 12 = -1 ∨ (0 ≤ (w_up (w_up (w_up Sq317 57 fo (Sq317 46 s)) 46 s fo) 44 s ((Sq317 44 s) + 1)) 19 12 ∧ (w_up (w_up (w_up Sq317 57 fo (Sq317 46 s)) 46 s fo) 44 s ((Sq317 44 s) + 1)) 19 12 < (w_up (w_up (w_up Sq317 57 fo (Sq317 46 s)) 46 s fo) 44 s ((Sq317 44 s) + 1)) 19 11) := by
        rw [show (w_up (w_up (w_up Sq317 57 fo (Sq317 46 s)) 46 s fo) 44 s ((Sq317 44 s) + 1)) 19 12 = Sq317 19 12 from (w_up_slot (by first | decide | omega)).trans ((w_up_slot (by first | decide | omega)).trans (w_up_slot (by first | decide | omega))), show (w_up (w_up (w_up Sq317 57 fo (Sq317 46 s)) 46 s fo) 44 s ((Sq317 44 s) + 1)) 19 11 = Sq317 19 11 from (w_up_slot (by first | decide | omega)).trans ((w_up_slot (by first | decide | omega)).trans (w_up_slot (by first | decide | omega)))]
        have z := hseb.2.2.1
        revert z
        cases hflb : flb with
        | nil => intro z; exact Or.inl z.1
        | cons c r => intro z; exact Or.inr ⟨by rw [z.1.1]; exact z.1.2.1, by rw [z.1.1]; exact (z.2.2 c (List.mem_cons.mpr (Or.inl rfl))).2⟩
      refine wa_cv 19 rfl (wy_pr rfl) wt_19 (M2 := mS [48, 49, 50, 51, 52, 53, 54, 55, 56, 57]) rfl at_XC_takeEntry ⟨_, rfl⟩ rfl rfl ⟨trivial, (Or.inr ⟨wy_pr rfl, mS_no rfl⟩), trivial⟩ ⟨(Or.inr ⟨wy_pr rfl, mS_no rfl⟩), trivial⟩ (fun _ _ q => q) (te_ok (S := (w_up (w_up (w_up Sq317 57 fo (Sq317 46 s)) 46 s fo) 44 s ((Sq317 44 s) + 1))) hl3 hI3 (w_CL_up (w_CL_up (w_CL_up hCb hfo.1) hs.1) hs.1) h12) (fun oq325 Sq325 hp326 q325 => ?_)
      rcases q325 with ⟨r, rfl, hte, hrr, hgI4, hrm4⟩
      show wJ _ _ _ _ _ _ _ _ _ _
      refine wb_pfi 158 rfl (wy_pr rfl) wt_158 wf_5_14 (n := 14) rfl ⟨(by omega), (by omega)⟩ ?_
      refine wa_fall ⟨_, rfl⟩ ?_
      refine wa_iload_n (n := 1) rfl ?_
      refine wa_ireturn rfl ?_
      rw [hlz] at hte
      have hcl := cSe_lk hseb ⟨hs.1, by rw [r35.2.2.1]; exact hs.2⟩ l14b (by rw [r35.1, r35.2.1]; exact hecb) (by rw [hEs, List.length_take]; omega) hte
      rw [hEs, hEf, r35.1, r35.2.1] at hcl
      obtain ⟨⟨fl9, ow9, hse9⟩, hec9, hr9⟩ := hcl
      have h14n : r ≠ -1 := by omega
      have hc41 : ¬ S 41 s = 8 := by omega
      have frT : ∀ (j : Nat) (x : Int), ¬ lkM s j x → lkZ s fo Sq317 j x = S j x := fun j x hj => (lkZ_e j x (by unfold lkM at hj; omega) (by unfold lkM at hj; omega)).trans (frb j x hj)
      have frA : ∀ (j : Nat) (x : Int), j < 4000000 → j ≠ wG → ¬ lkM s j x → Sq325 j x = S j x := fun j x j0 j1 hj => by
        rcases hte with ⟨-, -, z⟩ | ⟨-, -, B9, z, z9⟩
        · rw [← z]; exact (w_up_no (by unfold lkM at hj; omega)).trans (frT j x hj)
        · rw [← z9, w_up_no (by unfold lkM at hj; omega)]
          rcases z with ⟨-, y⟩ | ⟨-, y, -, -⟩
          · rw [← y]; exact frT j x hj
          · exact (y.2 j x j0 j1 (by unfold lkM at hj; omega)).trans (frT j x hj)
      have e41z : Sq325 41 s = S 41 s + 1 := by
        have zT : lkZ s fo Sq317 41 s = S 41 s + 1 := (lkZ_e 41 s (Or.inl (by first | decide | omega)) (Or.inl (by first | decide | omega))).trans e41b
        rcases hte with ⟨-, -, z⟩ | ⟨-, -, B9, z, z9⟩
        · rw [← z]; exact (w_up_slot (by first | decide | omega)).trans zT
        · rw [← z9, w_up_slot (by first | decide | omega)]
          rcases z with ⟨-, y⟩ | ⟨-, y, -, -⟩
          · rw [← y]; exact zT
          · exact (y.2 41 s (by first | decide | omega) (by first | decide | omega) (by first | decide | omega)).trans zT
      have e45z : Sq325 45 s = S 45 s := by
        have zT : lkZ s fo Sq317 45 s = S 45 s := (lkZ_e 45 s (Or.inl (by first | decide | omega)) (Or.inl (by first | decide | omega))).trans r35.2.2.2
        rcases hte with ⟨-, -, z⟩ | ⟨-, -, B9, z, z9⟩
        · rw [← z]; exact (w_up_slot (by first | decide | omega)).trans zT
        · rw [← z9, w_up_slot (by first | decide | omega)]
          rcases z with ⟨-, y⟩ | ⟨-, y, -, -⟩
          · rw [← y]; exact zT
          · exact (y.2 45 s (by first | decide | omega) (by first | decide | omega) (by first | decide | omega)).trans zT
      have hxm : fo ∈ (fUp ixb s (fo :: ixb s)) s := by rw [fUp_s]; exact List.mem_cons.mpr (Or.inl rfl)
      have h9l := ((hse9.2.1 s hs.1 (by rw [w_up_slot (by first | decide | omega)]; exact (frA 19 9 (by first | decide | omega) (by first | decide | omega) (by unfold lkM; omega)).symm ▸ hs.2)).2.2.2.2.2.1 fo hxm).2
      have h9c := hse9.1.2.2.2
      exact ⟨rfl, ⟨_, fl9, ow9, by rw [if_neg hc41]; exact hse9⟩, hec9, ⟨hfo.1, by omega⟩, (w_up_slot (by first | decide | omega)).trans e41z, by rw [if_neg hc41]; exact (w_up_slot (by first | decide | omega)).trans e45z, fun j x j0 j1 j2 => (w_up_no (by unfold lkM at j2; omega)).trans (frA j x j0 j1 j2), gI_up hgI4 (by first | decide | omega) (by first | decide | omega) (by first | decide | omega), rmR_up (rmR_tr hR3 hrm4) (by first | decide | omega) (by first | decide | omega)⟩
  · skip
    refine wa_aload_n (n := 0) rfl ?_
    refine wb_gf4 158 rfl (wy_pr rfl) wt_158 wf_5_2 (v := 34) wl_158_2 ?_
    refine wa_bipush (w_rg2 (by omega) (by omega)) ?_
    refine wb_aald5 34 10 rfl rfl (wy_pr rfl) wt_34 (by rw [show _ = _ from ((cl_34 hC1))]; omega) wl_34_10 ?_
    refine wa_aload_n (n := 0) rfl ?_
    refine wb_gfi 158 rfl (wy_pr rfl) wt_158 wf_5_6 (v := s) (l6a) (fun r327 => ?_)
    refine wa_iconst ?_
    refine wb_iast 45 rfl (wy_pr rfl) wt_45 (n := (S1 35 (-1))) ((hl1.1 10 (by decide))) (by omega) (by omega) ⟨(by omega), (by omega)⟩ ?_
    refine wa_aload_n (n := 0) rfl ?_
    refine wb_gf4 158 rfl (wy_pr rfl) wt_158 wf_5_2 (v := 34) wl_158_2 ?_
    refine wa_bipush (w_rg2 (by omega) (by omega)) ?_
    refine wb_aald5 34 9 rfl rfl (wy_pr rfl) wt_34 (by rw [show _ = _ from ((w_up_slot (by decide)).trans ((cl_34 hC1)))]; omega) wl_34_9 ?_
    refine wa_aload_n (n := 0) rfl ?_
    refine wb_gfi 158 rfl (wy_pr rfl) wt_158 wf_5_6 (v := s) ((w_up_slot (by decide)).trans (l6a)) (fun r328 => ?_)
    refine wb_iald 44 rfl (wy_pr rfl) wt_44 (n := (S1 35 (-1))) ((w_up_slot (by decide)).trans ((hl1.1 9 (by decide)))) (by omega) (by omega) (v := (S 44 s)) ((w_up_slot (by decide)).trans (q44)) (fun r329 => ?_)
    refine wa_istore_n (n := 1) rfl ?_
    refine wa_fall ⟨_, rfl⟩ ?_
    obtain ⟨S2, hS2⟩ : ∃ X : wS, X = (w_up S1 45 s 1) := ⟨_, rfl⟩
    rw [← hS2]
    have f2 : ∀ (j : Nat) (x : Int), (j ≠ 45 ∨ x ≠ s) → S2 j x = S1 j x := fun j x hj => by rw [hS2]; exact w_up_no (by omega)
    have hse2 : cSe S2 E ix fl ow := cSe_ag hse1 (fun j x hj => f2 j x (by unfold cEo at hj; omega))
    have hc41 : S 41 s = 8 := by omega
    refine wJ_S (wJ_mono (lkm_l (d := d + 3) hs.1 (E s) (ix s) E ix fl ow S2 (S 44 s) hse2 (by rw [f2 19 9 (by first | decide | omega), q9]; exact hs.2) ((f2 158 6 (by first | decide | omega)).trans l6a) (by rw [hS2]; exact w_CL_up hC1 hs.1) rfl rfl y1.1) (fun o Z hz => ?_)) ⟨rfl, rfl, trivial⟩
    obtain ⟨z1, z2, z3⟩ := hz
    rw [f2 158 14 (by first | decide | omega), l14a] at z1
    have fr : ∀ (j : Nat) (x : Int), ¬ lkM s j x → (j < 48 ∨ 57 < j) → Z j x = S j x := fun j x hj j2 => (z3 j x (by unfold rmM; unfold lkM at hj; omega)).trans ((f2 j x (by unfold lkM at hj; omega)).trans (f1 j x (by unfold lkM at hj; omega)))
    have fc : ∀ (j : Nat) (x : Int), 48 ≤ j → j ≤ 56 → Z j x = S j x := fun j x j0 j1 => (z3 j x (by unfold rmM; omega)).trans ((f2 j x (by omega)).trans (f1 j x (by omega)))
    have hI2 : gI S2 := by rw [hS2]; exact gI_up hI1 hs.1 (by first | decide | omega) (by first | decide | omega)
    have hR2 : rmR S S2 := by rw [hS2]; exact rmR_up hR1 hs.1 (by first | decide | omega)
    have hgz := rmM_g hI2 hs.1 z3
    refine ⟨z1, by rw [if_pos hc41]; exact z2, cEc_ag hec (fun j j0 j1 => fc j fo j0 j1), ⟨hfo.1, by rw [fc 48 (-1) (by first | decide | omega) (by first | decide | omega)]; omega⟩, (z3 41 s (by unfold rmM; omega)).trans ((f2 41 s (by first | decide | omega)).trans e41), ?_, fun j x j0 j1 j2 => ?_, hgz.1, rmR_tr hR2 hgz.2⟩
    · rw [if_pos hc41]
      exact (z3 45 s (by unfold rmM; omega)).trans (by rw [hS2]; exact w_up_same _ _ _ _)
    · exact fr j x j2 (by unfold lkM at j2; omega)
end Wgj
