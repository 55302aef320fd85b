/-! PART 9f: the class's Reader on a host's text: addNumber, addText, addToken. -/
section W9f
variable {xs : List (Nat × List Int32)} {M : Nat → Prop} {d : Nat} {A B C S Z : wS} {Q : wO → wS → Prop} {T : Int → Int} {n : Int}
theorem lx_q10s {p t v c : Int} (h0 : 0 ≤ t - p) (h : t - p < 10) (hv : 0 ≤ v ∧ v < (10 : Int) ^ (min (t - p) 10).toNat) (hc : 48 ≤ c ∧ c ≤ 57) : 0 ≤ v * 10 + c - 48 ∧ v * 10 + c - 48 < (10 : Int) ^ (min (t + 1 - p) 10).toNat := by
  have e : (min (t + 1 - p) 10).toNat = (min (t - p) 10).toNat + 1 := by omega
  rw [e, Int.pow_succ]
  omega
theorem lx_q10t {p t v : Int} (h : ¬ t - p < 10) (hv : 0 ≤ v ∧ v < (10 : Int) ^ (min (t - p) 10).toNat) : 0 ≤ v ∧ v < (10 : Int) ^ (min (t + 1 - p) 10).toNat := by
  have e : (min (t + 1 - p) 10).toNat = (min (t - p) 10).toNat := by omega
  rw [e]; exact hv
theorem lx_q10u {p t v : Int} (hv : 0 ≤ v ∧ v < (10 : Int) ^ (min (t - p) 10).toNat) : v < 10000000000 := by
  have := lx_p10v (min (t - p) 10).toNat (by omega)
  omega
theorem ht_tr {w : Nat} {H p e : Int} (h0 : 0 ≤ S w 7 ∧ 0 ≤ S w 1 ∧ 0 ≤ S 14 3) (h : rx_ag w H S B) (h1 : B 14 3 = S 14 3) (h2 : B w 7 = S w 7) (h3 : B w 1 = S w 1) (k : ht_ok w H T n p B Z e) : ht_ok w H T n p S Z e := by
  obtain ⟨k1, k2, k3, k4, k5, k6, k7, k8⟩ := k
  rw [h1] at k2 k3 k4 k6
  rw [h1, h2] at k7
  rw [h3] at k8
  exact ⟨rx_tr h0 h k1, k2, k3, k4, k5, k6, k7, k8⟩
/-- the reader's row for texts has changed -/
def tx_Z (S Z : wS) (l : List Int) : Prop := (∀ i : Nat, i < l.length → Z 18 (i : Int) = l.getD i 0) ∧ ∀ (j : Nat) (i : Int), (j ≠ 18 ∨ i < 0) → Z j i = S j i
theorem tx_Z_up {l : List Int} {c : Int} (h : tx_Z S Z l) : tx_Z S (w_up Z 18 (l.length : Int) c) (l ++ [c]) := by
  refine ⟨fun i hi => ?_, fun j i hj => (w_up_no (by omega)).trans (h.2 j i hj)⟩
  rw [List.length_append] at hi
  simp only [List.length_cons, List.length_nil] at hi
  by_cases he : i = l.length
  · subst he
    rw [w_up_same, List.getD_eq_getElem?_getD, List.getElem?_append_right (Nat.le_refl _), Nat.sub_self]
    rfl
  · rw [w_up_at (by omega), h.1 i (by omega), List.getD_eq_getElem?_getD, List.getD_eq_getElem?_getD, List.getElem?_append_left (by omega)]
theorem rx_tx {w : Nat} {H : Int} {l : List Int} (hw : 18 < w) (hwG : w < 237) (h1 : wd_at S w H) (h2 : wd_L S w H) (h3 : rd_L S) (h4 : gI S) (g : tx_Z S Z l) : rx_ag w H S Z := by
  have e : ∀ (j : Nat) (i : Int), j ≠ 18 → Z j i = S j i := fun j i hj => g.2 j i (Or.inl hj)
  have el : ∀ j : Nat, Z j (-1) = S j (-1) := fun j => g.2 j (-1) (Or.inr (by omega))
  have er : ∀ j : Nat, j ≠ 18 → Z j = S j := fun j hj => funext fun i => e j i hj
  have hG : wG ≠ 18 := by decide
  refine ⟨⟨by rw [e w 7 (by omega)]; omega, by rw [e w 1 (by omega)]; omega, by rw [e 14 3 (by omega)]; omega⟩, fun _ _ _ => ⟨e _ _ (by omega), e _ _ (by omega), e _ _ (by omega), e _ _ (by omega)⟩, fun k a b => absurd b (by rw [e w 7 (by omega)]; omega), fun _ _ _ => e _ _ (by omega), fun _ _ _ => ⟨e _ _ (by omega), e _ _ (by omega), e _ _ (by omega)⟩, ⟨Or.inl (by rw [el]; omega), Or.inl (by rw [el]; omega), Or.inl (by rw [el]; omega)⟩, fun j i _ _ c _ _ => g.2 j i (by omega), ?_, ?_, ?_, gI_ag h4 (fun j hj => er j (by omega)), rmR_ag (rmR_rfl S) (fun k _ => el k) (e _ _ hG) (e _ _ hG)⟩
  · unfold wd_at
    rw [er (w + 1) (by omega), er (w + 2) (by omega), er (w + 3) (by omega), er (w + 4) (by omega), er (w + 10) (by omega), er w (by omega)]; exact h1
  · unfold wd_L
    rw [el, el, el, el, el, el, el]; exact h2
  · unfold rd_L
    rw [el, el, el, e 14 3 (by omega)]; exact h3
theorem xu_l {e u p : Int} (hB : rd_B T n S) (hk : p ≤ e → e ≤ n → ∀ v : Int, 0 ≤ v → v < 10000000000 → (e - p ≤ 10 → v = u) → wJ (pe_GA xs) wY0 M (d + 1) t_XR_addNumber ((pe_at t_XR_addNumber.bl 3).getD (0, [])).2 [(0, (2, 14)), (1, (0, p)), (2, (0, e)), (3, (1, v))] [] S Q) : ∀ (f : Nat) (t v c : Int), (n - t).toNat < f → 0 ≤ p → p ≤ t → t ≤ n → lx_nu T n p f t v = (e, u) → (t - p ≤ 10 → c = v) → (0 ≤ c ∧ c < (10 : Int) ^ (min (t - p) 10).toNat) → wJ (pe_GA xs) wY0 M (d + 1) t_XR_addNumber ((pe_at t_XR_addNumber.bl 1).getD (0, [])).2 [(0, (2, 14)), (1, (0, p)), (2, (0, t)), (3, (1, c))] [] S Q := by
  intro f
  induction f with
  | zero => intro t v c h; exact absurd h (Nat.not_lt_zero _)
  | succ f ih =>
    intro t v c hf hp0 hpt h1 he hcv hcb
    have hn := hB.2.2.1
    have hn1 := hB.2.2.2.1
    have hr := hB.2.2.2.2.2.2 t (by omega)
    have hcu := lx_q10u hcb
    rw [lx_nu_s] at he
    refine wa_iload_n (n := 2) rfl ?_
    refine wa_aload_n (n := 0) rfl ?_
    refine wb_gfi 14 rfl (wy_pr rfl) wt_14 wf_6_6 (v := n) (hB.2.1) (fun r1 => ?_)
    refine wa_icmpge (w_rg0 (by omega) (by omega)) (w_rg0 (by omega) (by omega)) ⟨_, rfl⟩ (fun c2 => ?_) (fun c2 => ?_)
    · skip
      have hz : lx_at T n t = 0 := if_neg (by omega)
      rw [hz, if_neg (by decide)] at he
      obtain ⟨rfl, rfl⟩ := Prod.mk.inj he
      exact wJ_S (hk hpt h1 c hcb.1 hcu hcv) ⟨rfl, rfl, rfl, rfl, trivial⟩
    · skip
      refine wa_aload_n (n := 0) rfl ?_
      refine wb_gf6 14 rfl (wy_pr rfl) wt_14 wf_6_5 (v := 1) (hB.1) (by decide) ?_
      refine wa_iload_n (n := 2) rfl ?_
      refine wb_bald 1 rfl (wy_pr rfl) wt_1 (n := (S 1 (-1))) rfl (by omega) (by omega) (v := (T t)) ((hB.2.2.2.2.2.1 t (by omega) (by omega))) (fun r3 => ?_)
      refine wa_cs (M2 := fun _ => False) rfl at_X_isDigit ⟨_, rfl⟩ rfl rfl ⟨(Or.inr ⟨wy_pr rfl, fun q => q⟩), trivial, trivial, trivial, trivial⟩ trivial (fun _ _ q => False.elim q) (xdi_ok (S := S) (c := (T t)) ⟨by omega, by omega⟩) (fun oq5 Sq5 hp6 q5 => ?_)
      rcases q5 with ⟨rfl, ⟨rfl, hd4⟩ | ⟨rfl, hd4⟩⟩
      · skip
        show wJ _ _ _ _ _ _ _ _ _ _
        refine wa_ifeq (w_rg0 (by omega) (by omega)) ⟨_, rfl⟩ (fun c7 => ?_) (fun c7 => ?_)
        · skip
          exact absurd c7 (by omega)
        · skip
          refine wa_iload_n (n := 2) rfl ?_
          refine wa_iload_n (n := 1) rfl ?_
          refine wa_isub ?_
          refine wa_bipush (w_rg2 (by omega) (by omega)) ?_
          refine wa_icmpge (w_rg0 (by omega) (by omega)) (w_rg0 (by omega) (by omega)) ⟨_, rfl⟩ (fun c8 => ?_) (fun c8 => ?_)
          · skip
            refine wa_iinc rfl rfl ?_
            refine wa_goto ⟨_, rfl⟩ ?_
            have hdg := lx_di_rg hd4
            rw [lx_at_in (by omega), if_pos hd4] at he
            exact wJ_S (ih (t + 1) _ c (by omega) (by omega) (by omega) (by omega) he (fun q => absurd q (by omega)) (lx_q10t (by omega) hcb)) ⟨rfl, rfl, rfl, rfl, trivial⟩
          · skip
            refine wa_lload_n (n := 3) rfl ?_
            refine wb_kl (n := 10) rfl ?_
            refine wa_lmul ?_
            refine wa_aload_n (n := 0) rfl ?_
            refine wb_gf6 14 rfl (wy_pr rfl) wt_14 wf_6_5 (v := 1) (hB.1) (by decide) ?_
            refine wa_iload_n (n := 2) rfl ?_
            refine wb_bald 1 rfl (wy_pr rfl) wt_1 (n := (S 1 (-1))) rfl (by omega) (by omega) (v := (T t)) ((hB.2.2.2.2.2.1 t (by omega) (by omega))) (fun r9 => ?_)
            refine wa_i2l (w_rg0 (by omega) (by omega)) ?_
            refine wa_ladd ?_
            refine wb_kl (n := 48) rfl ?_
            refine wa_lsub ?_
            refine wa_lstore_n (n := 3) rfl ?_
            refine wa_fall ⟨_, rfl⟩ ?_
            refine wa_iinc rfl rfl ?_
            refine wa_goto ⟨_, rfl⟩ ?_
            have hdg := lx_di_rg hd4
            rw [lx_at_in (by omega), if_pos hd4] at he
            exact wJ_S (ih (t + 1) _ (((c * 10) + (T t)) - 48) (by omega) (by omega) (by omega) (by omega) he (fun q => by rw [if_pos (by omega)]; have := hcv (by omega); omega) (lx_q10s (by omega) (by omega) hcb hdg)) ⟨rfl, rfl, rfl, rfl, trivial⟩
      · skip
        show wJ _ _ _ _ _ _ _ _ _ _
        refine wa_ifeq (w_rg0 (by omega) (by omega)) ⟨_, rfl⟩ (fun c10 => ?_) (fun c10 => ?_)
        · skip
          rw [lx_at_in (by omega), hd4, if_neg (by decide)] at he
          obtain ⟨rfl, rfl⟩ := Prod.mk.inj he
          exact wJ_S (hk hpt h1 c hcb.1 hcu hcv) ⟨rfl, rfl, rfl, rfl, trivial⟩
        · skip
          exact absurd c10 (by omega)
theorem xt_l {tk e p : Int} {bs : List Int} (hB : rd_B T n S) (h18 : S 18 (-1) = 60) (hk4 : tk = 5 → ∀ Z l, tx_Z S Z l → wJ (pe_GA xs) wY0 M (d + 1) t_XR_addText ((pe_at t_XR_addText.bl 4).getD (0, [])).2 [(0, (2, 14)), (1, (0, p))] [] Z Q) (hk6 : ∀ Z l (i : Int), tx_Z S Z l → l.length ≤ 60 → 0 ≤ i → ((tk = 5 ∧ i = n) ∨ (tk = 3 ∧ i = e ∧ i < n ∧ l = bs)) → wJ (pe_GA xs) wY0 M (d + 1) t_XR_addText ((pe_at t_XR_addText.bl 6).getD (0, [])).2 [(0, (2, 14)), (1, (0, p)), (2, (0, (l.length : Int))), (3, (0, i))] [] Z Q) : ∀ (f : Nat) (t : Int) (l : List Int) (Z : wS), (n - t).toNat < f → 0 ≤ t → t ≤ n → l.length ≤ 60 → lx_tx T n f t l = (tk, e, bs) → tx_Z S Z l → wJ (pe_GA xs) wY0 M (d + 1) t_XR_addText ((pe_at t_XR_addText.bl 1).getD (0, [])).2 [(0, (2, 14)), (1, (0, p)), (2, (0, (l.length : Int))), (3, (0, t))] [] Z Q := by
  intro f
  induction f with
  | zero => intro t l Z h; exact absurd h (Nat.not_lt_zero _)
  | succ f ih =>
    intro t l Z hf h0 h1 hl he hz
    have hn := hB.2.2.1
    have hn1 := hB.2.2.2.1
    have hr := hB.2.2.2.2.2.2 t h0
    have hr2 := lx_at_rg (k := t + 1) hB (by omega)
    have hBZ : rd_B T n Z := ⟨(hz.2 14 5 (by omega)).trans hB.1, (hz.2 14 6 (by omega)).trans hB.2.1, hB.2.2.1, by rw [hz.2 1 (-1) (by omega)]; exact hB.2.2.2.1, by rw [hz.2 1 (-1) (by omega)]; exact hB.2.2.2.2.1, fun i a b => (hz.2 1 i (by omega)).trans (hB.2.2.2.2.2.1 i a b), hB.2.2.2.2.2.2⟩
    rw [lx_tx_s] at he
    refine wa_iload_n (n := 3) rfl ?_
    refine wa_aload_n (n := 0) rfl ?_
    refine wb_gfi 14 rfl (wy_pr rfl) wt_14 wf_6_6 (v := n) (((hz.2 14 6 (by omega)).trans hB.2.1)) (fun r1 => ?_)
    refine wa_icmpge (w_rg0 (by omega) (by omega)) (w_rg0 (by omega) (by omega)) ⟨_, rfl⟩ (fun c2 => ?_) (fun c2 => ?_)
    · skip
      have hz0 : lx_at T n t = 0 := if_neg (by omega)
      rw [if_neg (by omega), if_pos (Or.inl (by unfold lx_tc; rw [if_neg (by omega), if_pos (by omega)]))] at he
      obtain ⟨rfl, -⟩ := Prod.mk.inj he
      exact wJ_S (hk6 Z l t hz hl h0 (Or.inl ⟨rfl, by omega⟩)) ⟨rfl, rfl, rfl, rfl, trivial⟩
    · skip
      refine wa_aload_n (n := 0) rfl ?_
      refine wb_gf6 14 rfl (wy_pr rfl) wt_14 wf_6_5 (v := 1) (((hz.2 14 5 (by omega)).trans hB.1)) (by decide) ?_
      refine wa_iload_n (n := 3) rfl ?_
      refine wb_bald 1 rfl (wy_pr rfl) wt_1 (n := (S 1 (-1))) ((hz.2 1 (-1) (by omega))) (by omega) (by omega) (v := (T t)) (((hz.2 1 t (by omega)).trans (hB.2.2.2.2.2.1 t (by omega) (by omega)))) (fun r3 => ?_)
      refine wa_bipush (w_rg2 (by omega) (by omega)) ?_
      refine wa_icmpeq (w_rg0 (by omega) (by omega)) (w_rg0 (by omega) (by omega)) ⟨_, rfl⟩ (fun c4 => ?_) (fun c4 => ?_)
      · skip
        rw [lx_at_in (by omega), if_pos (by omega)] at he
        obtain ⟨rfl, he2⟩ := Prod.mk.inj he
        obtain ⟨rfl, rfl⟩ := Prod.mk.inj he2
        exact wJ_S (hk6 Z l t hz hl h0 (Or.inr ⟨rfl, rfl, by omega, rfl⟩)) ⟨rfl, rfl, rfl, rfl, trivial⟩
      · skip
        refine wa_aload_n (n := 0) rfl ?_
        refine wb_gf6 14 rfl (wy_pr rfl) wt_14 wf_6_5 (v := 1) (((hz.2 14 5 (by omega)).trans hB.1)) (by decide) ?_
        refine wa_iload_n (n := 3) rfl ?_
        refine wb_bald 1 rfl (wy_pr rfl) wt_1 (n := (S 1 (-1))) ((hz.2 1 (-1) (by omega))) (by omega) (by omega) (v := (T t)) (((hz.2 1 t (by omega)).trans (hB.2.2.2.2.2.1 t (by omega) (by omega)))) (fun r5 => ?_)
        refine wa_istore (n := 4) rfl ?_
        refine wa_iload (n := 4) rfl ?_
        refine wa_bipush (w_rg2 (by omega) (by omega)) ?_
        refine wa_icmpne (w_rg0 (by omega) (by omega)) (w_rg0 (by omega) (by omega)) ⟨_, rfl⟩ (fun c6 => ?_) (fun c6 => ?_)
        · skip
          refine wa_iload (n := 4) rfl ?_
          refine wa_iflt (w_rg0 (by omega) (by omega)) ⟨_, rfl⟩ (fun c7 => ?_) (fun c7 => ?_)
          · skip
            have htn : t < n := by omega
            have htc : lx_tc T n t = 0 ∨ l.length = 60 := by
              first | exact Or.inr (by omega) | (left; unfold lx_tc; rw [lx_at_in (by omega)]; first | (rw [if_pos (by omega), if_neg (by omega), if_neg (by omega)]) | (rw [if_neg (by omega), if_pos (by omega)]))
            rw [if_neg (by rw [lx_at_in htn]; omega), if_pos htc] at he
            obtain ⟨rfl, -⟩ := Prod.mk.inj he
            exact wJ_S (hk4 rfl Z l hz) ⟨rfl, rfl, trivial⟩
          · skip
            refine wa_iload (n := 4) rfl ?_
            refine wa_bipush (w_rg2 (by omega) (by omega)) ?_
            refine wa_icmpne (w_rg0 (by omega) (by omega)) (w_rg0 (by omega) (by omega)) ⟨_, rfl⟩ (fun c8 => ?_) (fun c8 => ?_)
            · skip
              refine wa_iload_n (n := 2) rfl ?_
              refine wa_bipush (w_rg2 (by omega) (by omega)) ?_
              refine wa_icmpne (w_rg0 (by omega) (by omega)) (w_rg0 (by omega) (by omega)) ⟨_, rfl⟩ (fun c9 => ?_) (fun c9 => ?_)
              · skip
                refine wa_aload_n (n := 0) rfl ?_
                refine wb_gf4 14 rfl (wy_pr rfl) wt_14 wf_6_9 (v := 18) wl_14_9 ?_
                refine wa_iload_n (n := 2) rfl ?_
                refine wa_iload (n := 4) rfl ?_
                refine wb_i2b_r (wb_i2b_id ⟨(by omega), (by omega)⟩) ?_
                refine wb_bast 18 rfl (wy_pr rfl) wt_18 (n := 60) (((hz.2 18 (-1) (by omega)).trans h18)) (by omega) (by omega) ⟨(by omega), (by omega)⟩ ?_
                refine wa_iinc rfl rfl ?_
                refine wa_iinc rfl rfl ?_
                refine wa_goto ⟨_, rfl⟩ ?_
                have htn : t < n := by omega
                have htc : lx_tc T n t = (T t) := by
                  unfold lx_tc; rw [lx_at_in htn]
                  first | (rw [if_pos (by omega), if_pos (by omega)]) | (rw [if_pos (by omega), if_neg (by omega), if_pos (by omega)]) | (rw [if_neg (by omega), if_neg (by omega)])
                have ht2 : lx_t2 T n t + 1 = (t + 1) := by
                  unfold lx_t2; rw [lx_at_in htn]
                  first | (rw [if_pos (by omega)]) | (rw [if_neg (by omega)])
                rw [if_neg (by rw [lx_at_in htn]; omega), if_neg (by rw [htc]; omega), htc, ht2] at he
                refine wJ_S (ih (t + 1) (l ++ [(T t)]) _ (by omega) (by omega) ?_ (by rw [List.length_append]; simp only [List.length_cons, List.length_nil]; omega) he (tx_Z_up hz)) ⟨rfl, rfl, by rw [List.length_append]; rfl, rfl, trivial⟩
                first | omega | (have := lx_at_lt (T := T) (n := n) (k := t + 1) (by omega); omega)
              · skip
                refine wa_fall ⟨_, rfl⟩ ?_
                have htn : t < n := by omega
                have htc : lx_tc T n t = 0 ∨ l.length = 60 := by
                  first | exact Or.inr (by omega) | (left; unfold lx_tc; rw [lx_at_in (by omega)]; first | (rw [if_pos (by omega), if_neg (by omega), if_neg (by omega)]) | (rw [if_neg (by omega), if_pos (by omega)]))
                rw [if_neg (by rw [lx_at_in htn]; omega), if_pos htc] at he
                obtain ⟨rfl, -⟩ := Prod.mk.inj he
                exact wJ_S (hk4 rfl Z l hz) ⟨rfl, rfl, trivial⟩
            · skip
              refine wa_aload_n (n := 0) rfl ?_
              refine wb_gf6 14 rfl (wy_pr rfl) wt_14 wf_6_5 (v := 1) (((hz.2 14 5 (by omega)).trans hB.1)) (by decide) ?_
              have ht1n := lx_at_lt (T := T) (n := n) (k := t + 1)
              have ht1v : t + 1 < n → lx_at T n (t + 1) = T (t + 1) := fun q => lx_at_in q
              refine wa_iload_n (n := 3) rfl ?_
              refine wb_bald 1 rfl (wy_pr rfl) wt_1 (n := (S 1 (-1))) ((hz.2 1 (-1) (by omega))) (by omega) (by omega) (v := (T t)) (((hz.2 1 t (by omega)).trans (hB.2.2.2.2.2.1 t (by omega) (by omega)))) (fun r10 => ?_)
              refine wa_bipush (w_rg2 (by omega) (by omega)) ?_
              refine wa_icmpeq (w_rg0 (by omega) (by omega)) (w_rg0 (by omega) (by omega)) ⟨_, rfl⟩ (fun c11 => ?_) (fun c11 => ?_)
              · skip
                have htn : t < n := by omega
                have htc : lx_tc T n t = 0 ∨ l.length = 60 := by
                  first | exact Or.inr (by omega) | (left; unfold lx_tc; rw [lx_at_in (by omega)]; first | (rw [if_pos (by omega), if_neg (by omega), if_neg (by omega)]) | (rw [if_neg (by omega), if_pos (by omega)]))
                rw [if_neg (by rw [lx_at_in htn]; omega), if_pos htc] at he
                obtain ⟨rfl, -⟩ := Prod.mk.inj he
                exact wJ_S (hk4 rfl Z l hz) ⟨rfl, rfl, trivial⟩
              · skip
                exact absurd c11 (by omega)
        · skip
          refine wa_iinc rfl rfl ?_
          refine wa_aload_n (n := 0) rfl ?_
          refine wa_iload_n (n := 3) rfl ?_
          refine wa_cv 14 rfl (wy_pr rfl) wt_14 (M2 := fun _ => False) rfl at_XR_signAt ⟨_, rfl⟩ rfl rfl ⟨trivial, trivial, (Or.inr ⟨wy_pr rfl, fun q => q⟩), trivial, trivial, trivial⟩ trivial (fun _ _ q => False.elim q) (sa_ok (S := Z) hBZ ⟨by omega, by omega⟩) (fun oq12 Sq12 hp13 q12 => ?_)
          rcases q12 with ⟨rfl, rfl⟩
          show wJ _ _ _ _ _ _ _ _ _ _
          refine wa_cs (M2 := fun _ => False) rfl at_XR_escaped ⟨_, rfl⟩ rfl rfl ⟨trivial, trivial, (Or.inr ⟨wy_pr rfl, fun q => q⟩), trivial, trivial, trivial⟩ trivial (fun _ _ q => False.elim q) ?_ (fun _ _ _ q => q)
          refine wa_iload_n (n := 0) rfl ?_
          refine wa_bipush (w_rg2 (by omega) (by omega)) ?_
          refine wa_icmpne (w_rg0 (by omega) (by omega)) (w_rg0 (by omega) (by omega)) ⟨_, rfl⟩ (fun c14 => ?_) (fun c14 => ?_)
          · skip
            refine wa_iload_n (n := 0) rfl ?_
            refine wa_bipush (w_rg2 (by omega) (by omega)) ?_
            refine wa_icmpeq (w_rg0 (by omega) (by omega)) (w_rg0 (by omega) (by omega)) ⟨_, rfl⟩ (fun c15 => ?_) (fun c15 => ?_)
            · skip
              refine wa_iload_n (n := 0) rfl ?_
              refine wa_goto ⟨_, rfl⟩ ?_
              refine wa_ireturn rfl ?_
              show wJ _ _ _ _ _ _ _ _ _ _
              refine wa_istore (n := 4) rfl ?_
              refine wa_fall ⟨_, rfl⟩ ?_
              refine wa_iload (n := 4) rfl ?_
              refine wa_iflt (w_rg0 (by omega) (by omega)) ⟨_, rfl⟩ (fun c16 => ?_) (fun c16 => ?_)
              · skip
                exact absurd c16 (by omega)
              · skip
                refine wa_iload (n := 4) rfl ?_
                refine wa_bipush (w_rg2 (by omega) (by omega)) ?_
                refine wa_icmpne (w_rg0 (by omega) (by omega)) (w_rg0 (by omega) (by omega)) ⟨_, rfl⟩ (fun c17 => ?_) (fun c17 => ?_)
                · skip
                  refine wa_iload_n (n := 2) rfl ?_
                  refine wa_bipush (w_rg2 (by omega) (by omega)) ?_
                  refine wa_icmpne (w_rg0 (by omega) (by omega)) (w_rg0 (by omega) (by omega)) ⟨_, rfl⟩ (fun c18 => ?_) (fun c18 => ?_)
                  · skip
                    refine wa_aload_n (n := 0) rfl ?_
                    refine wb_gf4 14 rfl (wy_pr rfl) wt_14 wf_6_9 (v := 18) wl_14_9 ?_
                    refine wa_iload_n (n := 2) rfl ?_
                    refine wa_iload (n := 4) rfl ?_
                    refine wb_i2b_r (wb_i2b_id ⟨(by omega), (by omega)⟩) ?_
                    refine wb_bast 18 rfl (wy_pr rfl) wt_18 (n := 60) (((hz.2 18 (-1) (by omega)).trans h18)) (by omega) (by omega) ⟨(by omega), (by omega)⟩ ?_
                    refine wa_iinc rfl rfl ?_
                    refine wa_iinc rfl rfl ?_
                    refine wa_goto ⟨_, rfl⟩ ?_
                    have htn : t < n := by omega
                    have htc : lx_tc T n t = (lx_at T n (t + 1)) := by
                      unfold lx_tc; rw [lx_at_in htn]
                      first | (rw [if_pos (by omega), if_pos (by omega)]) | (rw [if_pos (by omega), if_neg (by omega), if_pos (by omega)]) | (rw [if_neg (by omega), if_neg (by omega)])
                    have ht2 : lx_t2 T n t + 1 = ((t + 1) + 1) := by
                      unfold lx_t2; rw [lx_at_in htn]
                      first | (rw [if_pos (by omega)]) | (rw [if_neg (by omega)])
                    rw [if_neg (by rw [lx_at_in htn]; omega), if_neg (by rw [htc]; omega), htc, ht2] at he
                    refine wJ_S (ih ((t + 1) + 1) (l ++ [(lx_at T n (t + 1))]) _ (by omega) (by omega) ?_ (by rw [List.length_append]; simp only [List.length_cons, List.length_nil]; omega) he (tx_Z_up hz)) ⟨rfl, rfl, by rw [List.length_append]; rfl, rfl, trivial⟩
                    first | omega | (have := lx_at_lt (T := T) (n := n) (k := t + 1) (by omega); omega)
                  · skip
                    refine wa_fall ⟨_, rfl⟩ ?_
                    have htn : t < n := by omega
                    have htc : lx_tc T n t = 0 ∨ l.length = 60 := by
                      first | exact Or.inr (by omega) | (left; unfold lx_tc; rw [lx_at_in (by omega)]; first | (rw [if_pos (by omega), if_neg (by omega), if_neg (by omega)]) | (rw [if_neg (by omega), if_pos (by omega)]))
                    rw [if_neg (by rw [lx_at_in htn]; omega), if_pos htc] at he
                    obtain ⟨rfl, -⟩ := Prod.mk.inj he
                    exact wJ_S (hk4 rfl Z l hz) ⟨rfl, rfl, trivial⟩
                · skip
                  exact absurd c17 (by omega)
            · skip
              refine wa_iload_n (n := 0) rfl ?_
              refine wa_bipush (w_rg2 (by omega) (by omega)) ?_
              refine wa_icmpne (w_rg0 (by omega) (by omega)) (w_rg0 (by omega) (by omega)) ⟨_, rfl⟩ (fun c19 => ?_) (fun c19 => ?_)
              · skip
                refine wa_iconst ?_
                refine wa_fall ⟨_, rfl⟩ ?_
                refine wa_ireturn rfl ?_
                show wJ _ _ _ _ _ _ _ _ _ _
                refine wa_istore (n := 4) rfl ?_
                refine wa_fall ⟨_, rfl⟩ ?_
                refine wa_iload (n := 4) rfl ?_
                refine wa_iflt (w_rg0 (by omega) (by omega)) ⟨_, rfl⟩ (fun c20 => ?_) (fun c20 => ?_)
                · skip
                  have htn : t < n := by omega
                  have htc : lx_tc T n t = 0 ∨ l.length = 60 := by
                    first | exact Or.inr (by omega) | (left; unfold lx_tc; rw [lx_at_in (by omega)]; first | (rw [if_pos (by omega), if_neg (by omega), if_neg (by omega)]) | (rw [if_neg (by omega), if_pos (by omega)]))
                  rw [if_neg (by rw [lx_at_in htn]; omega), if_pos htc] at he
                  obtain ⟨rfl, -⟩ := Prod.mk.inj he
                  exact wJ_S (hk4 rfl Z l hz) ⟨rfl, rfl, trivial⟩
                · skip
                  exact absurd c20 (by omega)
              · skip
                refine wa_fall ⟨_, rfl⟩ ?_
                refine wa_iload_n (n := 0) rfl ?_
                refine wa_goto ⟨_, rfl⟩ ?_
                refine wa_ireturn rfl ?_
                show wJ _ _ _ _ _ _ _ _ _ _
                refine wa_istore (n := 4) rfl ?_
                refine wa_fall ⟨_, rfl⟩ ?_
                refine wa_iload (n := 4) rfl ?_
                refine wa_iflt (w_rg0 (by omega) (by omega)) ⟨_, rfl⟩ (fun c21 => ?_) (fun c21 => ?_)
                · skip
                  exact absurd c21 (by omega)
                · skip
                  refine wa_iload (n := 4) rfl ?_
                  refine wa_bipush (w_rg2 (by omega) (by omega)) ?_
                  refine wa_icmpne (w_rg0 (by omega) (by omega)) (w_rg0 (by omega) (by omega)) ⟨_, rfl⟩ (fun c22 => ?_) (fun c22 => ?_)
                  · skip
                    refine wa_iload_n (n := 2) rfl ?_
                    refine wa_bipush (w_rg2 (by omega) (by omega)) ?_
                    refine wa_icmpne (w_rg0 (by omega) (by omega)) (w_rg0 (by omega) (by omega)) ⟨_, rfl⟩ (fun c23 => ?_) (fun c23 => ?_)
                    · skip
                      refine wa_aload_n (n := 0) rfl ?_
                      refine wb_gf4 14 rfl (wy_pr rfl) wt_14 wf_6_9 (v := 18) wl_14_9 ?_
                      refine wa_iload_n (n := 2) rfl ?_
                      refine wa_iload (n := 4) rfl ?_
                      refine wb_i2b_r (wb_i2b_id ⟨(by omega), (by omega)⟩) ?_
                      refine wb_bast 18 rfl (wy_pr rfl) wt_18 (n := 60) (((hz.2 18 (-1) (by omega)).trans h18)) (by omega) (by omega) ⟨(by omega), (by omega)⟩ ?_
                      refine wa_iinc rfl rfl ?_
                      refine wa_iinc rfl rfl ?_
                      refine wa_goto ⟨_, rfl⟩ ?_
                      have htn : t < n := by omega
                      have htc : lx_tc T n t = (lx_at T n (t + 1)) := by
                        unfold lx_tc; rw [lx_at_in htn]
                        first | (rw [if_pos (by omega), if_pos (by omega)]) | (rw [if_pos (by omega), if_neg (by omega), if_pos (by omega)]) | (rw [if_neg (by omega), if_neg (by omega)])
                      have ht2 : lx_t2 T n t + 1 = ((t + 1) + 1) := by
                        unfold lx_t2; rw [lx_at_in htn]
                        first | (rw [if_pos (by omega)]) | (rw [if_neg (by omega)])
                      rw [if_neg (by rw [lx_at_in htn]; omega), if_neg (by rw [htc]; omega), htc, ht2] at he
                      refine wJ_S (ih ((t + 1) + 1) (l ++ [(lx_at T n (t + 1))]) _ (by omega) (by omega) ?_ (by rw [List.length_append]; simp only [List.length_cons, List.length_nil]; omega) he (tx_Z_up hz)) ⟨rfl, rfl, by rw [List.length_append]; rfl, rfl, trivial⟩
                      first | omega | (have := lx_at_lt (T := T) (n := n) (k := t + 1) (by omega); omega)
                    · skip
                      refine wa_fall ⟨_, rfl⟩ ?_
                      have htn : t < n := by omega
                      have htc : lx_tc T n t = 0 ∨ l.length = 60 := by
                        first | exact Or.inr (by omega) | (left; unfold lx_tc; rw [lx_at_in (by omega)]; first | (rw [if_pos (by omega), if_neg (by omega), if_neg (by omega)]) | (rw [if_neg (by omega), if_pos (by omega)]))
                      rw [if_neg (by rw [lx_at_in htn]; omega), if_pos htc] at he
                      obtain ⟨rfl, -⟩ := Prod.mk.inj he
                      exact wJ_S (hk4 rfl Z l hz) ⟨rfl, rfl, trivial⟩
                  · skip
                    exact absurd c22 (by omega)
          · skip
            refine wa_bipush (w_rg2 (by omega) (by omega)) ?_
            refine wa_ireturn rfl ?_
            show wJ _ _ _ _ _ _ _ _ _ _
            refine wa_istore (n := 4) rfl ?_
            refine wa_fall ⟨_, rfl⟩ ?_
            refine wa_iload (n := 4) rfl ?_
            refine wa_iflt (w_rg0 (by omega) (by omega)) ⟨_, rfl⟩ (fun c24 => ?_) (fun c24 => ?_)
            · skip
              exact absurd c24 (by omega)
            · skip
              refine wa_iload (n := 4) rfl ?_
              refine wa_bipush (w_rg2 (by omega) (by omega)) ?_
              refine wa_icmpne (w_rg0 (by omega) (by omega)) (w_rg0 (by omega) (by omega)) ⟨_, rfl⟩ (fun c25 => ?_) (fun c25 => ?_)
              · skip
                exact absurd c25 (by omega)
              · skip
                refine wa_aload_n (n := 0) rfl ?_
                refine wb_gf6 14 rfl (wy_pr rfl) wt_14 wf_6_5 (v := 1) (((hz.2 14 5 (by omega)).trans hB.1)) (by decide) ?_
                have ht1n := lx_at_lt (T := T) (n := n) (k := t + 1)
                have ht1v : t + 1 < n → lx_at T n (t + 1) = T (t + 1) := fun q => lx_at_in q
                refine wa_iload_n (n := 3) rfl ?_
                refine wb_bald 1 rfl (wy_pr rfl) wt_1 (n := (S 1 (-1))) ((hz.2 1 (-1) (by omega))) (by omega) (by omega) (v := (T (t + 1))) (((hz.2 1 (t + 1) (by omega)).trans (hB.2.2.2.2.2.1 (t + 1) (by omega) (by omega)))) (fun r26 => ?_)
                refine wa_bipush (w_rg2 (by omega) (by omega)) ?_
                refine wa_icmpeq (w_rg0 (by omega) (by omega)) (w_rg0 (by omega) (by omega)) ⟨_, rfl⟩ (fun c27 => ?_) (fun c27 => ?_)
                · skip
                  have htn : t < n := by omega
                  have htc : lx_tc T n t = 0 ∨ l.length = 60 := by
                    first | exact Or.inr (by omega) | (left; unfold lx_tc; rw [lx_at_in (by omega)]; first | (rw [if_pos (by omega), if_neg (by omega), if_neg (by omega)]) | (rw [if_neg (by omega), if_pos (by omega)]))
                  rw [if_neg (by rw [lx_at_in htn]; omega), if_pos htc] at he
                  obtain ⟨rfl, -⟩ := Prod.mk.inj he
                  exact wJ_S (hk4 rfl Z l hz) ⟨rfl, rfl, trivial⟩
                · skip
                  refine wa_fall ⟨_, rfl⟩ ?_
                  refine wa_iload_n (n := 2) rfl ?_
                  refine wa_bipush (w_rg2 (by omega) (by omega)) ?_
                  refine wa_icmpne (w_rg0 (by omega) (by omega)) (w_rg0 (by omega) (by omega)) ⟨_, rfl⟩ (fun c28 => ?_) (fun c28 => ?_)
                  · skip
                    refine wa_aload_n (n := 0) rfl ?_
                    refine wb_gf4 14 rfl (wy_pr rfl) wt_14 wf_6_9 (v := 18) wl_14_9 ?_
                    refine wa_iload_n (n := 2) rfl ?_
                    refine wa_iload (n := 4) rfl ?_
                    refine wb_i2b_r (wb_i2b_id ⟨(by omega), (by omega)⟩) ?_
                    refine wb_bast 18 rfl (wy_pr rfl) wt_18 (n := 60) (((hz.2 18 (-1) (by omega)).trans h18)) (by omega) (by omega) ⟨(by omega), (by omega)⟩ ?_
                    refine wa_iinc rfl rfl ?_
                    refine wa_iinc rfl rfl ?_
                    refine wa_goto ⟨_, rfl⟩ ?_
                    have htn : t < n := by omega
                    have htc : lx_tc T n t = 10 := by
                      unfold lx_tc; rw [lx_at_in htn]
                      first | (rw [if_pos (by omega), if_pos (by omega)]) | (rw [if_pos (by omega), if_neg (by omega), if_pos (by omega)]) | (rw [if_neg (by omega), if_neg (by omega)])
                    have ht2 : lx_t2 T n t + 1 = ((t + 1) + 1) := by
                      unfold lx_t2; rw [lx_at_in htn]
                      first | (rw [if_pos (by omega)]) | (rw [if_neg (by omega)])
                    rw [if_neg (by rw [lx_at_in htn]; omega), if_neg (by rw [htc]; omega), htc, ht2] at he
                    refine wJ_S (ih ((t + 1) + 1) (l ++ [10]) _ (by omega) (by omega) ?_ (by rw [List.length_append]; simp only [List.length_cons, List.length_nil]; omega) he (tx_Z_up hz)) ⟨rfl, rfl, by rw [List.length_append]; rfl, rfl, trivial⟩
                    first | omega | (have := lx_at_lt (T := T) (n := n) (k := t + 1) (by omega); omega)
                  · skip
                    refine wa_fall ⟨_, rfl⟩ ?_
                    have htn : t < n := by omega
                    have htc : lx_tc T n t = 0 ∨ l.length = 60 := by
                      first | exact Or.inr (by omega) | (left; unfold lx_tc; rw [lx_at_in (by omega)]; first | (rw [if_pos (by omega), if_neg (by omega), if_neg (by omega)]) | (rw [if_neg (by omega), if_pos (by omega)]))
                    rw [if_neg (by rw [lx_at_in htn]; omega), if_pos htc] at he
                    obtain ⟨rfl, -⟩ := Prod.mk.inj he
                    exact wJ_S (hk4 rfl Z l hz) ⟨rfl, rfl, trivial⟩
theorem xu_74 {p : Int} (hB : rd_B T n S) (h7 : S 14 7 = 74) (h8 : S 14 8 = 1) (hI : gI S) (hW : wd_at S 74 64) (hL : wd_L S 74 64) (hR : rd_L S) (hb : rb_I 74 S) (hp : 0 ≤ p ∧ p < n) (hle : lx_le (T p) = false) (hdi : lx_di (T p) = true) : wJ (pe_GA xs) wY0 (mS [15, 16, 17, 75, 76, 77, 78, 79, 80]) (d + 6) t_XR_addNumber ((pe_at t_XR_addNumber.bl 0).getD (0, [])).2 [(0, (2, 14)), (1, (0, p))] [] S (fun o Z => ∃ e : Int, o = .inl (some (0, e)) ∧ ht_ok 74 64 T n p S Z e) := by
  have hn := hB.2.2.1
  have hn1 := hB.2.2.2.1
  have hn2 := hB.2.2.2.2.1
  have hrm := rmR_rfl S
  have hc0 : 0 ≤ S 74 7 ∧ S 74 7 ≤ S 76 (-1) := hW.1
  have hu0 : 0 ≤ S 74 1 ∧ S 74 1 ≤ S 75 (-1) := hW.2.1
  have hr1 : 0 ≤ S 14 3 := hR.1.1
  have hen : lx_en T n 1 p = (lx_nu T n p ((n - p).toNat + 1) p 0).1 := by unfold lx_en; rw [if_neg (by omega), if_neg (by rw [hle]; decide), if_pos hdi]
  have htk : lx_tk T n 1 p = if (lx_nu T n p ((n - p).toNat + 1) p 0).1 - p ≤ 10 ∧ (lx_nu T n p ((n - p).toNat + 1) p 0).2 ≤ 2147483647 then 2 else 5 := by unfold lx_tk; rw [if_neg (by omega), if_neg (by rw [hle]; decide), if_pos hdi]
  generalize hee : lx_nu T n p ((n - p).toNat + 1) p 0 = eu at hen htk
  obtain ⟨e, u⟩ := eu
  have hen : lx_en T n 1 p = e := hen
  have htk : lx_tk T n 1 p = if e - p ≤ 10 ∧ u ≤ 2147483647 then 2 else 5 := htk
  refine wa_iload_n (n := 1) rfl ?_
  refine wa_istore_n (n := 2) rfl ?_
  refine wa_lconst ?_
  refine wa_lstore_n (n := 3) rfl ?_
  refine wa_fall ⟨_, rfl⟩ ?_
  refine wJ_S (xu_l (d := d + 5) (e := e) (u := u) (p := p) hB (fun hpe hen1 v hv0 hv1 hvu => ?_) ((n - p).toNat + 1) p 0 0 (by omega) (by omega) (by omega) (by omega) hee (fun _ => rfl) ⟨by decide, by rw [show (min (p - p) 10).toNat = 0 by omega]; decide⟩) ⟨rfl, rfl, rfl, rfl, trivial⟩
  refine wa_iload_n (n := 2) rfl ?_
  refine wa_iload_n (n := 1) rfl ?_
  refine wa_isub ?_
  refine wa_bipush (w_rg2 (by omega) (by omega)) ?_
  refine wa_icmpgt (w_rg0 (by omega) (by omega)) (w_rg0 (by omega) (by omega)) ⟨_, rfl⟩ (fun c31 => ?_) (fun c31 => ?_)
  · skip
    refine wa_aload_n (n := 0) rfl ?_
    refine wa_iload_n (n := 1) rfl ?_
    refine wa_cv 14 rfl (wy_pr rfl) wt_14 (M2 := mS [15, 16, 17]) rfl at_XR_addBad ⟨_, rfl⟩ rfl rfl ⟨(Or.inr ⟨wy_pr rfl, mS_no rfl⟩), trivial, trivial, trivial, trivial⟩ trivial (fun _ _ q => mS_sub (by decide) q) ?_ (fun _ _ _ q => q)
    refine wa_aload_n (n := 0) rfl ?_
    refine wa_iconst ?_
    refine wa_iload_n (n := 1) rfl ?_
    refine wa_iconst ?_
    refine wa_cv 14 rfl (wy_pr rfl) wt_14 (M2 := mS [15, 16, 17]) rfl at_XR_add ⟨_, rfl⟩ rfl rfl ⟨(Or.inr ⟨wy_pr rfl, mS_no rfl⟩), trivial, trivial⟩ trivial (fun _ _ q => mS_sub (by decide) q) (ad_ok (S := S) hI ⟨by omega, by omega⟩ ⟨by omega, by omega⟩ ⟨by omega, by omega⟩ hR) (fun oq34 Sq34 hp35 q34 => ?_)
    rcases q34 with ⟨rfl, ad32⟩
    show wJ _ _ _ _ _ _ _ _ _ _
    generalize Sq34 = Z33 at ad32 ⊢
    refine wa_aload_n (n := 0) rfl ?_
    refine wb_gfi 14 rfl (wy_pr rfl) wt_14 wf_6_6 (v := n) (((ad32.2.2.2.1 14 6 (by decide) (by decide) (by decide) (by decide) (by decide) (Or.inr (by decide))).trans (hB.2.1))) (fun r36 => ?_)
    refine wa_ireturn rfl ?_
    show wJ _ _ _ _ _ _ _ _ _ _
    refine wa_ireturn rfl ?_
    have htk5 : lx_tk T n 1 p = 5 := by rw [htk, if_neg (by omega)]
    refine ⟨n, rfl, ht_ad (by decide) (by decide) (by decide) hW hL hR hb ?_ ?_ ?_ (by omega) ad32⟩
    · unfold kh; rw [htk5]; rfl
    · rw [htk5, if_pos rfl]
    · rw [htk5]; decide
  · skip
    refine wa_lload_n (n := 3) rfl ?_
    refine wb_kl (n := 2147483647) rfl ?_
    refine wa_lcmp (w_rg1 (by omega) (by omega)) (w_rg1 (by omega) (by omega)) ?_
    refine wa_ifle (by have := @wb_lcmp_cases; exact w_lcmp_rg) ⟨_, rfl⟩ (fun c37 => ?_) (fun c37 => ?_)
    · skip
      have c37x := @wb_lcmp_cases v 2147483647
      refine wa_aload_n (n := 0) rfl ?_
      refine wa_iconst ?_
      refine wa_iload_n (n := 1) rfl ?_
      refine wa_lload_n (n := 3) rfl ?_
      refine wb_l2i_r (wb_l2i_id ⟨(by omega), (by omega)⟩) ?_
      refine wa_cv 14 rfl (wy_pr rfl) wt_14 (M2 := mS [15, 16, 17]) rfl at_XR_add ⟨_, rfl⟩ rfl rfl ⟨(Or.inr ⟨wy_pr rfl, mS_no rfl⟩), trivial, trivial, trivial, trivial⟩ trivial (fun _ _ q => mS_sub (by decide) q) (ad_ok (S := S) hI ⟨by omega, by omega⟩ ⟨by omega, by omega⟩ ⟨by omega, by omega⟩ hR) (fun oq40 Sq40 hp41 q40 => ?_)
      rcases q40 with ⟨rfl, ad38⟩
      show wJ _ _ _ _ _ _ _ _ _ _
      generalize Sq40 = Z39 at ad38 ⊢
      refine wa_iload_n (n := 2) rfl ?_
      refine wa_ireturn rfl ?_
      have htk2 : lx_tk T n 1 p = 2 := by rw [htk, if_pos (by omega)]
      refine ⟨e, rfl, ht_ad (by decide) (by decide) (by decide) hW hL hR hb ?_ ?_ ?_ (by omega) ad38⟩
      · unfold kh; rw [htk2]; rfl
      · rw [htk2, if_neg (by decide), hen]
      · rw [htk2]; decide
    · skip
      have c37x := @wb_lcmp_cases v 2147483647
      refine wa_fall ⟨_, rfl⟩ ?_
      refine wa_aload_n (n := 0) rfl ?_
      refine wa_iload_n (n := 1) rfl ?_
      refine wa_cv 14 rfl (wy_pr rfl) wt_14 (M2 := mS [15, 16, 17]) rfl at_XR_addBad ⟨_, rfl⟩ rfl rfl ⟨(Or.inr ⟨wy_pr rfl, mS_no rfl⟩), trivial, trivial, trivial, trivial⟩ trivial (fun _ _ q => mS_sub (by decide) q) ?_ (fun _ _ _ q => q)
      refine wa_aload_n (n := 0) rfl ?_
      refine wa_iconst ?_
      refine wa_iload_n (n := 1) rfl ?_
      refine wa_iconst ?_
      refine wa_cv 14 rfl (wy_pr rfl) wt_14 (M2 := mS [15, 16, 17]) rfl at_XR_add ⟨_, rfl⟩ rfl rfl ⟨(Or.inr ⟨wy_pr rfl, mS_no rfl⟩), trivial, trivial⟩ trivial (fun _ _ q => mS_sub (by decide) q) (ad_ok (S := S) hI ⟨by omega, by omega⟩ ⟨by omega, by omega⟩ ⟨by omega, by omega⟩ hR) (fun oq44 Sq44 hp45 q44 => ?_)
      rcases q44 with ⟨rfl, ad42⟩
      show wJ _ _ _ _ _ _ _ _ _ _
      generalize Sq44 = Z43 at ad42 ⊢
      refine wa_aload_n (n := 0) rfl ?_
      refine wb_gfi 14 rfl (wy_pr rfl) wt_14 wf_6_6 (v := n) (((ad42.2.2.2.1 14 6 (by decide) (by decide) (by decide) (by decide) (by decide) (Or.inr (by decide))).trans (hB.2.1))) (fun r46 => ?_)
      refine wa_ireturn rfl ?_
      show wJ _ _ _ _ _ _ _ _ _ _
      refine wa_ireturn rfl ?_
      have htk5 : lx_tk T n 1 p = 5 := by rw [htk, if_neg (by omega)]
      refine ⟨n, rfl, ht_ad (by decide) (by decide) (by decide) hW hL hR hb ?_ ?_ ?_ (by omega) ad42⟩
      · unfold kh; rw [htk5]; rfl
      · rw [htk5, if_pos rfl]
      · rw [htk5]; decide
theorem xt_74 {p : Int} (hB : rd_B T n S) (h7 : S 14 7 = 74) (h8 : S 14 8 = 1) (hI : gI S) (hW : wd_at S 74 64) (hL : wd_L S 74 64) (hR : rd_L S) (hb : rb_I 74 S) (hp : 0 ≤ p ∧ p < n) (h18 : S 18 (-1) = 60) (h34 : T p = 34) : wJ (pe_GA xs) wY0 (mS [15, 16, 17, 75, 76, 77, 78, 79, 80]) (d + 6) t_XR_addText ((pe_at t_XR_addText.bl 0).getD (0, [])).2 [(0, (2, 14)), (1, (0, p))] [] S (fun o Z => ∃ e : Int, o = .inl (some (0, e)) ∧ ht_ok 74 64 T n p S Z e) := by
  have hn := hB.2.2.1
  have hn1 := hB.2.2.2.1
  have hn2 := hB.2.2.2.2.1
  have hrm := rmR_rfl S
  have hc0 : 0 ≤ S 74 7 ∧ S 74 7 ≤ S 76 (-1) := hW.1
  have hu0 : 0 ≤ S 74 1 ∧ S 74 1 ≤ S 75 (-1) := hW.2.1
  have hr1 : 0 ≤ S 14 3 := hR.1.1
  have hle : lx_le (T p) = false := by rw [h34]; decide
  have hdi : lx_di (T p) = false := by rw [h34]; decide
  have hen : lx_en T n 1 p = (lx_tx T n ((n - p).toNat + 1) (p + 1) []).2.1 + 1 := by unfold lx_en; rw [if_neg (by omega), if_neg (by rw [hle]; decide), if_neg (by rw [hdi]; decide), if_pos h34]
  have htk : lx_tk T n 1 p = (lx_tx T n ((n - p).toNat + 1) (p + 1) []).1 := by unfold lx_tk; rw [if_neg (by omega), if_neg (by rw [hle]; decide), if_neg (by rw [hdi]; decide), if_pos h34]
  have hle2 := lx_tx_le T n ((n - p).toNat + 1) (p + 1) [] (by omega)
  generalize hee : lx_tx T n ((n - p).toNat + 1) (p + 1) [] = eu at hen htk hle2
  obtain ⟨tk, e, bs⟩ := eu
  have hen : lx_en T n 1 p = e + 1 := hen
  have htk : lx_tk T n 1 p = tk := htk
  have hle2 : p + 1 ≤ e := hle2.1
  refine wa_iconst ?_
  refine wa_istore_n (n := 2) rfl ?_
  refine wa_iload_n (n := 1) rfl ?_
  refine wa_iconst ?_
  refine wa_iadd ?_
  refine wa_istore_n (n := 3) rfl ?_
  refine wa_fall ⟨_, rfl⟩ ?_
  refine wJ_S (xt_l (d := d + 5) (tk := tk) (e := e) (bs := bs) (p := p) hB h18 (fun ht5 Z l hz => ?_) (fun Z l i hz hl60 hi0 hi => ?_) ((n - p).toNat + 1) (p + 1) [] S (by omega) (by omega) (by omega) (by decide) hee ⟨fun i hi => absurd hi (Nat.not_lt_zero _), fun _ _ _ => rfl⟩) ⟨rfl, rfl, rfl, rfl, trivial⟩
  · skip
    have hx := rx_tx (w := 74) (by decide) (by decide) hW hL hR hI hz
    have hzm := hx.2.2.2.2.2.2.2.2.2.2.2
    have hzI := hx.2.2.2.2.2.2.2.2.2.2.1
    have hzR := hx.2.2.2.2.2.2.2.2.2.1
    have hzL := hx.2.2.2.2.2.2.2.2.1
    have hzW := hx.2.2.2.2.2.2.2.1
    have z3 : Z 14 3 = S 14 3 := hz.2 14 3 (by omega)
    have zw7 : Z 74 7 = S 74 7 := hz.2 74 7 (by omega)
    have zw1 : Z 74 1 = S 74 1 := hz.2 74 1 (by omega)
    have hzb : rb_I 74 Z := by
      show Z 74 7 ≤ 400000 ∧ Z 74 1 ≤ 4000000 ∧ Z 76 (-1) ≤ 1000000 ∧ Z 75 (-1) ≤ 10000000 ∧ Z 14 3 ≤ 400000
      rw [z3, zw7, zw1, hz.2 76 (-1) (by omega), hz.2 75 (-1) (by omega)]; exact hb
    refine wa_aload_n (n := 0) rfl ?_
    refine wa_iload_n (n := 1) rfl ?_
    refine wa_cv 14 rfl (wy_pr rfl) wt_14 (M2 := mS [15, 16, 17]) rfl at_XR_addBad ⟨_, rfl⟩ rfl rfl ⟨(Or.inr ⟨wy_pr rfl, mS_no rfl⟩), trivial, trivial⟩ trivial (fun _ _ q => mS_sub (by decide) q) ?_ (fun _ _ _ q => q)
    refine wa_aload_n (n := 0) rfl ?_
    refine wa_iconst ?_
    refine wa_iload_n (n := 1) rfl ?_
    refine wa_iconst ?_
    refine wa_cv 14 rfl (wy_pr rfl) wt_14 (M2 := mS [15, 16, 17]) rfl at_XR_add ⟨_, rfl⟩ rfl rfl ⟨(Or.inr ⟨wy_pr rfl, mS_no rfl⟩), trivial, trivial⟩ trivial (fun _ _ q => mS_sub (by decide) q) (ad_ok (S := Z) hzI ⟨by omega, by omega⟩ ⟨by omega, by omega⟩ ⟨by omega, by omega⟩ hzR) (fun oq193 Sq193 hp194 q193 => ?_)
    rcases q193 with ⟨rfl, ad191⟩
    show wJ _ _ _ _ _ _ _ _ _ _
    generalize Sq193 = Z192 at ad191 ⊢
    refine wa_aload_n (n := 0) rfl ?_
    refine wb_gfi 14 rfl (wy_pr rfl) wt_14 wf_6_6 (v := n) (((ad191.2.2.2.1 14 6 (by decide) (by decide) (by decide) (by decide) (by decide) (Or.inr (by decide))).trans (((hz.2 14 6 (by omega)).trans hB.2.1)))) (fun r195 => ?_)
    refine wa_ireturn rfl ?_
    show wJ _ _ _ _ _ _ _ _ _ _
    refine wa_ireturn rfl ?_
    refine ⟨n, rfl, ht_tr ⟨hc0.1, hu0.1, hr1⟩ hx z3 zw7 zw1 (ht_ad (by decide) (by decide) (by decide) hzW hzL hzR hzb ?_ ?_ ?_ (by omega) ad191)⟩
    · unfold kh; rw [htk, ht5]; rfl
    · rw [htk, ht5, if_pos rfl]
    · rw [htk, ht5]; decide
  · skip
    have hx := rx_tx (w := 74) (by decide) (by decide) hW hL hR hI hz
    have hzm := hx.2.2.2.2.2.2.2.2.2.2.2
    have hzI := hx.2.2.2.2.2.2.2.2.2.2.1
    have hzR := hx.2.2.2.2.2.2.2.2.2.1
    have hzL := hx.2.2.2.2.2.2.2.2.1
    have hzW := hx.2.2.2.2.2.2.2.1
    have z3 : Z 14 3 = S 14 3 := hz.2 14 3 (by omega)
    have zw7 : Z 74 7 = S 74 7 := hz.2 74 7 (by omega)
    have zw1 : Z 74 1 = S 74 1 := hz.2 74 1 (by omega)
    have hzb : rb_I 74 Z := by
      show Z 74 7 ≤ 400000 ∧ Z 74 1 ≤ 4000000 ∧ Z 76 (-1) ≤ 1000000 ∧ Z 75 (-1) ≤ 10000000 ∧ Z 14 3 ≤ 400000
      rw [z3, zw7, zw1, hz.2 76 (-1) (by omega), hz.2 75 (-1) (by omega)]; exact hb
    have hio : (tk = 5 ∧ i = n) ∨ (tk = 3 ∧ i = e ∧ i < n) := by omega
    refine wa_iload_n (n := 3) rfl ?_
    refine wa_aload_n (n := 0) rfl ?_
    refine wb_gfi 14 rfl (wy_pr rfl) wt_14 wf_6_6 (v := n) (((hz.2 14 6 (by omega)).trans hB.2.1)) (fun r271 => ?_)
    refine wa_icmplt (w_rg0 (by omega) (by omega)) (w_rg0 (by omega) (by omega)) ⟨_, rfl⟩ (fun c272 => ?_) (fun c272 => ?_)
    · skip
      refine wa_aload_n (n := 0) rfl ?_
      refine wb_gfz 14 rfl (wy_pr rfl) wt_14 wf_6_8 (v := 1) (((hz.2 14 8 (by omega)).trans h8)) (fun r273 => ?_)
      refine wa_ifeq (w_rg0 (by omega) (by omega)) ⟨_, rfl⟩ (fun c274 => ?_) (fun c274 => ?_)
      · skip
        exact absurd c274 (by omega)
      · skip
        refine wa_iconst ?_
        refine wa_goto ⟨_, rfl⟩ ?_
        refine wa_istore (n := 4) rfl ?_
        refine wa_aload_n (n := 0) rfl ?_
        refine wa_iload (n := 4) rfl ?_
        refine wa_iconst ?_
        refine wa_icmpne (w_rg0 (by omega) (by omega)) (w_rg0 (by omega) (by omega)) ⟨_, rfl⟩ (fun c275 => ?_) (fun c275 => ?_)
        · skip
          refine wa_iconst ?_
          refine wa_fall ⟨_, rfl⟩ ?_
          refine wa_iload_n (n := 1) rfl ?_
          refine wa_iload (n := 4) rfl ?_
          refine wa_cv 14 rfl (wy_pr rfl) wt_14 (M2 := mS [15, 16, 17]) rfl at_XR_add ⟨_, rfl⟩ rfl rfl ⟨trivial, (Or.inr ⟨wy_pr rfl, mS_no rfl⟩), trivial, trivial, trivial, trivial⟩ trivial (fun _ _ q => mS_sub (by decide) q) (ad_ok (S := Z) hzI ⟨by omega, by omega⟩ ⟨by omega, by omega⟩ ⟨by omega, by omega⟩ hzR) (fun oq278 Sq278 hp279 q278 => ?_)
          rcases q278 with ⟨rfl, ad276⟩
          show wJ _ _ _ _ _ _ _ _ _ _
          generalize Sq278 = Z277 at ad276 ⊢
          refine wa_iload_n (n := 3) rfl ?_
          refine wa_iconst ?_
          refine wa_iadd ?_
          refine wa_ireturn rfl ?_
          have ht3 : tk = 3 ∧ i = e := by omega
          refine ⟨i + 1, rfl, ht_tr ⟨hc0.1, hu0.1, hr1⟩ hx z3 zw7 zw1 (ht_ad (by decide) (by decide) (by decide) hzW hzL hzR hzb ?_ ?_ ?_ (by omega) ad276)⟩
          · unfold kh; rw [htk, ht3.1]; rfl
          · rw [htk, ht3.1, if_neg (by decide), hen, ht3.2]
          · rw [htk, ht3.1]; decide
        · skip
          exact absurd c275 (by omega)
    · skip
      refine wa_aload_n (n := 0) rfl ?_
      refine wa_iload_n (n := 1) rfl ?_
      refine wa_cv 14 rfl (wy_pr rfl) wt_14 (M2 := mS [15, 16, 17]) rfl at_XR_addBad ⟨_, rfl⟩ rfl rfl ⟨(Or.inr ⟨wy_pr rfl, mS_no rfl⟩), trivial, trivial, trivial, trivial⟩ trivial (fun _ _ q => mS_sub (by decide) q) ?_ (fun _ _ _ q => q)
      refine wa_aload_n (n := 0) rfl ?_
      refine wa_iconst ?_
      refine wa_iload_n (n := 1) rfl ?_
      refine wa_iconst ?_
      refine wa_cv 14 rfl (wy_pr rfl) wt_14 (M2 := mS [15, 16, 17]) rfl at_XR_add ⟨_, rfl⟩ rfl rfl ⟨(Or.inr ⟨wy_pr rfl, mS_no rfl⟩), trivial, trivial⟩ trivial (fun _ _ q => mS_sub (by decide) q) (ad_ok (S := Z) hzI ⟨by omega, by omega⟩ ⟨by omega, by omega⟩ ⟨by omega, by omega⟩ hzR) (fun oq282 Sq282 hp283 q282 => ?_)
      rcases q282 with ⟨rfl, ad280⟩
      show wJ _ _ _ _ _ _ _ _ _ _
      generalize Sq282 = Z281 at ad280 ⊢
      refine wa_aload_n (n := 0) rfl ?_
      refine wb_gfi 14 rfl (wy_pr rfl) wt_14 wf_6_6 (v := n) (((ad280.2.2.2.1 14 6 (by decide) (by decide) (by decide) (by decide) (by decide) (Or.inr (by decide))).trans (((hz.2 14 6 (by omega)).trans hB.2.1)))) (fun r284 => ?_)
      refine wa_ireturn rfl ?_
      show wJ _ _ _ _ _ _ _ _ _ _
      refine wa_ireturn rfl ?_
      refine ⟨n, rfl, ht_tr ⟨hc0.1, hu0.1, hr1⟩ hx z3 zw7 zw1 (ht_ad (by decide) (by decide) (by decide) hzW hzL hzR hzb ?_ ?_ ?_ (by omega) ad280)⟩
      · unfold kh; rw [htk, (show tk = 5 by omega)]; rfl
      · rw [htk, (show tk = 5 by omega), if_pos rfl]
      · rw [htk, (show tk = 5 by omega)]; decide
/-- what addSign does on a host's text (its table isn't whole yet: String.indexOf) -/
def as_74 (xs : List (Nat × List Int32)) : Prop := ∀ (d : Nat) (S : wS) (T : Int → Int) (n p : Int), rd_B T n S → S 14 7 = 74 → S 14 8 = 1 → gI S → wd_at S 74 64 → wd_L S 74 64 → rd_L S → rb_I 74 S → (0 ≤ p ∧ p < n) → lx_le (T p) = false → lx_di (T p) = false → T p ≠ 34 → wJ (pe_GA xs) wY0 (mS [15, 16, 17, 75, 76, 77, 78, 79, 80]) (d + 6) t_XR_addSign ((pe_at t_XR_addSign.bl 0).getD (0, [])).2 [(0, (2, 14)), (1, (0, p))] [] S (fun o Z => ∃ e : Int, o = .inl (some (0, e)) ∧ ht_ok 74 64 T n p S Z e)
theorem at_74 {p : Int} (hA : as_74 xs) (hB : rd_B T n S) (h7 : S 14 7 = 74) (h8 : S 14 8 = 1) (hI : gI S) (hW : wd_at S 74 64) (hL : wd_L S 74 64) (hR : rd_L S) (hb : rb_I 74 S) (hp : 0 ≤ p ∧ p < n) (h18 : S 18 (-1) = 60) : wJ (pe_GA xs) wY0 (mS [15, 16, 17, 75, 76, 77, 78, 79, 80]) (d + 7) t_XR_addToken ((pe_at t_XR_addToken.bl 0).getD (0, [])).2 [(0, (2, 14)), (1, (0, p))] [] S (fun o Z => ∃ e : Int, o = .inl (some (0, e)) ∧ ht_ok 74 64 T n p S Z e) := by
  have hn := hB.2.2.1
  have hn1 := hB.2.2.2.1
  have hn2 := hB.2.2.2.2.1
  have hrm := rmR_rfl S
  have hc0 : 0 ≤ S 74 7 ∧ S 74 7 ≤ S 76 (-1) := hW.1
  have hu0 : 0 ≤ S 74 1 ∧ S 74 1 ≤ S 75 (-1) := hW.2.1
  have hr1 : 0 ≤ S 14 3 := hR.1.1
  have hr := hB.2.2.2.2.2.2 p hp.1 hp.2
  refine wa_aload_n (n := 0) rfl ?_
  refine wb_gf6 14 rfl (wy_pr rfl) wt_14 wf_6_5 (v := 1) (hB.1) (by decide) ?_
  refine wa_iload_n (n := 1) rfl ?_
  refine wb_bald 1 rfl (wy_pr rfl) wt_1 (n := (S 1 (-1))) rfl (by omega) (by omega) (v := (T p)) ((hB.2.2.2.2.2.1 p (by omega) (by omega))) (fun r1 => ?_)
  refine wa_istore_n (n := 2) rfl ?_
  refine wa_iload_n (n := 2) rfl ?_
  refine wa_cs (M2 := fun _ => False) rfl at_X_beginsName ⟨_, rfl⟩ rfl rfl ⟨trivial, (Or.inr ⟨wy_pr rfl, fun q => q⟩), trivial, trivial⟩ trivial (fun _ _ q => False.elim q) (xle_ok (S := S) (c := (T p)) ⟨by omega, by omega⟩) (fun oq3 Sq3 hp4 q3 => ?_)
  rcases q3 with ⟨rfl, ⟨rfl, hl2⟩ | ⟨rfl, hl2⟩⟩
  · skip
    show wJ _ _ _ _ _ _ _ _ _ _
    refine wa_ifeq (w_rg0 (by omega) (by omega)) ⟨_, rfl⟩ (fun c5 => ?_) (fun c5 => ?_)
    · skip
      exact absurd c5 (by omega)
    · skip
      refine wa_aload_n (n := 0) rfl ?_
      refine wa_iload_n (n := 1) rfl ?_
      refine wa_cv 14 rfl (wy_pr rfl) wt_14 (M2 := mS [15, 16, 17, 75, 76, 77, 78, 79, 80]) rfl at_XR_addName ⟨_, rfl⟩ rfl rfl ⟨trivial, (Or.inr ⟨wy_pr rfl, mS_no rfl⟩), trivial, trivial⟩ trivial (fun _ _ q => q) (xn_74 hB h7 h8 hI hW hL hR hb hp hl2) (fun oq8 Sq8 hp9 q8 => ?_)
      rcases q8 with ⟨e7, rfl, hz6⟩
      show wJ _ _ _ _ _ _ _ _ _ _
      have hhhz6 := hz6
      refine wa_ireturn rfl ?_
      exact ⟨e7, rfl, by assumption⟩
  · skip
    show wJ _ _ _ _ _ _ _ _ _ _
    refine wa_ifeq (w_rg0 (by omega) (by omega)) ⟨_, rfl⟩ (fun c10 => ?_) (fun c10 => ?_)
    · skip
      refine wa_iload_n (n := 2) rfl ?_
      refine wa_cs (M2 := fun _ => False) rfl at_X_isDigit ⟨_, rfl⟩ rfl rfl ⟨trivial, (Or.inr ⟨wy_pr rfl, fun q => q⟩), trivial, trivial⟩ trivial (fun _ _ q => False.elim q) (xdi_ok (S := S) (c := (T p)) ⟨by omega, by omega⟩) (fun oq12 Sq12 hp13 q12 => ?_)
      rcases q12 with ⟨rfl, ⟨rfl, hd11⟩ | ⟨rfl, hd11⟩⟩
      · skip
        show wJ _ _ _ _ _ _ _ _ _ _
        refine wa_ifeq (w_rg0 (by omega) (by omega)) ⟨_, rfl⟩ (fun c14 => ?_) (fun c14 => ?_)
        · skip
          exact absurd c14 (by omega)
        · skip
          refine wa_aload_n (n := 0) rfl ?_
          refine wa_iload_n (n := 1) rfl ?_
          refine wa_cv 14 rfl (wy_pr rfl) wt_14 (M2 := mS [15, 16, 17, 75, 76, 77, 78, 79, 80]) rfl at_XR_addNumber ⟨_, rfl⟩ rfl rfl ⟨trivial, (Or.inr ⟨wy_pr rfl, mS_no rfl⟩), trivial, trivial⟩ trivial (fun _ _ q => q) (xu_74 hB h7 h8 hI hW hL hR hb hp hl2 hd11) (fun oq17 Sq17 hp18 q17 => ?_)
          rcases q17 with ⟨e16, rfl, hz15⟩
          show wJ _ _ _ _ _ _ _ _ _ _
          have hhhz15 := hz15
          refine wa_ireturn rfl ?_
          exact ⟨e16, rfl, by assumption⟩
      · skip
        show wJ _ _ _ _ _ _ _ _ _ _
        refine wa_ifeq (w_rg0 (by omega) (by omega)) ⟨_, rfl⟩ (fun c19 => ?_) (fun c19 => ?_)
        · skip
          refine wa_iload_n (n := 2) rfl ?_
          refine wa_bipush (w_rg2 (by omega) (by omega)) ?_
          refine wa_icmpne (w_rg0 (by omega) (by omega)) (w_rg0 (by omega) (by omega)) ⟨_, rfl⟩ (fun c20 => ?_) (fun c20 => ?_)
          · skip
            refine wa_aload_n (n := 0) rfl ?_
            refine wa_iload_n (n := 1) rfl ?_
            refine wa_cv 14 rfl (wy_pr rfl) wt_14 (M2 := mS [15, 16, 17, 75, 76, 77, 78, 79, 80]) rfl at_XR_addSign ⟨_, rfl⟩ rfl rfl ⟨trivial, (Or.inr ⟨wy_pr rfl, mS_no rfl⟩), trivial, trivial⟩ trivial (fun _ _ q => q) (hA _ _ _ _ _ hB h7 h8 hI hW hL hR hb hp hl2 hd11 (by omega)) (fun oq23 Sq23 hp24 q23 => ?_)
            rcases q23 with ⟨e22, rfl, hz21⟩
            show wJ _ _ _ _ _ _ _ _ _ _
            have hhhz21 := hz21
            refine wa_fall ⟨_, rfl⟩ ?_
            refine wa_ireturn rfl ?_
            exact ⟨e22, rfl, by assumption⟩
          · skip
            refine wa_aload_n (n := 0) rfl ?_
            refine wa_iload_n (n := 1) rfl ?_
            refine wa_cv 14 rfl (wy_pr rfl) wt_14 (M2 := mS [15, 16, 17, 75, 76, 77, 78, 79, 80]) rfl at_XR_addText ⟨_, rfl⟩ rfl rfl ⟨trivial, (Or.inr ⟨wy_pr rfl, mS_no rfl⟩), trivial, trivial⟩ trivial (fun _ _ q => q) (xt_74 hB h7 h8 hI hW hL hR hb hp h18 (by omega)) (fun oq27 Sq27 hp28 q27 => ?_)
            rcases q27 with ⟨e26, rfl, hz25⟩
            show wJ _ _ _ _ _ _ _ _ _ _
            have hhhz25 := hz25
            refine wa_goto ⟨_, rfl⟩ ?_
            refine wa_ireturn rfl ?_
            exact ⟨e26, rfl, by assumption⟩
        · skip
          exact absurd c19 (by omega)
    · skip
      exact absurd c10 (by omega)
theorem xu_163 {p : Int} (hB : rd_B T n S) (h7 : S 14 7 = 163) (h8 : S 14 8 = 1) (hI : gI S) (hW : wd_at S 163 64) (hL : wd_L S 163 64) (hR : rd_L S) (hb : rb_I 163 S) (hp : 0 ≤ p ∧ p < n) (hle : lx_le (T p) = false) (hdi : lx_di (T p) = true) : wJ (pe_GA xs) wY0 (mS [15, 16, 17, 164, 165, 166, 167, 168, 169]) (d + 6) t_XR_addNumber ((pe_at t_XR_addNumber.bl 0).getD (0, [])).2 [(0, (2, 14)), (1, (0, p))] [] S (fun o Z => ∃ e : Int, o = .inl (some (0, e)) ∧ ht_ok 163 64 T n p S Z e) := by
  have hn := hB.2.2.1
  have hn1 := hB.2.2.2.1
  have hn2 := hB.2.2.2.2.1
  have hrm := rmR_rfl S
  have hc0 : 0 ≤ S 163 7 ∧ S 163 7 ≤ S 165 (-1) := hW.1
  have hu0 : 0 ≤ S 163 1 ∧ S 163 1 ≤ S 164 (-1) := hW.2.1
  have hr1 : 0 ≤ S 14 3 := hR.1.1
  have hen : lx_en T n 1 p = (lx_nu T n p ((n - p).toNat + 1) p 0).1 := by unfold lx_en; rw [if_neg (by omega), if_neg (by rw [hle]; decide), if_pos hdi]
  have htk : lx_tk T n 1 p = if (lx_nu T n p ((n - p).toNat + 1) p 0).1 - p ≤ 10 ∧ (lx_nu T n p ((n - p).toNat + 1) p 0).2 ≤ 2147483647 then 2 else 5 := by unfold lx_tk; rw [if_neg (by omega), if_neg (by rw [hle]; decide), if_pos hdi]
  generalize hee : lx_nu T n p ((n - p).toNat + 1) p 0 = eu at hen htk
  obtain ⟨e, u⟩ := eu
  have hen : lx_en T n 1 p = e := hen
  have htk : lx_tk T n 1 p = if e - p ≤ 10 ∧ u ≤ 2147483647 then 2 else 5 := htk
  refine wa_iload_n (n := 1) rfl ?_
  refine wa_istore_n (n := 2) rfl ?_
  refine wa_lconst ?_
  refine wa_lstore_n (n := 3) rfl ?_
  refine wa_fall ⟨_, rfl⟩ ?_
  refine wJ_S (xu_l (d := d + 5) (e := e) (u := u) (p := p) hB (fun hpe hen1 v hv0 hv1 hvu => ?_) ((n - p).toNat + 1) p 0 0 (by omega) (by omega) (by omega) (by omega) hee (fun _ => rfl) ⟨by decide, by rw [show (min (p - p) 10).toNat = 0 by omega]; decide⟩) ⟨rfl, rfl, rfl, rfl, trivial⟩
  refine wa_iload_n (n := 2) rfl ?_
  refine wa_iload_n (n := 1) rfl ?_
  refine wa_isub ?_
  refine wa_bipush (w_rg2 (by omega) (by omega)) ?_
  refine wa_icmpgt (w_rg0 (by omega) (by omega)) (w_rg0 (by omega) (by omega)) ⟨_, rfl⟩ (fun c31 => ?_) (fun c31 => ?_)
  · skip
    refine wa_aload_n (n := 0) rfl ?_
    refine wa_iload_n (n := 1) rfl ?_
    refine wa_cv 14 rfl (wy_pr rfl) wt_14 (M2 := mS [15, 16, 17]) rfl at_XR_addBad ⟨_, rfl⟩ rfl rfl ⟨(Or.inr ⟨wy_pr rfl, mS_no rfl⟩), trivial, trivial, trivial, trivial⟩ trivial (fun _ _ q => mS_sub (by decide) q) ?_ (fun _ _ _ q => q)
    refine wa_aload_n (n := 0) rfl ?_
    refine wa_iconst ?_
    refine wa_iload_n (n := 1) rfl ?_
    refine wa_iconst ?_
    refine wa_cv 14 rfl (wy_pr rfl) wt_14 (M2 := mS [15, 16, 17]) rfl at_XR_add ⟨_, rfl⟩ rfl rfl ⟨(Or.inr ⟨wy_pr rfl, mS_no rfl⟩), trivial, trivial⟩ trivial (fun _ _ q => mS_sub (by decide) q) (ad_ok (S := S) hI ⟨by omega, by omega⟩ ⟨by omega, by omega⟩ ⟨by omega, by omega⟩ hR) (fun oq34 Sq34 hp35 q34 => ?_)
    rcases q34 with ⟨rfl, ad32⟩
    show wJ _ _ _ _ _ _ _ _ _ _
    generalize Sq34 = Z33 at ad32 ⊢
    refine wa_aload_n (n := 0) rfl ?_
    refine wb_gfi 14 rfl (wy_pr rfl) wt_14 wf_6_6 (v := n) (((ad32.2.2.2.1 14 6 (by decide) (by decide) (by decide) (by decide) (by decide) (Or.inr (by decide))).trans (hB.2.1))) (fun r36 => ?_)
    refine wa_ireturn rfl ?_
    show wJ _ _ _ _ _ _ _ _ _ _
    refine wa_ireturn rfl ?_
    have htk5 : lx_tk T n 1 p = 5 := by rw [htk, if_neg (by omega)]
    refine ⟨n, rfl, ht_ad (by decide) (by decide) (by decide) hW hL hR hb ?_ ?_ ?_ (by omega) ad32⟩
    · unfold kh; rw [htk5]; rfl
    · rw [htk5, if_pos rfl]
    · rw [htk5]; decide
  · skip
    refine wa_lload_n (n := 3) rfl ?_
    refine wb_kl (n := 2147483647) rfl ?_
    refine wa_lcmp (w_rg1 (by omega) (by omega)) (w_rg1 (by omega) (by omega)) ?_
    refine wa_ifle (by have := @wb_lcmp_cases; exact w_lcmp_rg) ⟨_, rfl⟩ (fun c37 => ?_) (fun c37 => ?_)
    · skip
      have c37x := @wb_lcmp_cases v 2147483647
      refine wa_aload_n (n := 0) rfl ?_
      refine wa_iconst ?_
      refine wa_iload_n (n := 1) rfl ?_
      refine wa_lload_n (n := 3) rfl ?_
      refine wb_l2i_r (wb_l2i_id ⟨(by omega), (by omega)⟩) ?_
      refine wa_cv 14 rfl (wy_pr rfl) wt_14 (M2 := mS [15, 16, 17]) rfl at_XR_add ⟨_, rfl⟩ rfl rfl ⟨(Or.inr ⟨wy_pr rfl, mS_no rfl⟩), trivial, trivial, trivial, trivial⟩ trivial (fun _ _ q => mS_sub (by decide) q) (ad_ok (S := S) hI ⟨by omega, by omega⟩ ⟨by omega, by omega⟩ ⟨by omega, by omega⟩ hR) (fun oq40 Sq40 hp41 q40 => ?_)
      rcases q40 with ⟨rfl, ad38⟩
      show wJ _ _ _ _ _ _ _ _ _ _
      generalize Sq40 = Z39 at ad38 ⊢
      refine wa_iload_n (n := 2) rfl ?_
      refine wa_ireturn rfl ?_
      have htk2 : lx_tk T n 1 p = 2 := by rw [htk, if_pos (by omega)]
      refine ⟨e, rfl, ht_ad (by decide) (by decide) (by decide) hW hL hR hb ?_ ?_ ?_ (by omega) ad38⟩
      · unfold kh; rw [htk2]; rfl
      · rw [htk2, if_neg (by decide), hen]
      · rw [htk2]; decide
    · skip
      have c37x := @wb_lcmp_cases v 2147483647
      refine wa_fall ⟨_, rfl⟩ ?_
      refine wa_aload_n (n := 0) rfl ?_
      refine wa_iload_n (n := 1) rfl ?_
      refine wa_cv 14 rfl (wy_pr rfl) wt_14 (M2 := mS [15, 16, 17]) rfl at_XR_addBad ⟨_, rfl⟩ rfl rfl ⟨(Or.inr ⟨wy_pr rfl, mS_no rfl⟩), trivial, trivial, trivial, trivial⟩ trivial (fun _ _ q => mS_sub (by decide) q) ?_ (fun _ _ _ q => q)
      refine wa_aload_n (n := 0) rfl ?_
      refine wa_iconst ?_
      refine wa_iload_n (n := 1) rfl ?_
      refine wa_iconst ?_
      refine wa_cv 14 rfl (wy_pr rfl) wt_14 (M2 := mS [15, 16, 17]) rfl at_XR_add ⟨_, rfl⟩ rfl rfl ⟨(Or.inr ⟨wy_pr rfl, mS_no rfl⟩), trivial, trivial⟩ trivial (fun _ _ q => mS_sub (by decide) q) (ad_ok (S := S) hI ⟨by omega, by omega⟩ ⟨by omega, by omega⟩ ⟨by omega, by omega⟩ hR) (fun oq44 Sq44 hp45 q44 => ?_)
      rcases q44 with ⟨rfl, ad42⟩
      show wJ _ _ _ _ _ _ _ _ _ _
      generalize Sq44 = Z43 at ad42 ⊢
      refine wa_aload_n (n := 0) rfl ?_
      refine wb_gfi 14 rfl (wy_pr rfl) wt_14 wf_6_6 (v := n) (((ad42.2.2.2.1 14 6 (by decide) (by decide) (by decide) (by decide) (by decide) (Or.inr (by decide))).trans (hB.2.1))) (fun r46 => ?_)
      refine wa_ireturn rfl ?_
      show wJ _ _ _ _ _ _ _ _ _ _
      refine wa_ireturn rfl ?_
      have htk5 : lx_tk T n 1 p = 5 := by rw [htk, if_neg (by omega)]
      refine ⟨n, rfl, ht_ad (by decide) (by decide) (by decide) hW hL hR hb ?_ ?_ ?_ (by omega) ad42⟩
      · unfold kh; rw [htk5]; rfl
      · rw [htk5, if_pos rfl]
      · rw [htk5]; decide
theorem xt_163 {p : Int} (hB : rd_B T n S) (h7 : S 14 7 = 163) (h8 : S 14 8 = 1) (hI : gI S) (hW : wd_at S 163 64) (hL : wd_L S 163 64) (hR : rd_L S) (hb : rb_I 163 S) (hp : 0 ≤ p ∧ p < n) (h18 : S 18 (-1) = 60) (h34 : T p = 34) : wJ (pe_GA xs) wY0 (mS [15, 16, 17, 164, 165, 166, 167, 168, 169]) (d + 6) t_XR_addText ((pe_at t_XR_addText.bl 0).getD (0, [])).2 [(0, (2, 14)), (1, (0, p))] [] S (fun o Z => ∃ e : Int, o = .inl (some (0, e)) ∧ ht_ok 163 64 T n p S Z e) := by
  have hn := hB.2.2.1
  have hn1 := hB.2.2.2.1
  have hn2 := hB.2.2.2.2.1
  have hrm := rmR_rfl S
  have hc0 : 0 ≤ S 163 7 ∧ S 163 7 ≤ S 165 (-1) := hW.1
  have hu0 : 0 ≤ S 163 1 ∧ S 163 1 ≤ S 164 (-1) := hW.2.1
  have hr1 : 0 ≤ S 14 3 := hR.1.1
  have hle : lx_le (T p) = false := by rw [h34]; decide
  have hdi : lx_di (T p) = false := by rw [h34]; decide
  have hen : lx_en T n 1 p = (lx_tx T n ((n - p).toNat + 1) (p + 1) []).2.1 + 1 := by unfold lx_en; rw [if_neg (by omega), if_neg (by rw [hle]; decide), if_neg (by rw [hdi]; decide), if_pos h34]
  have htk : lx_tk T n 1 p = (lx_tx T n ((n - p).toNat + 1) (p + 1) []).1 := by unfold lx_tk; rw [if_neg (by omega), if_neg (by rw [hle]; decide), if_neg (by rw [hdi]; decide), if_pos h34]
  have hle2 := lx_tx_le T n ((n - p).toNat + 1) (p + 1) [] (by omega)
  generalize hee : lx_tx T n ((n - p).toNat + 1) (p + 1) [] = eu at hen htk hle2
  obtain ⟨tk, e, bs⟩ := eu
  have hen : lx_en T n 1 p = e + 1 := hen
  have htk : lx_tk T n 1 p = tk := htk
  have hle2 : p + 1 ≤ e := hle2.1
  refine wa_iconst ?_
  refine wa_istore_n (n := 2) rfl ?_
  refine wa_iload_n (n := 1) rfl ?_
  refine wa_iconst ?_
  refine wa_iadd ?_
  refine wa_istore_n (n := 3) rfl ?_
  refine wa_fall ⟨_, rfl⟩ ?_
  refine wJ_S (xt_l (d := d + 5) (tk := tk) (e := e) (bs := bs) (p := p) hB h18 (fun ht5 Z l hz => ?_) (fun Z l i hz hl60 hi0 hi => ?_) ((n - p).toNat + 1) (p + 1) [] S (by omega) (by omega) (by omega) (by decide) hee ⟨fun i hi => absurd hi (Nat.not_lt_zero _), fun _ _ _ => rfl⟩) ⟨rfl, rfl, rfl, rfl, trivial⟩
  · skip
    have hx := rx_tx (w := 163) (by decide) (by decide) hW hL hR hI hz
    have hzm := hx.2.2.2.2.2.2.2.2.2.2.2
    have hzI := hx.2.2.2.2.2.2.2.2.2.2.1
    have hzR := hx.2.2.2.2.2.2.2.2.2.1
    have hzL := hx.2.2.2.2.2.2.2.2.1
    have hzW := hx.2.2.2.2.2.2.2.1
    have z3 : Z 14 3 = S 14 3 := hz.2 14 3 (by omega)
    have zw7 : Z 163 7 = S 163 7 := hz.2 163 7 (by omega)
    have zw1 : Z 163 1 = S 163 1 := hz.2 163 1 (by omega)
    have hzb : rb_I 163 Z := by
      show Z 163 7 ≤ 400000 ∧ Z 163 1 ≤ 4000000 ∧ Z 165 (-1) ≤ 1000000 ∧ Z 164 (-1) ≤ 10000000 ∧ Z 14 3 ≤ 400000
      rw [z3, zw7, zw1, hz.2 165 (-1) (by omega), hz.2 164 (-1) (by omega)]; exact hb
    refine wa_aload_n (n := 0) rfl ?_
    refine wa_iload_n (n := 1) rfl ?_
    refine wa_cv 14 rfl (wy_pr rfl) wt_14 (M2 := mS [15, 16, 17]) rfl at_XR_addBad ⟨_, rfl⟩ rfl rfl ⟨(Or.inr ⟨wy_pr rfl, mS_no rfl⟩), trivial, trivial⟩ trivial (fun _ _ q => mS_sub (by decide) q) ?_ (fun _ _ _ q => q)
    refine wa_aload_n (n := 0) rfl ?_
    refine wa_iconst ?_
    refine wa_iload_n (n := 1) rfl ?_
    refine wa_iconst ?_
    refine wa_cv 14 rfl (wy_pr rfl) wt_14 (M2 := mS [15, 16, 17]) rfl at_XR_add ⟨_, rfl⟩ rfl rfl ⟨(Or.inr ⟨wy_pr rfl, mS_no rfl⟩), trivial, trivial⟩ trivial (fun _ _ q => mS_sub (by decide) q) (ad_ok (S := Z) hzI ⟨by omega, by omega⟩ ⟨by omega, by omega⟩ ⟨by omega, by omega⟩ hzR) (fun oq193 Sq193 hp194 q193 => ?_)
    rcases q193 with ⟨rfl, ad191⟩
    show wJ _ _ _ _ _ _ _ _ _ _
    generalize Sq193 = Z192 at ad191 ⊢
    refine wa_aload_n (n := 0) rfl ?_
    refine wb_gfi 14 rfl (wy_pr rfl) wt_14 wf_6_6 (v := n) (((ad191.2.2.2.1 14 6 (by decide) (by decide) (by decide) (by decide) (by decide) (Or.inr (by decide))).trans (((hz.2 14 6 (by omega)).trans hB.2.1)))) (fun r195 => ?_)
    refine wa_ireturn rfl ?_
    show wJ _ _ _ _ _ _ _ _ _ _
    refine wa_ireturn rfl ?_
    refine ⟨n, rfl, ht_tr ⟨hc0.1, hu0.1, hr1⟩ hx z3 zw7 zw1 (ht_ad (by decide) (by decide) (by decide) hzW hzL hzR hzb ?_ ?_ ?_ (by omega) ad191)⟩
    · unfold kh; rw [htk, ht5]; rfl
    · rw [htk, ht5, if_pos rfl]
    · rw [htk, ht5]; decide
  · skip
    have hx := rx_tx (w := 163) (by decide) (by decide) hW hL hR hI hz
    have hzm := hx.2.2.2.2.2.2.2.2.2.2.2
    have hzI := hx.2.2.2.2.2.2.2.2.2.2.1
    have hzR := hx.2.2.2.2.2.2.2.2.2.1
    have hzL := hx.2.2.2.2.2.2.2.2.1
    have hzW := hx.2.2.2.2.2.2.2.1
    have z3 : Z 14 3 = S 14 3 := hz.2 14 3 (by omega)
    have zw7 : Z 163 7 = S 163 7 := hz.2 163 7 (by omega)
    have zw1 : Z 163 1 = S 163 1 := hz.2 163 1 (by omega)
    have hzb : rb_I 163 Z := by
      show Z 163 7 ≤ 400000 ∧ Z 163 1 ≤ 4000000 ∧ Z 165 (-1) ≤ 1000000 ∧ Z 164 (-1) ≤ 10000000 ∧ Z 14 3 ≤ 400000
      rw [z3, zw7, zw1, hz.2 165 (-1) (by omega), hz.2 164 (-1) (by omega)]; exact hb
    have hio : (tk = 5 ∧ i = n) ∨ (tk = 3 ∧ i = e ∧ i < n) := by omega
    refine wa_iload_n (n := 3) rfl ?_
    refine wa_aload_n (n := 0) rfl ?_
    refine wb_gfi 14 rfl (wy_pr rfl) wt_14 wf_6_6 (v := n) (((hz.2 14 6 (by omega)).trans hB.2.1)) (fun r271 => ?_)
    refine wa_icmplt (w_rg0 (by omega) (by omega)) (w_rg0 (by omega) (by omega)) ⟨_, rfl⟩ (fun c272 => ?_) (fun c272 => ?_)
    · skip
      refine wa_aload_n (n := 0) rfl ?_
      refine wb_gfz 14 rfl (wy_pr rfl) wt_14 wf_6_8 (v := 1) (((hz.2 14 8 (by omega)).trans h8)) (fun r273 => ?_)
      refine wa_ifeq (w_rg0 (by omega) (by omega)) ⟨_, rfl⟩ (fun c274 => ?_) (fun c274 => ?_)
      · skip
        exact absurd c274 (by omega)
      · skip
        refine wa_iconst ?_
        refine wa_goto ⟨_, rfl⟩ ?_
        refine wa_istore (n := 4) rfl ?_
        refine wa_aload_n (n := 0) rfl ?_
        refine wa_iload (n := 4) rfl ?_
        refine wa_iconst ?_
        refine wa_icmpne (w_rg0 (by omega) (by omega)) (w_rg0 (by omega) (by omega)) ⟨_, rfl⟩ (fun c275 => ?_) (fun c275 => ?_)
        · skip
          refine wa_iconst ?_
          refine wa_fall ⟨_, rfl⟩ ?_
          refine wa_iload_n (n := 1) rfl ?_
          refine wa_iload (n := 4) rfl ?_
          refine wa_cv 14 rfl (wy_pr rfl) wt_14 (M2 := mS [15, 16, 17]) rfl at_XR_add ⟨_, rfl⟩ rfl rfl ⟨trivial, (Or.inr ⟨wy_pr rfl, mS_no rfl⟩), trivial, trivial, trivial, trivial⟩ trivial (fun _ _ q => mS_sub (by decide) q) (ad_ok (S := Z) hzI ⟨by omega, by omega⟩ ⟨by omega, by omega⟩ ⟨by omega, by omega⟩ hzR) (fun oq278 Sq278 hp279 q278 => ?_)
          rcases q278 with ⟨rfl, ad276⟩
          show wJ _ _ _ _ _ _ _ _ _ _
          generalize Sq278 = Z277 at ad276 ⊢
          refine wa_iload_n (n := 3) rfl ?_
          refine wa_iconst ?_
          refine wa_iadd ?_
          refine wa_ireturn rfl ?_
          have ht3 : tk = 3 ∧ i = e := by omega
          refine ⟨i + 1, rfl, ht_tr ⟨hc0.1, hu0.1, hr1⟩ hx z3 zw7 zw1 (ht_ad (by decide) (by decide) (by decide) hzW hzL hzR hzb ?_ ?_ ?_ (by omega) ad276)⟩
          · unfold kh; rw [htk, ht3.1]; rfl
          · rw [htk, ht3.1, if_neg (by decide), hen, ht3.2]
          · rw [htk, ht3.1]; decide
        · skip
          exact absurd c275 (by omega)
    · skip
      refine wa_aload_n (n := 0) rfl ?_
      refine wa_iload_n (n := 1) rfl ?_
      refine wa_cv 14 rfl (wy_pr rfl) wt_14 (M2 := mS [15, 16, 17]) rfl at_XR_addBad ⟨_, rfl⟩ rfl rfl ⟨(Or.inr ⟨wy_pr rfl, mS_no rfl⟩), trivial, trivial, trivial, trivial⟩ trivial (fun _ _ q => mS_sub (by decide) q) ?_ (fun _ _ _ q => q)
      refine wa_aload_n (n := 0) rfl ?_
      refine wa_iconst ?_
      refine wa_iload_n (n := 1) rfl ?_
      refine wa_iconst ?_
      refine wa_cv 14 rfl (wy_pr rfl) wt_14 (M2 := mS [15, 16, 17]) rfl at_XR_add ⟨_, rfl⟩ rfl rfl ⟨(Or.inr ⟨wy_pr rfl, mS_no rfl⟩), trivial, trivial⟩ trivial (fun _ _ q => mS_sub (by decide) q) (ad_ok (S := Z) hzI ⟨by omega, by omega⟩ ⟨by omega, by omega⟩ ⟨by omega, by omega⟩ hzR) (fun oq282 Sq282 hp283 q282 => ?_)
      rcases q282 with ⟨rfl, ad280⟩
      show wJ _ _ _ _ _ _ _ _ _ _
      generalize Sq282 = Z281 at ad280 ⊢
      refine wa_aload_n (n := 0) rfl ?_
      refine wb_gfi 14 rfl (wy_pr rfl) wt_14 wf_6_6 (v := n) (((ad280.2.2.2.1 14 6 (by decide) (by decide) (by decide) (by decide) (by decide) (Or.inr (by decide))).trans (((hz.2 14 6 (by omega)).trans hB.2.1)))) (fun r284 => ?_)
      refine wa_ireturn rfl ?_
      show wJ _ _ _ _ _ _ _ _ _ _
      refine wa_ireturn rfl ?_
      refine ⟨n, rfl, ht_tr ⟨hc0.1, hu0.1, hr1⟩ hx z3 zw7 zw1 (ht_ad (by decide) (by decide) (by decide) hzW hzL hzR hzb ?_ ?_ ?_ (by omega) ad280)⟩
      · unfold kh; rw [htk, (show tk = 5 by omega)]; rfl
      · rw [htk, (show tk = 5 by omega), if_pos rfl]
      · rw [htk, (show tk = 5 by omega)]; decide
/-- what addSign does on a host's text (its table isn't whole yet: String.indexOf) -/
def as_163 (xs : List (Nat × List Int32)) : Prop := ∀ (d : Nat) (S : wS) (T : Int → Int) (n p : Int), rd_B T n S → S 14 7 = 163 → S 14 8 = 1 → gI S → wd_at S 163 64 → wd_L S 163 64 → rd_L S → rb_I 163 S → (0 ≤ p ∧ p < n) → lx_le (T p) = false → lx_di (T p) = false → T p ≠ 34 → wJ (pe_GA xs) wY0 (mS [15, 16, 17, 164, 165, 166, 167, 168, 169]) (d + 6) t_XR_addSign ((pe_at t_XR_addSign.bl 0).getD (0, [])).2 [(0, (2, 14)), (1, (0, p))] [] S (fun o Z => ∃ e : Int, o = .inl (some (0, e)) ∧ ht_ok 163 64 T n p S Z e)
theorem at_163 {p : Int} (hA : as_163 xs) (hB : rd_B T n S) (h7 : S 14 7 = 163) (h8 : S 14 8 = 1) (hI : gI S) (hW : wd_at S 163 64) (hL : wd_L S 163 64) (hR : rd_L S) (hb : rb_I 163 S) (hp : 0 ≤ p ∧ p < n) (h18 : S 18 (-1) = 60) : wJ (pe_GA xs) wY0 (mS [15, 16, 17, 164, 165, 166, 167, 168, 169]) (d + 7) t_XR_addToken ((pe_at t_XR_addToken.bl 0).getD (0, [])).2 [(0, (2, 14)), (1, (0, p))] [] S (fun o Z => ∃ e : Int, o = .inl (some (0, e)) ∧ ht_ok 163 64 T n p S Z e) := by
  have hn := hB.2.2.1
  have hn1 := hB.2.2.2.1
  have hn2 := hB.2.2.2.2.1
  have hrm := rmR_rfl S
  have hc0 : 0 ≤ S 163 7 ∧ S 163 7 ≤ S 165 (-1) := hW.1
  have hu0 : 0 ≤ S 163 1 ∧ S 163 1 ≤ S 164 (-1) := hW.2.1
  have hr1 : 0 ≤ S 14 3 := hR.1.1
  have hr := hB.2.2.2.2.2.2 p hp.1 hp.2
  refine wa_aload_n (n := 0) rfl ?_
  refine wb_gf6 14 rfl (wy_pr rfl) wt_14 wf_6_5 (v := 1) (hB.1) (by decide) ?_
  refine wa_iload_n (n := 1) rfl ?_
  refine wb_bald 1 rfl (wy_pr rfl) wt_1 (n := (S 1 (-1))) rfl (by omega) (by omega) (v := (T p)) ((hB.2.2.2.2.2.1 p (by omega) (by omega))) (fun r1 => ?_)
  refine wa_istore_n (n := 2) rfl ?_
  refine wa_iload_n (n := 2) rfl ?_
  refine wa_cs (M2 := fun _ => False) rfl at_X_beginsName ⟨_, rfl⟩ rfl rfl ⟨trivial, (Or.inr ⟨wy_pr rfl, fun q => q⟩), trivial, trivial⟩ trivial (fun _ _ q => False.elim q) (xle_ok (S := S) (c := (T p)) ⟨by omega, by omega⟩) (fun oq3 Sq3 hp4 q3 => ?_)
  rcases q3 with ⟨rfl, ⟨rfl, hl2⟩ | ⟨rfl, hl2⟩⟩
  · skip
    show wJ _ _ _ _ _ _ _ _ _ _
    refine wa_ifeq (w_rg0 (by omega) (by omega)) ⟨_, rfl⟩ (fun c5 => ?_) (fun c5 => ?_)
    · skip
      exact absurd c5 (by omega)
    · skip
      refine wa_aload_n (n := 0) rfl ?_
      refine wa_iload_n (n := 1) rfl ?_
      refine wa_cv 14 rfl (wy_pr rfl) wt_14 (M2 := mS [15, 16, 17, 164, 165, 166, 167, 168, 169]) rfl at_XR_addName ⟨_, rfl⟩ rfl rfl ⟨trivial, (Or.inr ⟨wy_pr rfl, mS_no rfl⟩), trivial, trivial⟩ trivial (fun _ _ q => q) (xn_163 hB h7 h8 hI hW hL hR hb hp hl2) (fun oq8 Sq8 hp9 q8 => ?_)
      rcases q8 with ⟨e7, rfl, hz6⟩
      show wJ _ _ _ _ _ _ _ _ _ _
      have hhhz6 := hz6
      refine wa_ireturn rfl ?_
      exact ⟨e7, rfl, by assumption⟩
  · skip
    show wJ _ _ _ _ _ _ _ _ _ _
    refine wa_ifeq (w_rg0 (by omega) (by omega)) ⟨_, rfl⟩ (fun c10 => ?_) (fun c10 => ?_)
    · skip
      refine wa_iload_n (n := 2) rfl ?_
      refine wa_cs (M2 := fun _ => False) rfl at_X_isDigit ⟨_, rfl⟩ rfl rfl ⟨trivial, (Or.inr ⟨wy_pr rfl, fun q => q⟩), trivial, trivial⟩ trivial (fun _ _ q => False.elim q) (xdi_ok (S := S) (c := (T p)) ⟨by omega, by omega⟩) (fun oq12 Sq12 hp13 q12 => ?_)
      rcases q12 with ⟨rfl, ⟨rfl, hd11⟩ | ⟨rfl, hd11⟩⟩
      · skip
        show wJ _ _ _ _ _ _ _ _ _ _
        refine wa_ifeq (w_rg0 (by omega) (by omega)) ⟨_, rfl⟩ (fun c14 => ?_) (fun c14 => ?_)
        · skip
          exact absurd c14 (by omega)
        · skip
          refine wa_aload_n (n := 0) rfl ?_
          refine wa_iload_n (n := 1) rfl ?_
          refine wa_cv 14 rfl (wy_pr rfl) wt_14 (M2 := mS [15, 16, 17, 164, 165, 166, 167, 168, 169]) rfl at_XR_addNumber ⟨_, rfl⟩ rfl rfl ⟨trivial, (Or.inr ⟨wy_pr rfl, mS_no rfl⟩), trivial, trivial⟩ trivial (fun _ _ q => q) (xu_163 hB h7 h8 hI hW hL hR hb hp hl2 hd11) (fun oq17 Sq17 hp18 q17 => ?_)
          rcases q17 with ⟨e16, rfl, hz15⟩
          show wJ _ _ _ _ _ _ _ _ _ _
          have hhhz15 := hz15
          refine wa_ireturn rfl ?_
          exact ⟨e16, rfl, by assumption⟩
      · skip
        show wJ _ _ _ _ _ _ _ _ _ _
        refine wa_ifeq (w_rg0 (by omega) (by omega)) ⟨_, rfl⟩ (fun c19 => ?_) (fun c19 => ?_)
        · skip
          refine wa_iload_n (n := 2) rfl ?_
          refine wa_bipush (w_rg2 (by omega) (by omega)) ?_
          refine wa_icmpne (w_rg0 (by omega) (by omega)) (w_rg0 (by omega) (by omega)) ⟨_, rfl⟩ (fun c20 => ?_) (fun c20 => ?_)
          · skip
            refine wa_aload_n (n := 0) rfl ?_
            refine wa_iload_n (n := 1) rfl ?_
            refine wa_cv 14 rfl (wy_pr rfl) wt_14 (M2 := mS [15, 16, 17, 164, 165, 166, 167, 168, 169]) rfl at_XR_addSign ⟨_, rfl⟩ rfl rfl ⟨trivial, (Or.inr ⟨wy_pr rfl, mS_no rfl⟩), trivial, trivial⟩ trivial (fun _ _ q => q) (hA _ _ _ _ _ hB h7 h8 hI hW hL hR hb hp hl2 hd11 (by omega)) (fun oq23 Sq23 hp24 q23 => ?_)
            rcases q23 with ⟨e22, rfl, hz21⟩
            show wJ _ _ _ _ _ _ _ _ _ _
            have hhhz21 := hz21
            refine wa_fall ⟨_, rfl⟩ ?_
            refine wa_ireturn rfl ?_
            exact ⟨e22, rfl, by assumption⟩
          · skip
            refine wa_aload_n (n := 0) rfl ?_
            refine wa_iload_n (n := 1) rfl ?_
            refine wa_cv 14 rfl (wy_pr rfl) wt_14 (M2 := mS [15, 16, 17, 164, 165, 166, 167, 168, 169]) rfl at_XR_addText ⟨_, rfl⟩ rfl rfl ⟨trivial, (Or.inr ⟨wy_pr rfl, mS_no rfl⟩), trivial, trivial⟩ trivial (fun _ _ q => q) (xt_163 hB h7 h8 hI hW hL hR hb hp h18 (by omega)) (fun oq27 Sq27 hp28 q27 => ?_)
            rcases q27 with ⟨e26, rfl, hz25⟩
            show wJ _ _ _ _ _ _ _ _ _ _
            have hhhz25 := hz25
            refine wa_goto ⟨_, rfl⟩ ?_
            refine wa_ireturn rfl ?_
            exact ⟨e26, rfl, by assumption⟩
        · skip
          exact absurd c19 (by omega)
    · skip
      exact absurd c10 (by omega)
end W9f
