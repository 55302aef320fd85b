/-! PART 79: the reference's readsParameters. -/
section W79
variable {xs : List (Nat × List Int32)} {M : Nat → Prop} {d : Nat} {S A : wS} {Q : wO → wS → Prop} {b : Nat} {p : Int}
theorem lx_tk_lt {T : Int → Int} {n h p : Int} (h0 : lx_tk T n h p ≠ 0) : p < n := by
  unfold lx_tk at h0
  by_cases h1 : n ≤ p
  · rw [if_pos h1] at h0; exact absurd rfl h0
  · omega
theorem lx_en_gt {T : Int → Int} {n h p : Int} (hp : p < n) : p < lx_en T n h p := by
  unfold lx_en
  rw [if_neg (by omega)]
  have hat : lx_at T n p = T p := lx_at_in hp
  by_cases h2 : lx_le (T p) = true
  · rw [if_pos h2, lx_nm_s, if_pos (by rw [hat, h2]; rfl)]
    have := lx_nm_le T n (n - p).toNat (p + 1) (by omega)
    omega
  · rw [if_neg h2]
    by_cases h3 : lx_di (T p) = true
    · rw [if_pos h3, lx_nu_s, if_pos (by rw [hat]; exact h3)]
      have := lx_nu_le T n p (n - p).toNat (p + 1) (if p - p < 11 then 10 * 0 + lx_at T n p - 48 else 0) (by omega)
      omega
    · rw [if_neg h3]
      by_cases h4 : T p = 34
      · rw [if_pos h4]
        have := lx_tx_le T n ((n - p).toNat + 1) (p + 1) [] (by omega)
        omega
      · rw [if_neg h4]
        have := lx_sf_ln (T p) (lx_at T n (p + 1)) (lx_at T n (p + 2)) h
        omega
theorem lx_ne_gt {S : wS} {p : Int} (hI : lx_I S p) (h0 : S 237 6 ≠ 0) (h5 : S 237 6 ≠ 5) : p < lx_ne S p ∧ lx_ne S p ≤ S 237 4 := by
  have h6 := hI.2.2.2.2.1
  have h1 := lx_tk_lt (T := S 239) (n := S 237 4) (h := S 237 5) (p := p) (by rw [← h6]; exact h0)
  have h2 := lx_en_gt (h := S 237 5) (T := S 239) h1
  have h3 := (lx_en_le (T := S 239) (h := S 237 5) hI.2.2.1.2).2.1 (by rw [← h6]; exact h5)
  have h4 := lx_bl_rg (S 239) (S 237 4) ((S 237 4 - lx_en (S 239) (S 237 4) (S 237 5) p).toNat + 1) (lx_en (S 239) (S 237 4) (S 237 5) p) h3
  unfold lx_ne lx_go
  omega
/-- parameters from p on, behind those in l: a fault, or the place behind, the types, whether the last stands for many -/
def pr_f (A : wS) (b : Nat) : Nat → Int → List Int → (Int × Int) ⊕ (Int × List Int × Int)
  | 0, p, _ => .inl (0, p)
  | f + 1, p, l => if zq A p 237 6 = 1 then (if 0 < pl_of (zq A p) tx_27 ∨ 0 ≤ ch_of (zq A p) b then (if l.length < 8 then (match hy_type (zq A p) b p 0 with
    | .inl e => .inl e
    | .inr (t, q) => if lx_is (zq A q) 262 = true then .inr (lx_ne (zq A q) q, l ++ [t], 1) else if lx_is (zq A q) 44 = true then pr_f A b f (lx_ne (zq A q) q) (l ++ [t]) else .inr (q, l ++ [t], 0)) else .inl (5, p)) else .inl (3, p)) else .inl (1, p)
theorem pr_f_s (A : wS) (b f : Nat) (p : Int) (l : List Int) : pr_f A b (f + 1) p l = if zq A p 237 6 = 1 then (if 0 < pl_of (zq A p) tx_27 ∨ 0 ≤ ch_of (zq A p) b then (if l.length < 8 then (match hy_type (zq A p) b p 0 with
    | .inl e => .inl e
    | .inr (t, q) => if lx_is (zq A q) 262 = true then .inr (lx_ne (zq A q) q, l ++ [t], 1) else if lx_is (zq A q) 44 = true then pr_f A b f (lx_ne (zq A q) q) (l ++ [t]) else .inr (q, l ++ [t], 0)) else .inl (5, p)) else .inl (3, p)) else .inl (1, p) := rfl
theorem hy_type_rg {S : wS} {b : Nat} {p av t q : Int} (hn : S b 1 ≤ 60) (h : hy_type S b p av = .inr (t, q)) : 0 ≤ t ∧ t ≤ 201 ∧ q = lx_ne S p ∧ S 237 6 = 1 := by
  have h1 := pl_of_rg S tx_27 (by decide)
  have h2 := ch_of_rg S b hn
  unfold hy_type at h
  by_cases c1 : S 237 6 = 1
  · rw [if_pos c1] at h
    by_cases c2 : pl_of S tx_27 = 0 ∧ av = 0
    · rw [if_pos c2] at h; cases h
    · rw [if_neg c2] at h
      by_cases c3 : 0 ≤ pl_of S tx_27
      · rw [if_pos c3] at h; cases h; exact ⟨c3, h1.2, rfl, c1⟩
      · rw [if_neg c3] at h
        by_cases c4 : 0 ≤ ch_of S b
        · rw [if_pos c4] at h; cases h; exact ⟨by omega, by omega, rfl, c1⟩
        · rw [if_neg c4] at h; cases h
  · rw [if_neg c1] at h; cases h
/-- the rows of the member m hold the types l and the mark v -/
def hm_ps (b : Nat) (m : Int) (Z : wS) (l : List Int) (v : Int) : Prop := Z (b + 15) m = (l.length : Int) ∧ Z (b + 16) m = v ∧ ∀ i : Nat, i < l.length → Z (b + 17) (8 * m + (i : Int)) = l.getD i 0
theorem hm_ps_ag {m v : Int} {Z Z2 : wS} {l : List Int} (hb : b = 241 ∨ b = 261) (h : hm_ps b m Z l v) (hag : lx_ag Z Z2) : hm_ps b m Z2 l v := by
  refine ⟨?_, ?_, fun i hi => ?_⟩
  · rw [hag (b + 15) m (by omega) (by omega)]; exact h.1
  · rw [hag (b + 16) m (by omega) (by omega)]; exact h.2.1
  · rw [hag (b + 17) _ (by omega) (by omega)]; exact h.2.2 i hi
theorem hm_ps_add {m v t : Int} {Z : wS} {l : List Int} (h : hm_ps b m Z l v) : hm_ps b m (w_up (w_up Z (b + 17) (8 * m + (l.length : Int)) t) (b + 15) m ((l.length : Int) + 1)) (l ++ [t]) v := by
  refine ⟨?_, ?_, fun i hi => ?_⟩
  · rw [w_up_same, List.length_append]; rfl
  · rw [w_up_slot (by omega), w_up_slot (by omega)]; exact h.2.1
  · rw [w_up_slot (by omega)]
    rw [List.length_append] at hi
    simp only [List.length_cons, List.length_nil] at hi
    by_cases he : i = l.length
    · subst he
      rw [w_up_same, List.getD_eq_getElem?_getD, List.getElem?_append_right (Nat.le_refl _), Nat.sub_self]; rfl
    · rw [w_up_at (by omega), h.2.2 i (by omega), List.getD_eq_getElem?_getD, List.getD_eq_getElem?_getD, List.getElem?_append_left (by omega)]
theorem pr_3_241 {c m : Int} {r : (Int × Int) ⊕ (Int × List Int × Int)} (hX : w_X xs) (hA15 : A 237 15 = 241) (hAn : ho_nm A 241) (hm : 0 ≤ m ∧ m < 400) (hk : ∀ (Z : wS) (q v : Int) (l : List Int), r = .inr (q, l, v) → hp_ag 241 m A Z → lx_E Z A q → hm_ps 241 m Z l v → l.length ≤ 8 → wJ (pe_GA xs) wY0 M (d + 6) t_M_readsParameters ((pe_at t_M_readsParameters.bl 14).getD (0, [])).2 [(0, (2, 237)), (1, (0, c)), (2, (0, m))] [] Z Q) (hf : ∀ (Z : wS) (e q : Int), r = .inl (e, q) → hp_ag 241 m A Z → Z 238 5 = e → Z 238 6 = q → Q (.inr 238) Z) : ∀ (f : Nat) (p : Int) (l : List Int) (Z : wS), (A 237 4 - p).toNat < f → l.length ≤ 8 → pr_f A 241 f p l = r → hp_ag 241 m A Z → lx_E Z A p → hm_ps 241 m Z l 0 → wJ (pe_GA xs) wY0 M (d + 6) t_M_readsParameters ((pe_at t_M_readsParameters.bl 3).getD (0, [])).2 [(0, (2, 237)), (1, (0, c)), (2, (0, m)), (3, (0, 1))] [] Z Q := by
  intro f
  induction f with
  | zero => intros; omega
  | succ f ih =>
    intro p l Z hfu hl he hag hE hps
    have hMz : w_ML Z := hE.1.1
    have hb15 : Z 237 15 = 241 := (hag 237 15 (by omega) (by omega) (by omega) (by omega)).trans hA15
    have e1 : Z 241 1 = A 241 1 := hag 241 1 (by omega) (by omega) (by omega) (by omega)
    have e9 : Z 250 = A 250 := hp_ag_row hag (by decide)
    have e10 : Z 251 = A 251 := hp_ag_row hag (by decide)
    have hnm : ho_nm Z 241 := by
      unfold ho_nm at hAn ⊢
      rw [e1, show Z (241 + 9) = A (241 + 9) from e9, show Z (241 + 10) = A (241 + 10) from e10]
      exact hAn
    have q15 : Z 256 m = (l.length : Int) := hps.1
    have q6 := lx_E_6 hE
    have qpl := lx_E_pl hE tx_27
    have qch := lx_E_ch (b := 241) hE (by decide) e1 e9 e10
    have qty := lx_E_type (b := 241) hE (by decide) e1 e9 e10 0
    have h7 : Z 237 7 = p := hE.1.2.2.2.1
    rw [pr_f_s, ← q6, ← qpl, ← qch, ← qty] at he
    refine wa_iload_n (n := 3) rfl ?_
    refine wa_ifeq (w_rg0 (by omega) (by omega)) ⟨_, rfl⟩ (fun c1 => ?_) (fun c1 => ?_)
    · skip
      exact absurd c1 (by omega)
    · skip
      refine wa_aload_n (n := 0) rfl ?_
      refine wa_aload_n (n := 0) rfl ?_
      refine wb_gfi 237 rfl (wy_pr rfl) wt_237 wf_15_6 (v := (Z 237 6)) rfl (fun r2 => ?_)
      refine wa_iconst ?_
      refine wa_icmpne (w_rg0 (by omega) (by omega)) (w_rg0 (by omega) (by omega)) ⟨_, rfl⟩ (fun c3 => ?_) (fun c3 => ?_)
      · skip
        refine wa_iconst ?_
        refine wa_fall ⟨_, rfl⟩ ?_
        refine wa_iconst ?_
        refine wa_cv 237 rfl (wy_pr rfl) wt_237 (M2 := fun _ => False) rfl at_M_must ⟨_, rfl⟩ rfl rfl ⟨(Or.inr ⟨wy_pr rfl, fun q => q⟩), trivial, trivial, trivial, trivial⟩ trivial (fun _ _ q => False.elim q) (must_ok (g := 0) (n := 1) (Or.inl rfl) ⟨by omega, by omega⟩) (fun oq5 Sq5 hp6 q5 => ?_)
        rcases q5 with ⟨m4, _, _⟩ | ⟨_, rfl, rfl⟩
        · skip
          exact absurd m4 (by decide)
        · skip
          refine ⟨rfl, ?_⟩
          repeat (first | rw [if_pos (by omega)] at he | rw [if_neg (by omega)] at he)
          exact hf _ _ _ he.symm (hp_ag_hl hag) rfl (by show Z 237 7 = _; exact h7)
      · skip
        refine wa_iconst ?_
        refine wa_goto ⟨_, rfl⟩ ?_
        refine wa_iconst ?_
        refine wa_cv 237 rfl (wy_pr rfl) wt_237 (M2 := fun _ => False) rfl at_M_must ⟨_, rfl⟩ rfl rfl ⟨(Or.inr ⟨wy_pr rfl, fun q => q⟩), trivial, trivial, trivial, trivial⟩ trivial (fun _ _ q => False.elim q) (must_ok (g := 1) (n := 1) (Or.inr rfl) ⟨by omega, by omega⟩) (fun oq8 Sq8 hp9 q8 => ?_)
        rcases q8 with ⟨_, rfl, rfl⟩ | ⟨m7, _, _⟩
        · skip
          show wJ _ _ _ _ _ _ _ _ _ _
          refine wa_aload_n (n := 0) rfl ?_
          refine wa_aload_n (n := 0) rfl ?_
          refine wa_ks ?_
          refine wa_cv 237 rfl (wy_pr rfl) wt_237 (M2 := fun _ => False) rfl at_M_place ⟨_, rfl⟩ rfl rfl ⟨(Or.inr ⟨wy_pr rfl, fun q => q⟩), trivial, trivial, trivial, trivial⟩ ⟨(Or.inr ⟨wy_pr rfl, fun q => q⟩), trivial⟩ (fun _ _ q => False.elim q) (place_ok hE.1.1 (wx_27 hX) (by decide) (by decide) (lx_I_hp hE.1) (by decide)) (fun oq10 Sq10 hp11 q10 => ?_)
          rcases q10 with ⟨rfl, rfl⟩
          show wJ _ _ _ _ _ _ _ _ _ _
          have hpl := pl_of_rg Z tx_27 (by decide)
          refine wa_ifgt (w_rg0 (by omega) (by omega)) ⟨_, rfl⟩ (fun c12 => ?_) (fun c12 => ?_)
          · skip
            refine wa_iconst ?_
            refine wa_goto ⟨_, rfl⟩ ?_
            refine wa_iconst ?_
            refine wa_cv 237 rfl (wy_pr rfl) wt_237 (M2 := fun _ => False) rfl at_M_must ⟨_, rfl⟩ rfl rfl ⟨(Or.inr ⟨wy_pr rfl, fun q => q⟩), trivial, trivial, trivial, trivial⟩ trivial (fun _ _ q => False.elim q) (must_ok (g := 1) (n := 3) (Or.inr rfl) ⟨by omega, by omega⟩) (fun oq14 Sq14 hp15 q14 => ?_)
            rcases q14 with ⟨_, rfl, rfl⟩ | ⟨m13, _, _⟩
            · skip
              show wJ _ _ _ _ _ _ _ _ _ _
              refine wa_aload_n (n := 0) rfl ?_
              refine wa_aload_n (n := 0) rfl ?_
              refine wb_gf5 237 rfl (wy_pr rfl) wt_237 wf_15_15 (v := 241) (hb15) (fun r16 => ?_)
              refine wb_gf4 241 rfl (wy_pr rfl) wt_241 wf_12_16 (v := 256) wl_241_16 ?_
              refine wa_iload_n (n := 2) rfl ?_
              refine wb_iald 256 rfl (wy_pr rfl) wt_256 (n := 400) ((ml_256 hMz)) (by omega) (by omega) (v := (l.length : Int)) (q15) (fun r17 => ?_)
              refine wa_bipush (w_rg2 (by omega) (by omega)) ?_
              refine wa_icmpge (w_rg0 (by omega) (by omega)) (w_rg0 (by omega) (by omega)) ⟨_, rfl⟩ (fun c18 => ?_) (fun c18 => ?_)
              · skip
                refine wa_iconst ?_
                refine wa_fall ⟨_, rfl⟩ ?_
                refine wa_iconst ?_
                refine wa_cv 237 rfl (wy_pr rfl) wt_237 (M2 := fun _ => False) rfl at_M_must ⟨_, rfl⟩ rfl rfl ⟨(Or.inr ⟨wy_pr rfl, fun q => q⟩), trivial, trivial, trivial, trivial⟩ trivial (fun _ _ q => False.elim q) (must_ok (g := 0) (n := 5) (Or.inl rfl) ⟨by omega, by omega⟩) (fun oq20 Sq20 hp21 q20 => ?_)
                rcases q20 with ⟨m19, _, _⟩ | ⟨_, rfl, rfl⟩
                · skip
                  exact absurd m19 (by decide)
                · skip
                  refine ⟨rfl, ?_⟩
                  repeat (first | rw [if_pos (by omega)] at he | rw [if_neg (by omega)] at he)
                  exact hf _ _ _ he.symm (hp_ag_hl hag) rfl (by show Z 237 7 = _; exact h7)
              · skip
                refine wa_iconst ?_
                refine wa_goto ⟨_, rfl⟩ ?_
                refine wa_iconst ?_
                refine wa_cv 237 rfl (wy_pr rfl) wt_237 (M2 := fun _ => False) rfl at_M_must ⟨_, rfl⟩ rfl rfl ⟨(Or.inr ⟨wy_pr rfl, fun q => q⟩), trivial, trivial, trivial, trivial⟩ trivial (fun _ _ q => False.elim q) (must_ok (g := 1) (n := 5) (Or.inr rfl) ⟨by omega, by omega⟩) (fun oq23 Sq23 hp24 q23 => ?_)
                rcases q23 with ⟨_, rfl, rfl⟩ | ⟨m22, _, _⟩
                · skip
                  show wJ _ _ _ _ _ _ _ _ _ _
                  refine wa_aload_n (n := 0) rfl ?_
                  refine wb_gf5 237 rfl (wy_pr rfl) wt_237 wf_15_15 (v := 241) (hb15) (fun r25 => ?_)
                  refine wb_gf4 241 rfl (wy_pr rfl) wt_241 wf_12_18 (v := 258) wl_241_18 ?_
                  refine wa_bipush (w_rg2 (by omega) (by omega)) ?_
                  refine wa_iload_n (n := 2) rfl ?_
                  refine wa_imul ?_
                  refine wa_aload_n (n := 0) rfl ?_
                  refine wb_gf5 237 rfl (wy_pr rfl) wt_237 wf_15_15 (v := 241) (hb15) (fun r26 => ?_)
                  refine wb_gf4 241 rfl (wy_pr rfl) wt_241 wf_12_16 (v := 256) wl_241_16 ?_
                  refine wa_iload_n (n := 2) rfl ?_
                  refine wb_iald 256 rfl (wy_pr rfl) wt_256 (n := 400) ((ml_256 hMz)) (by omega) (by omega) (v := (l.length : Int)) (q15) (fun r27 => ?_)
                  refine wa_iadd ?_
                  refine wa_aload_n (n := 0) rfl ?_
                  refine wa_iconst ?_
                  refine wa_cv 237 rfl (wy_pr rfl) wt_237 (M2 := fun _ => False) rfl at_M_readsType ⟨_, rfl⟩ rfl rfl ⟨(Or.inr ⟨wy_pr rfl, fun q => q⟩), trivial, trivial, trivial, trivial⟩ ⟨trivial, (Or.inr ⟨wy_pr rfl, fun q => q⟩), trivial⟩ (fun _ _ q => False.elim q) (readsType_241 hX hE.1 hb15 hnm (Or.inl rfl) rfl) (fun oq28 Sq28 hp29 q28 => ?_)
                  rcases q28 with ⟨t, q, ty, rfl, a1, a2⟩ | ⟨t, q, ty, rfl, rfl⟩
                  · skip
                    show wJ _ _ _ _ _ _ _ _ _ _
                    have hl8 : l.length < 8 := by omega
                    rw [if_pos (by omega), if_pos (by omega), if_pos hl8, ty] at he
                    obtain ⟨t0, t1, t2, t3⟩ := hy_type_rg (by have := hnm.1; omega) ty
                    replace he : (if lx_is (zq A q) 262 = true then (.inr (lx_ne (zq A q) q, l ++ [t], 1) : (Int × Int) ⊕ (Int × List Int × Int)) else if lx_is (zq A q) 44 = true then pr_f A 241 f (lx_ne (zq A q) q) (l ++ [t]) else .inr (q, l ++ [t], 0)) = r := he
                    have hE2 : lx_E Sq28 A q := lx_E_ag hE a1 a2
                    have hag2 : hp_ag 241 m A Sq28 := hp_ag_lx hag a1
                    have hps2 : hm_ps 241 m Sq28 l 0 := hm_ps_ag (by decide) hps a1
                    have p15 : Sq28 256 m = (l.length : Int) := hps2.1
                    have p16 : Sq28 257 m = 0 := hps2.2.1
                    have p237 : Sq28 237 15 = 241 := (hag2 237 15 (by omega) (by omega) (by omega) (by omega)).trans hA15
                    have hgt := lx_ne_gt hE.1 (by omega) (by omega)
                    have h4 := hE.2.2.1
                    refine wb_iast 258 rfl (wy_pr rfl) wt_258 (n := 3200) ((ml_258 a2.1)) (by omega) (by omega) ⟨(by omega), (by omega)⟩ ?_
                    refine wa_aload_n (n := 0) rfl ?_
                    refine wb_gf5 237 rfl (wy_pr rfl) wt_237 wf_15_15 (v := 241) ((w_up_slot (by decide)).trans (p237)) (fun r130 => ?_)
                    refine wb_gf4 241 rfl (wy_pr rfl) wt_241 wf_12_16 (v := 256) wl_241_16 ?_
                    refine wa_iload_n (n := 2) rfl ?_
                    refine wa_dup2 (by decide) (by decide) ?_
                    refine wb_iald 256 rfl (wy_pr rfl) wt_256 (n := 400) ((w_up_slot (by decide)).trans ((ml_256 a2.1))) (by omega) (by omega) (v := (l.length : Int)) ((w_up_slot (by decide)).trans (p15)) (fun r131 => ?_)
                    refine wa_iconst ?_
                    refine wa_iadd ?_
                    refine wb_iast 256 rfl (wy_pr rfl) wt_256 (n := 400) ((w_up_slot (by decide)).trans ((ml_256 a2.1))) (by omega) (by omega) ⟨(by omega), (by omega)⟩ ?_
                    refine wa_aload_n (n := 0) rfl ?_
                    refine wa_sipush (by omega) ?_
                    refine wa_cv 237 rfl (wy_pr rfl) wt_237 (M2 := fun _ => False) rfl at_M_accepts ⟨_, rfl⟩ rfl rfl ⟨(Or.inr ⟨wy_pr rfl, fun q => q⟩), trivial, trivial, trivial, trivial⟩ trivial (fun _ _ q => False.elim q) (accepts_ok (S := (w_up (w_up Sq28 258 ((8 * m) + (l.length : Int)) t) 256 m ((l.length : Int) + 1))) (lx_E_up (lx_E_up hE2 (by decide) (by omega)) (by decide) (by omega)).1 ⟨by omega, by omega⟩) (fun oq132 Sq132 hp133 q132 => ?_)
                    rcases q132 with ⟨rfl, gd, y1, y2⟩ | ⟨rfl, gd, rfl⟩
                    · skip
                      show wJ _ _ _ _ _ _ _ _ _ _
                      rw [lx_E_is (lx_E_up (lx_E_up hE2 (by decide) (by omega)) (by decide) (by omega))] at gd
                      rw [if_pos gd] at he
                      rw [lx_E_ne (lx_E_up (lx_E_up hE2 (by decide) (by omega)) (by decide) (by omega))] at y2
                      have hE3 : lx_E Sq132 A (lx_ne (zq A q) q) := lx_E_ag (lx_E_up (lx_E_up hE2 (by decide) (by omega)) (by decide) (by omega)) y1 y2
                      have hag3 : hp_ag 241 m A Sq132 := hp_ag_lx (hp_ag_up (hp_ag_up hag2 (by decide) (by omega) (by decide)) (by decide) (by omega) (by decide)) y1
                      have hps3 : hm_ps 241 m Sq132 (l ++ [t]) 0 := hm_ps_ag (by decide) (hm_ps_add hps2) y1
                      have r237 : Sq132 237 15 = 241 := (hag3 237 15 (by omega) (by omega) (by omega) (by omega)).trans hA15
                      refine wa_ifeq (w_rg0 (by omega) (by omega)) ⟨_, rfl⟩ (fun c174 => ?_) (fun c174 => ?_)
                      · skip
                        exact absurd c174 (by omega)
                      · skip
                        refine wa_aload_n (n := 0) rfl ?_
                        refine wb_gf5 237 rfl (wy_pr rfl) wt_237 wf_15_15 (v := 241) (r237) (fun r175 => ?_)
                        refine wb_gf4 241 rfl (wy_pr rfl) wt_241 wf_12_17 (v := 257) wl_241_17 ?_
                        refine wa_iload_n (n := 2) rfl ?_
                        refine wa_iconst ?_
                        refine wb_zast 257 rfl (wy_pr rfl) wt_257 (n := 400) ((ml_257 hE3.1.1)) (by omega) (by omega) ⟨(by omega), (by omega)⟩ ?_
                        refine wa_fall ⟨_, rfl⟩ ?_
                        refine wa_aload_n (n := 0) rfl ?_
                        refine wb_gf5 237 rfl (wy_pr rfl) wt_237 wf_15_15 (v := 241) ((w_up_slot (by decide)).trans (r237)) (fun r176 => ?_)
                        refine wb_gf4 241 rfl (wy_pr rfl) wt_241 wf_12_17 (v := 257) wl_241_17 ?_
                        refine wa_iload_n (n := 2) rfl ?_
                        refine wb_zald 257 rfl (wy_pr rfl) wt_257 (n := 400) ((w_up_at (by omega)).trans ((ml_257 hE3.1.1))) (by omega) (by omega) (v := 1) (w_up_same _ _ _ _) (fun r177 => ?_)
                        refine wa_ifne (w_rg0 (by omega) (by omega)) ⟨_, rfl⟩ (fun c178 => ?_) (fun c178 => ?_)
                        · skip
                          refine wa_iconst ?_
                          refine wa_fall ⟨_, rfl⟩ ?_
                          refine wa_istore_n (n := 3) rfl ?_
                          refine wa_goto ⟨_, rfl⟩ ?_
                          refine wa_iload_n (n := 3) rfl ?_
                          refine wa_ifeq (w_rg0 (by omega) (by omega)) ⟨_, rfl⟩ (fun c179 => ?_) (fun c179 => ?_)
                          · skip
                            exact wJ_S (hk _ _ _ _ he.symm (hp_ag_up hag3 (by decide) (by omega) (by decide)) (lx_E_up hE3 (by decide) (by omega)) ⟨(w_up_slot (by decide)).trans hps3.1, w_up_same _ _ _ _, fun i hi => (w_up_slot (by decide)).trans (hps3.2.2 i hi)⟩ (by rw [List.length_append]; simp only [List.length_cons, List.length_nil]; omega)) ⟨rfl, rfl, rfl, trivial⟩
                          · skip
                            exact absurd c179 (by omega)
                        · skip
                          exact absurd c178 (by omega)
                    · skip
                      show wJ _ _ _ _ _ _ _ _ _ _
                      rw [lx_E_is (lx_E_up (lx_E_up hE2 (by decide) (by omega)) (by decide) (by omega))] at gd
                      refine wa_ifeq (w_rg0 (by omega) (by omega)) ⟨_, rfl⟩ (fun c134 => ?_) (fun c134 => ?_)
                      · skip
                        refine wa_aload_n (n := 0) rfl ?_
                        refine wb_gf5 237 rfl (wy_pr rfl) wt_237 wf_15_15 (v := 241) ((w_up_slot (by decide)).trans ((w_up_slot (by decide)).trans (p237))) (fun r135 => ?_)
                        refine wb_gf4 241 rfl (wy_pr rfl) wt_241 wf_12_17 (v := 257) wl_241_17 ?_
                        refine wa_iload_n (n := 2) rfl ?_
                        refine wb_zald 257 rfl (wy_pr rfl) wt_257 (n := 400) ((w_up_slot (by decide)).trans ((w_up_slot (by decide)).trans ((ml_257 a2.1)))) (by omega) (by omega) (v := 0) ((w_up_slot (by decide)).trans ((w_up_slot (by decide)).trans (p16))) (fun r136 => ?_)
                        refine wa_ifne (w_rg0 (by omega) (by omega)) ⟨_, rfl⟩ (fun c137 => ?_) (fun c137 => ?_)
                        · skip
                          exact absurd c137 (by omega)
                        · skip
                          refine wa_aload_n (n := 0) rfl ?_
                          refine wa_bipush (w_rg2 (by omega) (by omega)) ?_
                          refine wa_cv 237 rfl (wy_pr rfl) wt_237 (M2 := fun _ => False) rfl at_M_accepts ⟨_, rfl⟩ rfl rfl ⟨(Or.inr ⟨wy_pr rfl, fun q => q⟩), trivial, trivial, trivial, trivial⟩ trivial (fun _ _ q => False.elim q) (accepts_ok (S := (w_up (w_up Sq28 258 ((8 * m) + (l.length : Int)) t) 256 m ((l.length : Int) + 1))) (lx_E_up (lx_E_up hE2 (by decide) (by omega)) (by decide) (by omega)).1 ⟨by omega, by omega⟩) (fun oq138 Sq138 hp139 q138 => ?_)
                          rcases q138 with ⟨rfl, gk, y1, y2⟩ | ⟨rfl, gk, rfl⟩
                          · skip
                            show wJ _ _ _ _ _ _ _ _ _ _
                            rw [lx_E_is (lx_E_up (lx_E_up hE2 (by decide) (by omega)) (by decide) (by omega))] at gk
                            rw [if_neg (by rw [gd]; decide), if_pos gk] at he
                            have gx := lx_is4 (show lx_is (w_up (w_up Sq28 258 ((8 * m) + (l.length : Int)) t) 256 m ((l.length : Int) + 1)) 44 = true by rw [lx_E_is (lx_E_up (lx_E_up hE2 (by decide) (by omega)) (by decide) (by omega))]; exact gk)
                            have hEu : lx_E (w_up (w_up Sq28 258 ((8 * m) + (l.length : Int)) t) 256 m ((l.length : Int) + 1)) A q := (lx_E_up (lx_E_up hE2 (by decide) (by omega)) (by decide) (by omega))
                            have hgt2 := lx_ne_gt hEu.1 (by rw [gx.1]; decide) (by rw [gx.1]; decide)
                            rw [lx_E_ne hEu, hEu.2.2.1] at hgt2
                            rw [lx_E_ne (lx_E_up (lx_E_up hE2 (by decide) (by omega)) (by decide) (by omega))] at y2
                            refine wa_ifeq (w_rg0 (by omega) (by omega)) ⟨_, rfl⟩ (fun c180 => ?_) (fun c180 => ?_)
                            · skip
                              exact absurd c180 (by omega)
                            · skip
                              refine wa_iconst ?_
                              refine wa_goto ⟨_, rfl⟩ ?_
                              refine wa_istore_n (n := 3) rfl ?_
                              refine wa_goto ⟨_, rfl⟩ ?_
                              exact wJ_S (ih _ _ _ (by omega) (by rw [List.length_append]; simp only [List.length_cons, List.length_nil]; omega) he (hp_ag_lx (hp_ag_up (hp_ag_up hag2 (by decide) (by omega) (by decide)) (by decide) (by omega) (by decide)) y1) (lx_E_ag (lx_E_up (lx_E_up hE2 (by decide) (by omega)) (by decide) (by omega)) y1 y2) (hm_ps_ag (by decide) (hm_ps_add hps2) y1)) ⟨rfl, rfl, rfl, rfl, trivial⟩
                          · skip
                            show wJ _ _ _ _ _ _ _ _ _ _
                            rw [lx_E_is (lx_E_up (lx_E_up hE2 (by decide) (by omega)) (by decide) (by omega))] at gk
                            rw [if_neg (by rw [gd]; decide), if_neg (by rw [gk]; decide)] at he
                            refine wa_ifeq (w_rg0 (by omega) (by omega)) ⟨_, rfl⟩ (fun c180 => ?_) (fun c180 => ?_)
                            · skip
                              refine wa_iconst ?_
                              refine wa_fall ⟨_, rfl⟩ ?_
                              refine wa_istore_n (n := 3) rfl ?_
                              refine wa_goto ⟨_, rfl⟩ ?_
                              refine wa_iload_n (n := 3) rfl ?_
                              refine wa_ifeq (w_rg0 (by omega) (by omega)) ⟨_, rfl⟩ (fun c181 => ?_) (fun c181 => ?_)
                              · skip
                                exact wJ_S (hk _ _ _ _ he.symm (hp_ag_up (hp_ag_up hag2 (by decide) (by omega) (by decide)) (by decide) (by omega) (by decide)) (lx_E_up (lx_E_up hE2 (by decide) (by omega)) (by decide) (by omega)) (hm_ps_add hps2) (by rw [List.length_append]; simp only [List.length_cons, List.length_nil]; omega)) ⟨rfl, rfl, rfl, trivial⟩
                              · skip
                                exact absurd c181 (by omega)
                            · skip
                              exact absurd c180 (by omega)
                      · skip
                        exact absurd c134 (by omega)
                  · skip
                    rw [if_pos (by omega), if_pos (by omega), if_pos (show l.length < 8 by omega), ty] at he
                    refine ⟨rfl, ?_⟩
                    exact hf _ _ _ he.symm (hp_ag_hl hag) rfl rfl
                · skip
                  exact absurd m22 (by decide)
            · skip
              exact absurd m13 (by decide)
          · skip
            refine wa_aload_n (n := 0) rfl ?_
            refine wa_cv 237 rfl (wy_pr rfl) wt_237 (M2 := fun _ => False) rfl at_M_classHere ⟨_, rfl⟩ rfl rfl ⟨(Or.inr ⟨wy_pr rfl, fun q => q⟩), trivial, trivial, trivial, trivial⟩ ⟨(Or.inr ⟨wy_pr rfl, fun q => q⟩), trivial⟩ (fun _ _ q => False.elim q) (classHere_241 hE.1.1 hb15 hnm (lx_I_hp hE.1)) (fun oq30 Sq30 hp31 q30 => ?_)
            rcases q30 with ⟨rfl, rfl⟩
            show wJ _ _ _ _ _ _ _ _ _ _
            have hch := ch_of_rg Z 241 (hnm).1.2
            refine wa_iflt (w_rg0 (by omega) (by omega)) ⟨_, rfl⟩ (fun c32 => ?_) (fun c32 => ?_)
            · skip
              refine wa_iconst ?_
              refine wa_fall ⟨_, rfl⟩ ?_
              refine wa_iconst ?_
              refine wa_cv 237 rfl (wy_pr rfl) wt_237 (M2 := fun _ => False) rfl at_M_must ⟨_, rfl⟩ rfl rfl ⟨(Or.inr ⟨wy_pr rfl, fun q => q⟩), trivial, trivial, trivial, trivial⟩ trivial (fun _ _ q => False.elim q) (must_ok (g := 0) (n := 3) (Or.inl rfl) ⟨by omega, by omega⟩) (fun oq34 Sq34 hp35 q34 => ?_)
              rcases q34 with ⟨m33, _, _⟩ | ⟨_, rfl, rfl⟩
              · skip
                exact absurd m33 (by decide)
              · skip
                refine ⟨rfl, ?_⟩
                repeat (first | rw [if_pos (by omega)] at he | rw [if_neg (by omega)] at he)
                exact hf _ _ _ he.symm (hp_ag_hl hag) rfl (by show Z 237 7 = _; exact h7)
            · skip
              refine wa_fall ⟨_, rfl⟩ ?_
              refine wa_iconst ?_
              refine wa_goto ⟨_, rfl⟩ ?_
              refine wa_iconst ?_
              refine wa_cv 237 rfl (wy_pr rfl) wt_237 (M2 := fun _ => False) rfl at_M_must ⟨_, rfl⟩ rfl rfl ⟨(Or.inr ⟨wy_pr rfl, fun q => q⟩), trivial, trivial, trivial, trivial⟩ trivial (fun _ _ q => False.elim q) (must_ok (g := 1) (n := 3) (Or.inr rfl) ⟨by omega, by omega⟩) (fun oq37 Sq37 hp38 q37 => ?_)
              rcases q37 with ⟨_, rfl, rfl⟩ | ⟨m36, _, _⟩
              · skip
                show wJ _ _ _ _ _ _ _ _ _ _
                refine wa_aload_n (n := 0) rfl ?_
                refine wa_aload_n (n := 0) rfl ?_
                refine wb_gf5 237 rfl (wy_pr rfl) wt_237 wf_15_15 (v := 241) (hb15) (fun r39 => ?_)
                refine wb_gf4 241 rfl (wy_pr rfl) wt_241 wf_12_16 (v := 256) wl_241_16 ?_
                refine wa_iload_n (n := 2) rfl ?_
                refine wb_iald 256 rfl (wy_pr rfl) wt_256 (n := 400) ((ml_256 hMz)) (by omega) (by omega) (v := (l.length : Int)) (q15) (fun r40 => ?_)
                refine wa_bipush (w_rg2 (by omega) (by omega)) ?_
                refine wa_icmpge (w_rg0 (by omega) (by omega)) (w_rg0 (by omega) (by omega)) ⟨_, rfl⟩ (fun c41 => ?_) (fun c41 => ?_)
                · skip
                  refine wa_iconst ?_
                  refine wa_fall ⟨_, rfl⟩ ?_
                  refine wa_iconst ?_
                  refine wa_cv 237 rfl (wy_pr rfl) wt_237 (M2 := fun _ => False) rfl at_M_must ⟨_, rfl⟩ rfl rfl ⟨(Or.inr ⟨wy_pr rfl, fun q => q⟩), trivial, trivial, trivial, trivial⟩ trivial (fun _ _ q => False.elim q) (must_ok (g := 0) (n := 5) (Or.inl rfl) ⟨by omega, by omega⟩) (fun oq43 Sq43 hp44 q43 => ?_)
                  rcases q43 with ⟨m42, _, _⟩ | ⟨_, rfl, rfl⟩
                  · skip
                    exact absurd m42 (by decide)
                  · skip
                    refine ⟨rfl, ?_⟩
                    repeat (first | rw [if_pos (by omega)] at he | rw [if_neg (by omega)] at he)
                    exact hf _ _ _ he.symm (hp_ag_hl hag) rfl (by show Z 237 7 = _; exact h7)
                · skip
                  refine wa_iconst ?_
                  refine wa_goto ⟨_, rfl⟩ ?_
                  refine wa_iconst ?_
                  refine wa_cv 237 rfl (wy_pr rfl) wt_237 (M2 := fun _ => False) rfl at_M_must ⟨_, rfl⟩ rfl rfl ⟨(Or.inr ⟨wy_pr rfl, fun q => q⟩), trivial, trivial, trivial, trivial⟩ trivial (fun _ _ q => False.elim q) (must_ok (g := 1) (n := 5) (Or.inr rfl) ⟨by omega, by omega⟩) (fun oq46 Sq46 hp47 q46 => ?_)
                  rcases q46 with ⟨_, rfl, rfl⟩ | ⟨m45, _, _⟩
                  · skip
                    show wJ _ _ _ _ _ _ _ _ _ _
                    refine wa_aload_n (n := 0) rfl ?_
                    refine wb_gf5 237 rfl (wy_pr rfl) wt_237 wf_15_15 (v := 241) (hb15) (fun r48 => ?_)
                    refine wb_gf4 241 rfl (wy_pr rfl) wt_241 wf_12_18 (v := 258) wl_241_18 ?_
                    refine wa_bipush (w_rg2 (by omega) (by omega)) ?_
                    refine wa_iload_n (n := 2) rfl ?_
                    refine wa_imul ?_
                    refine wa_aload_n (n := 0) rfl ?_
                    refine wb_gf5 237 rfl (wy_pr rfl) wt_237 wf_15_15 (v := 241) (hb15) (fun r49 => ?_)
                    refine wb_gf4 241 rfl (wy_pr rfl) wt_241 wf_12_16 (v := 256) wl_241_16 ?_
                    refine wa_iload_n (n := 2) rfl ?_
                    refine wb_iald 256 rfl (wy_pr rfl) wt_256 (n := 400) ((ml_256 hMz)) (by omega) (by omega) (v := (l.length : Int)) (q15) (fun r50 => ?_)
                    refine wa_iadd ?_
                    refine wa_aload_n (n := 0) rfl ?_
                    refine wa_iconst ?_
                    refine wa_cv 237 rfl (wy_pr rfl) wt_237 (M2 := fun _ => False) rfl at_M_readsType ⟨_, rfl⟩ rfl rfl ⟨(Or.inr ⟨wy_pr rfl, fun q => q⟩), trivial, trivial, trivial, trivial⟩ ⟨trivial, (Or.inr ⟨wy_pr rfl, fun q => q⟩), trivial⟩ (fun _ _ q => False.elim q) (readsType_241 hX hE.1 hb15 hnm (Or.inl rfl) rfl) (fun oq51 Sq51 hp52 q51 => ?_)
                    rcases q51 with ⟨t, q, ty, rfl, a1, a2⟩ | ⟨t, q, ty, rfl, rfl⟩
                    · skip
                      show wJ _ _ _ _ _ _ _ _ _ _
                      have hl8 : l.length < 8 := by omega
                      rw [if_pos (by omega), if_pos (by omega), if_pos hl8, ty] at he
                      obtain ⟨t0, t1, t2, t3⟩ := hy_type_rg (by have := hnm.1; omega) ty
                      replace he : (if lx_is (zq A q) 262 = true then (.inr (lx_ne (zq A q) q, l ++ [t], 1) : (Int × Int) ⊕ (Int × List Int × Int)) else if lx_is (zq A q) 44 = true then pr_f A 241 f (lx_ne (zq A q) q) (l ++ [t]) else .inr (q, l ++ [t], 0)) = r := he
                      have hE2 : lx_E Sq51 A q := lx_E_ag hE a1 a2
                      have hag2 : hp_ag 241 m A Sq51 := hp_ag_lx hag a1
                      have hps2 : hm_ps 241 m Sq51 l 0 := hm_ps_ag (by decide) hps a1
                      have p15 : Sq51 256 m = (l.length : Int) := hps2.1
                      have p16 : Sq51 257 m = 0 := hps2.2.1
                      have p237 : Sq51 237 15 = 241 := (hag2 237 15 (by omega) (by omega) (by omega) (by omega)).trans hA15
                      have hgt := lx_ne_gt hE.1 (by omega) (by omega)
                      have h4 := hE.2.2.1
                      refine wb_iast 258 rfl (wy_pr rfl) wt_258 (n := 3200) ((ml_258 a2.1)) (by omega) (by omega) ⟨(by omega), (by omega)⟩ ?_
                      refine wa_aload_n (n := 0) rfl ?_
                      refine wb_gf5 237 rfl (wy_pr rfl) wt_237 wf_15_15 (v := 241) ((w_up_slot (by decide)).trans (p237)) (fun r153 => ?_)
                      refine wb_gf4 241 rfl (wy_pr rfl) wt_241 wf_12_16 (v := 256) wl_241_16 ?_
                      refine wa_iload_n (n := 2) rfl ?_
                      refine wa_dup2 (by decide) (by decide) ?_
                      refine wb_iald 256 rfl (wy_pr rfl) wt_256 (n := 400) ((w_up_slot (by decide)).trans ((ml_256 a2.1))) (by omega) (by omega) (v := (l.length : Int)) ((w_up_slot (by decide)).trans (p15)) (fun r154 => ?_)
                      refine wa_iconst ?_
                      refine wa_iadd ?_
                      refine wb_iast 256 rfl (wy_pr rfl) wt_256 (n := 400) ((w_up_slot (by decide)).trans ((ml_256 a2.1))) (by omega) (by omega) ⟨(by omega), (by omega)⟩ ?_
                      refine wa_aload_n (n := 0) rfl ?_
                      refine wa_sipush (by omega) ?_
                      refine wa_cv 237 rfl (wy_pr rfl) wt_237 (M2 := fun _ => False) rfl at_M_accepts ⟨_, rfl⟩ rfl rfl ⟨(Or.inr ⟨wy_pr rfl, fun q => q⟩), trivial, trivial, trivial, trivial⟩ trivial (fun _ _ q => False.elim q) (accepts_ok (S := (w_up (w_up Sq51 258 ((8 * m) + (l.length : Int)) t) 256 m ((l.length : Int) + 1))) (lx_E_up (lx_E_up hE2 (by decide) (by omega)) (by decide) (by omega)).1 ⟨by omega, by omega⟩) (fun oq155 Sq155 hp156 q155 => ?_)
                      rcases q155 with ⟨rfl, gd, y1, y2⟩ | ⟨rfl, gd, rfl⟩
                      · skip
                        show wJ _ _ _ _ _ _ _ _ _ _
                        rw [lx_E_is (lx_E_up (lx_E_up hE2 (by decide) (by omega)) (by decide) (by omega))] at gd
                        rw [if_pos gd] at he
                        rw [lx_E_ne (lx_E_up (lx_E_up hE2 (by decide) (by omega)) (by decide) (by omega))] at y2
                        have hE3 : lx_E Sq155 A (lx_ne (zq A q) q) := lx_E_ag (lx_E_up (lx_E_up hE2 (by decide) (by omega)) (by decide) (by omega)) y1 y2
                        have hag3 : hp_ag 241 m A Sq155 := hp_ag_lx (hp_ag_up (hp_ag_up hag2 (by decide) (by omega) (by decide)) (by decide) (by omega) (by decide)) y1
                        have hps3 : hm_ps 241 m Sq155 (l ++ [t]) 0 := hm_ps_ag (by decide) (hm_ps_add hps2) y1
                        have r237 : Sq155 237 15 = 241 := (hag3 237 15 (by omega) (by omega) (by omega) (by omega)).trans hA15
                        refine wa_ifeq (w_rg0 (by omega) (by omega)) ⟨_, rfl⟩ (fun c197 => ?_) (fun c197 => ?_)
                        · skip
                          exact absurd c197 (by omega)
                        · skip
                          refine wa_aload_n (n := 0) rfl ?_
                          refine wb_gf5 237 rfl (wy_pr rfl) wt_237 wf_15_15 (v := 241) (r237) (fun r198 => ?_)
                          refine wb_gf4 241 rfl (wy_pr rfl) wt_241 wf_12_17 (v := 257) wl_241_17 ?_
                          refine wa_iload_n (n := 2) rfl ?_
                          refine wa_iconst ?_
                          refine wb_zast 257 rfl (wy_pr rfl) wt_257 (n := 400) ((ml_257 hE3.1.1)) (by omega) (by omega) ⟨(by omega), (by omega)⟩ ?_
                          refine wa_fall ⟨_, rfl⟩ ?_
                          refine wa_aload_n (n := 0) rfl ?_
                          refine wb_gf5 237 rfl (wy_pr rfl) wt_237 wf_15_15 (v := 241) ((w_up_slot (by decide)).trans (r237)) (fun r199 => ?_)
                          refine wb_gf4 241 rfl (wy_pr rfl) wt_241 wf_12_17 (v := 257) wl_241_17 ?_
                          refine wa_iload_n (n := 2) rfl ?_
                          refine wb_zald 257 rfl (wy_pr rfl) wt_257 (n := 400) ((w_up_at (by omega)).trans ((ml_257 hE3.1.1))) (by omega) (by omega) (v := 1) (w_up_same _ _ _ _) (fun r200 => ?_)
                          refine wa_ifne (w_rg0 (by omega) (by omega)) ⟨_, rfl⟩ (fun c201 => ?_) (fun c201 => ?_)
                          · skip
                            refine wa_iconst ?_
                            refine wa_fall ⟨_, rfl⟩ ?_
                            refine wa_istore_n (n := 3) rfl ?_
                            refine wa_goto ⟨_, rfl⟩ ?_
                            refine wa_iload_n (n := 3) rfl ?_
                            refine wa_ifeq (w_rg0 (by omega) (by omega)) ⟨_, rfl⟩ (fun c202 => ?_) (fun c202 => ?_)
                            · skip
                              exact wJ_S (hk _ _ _ _ he.symm (hp_ag_up hag3 (by decide) (by omega) (by decide)) (lx_E_up hE3 (by decide) (by omega)) ⟨(w_up_slot (by decide)).trans hps3.1, w_up_same _ _ _ _, fun i hi => (w_up_slot (by decide)).trans (hps3.2.2 i hi)⟩ (by rw [List.length_append]; simp only [List.length_cons, List.length_nil]; omega)) ⟨rfl, rfl, rfl, trivial⟩
                            · skip
                              exact absurd c202 (by omega)
                          · skip
                            exact absurd c201 (by omega)
                      · skip
                        show wJ _ _ _ _ _ _ _ _ _ _
                        rw [lx_E_is (lx_E_up (lx_E_up hE2 (by decide) (by omega)) (by decide) (by omega))] at gd
                        refine wa_ifeq (w_rg0 (by omega) (by omega)) ⟨_, rfl⟩ (fun c157 => ?_) (fun c157 => ?_)
                        · skip
                          refine wa_aload_n (n := 0) rfl ?_
                          refine wb_gf5 237 rfl (wy_pr rfl) wt_237 wf_15_15 (v := 241) ((w_up_slot (by decide)).trans ((w_up_slot (by decide)).trans (p237))) (fun r158 => ?_)
                          refine wb_gf4 241 rfl (wy_pr rfl) wt_241 wf_12_17 (v := 257) wl_241_17 ?_
                          refine wa_iload_n (n := 2) rfl ?_
                          refine wb_zald 257 rfl (wy_pr rfl) wt_257 (n := 400) ((w_up_slot (by decide)).trans ((w_up_slot (by decide)).trans ((ml_257 a2.1)))) (by omega) (by omega) (v := 0) ((w_up_slot (by decide)).trans ((w_up_slot (by decide)).trans (p16))) (fun r159 => ?_)
                          refine wa_ifne (w_rg0 (by omega) (by omega)) ⟨_, rfl⟩ (fun c160 => ?_) (fun c160 => ?_)
                          · skip
                            exact absurd c160 (by omega)
                          · skip
                            refine wa_aload_n (n := 0) rfl ?_
                            refine wa_bipush (w_rg2 (by omega) (by omega)) ?_
                            refine wa_cv 237 rfl (wy_pr rfl) wt_237 (M2 := fun _ => False) rfl at_M_accepts ⟨_, rfl⟩ rfl rfl ⟨(Or.inr ⟨wy_pr rfl, fun q => q⟩), trivial, trivial, trivial, trivial⟩ trivial (fun _ _ q => False.elim q) (accepts_ok (S := (w_up (w_up Sq51 258 ((8 * m) + (l.length : Int)) t) 256 m ((l.length : Int) + 1))) (lx_E_up (lx_E_up hE2 (by decide) (by omega)) (by decide) (by omega)).1 ⟨by omega, by omega⟩) (fun oq161 Sq161 hp162 q161 => ?_)
                            rcases q161 with ⟨rfl, gk, y1, y2⟩ | ⟨rfl, gk, rfl⟩
                            · skip
                              show wJ _ _ _ _ _ _ _ _ _ _
                              rw [lx_E_is (lx_E_up (lx_E_up hE2 (by decide) (by omega)) (by decide) (by omega))] at gk
                              rw [if_neg (by rw [gd]; decide), if_pos gk] at he
                              have gx := lx_is4 (show lx_is (w_up (w_up Sq51 258 ((8 * m) + (l.length : Int)) t) 256 m ((l.length : Int) + 1)) 44 = true by rw [lx_E_is (lx_E_up (lx_E_up hE2 (by decide) (by omega)) (by decide) (by omega))]; exact gk)
                              have hEu : lx_E (w_up (w_up Sq51 258 ((8 * m) + (l.length : Int)) t) 256 m ((l.length : Int) + 1)) A q := (lx_E_up (lx_E_up hE2 (by decide) (by omega)) (by decide) (by omega))
                              have hgt2 := lx_ne_gt hEu.1 (by rw [gx.1]; decide) (by rw [gx.1]; decide)
                              rw [lx_E_ne hEu, hEu.2.2.1] at hgt2
                              rw [lx_E_ne (lx_E_up (lx_E_up hE2 (by decide) (by omega)) (by decide) (by omega))] at y2
                              refine wa_ifeq (w_rg0 (by omega) (by omega)) ⟨_, rfl⟩ (fun c203 => ?_) (fun c203 => ?_)
                              · skip
                                exact absurd c203 (by omega)
                              · skip
                                refine wa_iconst ?_
                                refine wa_goto ⟨_, rfl⟩ ?_
                                refine wa_istore_n (n := 3) rfl ?_
                                refine wa_goto ⟨_, rfl⟩ ?_
                                exact wJ_S (ih _ _ _ (by omega) (by rw [List.length_append]; simp only [List.length_cons, List.length_nil]; omega) he (hp_ag_lx (hp_ag_up (hp_ag_up hag2 (by decide) (by omega) (by decide)) (by decide) (by omega) (by decide)) y1) (lx_E_ag (lx_E_up (lx_E_up hE2 (by decide) (by omega)) (by decide) (by omega)) y1 y2) (hm_ps_ag (by decide) (hm_ps_add hps2) y1)) ⟨rfl, rfl, rfl, rfl, trivial⟩
                            · skip
                              show wJ _ _ _ _ _ _ _ _ _ _
                              rw [lx_E_is (lx_E_up (lx_E_up hE2 (by decide) (by omega)) (by decide) (by omega))] at gk
                              rw [if_neg (by rw [gd]; decide), if_neg (by rw [gk]; decide)] at he
                              refine wa_ifeq (w_rg0 (by omega) (by omega)) ⟨_, rfl⟩ (fun c203 => ?_) (fun c203 => ?_)
                              · skip
                                refine wa_iconst ?_
                                refine wa_fall ⟨_, rfl⟩ ?_
                                refine wa_istore_n (n := 3) rfl ?_
                                refine wa_goto ⟨_, rfl⟩ ?_
                                refine wa_iload_n (n := 3) rfl ?_
                                refine wa_ifeq (w_rg0 (by omega) (by omega)) ⟨_, rfl⟩ (fun c204 => ?_) (fun c204 => ?_)
                                · skip
                                  exact wJ_S (hk _ _ _ _ he.symm (hp_ag_up (hp_ag_up hag2 (by decide) (by omega) (by decide)) (by decide) (by omega) (by decide)) (lx_E_up (lx_E_up hE2 (by decide) (by omega)) (by decide) (by omega)) (hm_ps_add hps2) (by rw [List.length_append]; simp only [List.length_cons, List.length_nil]; omega)) ⟨rfl, rfl, rfl, trivial⟩
                                · skip
                                  exact absurd c204 (by omega)
                              · skip
                                exact absurd c203 (by omega)
                        · skip
                          exact absurd c157 (by omega)
                    · skip
                      rw [if_pos (by omega), if_pos (by omega), if_pos (show l.length < 8 by omega), ty] at he
                      refine ⟨rfl, ?_⟩
                      exact hf _ _ _ he.symm (hp_ag_hl hag) rfl rfl
                  · skip
                    exact absurd m45 (by decide)
              · skip
                exact absurd m36 (by decide)
        · skip
          exact absurd m7 (by decide)
theorem pr_3_261 {c m : Int} {r : (Int × Int) ⊕ (Int × List Int × Int)} (hX : w_X xs) (hA15 : A 237 15 = 261) (hAn : ho_nm A 261) (hm : 0 ≤ m ∧ m < 400) (hk : ∀ (Z : wS) (q v : Int) (l : List Int), r = .inr (q, l, v) → hp_ag 261 m A Z → lx_E Z A q → hm_ps 261 m Z l v → l.length ≤ 8 → wJ (pe_GA xs) wY0 M (d + 6) t_M_readsParameters ((pe_at t_M_readsParameters.bl 14).getD (0, [])).2 [(0, (2, 237)), (1, (0, c)), (2, (0, m))] [] Z Q) (hf : ∀ (Z : wS) (e q : Int), r = .inl (e, q) → hp_ag 261 m A Z → Z 238 5 = e → Z 238 6 = q → Q (.inr 238) Z) : ∀ (f : Nat) (p : Int) (l : List Int) (Z : wS), (A 237 4 - p).toNat < f → l.length ≤ 8 → pr_f A 261 f p l = r → hp_ag 261 m A Z → lx_E Z A p → hm_ps 261 m Z l 0 → wJ (pe_GA xs) wY0 M (d + 6) t_M_readsParameters ((pe_at t_M_readsParameters.bl 3).getD (0, [])).2 [(0, (2, 237)), (1, (0, c)), (2, (0, m)), (3, (0, 1))] [] Z Q := by
  intro f
  induction f with
  | zero => intros; omega
  | succ f ih =>
    intro p l Z hfu hl he hag hE hps
    have hMz : w_ML Z := hE.1.1
    have hb15 : Z 237 15 = 261 := (hag 237 15 (by omega) (by omega) (by omega) (by omega)).trans hA15
    have e1 : Z 261 1 = A 261 1 := hag 261 1 (by omega) (by omega) (by omega) (by omega)
    have e9 : Z 270 = A 270 := hp_ag_row hag (by decide)
    have e10 : Z 271 = A 271 := hp_ag_row hag (by decide)
    have hnm : ho_nm Z 261 := by
      unfold ho_nm at hAn ⊢
      rw [e1, show Z (261 + 9) = A (261 + 9) from e9, show Z (261 + 10) = A (261 + 10) from e10]
      exact hAn
    have q15 : Z 276 m = (l.length : Int) := hps.1
    have q6 := lx_E_6 hE
    have qpl := lx_E_pl hE tx_27
    have qch := lx_E_ch (b := 261) hE (by decide) e1 e9 e10
    have qty := lx_E_type (b := 261) hE (by decide) e1 e9 e10 0
    have h7 : Z 237 7 = p := hE.1.2.2.2.1
    rw [pr_f_s, ← q6, ← qpl, ← qch, ← qty] at he
    refine wa_iload_n (n := 3) rfl ?_
    refine wa_ifeq (w_rg0 (by omega) (by omega)) ⟨_, rfl⟩ (fun c1 => ?_) (fun c1 => ?_)
    · skip
      exact absurd c1 (by omega)
    · skip
      refine wa_aload_n (n := 0) rfl ?_
      refine wa_aload_n (n := 0) rfl ?_
      refine wb_gfi 237 rfl (wy_pr rfl) wt_237 wf_15_6 (v := (Z 237 6)) rfl (fun r2 => ?_)
      refine wa_iconst ?_
      refine wa_icmpne (w_rg0 (by omega) (by omega)) (w_rg0 (by omega) (by omega)) ⟨_, rfl⟩ (fun c3 => ?_) (fun c3 => ?_)
      · skip
        refine wa_iconst ?_
        refine wa_fall ⟨_, rfl⟩ ?_
        refine wa_iconst ?_
        refine wa_cv 237 rfl (wy_pr rfl) wt_237 (M2 := fun _ => False) rfl at_M_must ⟨_, rfl⟩ rfl rfl ⟨(Or.inr ⟨wy_pr rfl, fun q => q⟩), trivial, trivial, trivial, trivial⟩ trivial (fun _ _ q => False.elim q) (must_ok (g := 0) (n := 1) (Or.inl rfl) ⟨by omega, by omega⟩) (fun oq5 Sq5 hp6 q5 => ?_)
        rcases q5 with ⟨m4, _, _⟩ | ⟨_, rfl, rfl⟩
        · skip
          exact absurd m4 (by decide)
        · skip
          refine ⟨rfl, ?_⟩
          repeat (first | rw [if_pos (by omega)] at he | rw [if_neg (by omega)] at he)
          exact hf _ _ _ he.symm (hp_ag_hl hag) rfl (by show Z 237 7 = _; exact h7)
      · skip
        refine wa_iconst ?_
        refine wa_goto ⟨_, rfl⟩ ?_
        refine wa_iconst ?_
        refine wa_cv 237 rfl (wy_pr rfl) wt_237 (M2 := fun _ => False) rfl at_M_must ⟨_, rfl⟩ rfl rfl ⟨(Or.inr ⟨wy_pr rfl, fun q => q⟩), trivial, trivial, trivial, trivial⟩ trivial (fun _ _ q => False.elim q) (must_ok (g := 1) (n := 1) (Or.inr rfl) ⟨by omega, by omega⟩) (fun oq8 Sq8 hp9 q8 => ?_)
        rcases q8 with ⟨_, rfl, rfl⟩ | ⟨m7, _, _⟩
        · skip
          show wJ _ _ _ _ _ _ _ _ _ _
          refine wa_aload_n (n := 0) rfl ?_
          refine wa_aload_n (n := 0) rfl ?_
          refine wa_ks ?_
          refine wa_cv 237 rfl (wy_pr rfl) wt_237 (M2 := fun _ => False) rfl at_M_place ⟨_, rfl⟩ rfl rfl ⟨(Or.inr ⟨wy_pr rfl, fun q => q⟩), trivial, trivial, trivial, trivial⟩ ⟨(Or.inr ⟨wy_pr rfl, fun q => q⟩), trivial⟩ (fun _ _ q => False.elim q) (place_ok hE.1.1 (wx_27 hX) (by decide) (by decide) (lx_I_hp hE.1) (by decide)) (fun oq10 Sq10 hp11 q10 => ?_)
          rcases q10 with ⟨rfl, rfl⟩
          show wJ _ _ _ _ _ _ _ _ _ _
          have hpl := pl_of_rg Z tx_27 (by decide)
          refine wa_ifgt (w_rg0 (by omega) (by omega)) ⟨_, rfl⟩ (fun c12 => ?_) (fun c12 => ?_)
          · skip
            refine wa_iconst ?_
            refine wa_goto ⟨_, rfl⟩ ?_
            refine wa_iconst ?_
            refine wa_cv 237 rfl (wy_pr rfl) wt_237 (M2 := fun _ => False) rfl at_M_must ⟨_, rfl⟩ rfl rfl ⟨(Or.inr ⟨wy_pr rfl, fun q => q⟩), trivial, trivial, trivial, trivial⟩ trivial (fun _ _ q => False.elim q) (must_ok (g := 1) (n := 3) (Or.inr rfl) ⟨by omega, by omega⟩) (fun oq14 Sq14 hp15 q14 => ?_)
            rcases q14 with ⟨_, rfl, rfl⟩ | ⟨m13, _, _⟩
            · skip
              show wJ _ _ _ _ _ _ _ _ _ _
              refine wa_aload_n (n := 0) rfl ?_
              refine wa_aload_n (n := 0) rfl ?_
              refine wb_gf5 237 rfl (wy_pr rfl) wt_237 wf_15_15 (v := 261) (hb15) (fun r16 => ?_)
              refine wb_gf4 261 rfl (wy_pr rfl) wt_261 wf_12_16 (v := 276) wl_261_16 ?_
              refine wa_iload_n (n := 2) rfl ?_
              refine wb_iald 276 rfl (wy_pr rfl) wt_276 (n := 400) ((ml_276 hMz)) (by omega) (by omega) (v := (l.length : Int)) (q15) (fun r17 => ?_)
              refine wa_bipush (w_rg2 (by omega) (by omega)) ?_
              refine wa_icmpge (w_rg0 (by omega) (by omega)) (w_rg0 (by omega) (by omega)) ⟨_, rfl⟩ (fun c18 => ?_) (fun c18 => ?_)
              · skip
                refine wa_iconst ?_
                refine wa_fall ⟨_, rfl⟩ ?_
                refine wa_iconst ?_
                refine wa_cv 237 rfl (wy_pr rfl) wt_237 (M2 := fun _ => False) rfl at_M_must ⟨_, rfl⟩ rfl rfl ⟨(Or.inr ⟨wy_pr rfl, fun q => q⟩), trivial, trivial, trivial, trivial⟩ trivial (fun _ _ q => False.elim q) (must_ok (g := 0) (n := 5) (Or.inl rfl) ⟨by omega, by omega⟩) (fun oq20 Sq20 hp21 q20 => ?_)
                rcases q20 with ⟨m19, _, _⟩ | ⟨_, rfl, rfl⟩
                · skip
                  exact absurd m19 (by decide)
                · skip
                  refine ⟨rfl, ?_⟩
                  repeat (first | rw [if_pos (by omega)] at he | rw [if_neg (by omega)] at he)
                  exact hf _ _ _ he.symm (hp_ag_hl hag) rfl (by show Z 237 7 = _; exact h7)
              · skip
                refine wa_iconst ?_
                refine wa_goto ⟨_, rfl⟩ ?_
                refine wa_iconst ?_
                refine wa_cv 237 rfl (wy_pr rfl) wt_237 (M2 := fun _ => False) rfl at_M_must ⟨_, rfl⟩ rfl rfl ⟨(Or.inr ⟨wy_pr rfl, fun q => q⟩), trivial, trivial, trivial, trivial⟩ trivial (fun _ _ q => False.elim q) (must_ok (g := 1) (n := 5) (Or.inr rfl) ⟨by omega, by omega⟩) (fun oq23 Sq23 hp24 q23 => ?_)
                rcases q23 with ⟨_, rfl, rfl⟩ | ⟨m22, _, _⟩
                · skip
                  show wJ _ _ _ _ _ _ _ _ _ _
                  refine wa_aload_n (n := 0) rfl ?_
                  refine wb_gf5 237 rfl (wy_pr rfl) wt_237 wf_15_15 (v := 261) (hb15) (fun r25 => ?_)
                  refine wb_gf4 261 rfl (wy_pr rfl) wt_261 wf_12_18 (v := 278) wl_261_18 ?_
                  refine wa_bipush (w_rg2 (by omega) (by omega)) ?_
                  refine wa_iload_n (n := 2) rfl ?_
                  refine wa_imul ?_
                  refine wa_aload_n (n := 0) rfl ?_
                  refine wb_gf5 237 rfl (wy_pr rfl) wt_237 wf_15_15 (v := 261) (hb15) (fun r26 => ?_)
                  refine wb_gf4 261 rfl (wy_pr rfl) wt_261 wf_12_16 (v := 276) wl_261_16 ?_
                  refine wa_iload_n (n := 2) rfl ?_
                  refine wb_iald 276 rfl (wy_pr rfl) wt_276 (n := 400) ((ml_276 hMz)) (by omega) (by omega) (v := (l.length : Int)) (q15) (fun r27 => ?_)
                  refine wa_iadd ?_
                  refine wa_aload_n (n := 0) rfl ?_
                  refine wa_iconst ?_
                  refine wa_cv 237 rfl (wy_pr rfl) wt_237 (M2 := fun _ => False) rfl at_M_readsType ⟨_, rfl⟩ rfl rfl ⟨(Or.inr ⟨wy_pr rfl, fun q => q⟩), trivial, trivial, trivial, trivial⟩ ⟨trivial, (Or.inr ⟨wy_pr rfl, fun q => q⟩), trivial⟩ (fun _ _ q => False.elim q) (readsType_261 hX hE.1 hb15 hnm (Or.inl rfl) rfl) (fun oq28 Sq28 hp29 q28 => ?_)
                  rcases q28 with ⟨t, q, ty, rfl, a1, a2⟩ | ⟨t, q, ty, rfl, rfl⟩
                  · skip
                    show wJ _ _ _ _ _ _ _ _ _ _
                    have hl8 : l.length < 8 := by omega
                    rw [if_pos (by omega), if_pos (by omega), if_pos hl8, ty] at he
                    obtain ⟨t0, t1, t2, t3⟩ := hy_type_rg (by have := hnm.1; omega) ty
                    replace he : (if lx_is (zq A q) 262 = true then (.inr (lx_ne (zq A q) q, l ++ [t], 1) : (Int × Int) ⊕ (Int × List Int × Int)) else if lx_is (zq A q) 44 = true then pr_f A 261 f (lx_ne (zq A q) q) (l ++ [t]) else .inr (q, l ++ [t], 0)) = r := he
                    have hE2 : lx_E Sq28 A q := lx_E_ag hE a1 a2
                    have hag2 : hp_ag 261 m A Sq28 := hp_ag_lx hag a1
                    have hps2 : hm_ps 261 m Sq28 l 0 := hm_ps_ag (by decide) hps a1
                    have p15 : Sq28 276 m = (l.length : Int) := hps2.1
                    have p16 : Sq28 277 m = 0 := hps2.2.1
                    have p237 : Sq28 237 15 = 261 := (hag2 237 15 (by omega) (by omega) (by omega) (by omega)).trans hA15
                    have hgt := lx_ne_gt hE.1 (by omega) (by omega)
                    have h4 := hE.2.2.1
                    refine wb_iast 278 rfl (wy_pr rfl) wt_278 (n := 3200) ((ml_278 a2.1)) (by omega) (by omega) ⟨(by omega), (by omega)⟩ ?_
                    refine wa_aload_n (n := 0) rfl ?_
                    refine wb_gf5 237 rfl (wy_pr rfl) wt_237 wf_15_15 (v := 261) ((w_up_slot (by decide)).trans (p237)) (fun r130 => ?_)
                    refine wb_gf4 261 rfl (wy_pr rfl) wt_261 wf_12_16 (v := 276) wl_261_16 ?_
                    refine wa_iload_n (n := 2) rfl ?_
                    refine wa_dup2 (by decide) (by decide) ?_
                    refine wb_iald 276 rfl (wy_pr rfl) wt_276 (n := 400) ((w_up_slot (by decide)).trans ((ml_276 a2.1))) (by omega) (by omega) (v := (l.length : Int)) ((w_up_slot (by decide)).trans (p15)) (fun r131 => ?_)
                    refine wa_iconst ?_
                    refine wa_iadd ?_
                    refine wb_iast 276 rfl (wy_pr rfl) wt_276 (n := 400) ((w_up_slot (by decide)).trans ((ml_276 a2.1))) (by omega) (by omega) ⟨(by omega), (by omega)⟩ ?_
                    refine wa_aload_n (n := 0) rfl ?_
                    refine wa_sipush (by omega) ?_
                    refine wa_cv 237 rfl (wy_pr rfl) wt_237 (M2 := fun _ => False) rfl at_M_accepts ⟨_, rfl⟩ rfl rfl ⟨(Or.inr ⟨wy_pr rfl, fun q => q⟩), trivial, trivial, trivial, trivial⟩ trivial (fun _ _ q => False.elim q) (accepts_ok (S := (w_up (w_up Sq28 278 ((8 * m) + (l.length : Int)) t) 276 m ((l.length : Int) + 1))) (lx_E_up (lx_E_up hE2 (by decide) (by omega)) (by decide) (by omega)).1 ⟨by omega, by omega⟩) (fun oq132 Sq132 hp133 q132 => ?_)
                    rcases q132 with ⟨rfl, gd, y1, y2⟩ | ⟨rfl, gd, rfl⟩
                    · skip
                      show wJ _ _ _ _ _ _ _ _ _ _
                      rw [lx_E_is (lx_E_up (lx_E_up hE2 (by decide) (by omega)) (by decide) (by omega))] at gd
                      rw [if_pos gd] at he
                      rw [lx_E_ne (lx_E_up (lx_E_up hE2 (by decide) (by omega)) (by decide) (by omega))] at y2
                      have hE3 : lx_E Sq132 A (lx_ne (zq A q) q) := lx_E_ag (lx_E_up (lx_E_up hE2 (by decide) (by omega)) (by decide) (by omega)) y1 y2
                      have hag3 : hp_ag 261 m A Sq132 := hp_ag_lx (hp_ag_up (hp_ag_up hag2 (by decide) (by omega) (by decide)) (by decide) (by omega) (by decide)) y1
                      have hps3 : hm_ps 261 m Sq132 (l ++ [t]) 0 := hm_ps_ag (by decide) (hm_ps_add hps2) y1
                      have r237 : Sq132 237 15 = 261 := (hag3 237 15 (by omega) (by omega) (by omega) (by omega)).trans hA15
                      refine wa_ifeq (w_rg0 (by omega) (by omega)) ⟨_, rfl⟩ (fun c174 => ?_) (fun c174 => ?_)
                      · skip
                        exact absurd c174 (by omega)
                      · skip
                        refine wa_aload_n (n := 0) rfl ?_
                        refine wb_gf5 237 rfl (wy_pr rfl) wt_237 wf_15_15 (v := 261) (r237) (fun r175 => ?_)
                        refine wb_gf4 261 rfl (wy_pr rfl) wt_261 wf_12_17 (v := 277) wl_261_17 ?_
                        refine wa_iload_n (n := 2) rfl ?_
                        refine wa_iconst ?_
                        refine wb_zast 277 rfl (wy_pr rfl) wt_277 (n := 400) ((ml_277 hE3.1.1)) (by omega) (by omega) ⟨(by omega), (by omega)⟩ ?_
                        refine wa_fall ⟨_, rfl⟩ ?_
                        refine wa_aload_n (n := 0) rfl ?_
                        refine wb_gf5 237 rfl (wy_pr rfl) wt_237 wf_15_15 (v := 261) ((w_up_slot (by decide)).trans (r237)) (fun r176 => ?_)
                        refine wb_gf4 261 rfl (wy_pr rfl) wt_261 wf_12_17 (v := 277) wl_261_17 ?_
                        refine wa_iload_n (n := 2) rfl ?_
                        refine wb_zald 277 rfl (wy_pr rfl) wt_277 (n := 400) ((w_up_at (by omega)).trans ((ml_277 hE3.1.1))) (by omega) (by omega) (v := 1) (w_up_same _ _ _ _) (fun r177 => ?_)
                        refine wa_ifne (w_rg0 (by omega) (by omega)) ⟨_, rfl⟩ (fun c178 => ?_) (fun c178 => ?_)
                        · skip
                          refine wa_iconst ?_
                          refine wa_fall ⟨_, rfl⟩ ?_
                          refine wa_istore_n (n := 3) rfl ?_
                          refine wa_goto ⟨_, rfl⟩ ?_
                          refine wa_iload_n (n := 3) rfl ?_
                          refine wa_ifeq (w_rg0 (by omega) (by omega)) ⟨_, rfl⟩ (fun c179 => ?_) (fun c179 => ?_)
                          · skip
                            exact wJ_S (hk _ _ _ _ he.symm (hp_ag_up hag3 (by decide) (by omega) (by decide)) (lx_E_up hE3 (by decide) (by omega)) ⟨(w_up_slot (by decide)).trans hps3.1, w_up_same _ _ _ _, fun i hi => (w_up_slot (by decide)).trans (hps3.2.2 i hi)⟩ (by rw [List.length_append]; simp only [List.length_cons, List.length_nil]; omega)) ⟨rfl, rfl, rfl, trivial⟩
                          · skip
                            exact absurd c179 (by omega)
                        · skip
                          exact absurd c178 (by omega)
                    · skip
                      show wJ _ _ _ _ _ _ _ _ _ _
                      rw [lx_E_is (lx_E_up (lx_E_up hE2 (by decide) (by omega)) (by decide) (by omega))] at gd
                      refine wa_ifeq (w_rg0 (by omega) (by omega)) ⟨_, rfl⟩ (fun c134 => ?_) (fun c134 => ?_)
                      · skip
                        refine wa_aload_n (n := 0) rfl ?_
                        refine wb_gf5 237 rfl (wy_pr rfl) wt_237 wf_15_15 (v := 261) ((w_up_slot (by decide)).trans ((w_up_slot (by decide)).trans (p237))) (fun r135 => ?_)
                        refine wb_gf4 261 rfl (wy_pr rfl) wt_261 wf_12_17 (v := 277) wl_261_17 ?_
                        refine wa_iload_n (n := 2) rfl ?_
                        refine wb_zald 277 rfl (wy_pr rfl) wt_277 (n := 400) ((w_up_slot (by decide)).trans ((w_up_slot (by decide)).trans ((ml_277 a2.1)))) (by omega) (by omega) (v := 0) ((w_up_slot (by decide)).trans ((w_up_slot (by decide)).trans (p16))) (fun r136 => ?_)
                        refine wa_ifne (w_rg0 (by omega) (by omega)) ⟨_, rfl⟩ (fun c137 => ?_) (fun c137 => ?_)
                        · skip
                          exact absurd c137 (by omega)
                        · skip
                          refine wa_aload_n (n := 0) rfl ?_
                          refine wa_bipush (w_rg2 (by omega) (by omega)) ?_
                          refine wa_cv 237 rfl (wy_pr rfl) wt_237 (M2 := fun _ => False) rfl at_M_accepts ⟨_, rfl⟩ rfl rfl ⟨(Or.inr ⟨wy_pr rfl, fun q => q⟩), trivial, trivial, trivial, trivial⟩ trivial (fun _ _ q => False.elim q) (accepts_ok (S := (w_up (w_up Sq28 278 ((8 * m) + (l.length : Int)) t) 276 m ((l.length : Int) + 1))) (lx_E_up (lx_E_up hE2 (by decide) (by omega)) (by decide) (by omega)).1 ⟨by omega, by omega⟩) (fun oq138 Sq138 hp139 q138 => ?_)
                          rcases q138 with ⟨rfl, gk, y1, y2⟩ | ⟨rfl, gk, rfl⟩
                          · skip
                            show wJ _ _ _ _ _ _ _ _ _ _
                            rw [lx_E_is (lx_E_up (lx_E_up hE2 (by decide) (by omega)) (by decide) (by omega))] at gk
                            rw [if_neg (by rw [gd]; decide), if_pos gk] at he
                            have gx := lx_is4 (show lx_is (w_up (w_up Sq28 278 ((8 * m) + (l.length : Int)) t) 276 m ((l.length : Int) + 1)) 44 = true by rw [lx_E_is (lx_E_up (lx_E_up hE2 (by decide) (by omega)) (by decide) (by omega))]; exact gk)
                            have hEu : lx_E (w_up (w_up Sq28 278 ((8 * m) + (l.length : Int)) t) 276 m ((l.length : Int) + 1)) A q := (lx_E_up (lx_E_up hE2 (by decide) (by omega)) (by decide) (by omega))
                            have hgt2 := lx_ne_gt hEu.1 (by rw [gx.1]; decide) (by rw [gx.1]; decide)
                            rw [lx_E_ne hEu, hEu.2.2.1] at hgt2
                            rw [lx_E_ne (lx_E_up (lx_E_up hE2 (by decide) (by omega)) (by decide) (by omega))] at y2
                            refine wa_ifeq (w_rg0 (by omega) (by omega)) ⟨_, rfl⟩ (fun c180 => ?_) (fun c180 => ?_)
                            · skip
                              exact absurd c180 (by omega)
                            · skip
                              refine wa_iconst ?_
                              refine wa_goto ⟨_, rfl⟩ ?_
                              refine wa_istore_n (n := 3) rfl ?_
                              refine wa_goto ⟨_, rfl⟩ ?_
                              exact wJ_S (ih _ _ _ (by omega) (by rw [List.length_append]; simp only [List.length_cons, List.length_nil]; omega) he (hp_ag_lx (hp_ag_up (hp_ag_up hag2 (by decide) (by omega) (by decide)) (by decide) (by omega) (by decide)) y1) (lx_E_ag (lx_E_up (lx_E_up hE2 (by decide) (by omega)) (by decide) (by omega)) y1 y2) (hm_ps_ag (by decide) (hm_ps_add hps2) y1)) ⟨rfl, rfl, rfl, rfl, trivial⟩
                          · skip
                            show wJ _ _ _ _ _ _ _ _ _ _
                            rw [lx_E_is (lx_E_up (lx_E_up hE2 (by decide) (by omega)) (by decide) (by omega))] at gk
                            rw [if_neg (by rw [gd]; decide), if_neg (by rw [gk]; decide)] at he
                            refine wa_ifeq (w_rg0 (by omega) (by omega)) ⟨_, rfl⟩ (fun c180 => ?_) (fun c180 => ?_)
                            · skip
                              refine wa_iconst ?_
                              refine wa_fall ⟨_, rfl⟩ ?_
                              refine wa_istore_n (n := 3) rfl ?_
                              refine wa_goto ⟨_, rfl⟩ ?_
                              refine wa_iload_n (n := 3) rfl ?_
                              refine wa_ifeq (w_rg0 (by omega) (by omega)) ⟨_, rfl⟩ (fun c181 => ?_) (fun c181 => ?_)
                              · skip
                                exact wJ_S (hk _ _ _ _ he.symm (hp_ag_up (hp_ag_up hag2 (by decide) (by omega) (by decide)) (by decide) (by omega) (by decide)) (lx_E_up (lx_E_up hE2 (by decide) (by omega)) (by decide) (by omega)) (hm_ps_add hps2) (by rw [List.length_append]; simp only [List.length_cons, List.length_nil]; omega)) ⟨rfl, rfl, rfl, trivial⟩
                              · skip
                                exact absurd c181 (by omega)
                            · skip
                              exact absurd c180 (by omega)
                      · skip
                        exact absurd c134 (by omega)
                  · skip
                    rw [if_pos (by omega), if_pos (by omega), if_pos (show l.length < 8 by omega), ty] at he
                    refine ⟨rfl, ?_⟩
                    exact hf _ _ _ he.symm (hp_ag_hl hag) rfl rfl
                · skip
                  exact absurd m22 (by decide)
            · skip
              exact absurd m13 (by decide)
          · skip
            refine wa_aload_n (n := 0) rfl ?_
            refine wa_cv 237 rfl (wy_pr rfl) wt_237 (M2 := fun _ => False) rfl at_M_classHere ⟨_, rfl⟩ rfl rfl ⟨(Or.inr ⟨wy_pr rfl, fun q => q⟩), trivial, trivial, trivial, trivial⟩ ⟨(Or.inr ⟨wy_pr rfl, fun q => q⟩), trivial⟩ (fun _ _ q => False.elim q) (classHere_261 hE.1.1 hb15 hnm (lx_I_hp hE.1)) (fun oq30 Sq30 hp31 q30 => ?_)
            rcases q30 with ⟨rfl, rfl⟩
            show wJ _ _ _ _ _ _ _ _ _ _
            have hch := ch_of_rg Z 261 (hnm).1.2
            refine wa_iflt (w_rg0 (by omega) (by omega)) ⟨_, rfl⟩ (fun c32 => ?_) (fun c32 => ?_)
            · skip
              refine wa_iconst ?_
              refine wa_fall ⟨_, rfl⟩ ?_
              refine wa_iconst ?_
              refine wa_cv 237 rfl (wy_pr rfl) wt_237 (M2 := fun _ => False) rfl at_M_must ⟨_, rfl⟩ rfl rfl ⟨(Or.inr ⟨wy_pr rfl, fun q => q⟩), trivial, trivial, trivial, trivial⟩ trivial (fun _ _ q => False.elim q) (must_ok (g := 0) (n := 3) (Or.inl rfl) ⟨by omega, by omega⟩) (fun oq34 Sq34 hp35 q34 => ?_)
              rcases q34 with ⟨m33, _, _⟩ | ⟨_, rfl, rfl⟩
              · skip
                exact absurd m33 (by decide)
              · skip
                refine ⟨rfl, ?_⟩
                repeat (first | rw [if_pos (by omega)] at he | rw [if_neg (by omega)] at he)
                exact hf _ _ _ he.symm (hp_ag_hl hag) rfl (by show Z 237 7 = _; exact h7)
            · skip
              refine wa_fall ⟨_, rfl⟩ ?_
              refine wa_iconst ?_
              refine wa_goto ⟨_, rfl⟩ ?_
              refine wa_iconst ?_
              refine wa_cv 237 rfl (wy_pr rfl) wt_237 (M2 := fun _ => False) rfl at_M_must ⟨_, rfl⟩ rfl rfl ⟨(Or.inr ⟨wy_pr rfl, fun q => q⟩), trivial, trivial, trivial, trivial⟩ trivial (fun _ _ q => False.elim q) (must_ok (g := 1) (n := 3) (Or.inr rfl) ⟨by omega, by omega⟩) (fun oq37 Sq37 hp38 q37 => ?_)
              rcases q37 with ⟨_, rfl, rfl⟩ | ⟨m36, _, _⟩
              · skip
                show wJ _ _ _ _ _ _ _ _ _ _
                refine wa_aload_n (n := 0) rfl ?_
                refine wa_aload_n (n := 0) rfl ?_
                refine wb_gf5 237 rfl (wy_pr rfl) wt_237 wf_15_15 (v := 261) (hb15) (fun r39 => ?_)
                refine wb_gf4 261 rfl (wy_pr rfl) wt_261 wf_12_16 (v := 276) wl_261_16 ?_
                refine wa_iload_n (n := 2) rfl ?_
                refine wb_iald 276 rfl (wy_pr rfl) wt_276 (n := 400) ((ml_276 hMz)) (by omega) (by omega) (v := (l.length : Int)) (q15) (fun r40 => ?_)
                refine wa_bipush (w_rg2 (by omega) (by omega)) ?_
                refine wa_icmpge (w_rg0 (by omega) (by omega)) (w_rg0 (by omega) (by omega)) ⟨_, rfl⟩ (fun c41 => ?_) (fun c41 => ?_)
                · skip
                  refine wa_iconst ?_
                  refine wa_fall ⟨_, rfl⟩ ?_
                  refine wa_iconst ?_
                  refine wa_cv 237 rfl (wy_pr rfl) wt_237 (M2 := fun _ => False) rfl at_M_must ⟨_, rfl⟩ rfl rfl ⟨(Or.inr ⟨wy_pr rfl, fun q => q⟩), trivial, trivial, trivial, trivial⟩ trivial (fun _ _ q => False.elim q) (must_ok (g := 0) (n := 5) (Or.inl rfl) ⟨by omega, by omega⟩) (fun oq43 Sq43 hp44 q43 => ?_)
                  rcases q43 with ⟨m42, _, _⟩ | ⟨_, rfl, rfl⟩
                  · skip
                    exact absurd m42 (by decide)
                  · skip
                    refine ⟨rfl, ?_⟩
                    repeat (first | rw [if_pos (by omega)] at he | rw [if_neg (by omega)] at he)
                    exact hf _ _ _ he.symm (hp_ag_hl hag) rfl (by show Z 237 7 = _; exact h7)
                · skip
                  refine wa_iconst ?_
                  refine wa_goto ⟨_, rfl⟩ ?_
                  refine wa_iconst ?_
                  refine wa_cv 237 rfl (wy_pr rfl) wt_237 (M2 := fun _ => False) rfl at_M_must ⟨_, rfl⟩ rfl rfl ⟨(Or.inr ⟨wy_pr rfl, fun q => q⟩), trivial, trivial, trivial, trivial⟩ trivial (fun _ _ q => False.elim q) (must_ok (g := 1) (n := 5) (Or.inr rfl) ⟨by omega, by omega⟩) (fun oq46 Sq46 hp47 q46 => ?_)
                  rcases q46 with ⟨_, rfl, rfl⟩ | ⟨m45, _, _⟩
                  · skip
                    show wJ _ _ _ _ _ _ _ _ _ _
                    refine wa_aload_n (n := 0) rfl ?_
                    refine wb_gf5 237 rfl (wy_pr rfl) wt_237 wf_15_15 (v := 261) (hb15) (fun r48 => ?_)
                    refine wb_gf4 261 rfl (wy_pr rfl) wt_261 wf_12_18 (v := 278) wl_261_18 ?_
                    refine wa_bipush (w_rg2 (by omega) (by omega)) ?_
                    refine wa_iload_n (n := 2) rfl ?_
                    refine wa_imul ?_
                    refine wa_aload_n (n := 0) rfl ?_
                    refine wb_gf5 237 rfl (wy_pr rfl) wt_237 wf_15_15 (v := 261) (hb15) (fun r49 => ?_)
                    refine wb_gf4 261 rfl (wy_pr rfl) wt_261 wf_12_16 (v := 276) wl_261_16 ?_
                    refine wa_iload_n (n := 2) rfl ?_
                    refine wb_iald 276 rfl (wy_pr rfl) wt_276 (n := 400) ((ml_276 hMz)) (by omega) (by omega) (v := (l.length : Int)) (q15) (fun r50 => ?_)
                    refine wa_iadd ?_
                    refine wa_aload_n (n := 0) rfl ?_
                    refine wa_iconst ?_
                    refine wa_cv 237 rfl (wy_pr rfl) wt_237 (M2 := fun _ => False) rfl at_M_readsType ⟨_, rfl⟩ rfl rfl ⟨(Or.inr ⟨wy_pr rfl, fun q => q⟩), trivial, trivial, trivial, trivial⟩ ⟨trivial, (Or.inr ⟨wy_pr rfl, fun q => q⟩), trivial⟩ (fun _ _ q => False.elim q) (readsType_261 hX hE.1 hb15 hnm (Or.inl rfl) rfl) (fun oq51 Sq51 hp52 q51 => ?_)
                    rcases q51 with ⟨t, q, ty, rfl, a1, a2⟩ | ⟨t, q, ty, rfl, rfl⟩
                    · skip
                      show wJ _ _ _ _ _ _ _ _ _ _
                      have hl8 : l.length < 8 := by omega
                      rw [if_pos (by omega), if_pos (by omega), if_pos hl8, ty] at he
                      obtain ⟨t0, t1, t2, t3⟩ := hy_type_rg (by have := hnm.1; omega) ty
                      replace he : (if lx_is (zq A q) 262 = true then (.inr (lx_ne (zq A q) q, l ++ [t], 1) : (Int × Int) ⊕ (Int × List Int × Int)) else if lx_is (zq A q) 44 = true then pr_f A 261 f (lx_ne (zq A q) q) (l ++ [t]) else .inr (q, l ++ [t], 0)) = r := he
                      have hE2 : lx_E Sq51 A q := lx_E_ag hE a1 a2
                      have hag2 : hp_ag 261 m A Sq51 := hp_ag_lx hag a1
                      have hps2 : hm_ps 261 m Sq51 l 0 := hm_ps_ag (by decide) hps a1
                      have p15 : Sq51 276 m = (l.length : Int) := hps2.1
                      have p16 : Sq51 277 m = 0 := hps2.2.1
                      have p237 : Sq51 237 15 = 261 := (hag2 237 15 (by omega) (by omega) (by omega) (by omega)).trans hA15
                      have hgt := lx_ne_gt hE.1 (by omega) (by omega)
                      have h4 := hE.2.2.1
                      refine wb_iast 278 rfl (wy_pr rfl) wt_278 (n := 3200) ((ml_278 a2.1)) (by omega) (by omega) ⟨(by omega), (by omega)⟩ ?_
                      refine wa_aload_n (n := 0) rfl ?_
                      refine wb_gf5 237 rfl (wy_pr rfl) wt_237 wf_15_15 (v := 261) ((w_up_slot (by decide)).trans (p237)) (fun r153 => ?_)
                      refine wb_gf4 261 rfl (wy_pr rfl) wt_261 wf_12_16 (v := 276) wl_261_16 ?_
                      refine wa_iload_n (n := 2) rfl ?_
                      refine wa_dup2 (by decide) (by decide) ?_
                      refine wb_iald 276 rfl (wy_pr rfl) wt_276 (n := 400) ((w_up_slot (by decide)).trans ((ml_276 a2.1))) (by omega) (by omega) (v := (l.length : Int)) ((w_up_slot (by decide)).trans (p15)) (fun r154 => ?_)
                      refine wa_iconst ?_
                      refine wa_iadd ?_
                      refine wb_iast 276 rfl (wy_pr rfl) wt_276 (n := 400) ((w_up_slot (by decide)).trans ((ml_276 a2.1))) (by omega) (by omega) ⟨(by omega), (by omega)⟩ ?_
                      refine wa_aload_n (n := 0) rfl ?_
                      refine wa_sipush (by omega) ?_
                      refine wa_cv 237 rfl (wy_pr rfl) wt_237 (M2 := fun _ => False) rfl at_M_accepts ⟨_, rfl⟩ rfl rfl ⟨(Or.inr ⟨wy_pr rfl, fun q => q⟩), trivial, trivial, trivial, trivial⟩ trivial (fun _ _ q => False.elim q) (accepts_ok (S := (w_up (w_up Sq51 278 ((8 * m) + (l.length : Int)) t) 276 m ((l.length : Int) + 1))) (lx_E_up (lx_E_up hE2 (by decide) (by omega)) (by decide) (by omega)).1 ⟨by omega, by omega⟩) (fun oq155 Sq155 hp156 q155 => ?_)
                      rcases q155 with ⟨rfl, gd, y1, y2⟩ | ⟨rfl, gd, rfl⟩
                      · skip
                        show wJ _ _ _ _ _ _ _ _ _ _
                        rw [lx_E_is (lx_E_up (lx_E_up hE2 (by decide) (by omega)) (by decide) (by omega))] at gd
                        rw [if_pos gd] at he
                        rw [lx_E_ne (lx_E_up (lx_E_up hE2 (by decide) (by omega)) (by decide) (by omega))] at y2
                        have hE3 : lx_E Sq155 A (lx_ne (zq A q) q) := lx_E_ag (lx_E_up (lx_E_up hE2 (by decide) (by omega)) (by decide) (by omega)) y1 y2
                        have hag3 : hp_ag 261 m A Sq155 := hp_ag_lx (hp_ag_up (hp_ag_up hag2 (by decide) (by omega) (by decide)) (by decide) (by omega) (by decide)) y1
                        have hps3 : hm_ps 261 m Sq155 (l ++ [t]) 0 := hm_ps_ag (by decide) (hm_ps_add hps2) y1
                        have r237 : Sq155 237 15 = 261 := (hag3 237 15 (by omega) (by omega) (by omega) (by omega)).trans hA15
                        refine wa_ifeq (w_rg0 (by omega) (by omega)) ⟨_, rfl⟩ (fun c197 => ?_) (fun c197 => ?_)
                        · skip
                          exact absurd c197 (by omega)
                        · skip
                          refine wa_aload_n (n := 0) rfl ?_
                          refine wb_gf5 237 rfl (wy_pr rfl) wt_237 wf_15_15 (v := 261) (r237) (fun r198 => ?_)
                          refine wb_gf4 261 rfl (wy_pr rfl) wt_261 wf_12_17 (v := 277) wl_261_17 ?_
                          refine wa_iload_n (n := 2) rfl ?_
                          refine wa_iconst ?_
                          refine wb_zast 277 rfl (wy_pr rfl) wt_277 (n := 400) ((ml_277 hE3.1.1)) (by omega) (by omega) ⟨(by omega), (by omega)⟩ ?_
                          refine wa_fall ⟨_, rfl⟩ ?_
                          refine wa_aload_n (n := 0) rfl ?_
                          refine wb_gf5 237 rfl (wy_pr rfl) wt_237 wf_15_15 (v := 261) ((w_up_slot (by decide)).trans (r237)) (fun r199 => ?_)
                          refine wb_gf4 261 rfl (wy_pr rfl) wt_261 wf_12_17 (v := 277) wl_261_17 ?_
                          refine wa_iload_n (n := 2) rfl ?_
                          refine wb_zald 277 rfl (wy_pr rfl) wt_277 (n := 400) ((w_up_at (by omega)).trans ((ml_277 hE3.1.1))) (by omega) (by omega) (v := 1) (w_up_same _ _ _ _) (fun r200 => ?_)
                          refine wa_ifne (w_rg0 (by omega) (by omega)) ⟨_, rfl⟩ (fun c201 => ?_) (fun c201 => ?_)
                          · skip
                            refine wa_iconst ?_
                            refine wa_fall ⟨_, rfl⟩ ?_
                            refine wa_istore_n (n := 3) rfl ?_
                            refine wa_goto ⟨_, rfl⟩ ?_
                            refine wa_iload_n (n := 3) rfl ?_
                            refine wa_ifeq (w_rg0 (by omega) (by omega)) ⟨_, rfl⟩ (fun c202 => ?_) (fun c202 => ?_)
                            · skip
                              exact wJ_S (hk _ _ _ _ he.symm (hp_ag_up hag3 (by decide) (by omega) (by decide)) (lx_E_up hE3 (by decide) (by omega)) ⟨(w_up_slot (by decide)).trans hps3.1, w_up_same _ _ _ _, fun i hi => (w_up_slot (by decide)).trans (hps3.2.2 i hi)⟩ (by rw [List.length_append]; simp only [List.length_cons, List.length_nil]; omega)) ⟨rfl, rfl, rfl, trivial⟩
                            · skip
                              exact absurd c202 (by omega)
                          · skip
                            exact absurd c201 (by omega)
                      · skip
                        show wJ _ _ _ _ _ _ _ _ _ _
                        rw [lx_E_is (lx_E_up (lx_E_up hE2 (by decide) (by omega)) (by decide) (by omega))] at gd
                        refine wa_ifeq (w_rg0 (by omega) (by omega)) ⟨_, rfl⟩ (fun c157 => ?_) (fun c157 => ?_)
                        · skip
                          refine wa_aload_n (n := 0) rfl ?_
                          refine wb_gf5 237 rfl (wy_pr rfl) wt_237 wf_15_15 (v := 261) ((w_up_slot (by decide)).trans ((w_up_slot (by decide)).trans (p237))) (fun r158 => ?_)
                          refine wb_gf4 261 rfl (wy_pr rfl) wt_261 wf_12_17 (v := 277) wl_261_17 ?_
                          refine wa_iload_n (n := 2) rfl ?_
                          refine wb_zald 277 rfl (wy_pr rfl) wt_277 (n := 400) ((w_up_slot (by decide)).trans ((w_up_slot (by decide)).trans ((ml_277 a2.1)))) (by omega) (by omega) (v := 0) ((w_up_slot (by decide)).trans ((w_up_slot (by decide)).trans (p16))) (fun r159 => ?_)
                          refine wa_ifne (w_rg0 (by omega) (by omega)) ⟨_, rfl⟩ (fun c160 => ?_) (fun c160 => ?_)
                          · skip
                            exact absurd c160 (by omega)
                          · skip
                            refine wa_aload_n (n := 0) rfl ?_
                            refine wa_bipush (w_rg2 (by omega) (by omega)) ?_
                            refine wa_cv 237 rfl (wy_pr rfl) wt_237 (M2 := fun _ => False) rfl at_M_accepts ⟨_, rfl⟩ rfl rfl ⟨(Or.inr ⟨wy_pr rfl, fun q => q⟩), trivial, trivial, trivial, trivial⟩ trivial (fun _ _ q => False.elim q) (accepts_ok (S := (w_up (w_up Sq51 278 ((8 * m) + (l.length : Int)) t) 276 m ((l.length : Int) + 1))) (lx_E_up (lx_E_up hE2 (by decide) (by omega)) (by decide) (by omega)).1 ⟨by omega, by omega⟩) (fun oq161 Sq161 hp162 q161 => ?_)
                            rcases q161 with ⟨rfl, gk, y1, y2⟩ | ⟨rfl, gk, rfl⟩
                            · skip
                              show wJ _ _ _ _ _ _ _ _ _ _
                              rw [lx_E_is (lx_E_up (lx_E_up hE2 (by decide) (by omega)) (by decide) (by omega))] at gk
                              rw [if_neg (by rw [gd]; decide), if_pos gk] at he
                              have gx := lx_is4 (show lx_is (w_up (w_up Sq51 278 ((8 * m) + (l.length : Int)) t) 276 m ((l.length : Int) + 1)) 44 = true by rw [lx_E_is (lx_E_up (lx_E_up hE2 (by decide) (by omega)) (by decide) (by omega))]; exact gk)
                              have hEu : lx_E (w_up (w_up Sq51 278 ((8 * m) + (l.length : Int)) t) 276 m ((l.length : Int) + 1)) A q := (lx_E_up (lx_E_up hE2 (by decide) (by omega)) (by decide) (by omega))
                              have hgt2 := lx_ne_gt hEu.1 (by rw [gx.1]; decide) (by rw [gx.1]; decide)
                              rw [lx_E_ne hEu, hEu.2.2.1] at hgt2
                              rw [lx_E_ne (lx_E_up (lx_E_up hE2 (by decide) (by omega)) (by decide) (by omega))] at y2
                              refine wa_ifeq (w_rg0 (by omega) (by omega)) ⟨_, rfl⟩ (fun c203 => ?_) (fun c203 => ?_)
                              · skip
                                exact absurd c203 (by omega)
                              · skip
                                refine wa_iconst ?_
                                refine wa_goto ⟨_, rfl⟩ ?_
                                refine wa_istore_n (n := 3) rfl ?_
                                refine wa_goto ⟨_, rfl⟩ ?_
                                exact wJ_S (ih _ _ _ (by omega) (by rw [List.length_append]; simp only [List.length_cons, List.length_nil]; omega) he (hp_ag_lx (hp_ag_up (hp_ag_up hag2 (by decide) (by omega) (by decide)) (by decide) (by omega) (by decide)) y1) (lx_E_ag (lx_E_up (lx_E_up hE2 (by decide) (by omega)) (by decide) (by omega)) y1 y2) (hm_ps_ag (by decide) (hm_ps_add hps2) y1)) ⟨rfl, rfl, rfl, rfl, trivial⟩
                            · skip
                              show wJ _ _ _ _ _ _ _ _ _ _
                              rw [lx_E_is (lx_E_up (lx_E_up hE2 (by decide) (by omega)) (by decide) (by omega))] at gk
                              rw [if_neg (by rw [gd]; decide), if_neg (by rw [gk]; decide)] at he
                              refine wa_ifeq (w_rg0 (by omega) (by omega)) ⟨_, rfl⟩ (fun c203 => ?_) (fun c203 => ?_)
                              · skip
                                refine wa_iconst ?_
                                refine wa_fall ⟨_, rfl⟩ ?_
                                refine wa_istore_n (n := 3) rfl ?_
                                refine wa_goto ⟨_, rfl⟩ ?_
                                refine wa_iload_n (n := 3) rfl ?_
                                refine wa_ifeq (w_rg0 (by omega) (by omega)) ⟨_, rfl⟩ (fun c204 => ?_) (fun c204 => ?_)
                                · skip
                                  exact wJ_S (hk _ _ _ _ he.symm (hp_ag_up (hp_ag_up hag2 (by decide) (by omega) (by decide)) (by decide) (by omega) (by decide)) (lx_E_up (lx_E_up hE2 (by decide) (by omega)) (by decide) (by omega)) (hm_ps_add hps2) (by rw [List.length_append]; simp only [List.length_cons, List.length_nil]; omega)) ⟨rfl, rfl, rfl, trivial⟩
                                · skip
                                  exact absurd c204 (by omega)
                              · skip
                                exact absurd c203 (by omega)
                        · skip
                          exact absurd c157 (by omega)
                    · skip
                      rw [if_pos (by omega), if_pos (by omega), if_pos (show l.length < 8 by omega), ty] at he
                      refine ⟨rfl, ?_⟩
                      exact hf _ _ _ he.symm (hp_ag_hl hag) rfl rfl
                  · skip
                    exact absurd m45 (by decide)
              · skip
                exact absurd m36 (by decide)
        · skip
          exact absurd m7 (by decide)
end W79
