/-! PART 76: the reference's readsType. -/
section W76
variable {xs : List (Nat × List Int32)} {M : Nat → Prop} {d : Nat} {S : wS} {Q : wO → wS → Prop}
/-- a type at p: a fault (kind, place), or the type and the next place -/
def hy_type (S : wS) (b : Nat) (p av : Int) : (Int × Int) ⊕ (Int × Int) := if S 237 6 = 1 then (if pl_of S tx_27 = 0 ∧ av = 0 then .inl (3, p) else if 0 ≤ pl_of S tx_27 then .inr (pl_of S tx_27, lx_ne S p) else if 0 ≤ ch_of S b then .inr (9 + ch_of S b, lx_ne S p) else .inl (3, p)) else .inl (1, p)
theorem lx_I_hp {p : Int} (hI : lx_I S p) : 0 ≤ S 237 7 ∧ S 237 7 ≤ 65540 ∧ 0 ≤ S 237 8 ∧ S 237 8 ≤ 65540 := by
  obtain ⟨h1, h2, h3, h4⟩ := hI
  have := lx_en_le (T := S 239) (n := S 237 4) (h := S 237 5) (p := p) h3.2
  have e1 := h4.1
  have e2 := h4.2.2.1
  omega
theorem ch_of_rg (S : wS) (b : Nat) (h : S b 1 ≤ 60) : -1 ≤ ch_of S b ∧ ch_of S b ≤ 59 ∧ ch_of S b < max (S b 1) 0 := by
  have := ch_f_rg (S 239) (S 237 6) (S 237 7) (S 237 8) (S (b + 9)) (S (b + 10)) (S b 1) ((S b 1).toNat + 1) 0
  unfold ch_of
  omega
theorem readsType_241 {p av : Int} {r : (Int × Int) ⊕ (Int × Int)} (hX : w_X xs) (hI : lx_I S p) (hb : S 237 15 = 241) (hc : ho_nm S 241) (hav : av = 0 ∨ av = 1) (he : hy_type S 241 p av = r) : wJ (pe_GA xs) wY0 M (d + 5) t_M_readsType ((pe_at t_M_readsType.bl 0).getD (0, [])).2 [(0, (2, 237)), (1, (0, av))] [] S (fun o S2 => (∃ t q : Int, r = .inr (t, q) ∧ o = .inl (some (0, t)) ∧ lx_ag S S2 ∧ lx_I S2 q) ∨ (∃ t q : Int, r = .inl (t, q) ∧ o = .inr 238 ∧ w_hl S t q = S2)) := by
  have h7 : S 237 7 = p := hI.2.2.2.1
  unfold hy_type at he
  refine wa_aload_n (n := 0) rfl ?_
  refine wa_aload_n (n := 0) rfl ?_
  refine wb_gfi 237 rfl (wy_pr rfl) wt_237 wf_15_6 (v := (S 237 6)) rfl (fun r1 => ?_)
  refine wa_iconst ?_
  refine wa_icmpne (w_rg0 (by omega) (by omega)) (w_rg0 (by omega) (by omega)) ⟨_, rfl⟩ (fun c2 => ?_) (fun c2 => ?_)
  · skip
    refine wa_iconst ?_
    refine wa_fall ⟨_, rfl⟩ ?_
    refine wa_iconst ?_
    refine wa_cv 237 rfl (wy_pr rfl) wt_237 (M2 := fun _ => False) rfl at_M_must ⟨_, rfl⟩ rfl rfl ⟨(Or.inr ⟨wy_pr rfl, fun q => q⟩), trivial, trivial⟩ trivial (fun _ _ q => False.elim q) (must_ok (g := 0) (n := 1) (Or.inl rfl) ⟨by omega, by omega⟩) (fun oq4 Sq4 hp5 q4 => ?_)
    rcases q4 with ⟨m3, _, _⟩ | ⟨_, rfl, rfl⟩
    · skip
      exact absurd m3 (by decide)
    · skip
      refine ⟨rfl, ?_⟩
      repeat (first | rw [if_pos (by omega)] at he | rw [if_neg (by omega)] at he)
      exact Or.inr ⟨_, _, he.symm, rfl, by rw [h7]⟩
  · skip
    refine wa_iconst ?_
    refine wa_goto ⟨_, rfl⟩ ?_
    refine wa_iconst ?_
    refine wa_cv 237 rfl (wy_pr rfl) wt_237 (M2 := fun _ => False) rfl at_M_must ⟨_, rfl⟩ rfl rfl ⟨(Or.inr ⟨wy_pr rfl, fun q => q⟩), trivial, trivial⟩ trivial (fun _ _ q => False.elim q) (must_ok (g := 1) (n := 1) (Or.inr rfl) ⟨by omega, by omega⟩) (fun oq7 Sq7 hp8 q7 => ?_)
    rcases q7 with ⟨_, rfl, rfl⟩ | ⟨m6, _, _⟩
    · skip
      show wJ _ _ _ _ _ _ _ _ _ _
      refine wa_aload_n (n := 0) rfl ?_
      refine wa_ks ?_
      refine wa_cv 237 rfl (wy_pr rfl) wt_237 (M2 := fun _ => False) rfl at_M_place ⟨_, rfl⟩ rfl rfl ⟨(Or.inr ⟨wy_pr rfl, fun q => q⟩), trivial, trivial⟩ trivial (fun _ _ q => False.elim q) (place_ok hI.1 (wx_27 hX) (by decide) (by decide) (lx_I_hp hI) (by decide)) (fun oq9 Sq9 hp10 q9 => ?_)
      rcases q9 with ⟨rfl, rfl⟩
      show wJ _ _ _ _ _ _ _ _ _ _
      have hpl := pl_of_rg S tx_27 (by decide)
      refine wa_istore_n (n := 2) rfl ?_
      refine wa_aload_n (n := 0) rfl ?_
      refine wa_iload_n (n := 2) rfl ?_
      refine wa_ifne (w_rg0 (by omega) (by omega)) ⟨_, rfl⟩ (fun c11 => ?_) (fun c11 => ?_)
      · skip
        refine wa_iconst ?_
        refine wa_goto ⟨_, rfl⟩ ?_
        refine wa_iconst ?_
        refine wa_cv 237 rfl (wy_pr rfl) wt_237 (M2 := fun _ => False) rfl at_M_must ⟨_, rfl⟩ rfl rfl ⟨trivial, (Or.inr ⟨wy_pr rfl, fun q => q⟩), trivial, trivial⟩ trivial (fun _ _ q => False.elim q) (must_ok (g := 1) (n := 3) (Or.inr rfl) ⟨by omega, by omega⟩) (fun oq13 Sq13 hp14 q13 => ?_)
        rcases q13 with ⟨_, rfl, rfl⟩ | ⟨m12, _, _⟩
        · skip
          show wJ _ _ _ _ _ _ _ _ _ _
          refine wa_iload_n (n := 2) rfl ?_
          refine wa_ifge (w_rg0 (by omega) (by omega)) ⟨_, rfl⟩ (fun c15 => ?_) (fun c15 => ?_)
          · skip
            refine wa_aload_n (n := 0) rfl ?_
            refine wa_cv 237 rfl (wy_pr rfl) wt_237 (M2 := fun _ => False) rfl at_M_next ⟨_, rfl⟩ rfl rfl ⟨trivial, (Or.inr ⟨wy_pr rfl, fun q => q⟩), trivial, trivial⟩ trivial (fun _ _ q => False.elim q) (nx_I (S := S) hI (by have e6 : S 237 6 = (S 237 6) := rfl; omega)) (fun oq16 Sq16 hp17 q16 => ?_)
            rcases q16 with ⟨rfl, a1, a2⟩
            show wJ _ _ _ _ _ _ _ _ _ _
            refine wa_iload_n (n := 2) rfl ?_
            refine wa_ireturn rfl ?_
            repeat (first | rw [if_pos (by omega)] at he | rw [if_neg (by omega)] at he)
            exact Or.inl ⟨_, _, he.symm, rfl, a1, a2⟩
          · skip
            refine wa_aload_n (n := 0) rfl ?_
            refine wa_cv 237 rfl (wy_pr rfl) wt_237 (M2 := fun _ => False) rfl at_M_classHere ⟨_, rfl⟩ rfl rfl ⟨trivial, (Or.inr ⟨wy_pr rfl, fun q => q⟩), trivial, trivial⟩ trivial (fun _ _ q => False.elim q) (classHere_241 hI.1 hb hc (lx_I_hp hI)) (fun oq18 Sq18 hp19 q18 => ?_)
            rcases q18 with ⟨rfl, rfl⟩
            show wJ _ _ _ _ _ _ _ _ _ _
            have hch := ch_of_rg S 241 (hc).1.2
            refine wa_istore_n (n := 3) rfl ?_
            refine wa_aload_n (n := 0) rfl ?_
            refine wa_iload_n (n := 3) rfl ?_
            refine wa_iflt (w_rg0 (by omega) (by omega)) ⟨_, rfl⟩ (fun c20 => ?_) (fun c20 => ?_)
            · skip
              refine wa_iconst ?_
              refine wa_fall ⟨_, rfl⟩ ?_
              refine wa_iconst ?_
              refine wa_cv 237 rfl (wy_pr rfl) wt_237 (M2 := fun _ => False) rfl at_M_must ⟨_, rfl⟩ rfl rfl ⟨trivial, trivial, (Or.inr ⟨wy_pr rfl, fun q => q⟩), trivial, trivial⟩ trivial (fun _ _ q => False.elim q) (must_ok (g := 0) (n := 3) (Or.inl rfl) ⟨by omega, by omega⟩) (fun oq22 Sq22 hp23 q22 => ?_)
              rcases q22 with ⟨m21, _, _⟩ | ⟨_, rfl, rfl⟩
              · skip
                exact absurd m21 (by decide)
              · skip
                refine ⟨rfl, ?_⟩
                repeat (first | rw [if_pos (by omega)] at he | rw [if_neg (by omega)] at he)
                exact Or.inr ⟨_, _, he.symm, rfl, by rw [h7]⟩
            · skip
              refine wa_iconst ?_
              refine wa_goto ⟨_, rfl⟩ ?_
              refine wa_iconst ?_
              refine wa_cv 237 rfl (wy_pr rfl) wt_237 (M2 := fun _ => False) rfl at_M_must ⟨_, rfl⟩ rfl rfl ⟨trivial, trivial, (Or.inr ⟨wy_pr rfl, fun q => q⟩), trivial, trivial⟩ trivial (fun _ _ q => False.elim q) (must_ok (g := 1) (n := 3) (Or.inr rfl) ⟨by omega, by omega⟩) (fun oq25 Sq25 hp26 q25 => ?_)
              rcases q25 with ⟨_, rfl, rfl⟩ | ⟨m24, _, _⟩
              · skip
                show wJ _ _ _ _ _ _ _ _ _ _
                refine wa_bipush (w_rg2 (by omega) (by omega)) ?_
                refine wa_iload_n (n := 3) rfl ?_
                refine wa_iadd ?_
                refine wa_istore_n (n := 2) rfl ?_
                refine wa_fall ⟨_, rfl⟩ ?_
                refine wa_aload_n (n := 0) rfl ?_
                refine wa_cv 237 rfl (wy_pr rfl) wt_237 (M2 := fun _ => False) rfl at_M_next ⟨_, rfl⟩ rfl rfl ⟨trivial, trivial, (Or.inr ⟨wy_pr rfl, fun q => q⟩), trivial, trivial⟩ trivial (fun _ _ q => False.elim q) (nx_I (S := S) hI (by have e6 : S 237 6 = (S 237 6) := rfl; omega)) (fun oq27 Sq27 hp28 q27 => ?_)
                rcases q27 with ⟨rfl, a1, a2⟩
                show wJ _ _ _ _ _ _ _ _ _ _
                refine wa_iload_n (n := 2) rfl ?_
                refine wa_ireturn rfl ?_
                repeat (first | rw [if_pos (by omega)] at he | rw [if_neg (by omega)] at he)
                exact Or.inl ⟨_, _, he.symm, rfl, a1, a2⟩
              · skip
                exact absurd m24 (by decide)
        · skip
          exact absurd m12 (by decide)
      · skip
        refine wa_iload_n (n := 1) rfl ?_
        refine wa_ifeq (w_rg0 (by omega) (by omega)) ⟨_, rfl⟩ (fun c29 => ?_) (fun c29 => ?_)
        · skip
          refine wa_iconst ?_
          refine wa_fall ⟨_, rfl⟩ ?_
          refine wa_iconst ?_
          refine wa_cv 237 rfl (wy_pr rfl) wt_237 (M2 := fun _ => False) rfl at_M_must ⟨_, rfl⟩ rfl rfl ⟨trivial, (Or.inr ⟨wy_pr rfl, fun q => q⟩), trivial, trivial⟩ trivial (fun _ _ q => False.elim q) (must_ok (g := 0) (n := 3) (Or.inl rfl) ⟨by omega, by omega⟩) (fun oq31 Sq31 hp32 q31 => ?_)
          rcases q31 with ⟨m30, _, _⟩ | ⟨_, rfl, rfl⟩
          · skip
            exact absurd m30 (by decide)
          · skip
            refine ⟨rfl, ?_⟩
            repeat (first | rw [if_pos (by omega)] at he | rw [if_neg (by omega)] at he)
            exact Or.inr ⟨_, _, he.symm, rfl, by rw [h7]⟩
        · skip
          refine wa_fall ⟨_, rfl⟩ ?_
          refine wa_iconst ?_
          refine wa_goto ⟨_, rfl⟩ ?_
          refine wa_iconst ?_
          refine wa_cv 237 rfl (wy_pr rfl) wt_237 (M2 := fun _ => False) rfl at_M_must ⟨_, rfl⟩ rfl rfl ⟨trivial, (Or.inr ⟨wy_pr rfl, fun q => q⟩), trivial, trivial⟩ trivial (fun _ _ q => False.elim q) (must_ok (g := 1) (n := 3) (Or.inr rfl) ⟨by omega, by omega⟩) (fun oq34 Sq34 hp35 q34 => ?_)
          rcases q34 with ⟨_, rfl, rfl⟩ | ⟨m33, _, _⟩
          · skip
            show wJ _ _ _ _ _ _ _ _ _ _
            refine wa_iload_n (n := 2) rfl ?_
            refine wa_ifge (w_rg0 (by omega) (by omega)) ⟨_, rfl⟩ (fun c36 => ?_) (fun c36 => ?_)
            · skip
              refine wa_aload_n (n := 0) rfl ?_
              refine wa_cv 237 rfl (wy_pr rfl) wt_237 (M2 := fun _ => False) rfl at_M_next ⟨_, rfl⟩ rfl rfl ⟨trivial, (Or.inr ⟨wy_pr rfl, fun q => q⟩), trivial, trivial⟩ trivial (fun _ _ q => False.elim q) (nx_I (S := S) hI (by have e6 : S 237 6 = (S 237 6) := rfl; omega)) (fun oq37 Sq37 hp38 q37 => ?_)
              rcases q37 with ⟨rfl, a1, a2⟩
              show wJ _ _ _ _ _ _ _ _ _ _
              refine wa_iload_n (n := 2) rfl ?_
              refine wa_ireturn rfl ?_
              repeat (first | rw [if_pos (by omega)] at he | rw [if_neg (by omega)] at he)
              exact Or.inl ⟨_, _, he.symm, rfl, a1, a2⟩
            · skip
              exact absurd c36 (by omega)
          · skip
            exact absurd m33 (by decide)
    · skip
      exact absurd m6 (by decide)
theorem readsType_261 {p av : Int} {r : (Int × Int) ⊕ (Int × Int)} (hX : w_X xs) (hI : lx_I S p) (hb : S 237 15 = 261) (hc : ho_nm S 261) (hav : av = 0 ∨ av = 1) (he : hy_type S 261 p av = r) : wJ (pe_GA xs) wY0 M (d + 5) t_M_readsType ((pe_at t_M_readsType.bl 0).getD (0, [])).2 [(0, (2, 237)), (1, (0, av))] [] S (fun o S2 => (∃ t q : Int, r = .inr (t, q) ∧ o = .inl (some (0, t)) ∧ lx_ag S S2 ∧ lx_I S2 q) ∨ (∃ t q : Int, r = .inl (t, q) ∧ o = .inr 238 ∧ w_hl S t q = S2)) := by
  have h7 : S 237 7 = p := hI.2.2.2.1
  unfold hy_type at he
  refine wa_aload_n (n := 0) rfl ?_
  refine wa_aload_n (n := 0) rfl ?_
  refine wb_gfi 237 rfl (wy_pr rfl) wt_237 wf_15_6 (v := (S 237 6)) rfl (fun r1 => ?_)
  refine wa_iconst ?_
  refine wa_icmpne (w_rg0 (by omega) (by omega)) (w_rg0 (by omega) (by omega)) ⟨_, rfl⟩ (fun c2 => ?_) (fun c2 => ?_)
  · skip
    refine wa_iconst ?_
    refine wa_fall ⟨_, rfl⟩ ?_
    refine wa_iconst ?_
    refine wa_cv 237 rfl (wy_pr rfl) wt_237 (M2 := fun _ => False) rfl at_M_must ⟨_, rfl⟩ rfl rfl ⟨(Or.inr ⟨wy_pr rfl, fun q => q⟩), trivial, trivial⟩ trivial (fun _ _ q => False.elim q) (must_ok (g := 0) (n := 1) (Or.inl rfl) ⟨by omega, by omega⟩) (fun oq4 Sq4 hp5 q4 => ?_)
    rcases q4 with ⟨m3, _, _⟩ | ⟨_, rfl, rfl⟩
    · skip
      exact absurd m3 (by decide)
    · skip
      refine ⟨rfl, ?_⟩
      repeat (first | rw [if_pos (by omega)] at he | rw [if_neg (by omega)] at he)
      exact Or.inr ⟨_, _, he.symm, rfl, by rw [h7]⟩
  · skip
    refine wa_iconst ?_
    refine wa_goto ⟨_, rfl⟩ ?_
    refine wa_iconst ?_
    refine wa_cv 237 rfl (wy_pr rfl) wt_237 (M2 := fun _ => False) rfl at_M_must ⟨_, rfl⟩ rfl rfl ⟨(Or.inr ⟨wy_pr rfl, fun q => q⟩), trivial, trivial⟩ trivial (fun _ _ q => False.elim q) (must_ok (g := 1) (n := 1) (Or.inr rfl) ⟨by omega, by omega⟩) (fun oq7 Sq7 hp8 q7 => ?_)
    rcases q7 with ⟨_, rfl, rfl⟩ | ⟨m6, _, _⟩
    · skip
      show wJ _ _ _ _ _ _ _ _ _ _
      refine wa_aload_n (n := 0) rfl ?_
      refine wa_ks ?_
      refine wa_cv 237 rfl (wy_pr rfl) wt_237 (M2 := fun _ => False) rfl at_M_place ⟨_, rfl⟩ rfl rfl ⟨(Or.inr ⟨wy_pr rfl, fun q => q⟩), trivial, trivial⟩ trivial (fun _ _ q => False.elim q) (place_ok hI.1 (wx_27 hX) (by decide) (by decide) (lx_I_hp hI) (by decide)) (fun oq9 Sq9 hp10 q9 => ?_)
      rcases q9 with ⟨rfl, rfl⟩
      show wJ _ _ _ _ _ _ _ _ _ _
      have hpl := pl_of_rg S tx_27 (by decide)
      refine wa_istore_n (n := 2) rfl ?_
      refine wa_aload_n (n := 0) rfl ?_
      refine wa_iload_n (n := 2) rfl ?_
      refine wa_ifne (w_rg0 (by omega) (by omega)) ⟨_, rfl⟩ (fun c11 => ?_) (fun c11 => ?_)
      · skip
        refine wa_iconst ?_
        refine wa_goto ⟨_, rfl⟩ ?_
        refine wa_iconst ?_
        refine wa_cv 237 rfl (wy_pr rfl) wt_237 (M2 := fun _ => False) rfl at_M_must ⟨_, rfl⟩ rfl rfl ⟨trivial, (Or.inr ⟨wy_pr rfl, fun q => q⟩), trivial, trivial⟩ trivial (fun _ _ q => False.elim q) (must_ok (g := 1) (n := 3) (Or.inr rfl) ⟨by omega, by omega⟩) (fun oq13 Sq13 hp14 q13 => ?_)
        rcases q13 with ⟨_, rfl, rfl⟩ | ⟨m12, _, _⟩
        · skip
          show wJ _ _ _ _ _ _ _ _ _ _
          refine wa_iload_n (n := 2) rfl ?_
          refine wa_ifge (w_rg0 (by omega) (by omega)) ⟨_, rfl⟩ (fun c15 => ?_) (fun c15 => ?_)
          · skip
            refine wa_aload_n (n := 0) rfl ?_
            refine wa_cv 237 rfl (wy_pr rfl) wt_237 (M2 := fun _ => False) rfl at_M_next ⟨_, rfl⟩ rfl rfl ⟨trivial, (Or.inr ⟨wy_pr rfl, fun q => q⟩), trivial, trivial⟩ trivial (fun _ _ q => False.elim q) (nx_I (S := S) hI (by have e6 : S 237 6 = (S 237 6) := rfl; omega)) (fun oq16 Sq16 hp17 q16 => ?_)
            rcases q16 with ⟨rfl, a1, a2⟩
            show wJ _ _ _ _ _ _ _ _ _ _
            refine wa_iload_n (n := 2) rfl ?_
            refine wa_ireturn rfl ?_
            repeat (first | rw [if_pos (by omega)] at he | rw [if_neg (by omega)] at he)
            exact Or.inl ⟨_, _, he.symm, rfl, a1, a2⟩
          · skip
            refine wa_aload_n (n := 0) rfl ?_
            refine wa_cv 237 rfl (wy_pr rfl) wt_237 (M2 := fun _ => False) rfl at_M_classHere ⟨_, rfl⟩ rfl rfl ⟨trivial, (Or.inr ⟨wy_pr rfl, fun q => q⟩), trivial, trivial⟩ trivial (fun _ _ q => False.elim q) (classHere_261 hI.1 hb hc (lx_I_hp hI)) (fun oq18 Sq18 hp19 q18 => ?_)
            rcases q18 with ⟨rfl, rfl⟩
            show wJ _ _ _ _ _ _ _ _ _ _
            have hch := ch_of_rg S 261 (hc).1.2
            refine wa_istore_n (n := 3) rfl ?_
            refine wa_aload_n (n := 0) rfl ?_
            refine wa_iload_n (n := 3) rfl ?_
            refine wa_iflt (w_rg0 (by omega) (by omega)) ⟨_, rfl⟩ (fun c20 => ?_) (fun c20 => ?_)
            · skip
              refine wa_iconst ?_
              refine wa_fall ⟨_, rfl⟩ ?_
              refine wa_iconst ?_
              refine wa_cv 237 rfl (wy_pr rfl) wt_237 (M2 := fun _ => False) rfl at_M_must ⟨_, rfl⟩ rfl rfl ⟨trivial, trivial, (Or.inr ⟨wy_pr rfl, fun q => q⟩), trivial, trivial⟩ trivial (fun _ _ q => False.elim q) (must_ok (g := 0) (n := 3) (Or.inl rfl) ⟨by omega, by omega⟩) (fun oq22 Sq22 hp23 q22 => ?_)
              rcases q22 with ⟨m21, _, _⟩ | ⟨_, rfl, rfl⟩
              · skip
                exact absurd m21 (by decide)
              · skip
                refine ⟨rfl, ?_⟩
                repeat (first | rw [if_pos (by omega)] at he | rw [if_neg (by omega)] at he)
                exact Or.inr ⟨_, _, he.symm, rfl, by rw [h7]⟩
            · skip
              refine wa_iconst ?_
              refine wa_goto ⟨_, rfl⟩ ?_
              refine wa_iconst ?_
              refine wa_cv 237 rfl (wy_pr rfl) wt_237 (M2 := fun _ => False) rfl at_M_must ⟨_, rfl⟩ rfl rfl ⟨trivial, trivial, (Or.inr ⟨wy_pr rfl, fun q => q⟩), trivial, trivial⟩ trivial (fun _ _ q => False.elim q) (must_ok (g := 1) (n := 3) (Or.inr rfl) ⟨by omega, by omega⟩) (fun oq25 Sq25 hp26 q25 => ?_)
              rcases q25 with ⟨_, rfl, rfl⟩ | ⟨m24, _, _⟩
              · skip
                show wJ _ _ _ _ _ _ _ _ _ _
                refine wa_bipush (w_rg2 (by omega) (by omega)) ?_
                refine wa_iload_n (n := 3) rfl ?_
                refine wa_iadd ?_
                refine wa_istore_n (n := 2) rfl ?_
                refine wa_fall ⟨_, rfl⟩ ?_
                refine wa_aload_n (n := 0) rfl ?_
                refine wa_cv 237 rfl (wy_pr rfl) wt_237 (M2 := fun _ => False) rfl at_M_next ⟨_, rfl⟩ rfl rfl ⟨trivial, trivial, (Or.inr ⟨wy_pr rfl, fun q => q⟩), trivial, trivial⟩ trivial (fun _ _ q => False.elim q) (nx_I (S := S) hI (by have e6 : S 237 6 = (S 237 6) := rfl; omega)) (fun oq27 Sq27 hp28 q27 => ?_)
                rcases q27 with ⟨rfl, a1, a2⟩
                show wJ _ _ _ _ _ _ _ _ _ _
                refine wa_iload_n (n := 2) rfl ?_
                refine wa_ireturn rfl ?_
                repeat (first | rw [if_pos (by omega)] at he | rw [if_neg (by omega)] at he)
                exact Or.inl ⟨_, _, he.symm, rfl, a1, a2⟩
              · skip
                exact absurd m24 (by decide)
        · skip
          exact absurd m12 (by decide)
      · skip
        refine wa_iload_n (n := 1) rfl ?_
        refine wa_ifeq (w_rg0 (by omega) (by omega)) ⟨_, rfl⟩ (fun c29 => ?_) (fun c29 => ?_)
        · skip
          refine wa_iconst ?_
          refine wa_fall ⟨_, rfl⟩ ?_
          refine wa_iconst ?_
          refine wa_cv 237 rfl (wy_pr rfl) wt_237 (M2 := fun _ => False) rfl at_M_must ⟨_, rfl⟩ rfl rfl ⟨trivial, (Or.inr ⟨wy_pr rfl, fun q => q⟩), trivial, trivial⟩ trivial (fun _ _ q => False.elim q) (must_ok (g := 0) (n := 3) (Or.inl rfl) ⟨by omega, by omega⟩) (fun oq31 Sq31 hp32 q31 => ?_)
          rcases q31 with ⟨m30, _, _⟩ | ⟨_, rfl, rfl⟩
          · skip
            exact absurd m30 (by decide)
          · skip
            refine ⟨rfl, ?_⟩
            repeat (first | rw [if_pos (by omega)] at he | rw [if_neg (by omega)] at he)
            exact Or.inr ⟨_, _, he.symm, rfl, by rw [h7]⟩
        · skip
          refine wa_fall ⟨_, rfl⟩ ?_
          refine wa_iconst ?_
          refine wa_goto ⟨_, rfl⟩ ?_
          refine wa_iconst ?_
          refine wa_cv 237 rfl (wy_pr rfl) wt_237 (M2 := fun _ => False) rfl at_M_must ⟨_, rfl⟩ rfl rfl ⟨trivial, (Or.inr ⟨wy_pr rfl, fun q => q⟩), trivial, trivial⟩ trivial (fun _ _ q => False.elim q) (must_ok (g := 1) (n := 3) (Or.inr rfl) ⟨by omega, by omega⟩) (fun oq34 Sq34 hp35 q34 => ?_)
          rcases q34 with ⟨_, rfl, rfl⟩ | ⟨m33, _, _⟩
          · skip
            show wJ _ _ _ _ _ _ _ _ _ _
            refine wa_iload_n (n := 2) rfl ?_
            refine wa_ifge (w_rg0 (by omega) (by omega)) ⟨_, rfl⟩ (fun c36 => ?_) (fun c36 => ?_)
            · skip
              refine wa_aload_n (n := 0) rfl ?_
              refine wa_cv 237 rfl (wy_pr rfl) wt_237 (M2 := fun _ => False) rfl at_M_next ⟨_, rfl⟩ rfl rfl ⟨trivial, (Or.inr ⟨wy_pr rfl, fun q => q⟩), trivial, trivial⟩ trivial (fun _ _ q => False.elim q) (nx_I (S := S) hI (by have e6 : S 237 6 = (S 237 6) := rfl; omega)) (fun oq37 Sq37 hp38 q37 => ?_)
              rcases q37 with ⟨rfl, a1, a2⟩
              show wJ _ _ _ _ _ _ _ _ _ _
              refine wa_iload_n (n := 2) rfl ?_
              refine wa_ireturn rfl ?_
              repeat (first | rw [if_pos (by omega)] at he | rw [if_neg (by omega)] at he)
              exact Or.inl ⟨_, _, he.symm, rfl, a1, a2⟩
            · skip
              exact absurd c36 (by omega)
          · skip
            exact absurd m33 (by decide)
    · skip
      exact absurd m6 (by decide)
end W76
