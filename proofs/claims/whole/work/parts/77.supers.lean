/-! PART 77: the reference's readsSuper. -/
section W77
variable {xs : List (Nat × List Int32)} {M : Nat → Prop} {d : Nat} {S : wS} {Q : wO → wS → Prop}
theorem lx_tl_of {A B : wS} {l : List Int} (h1 : B 237 = A 237) (h2 : B 240 = A 240) (h : lx_tl A l) : lx_tl B l := ⟨by rw [h1]; exact h.1, fun i hi => by rw [h2]; exact h.2 i hi⟩
theorem lx_St_of {A B : wS} {p : Int} (h1 : B 237 = A 237) (h2 : B 239 = A 239) (h3 : B 240 = A 240) (h : lx_St A p) : lx_St B p := by
  unfold lx_St at h ⊢
  rw [h1, h2]
  exact ⟨h.1, h.2.1, h.2.2.1, h.2.2.2.1, h.2.2.2.2.1, fun z => lx_tl_of h1 h3 (h.2.2.2.2.2 z)⟩
theorem w_up_row {S : wS} {j k : Nat} {i x : Int} (h : k ≠ j) : w_up S j i x k = S k := funext fun _ => w_up_slot h
theorem lx_I_up {S : wS} {p : Int} {j : Nat} {i x : Int} (hI : lx_I S p) (hj : j ≠ 237 ∧ j ≠ 239 ∧ j ≠ 240) (hi : 0 ≤ i) : lx_I (w_up S j i x) p := by
  have e1 : w_up S j i x 237 = S 237 := w_up_row (fun z => hj.1 z.symm)
  have e2 : w_up S j i x 239 = S 239 := w_up_row (fun z => hj.2.1 z.symm)
  have e3 : w_up S j i x 240 = S 240 := w_up_row (fun z => hj.2.2 z.symm)
  refine ⟨w_ML_up hI.1 hi, ?_, ?_, lx_St_of e1 e2 e3 hI.2.2.2⟩
  · rw [e1]; exact hI.2.1
  · rw [e1]; exact hI.2.2.1
theorem lx_ne_up {S : wS} {p : Int} {j : Nat} {i x : Int} (hj : j ≠ 237 ∧ j ≠ 239 ∧ j ≠ 240) : lx_ne (w_up S j i x) p = lx_ne S p := by
  unfold lx_ne
  rw [w_up_row (fun z => hj.1 z.symm), w_up_row (fun z => hj.2.1 z.symm)]
/-- class s is there twice among the supers of c, or it is a second class -/
def tw_n (I A U : Int → Int) (c s : Int) : Nat → Bool
  | 0 => decide (I s = 0 ∧ (I c ≠ 0 ∨ 0 ≤ A c))
  | k + 1 => tw_n I A U c s k || decide (U (60 * c + (k : Int)) = s)
theorem wb_lor_rg (x y : Int) : -9223372036854775808 ≤ wb_lor x y ∧ wb_lor x y ≤ 9223372036854775807 := by
  show -9223372036854775808 ≤ (Int64.ofInt x ||| Int64.ofInt y).toInt ∧ (Int64.ofInt x ||| Int64.ofInt y).toInt ≤ 9223372036854775807
  have h1 := Int64.le_toInt (Int64.ofInt x ||| Int64.ofInt y)
  have h2 := Int64.toInt_lt (Int64.ofInt x ||| Int64.ofInt y)
  omega
def tw_of_241 (S : wS) (c s : Int) : Bool := tw_n (S 243) (S 244) (S 246) c s (S 245 c).toNat
def hs_super_241 (S : wS) (p c : Int) : (Int × Int) ⊕ Int := if S 237 6 = 1 then (if 0 ≤ ch_of S 241 then (if tw_of_241 S c (ch_of S 241) = true then .inl (4, p) else .inr (ch_of S 241)) else .inl (3, p)) else .inl (1, p)
def hs_S_241 (S : wS) (c s : Int) : wS := if S 243 s = 0 then w_up (w_up (w_up (w_up S 246 (60 * c + S 245 c) s) 245 c (S 245 c + 1)) 247 c (wb_lor (S 247 c) (S 247 s))) 244 c s else w_up (w_up (w_up S 246 (60 * c + S 245 c) s) 245 c (S 245 c + 1)) 247 c (wb_lor (S 247 c) (S 247 s))
theorem su_8_241 {p c s : Int} (hI : lx_I S p) (hb : S 237 15 = 241) (hc : ho_nm S 241) (hcc : 0 ≤ c ∧ c < 60) (hs : 0 ≤ S 245 c ∧ S 245 c ≤ 60) (hss : 0 ≤ s ∧ s < 60) (hk : ∀ t : Int, ((t = 1 ∧ tw_of_241 S c s = true) ∨ (t = 0 ∧ tw_of_241 S c s = false)) → wJ (pe_GA xs) wY0 M (d + 5) t_M_readsSuper ((pe_at t_M_readsSuper.bl 12).getD (0, [])).2 [(0, (2, 237)), (1, (0, c)), (2, (0, s)), (3, (0, t))] [] S Q) : ∀ (f i : Nat) (t : Int), (S 245 c).toNat - i < f → i ≤ (S 245 c).toNat → ((t = 1 ∧ tw_n (S 243) (S 244) (S 246) c s i = true) ∨ (t = 0 ∧ tw_n (S 243) (S 244) (S 246) c s i = false)) → wJ (pe_GA xs) wY0 M (d + 5) t_M_readsSuper ((pe_at t_M_readsSuper.bl 8).getD (0, [])).2 [(0, (2, 237)), (1, (0, c)), (2, (0, s)), (3, (0, t)), (4, (0, (i : Int)))] [] S Q := by
  intro f
  induction f with
  | zero => intros; omega
  | succ f ih =>
    intro i t hf hi ht
    have ht01 : t = 0 ∨ t = 1 := by rcases ht with z | z <;> omega
    have hM := hI.1
    refine wa_iload (n := 4) rfl ?_
    refine wa_aload_n (n := 0) rfl ?_
    refine wb_gf5 237 rfl (wy_pr rfl) wt_237 wf_15_15 (v := 241) (hb) (fun r1 => ?_)
    refine wb_gf4 241 rfl (wy_pr rfl) wt_241 wf_12_4 (v := 245) wl_241_4 ?_
    refine wa_iload_n (n := 1) rfl ?_
    refine wb_iald 245 rfl (wy_pr rfl) wt_245 (n := 60) ((ml_245 hM)) (by omega) (by omega) (v := (S 245 c)) rfl (fun r2 => ?_)
    refine wa_icmpge (w_rg0 (by omega) (by omega)) (w_rg0 (by omega) (by omega)) ⟨_, rfl⟩ (fun c3 => ?_) (fun c3 => ?_)
    · skip
      refine wJ_S (hk t ?_) ⟨rfl, rfl, rfl, rfl, trivial⟩
      unfold tw_of_241
      rw [show (S 245 c).toNat = i by omega]
      exact ht
    · skip
      refine wa_iload_n (n := 3) rfl ?_
      refine wa_ifne (w_rg0 (by omega) (by omega)) ⟨_, rfl⟩ (fun c4 => ?_) (fun c4 => ?_)
      · skip
        refine wa_iconst ?_
        refine wa_goto ⟨_, rfl⟩ ?_
        refine wa_istore_n (n := 3) rfl ?_
        refine wa_iinc rfl rfl ?_
        refine wa_goto ⟨_, rfl⟩ ?_
        refine wJ_S (ih (i + 1) 1 (by omega) (by omega) ?_) ⟨rfl, rfl, rfl, rfl, rfl, trivial⟩
        show (1 = (1 : Int) ∧ (tw_n (S 243) (S 244) (S 246) c s i || decide (S 246 (60 * c + (i : Int)) = s)) = true) ∨ (1 = (0 : Int) ∧ (tw_n (S 243) (S 244) (S 246) c s i || decide (S 246 (60 * c + (i : Int)) = s)) = false)
        rcases ht with ⟨q1, q2⟩ | ⟨q1, q2⟩
        · first | exact Or.inl ⟨rfl, by rw [q2]; rfl⟩ | exact absurd q1 (by omega)
        · first | exact absurd q1 (by omega) | exact Or.inl ⟨rfl, by rw [q2, decide_eq_true (by omega)]; rfl⟩
      · skip
        refine wa_aload_n (n := 0) rfl ?_
        refine wb_gf5 237 rfl (wy_pr rfl) wt_237 wf_15_15 (v := 241) (hb) (fun r5 => ?_)
        refine wb_gf4 241 rfl (wy_pr rfl) wt_241 wf_12_5 (v := 246) wl_241_5 ?_
        refine wa_bipush (w_rg2 (by omega) (by omega)) ?_
        refine wa_iload_n (n := 1) rfl ?_
        refine wa_imul ?_
        refine wa_iload (n := 4) rfl ?_
        refine wa_iadd ?_
        refine wb_iald 246 rfl (wy_pr rfl) wt_246 (n := 3600) ((ml_246 hM)) (by omega) (by omega) (v := (S 246 ((60 * c) + (i : Int)))) rfl (fun r6 => ?_)
        refine wa_iload_n (n := 2) rfl ?_
        refine wa_icmpne (w_rg0 (by omega) (by omega)) (w_rg0 (by omega) (by omega)) ⟨_, rfl⟩ (fun c7 => ?_) (fun c7 => ?_)
        · skip
          refine wa_iconst ?_
          refine wa_fall ⟨_, rfl⟩ ?_
          refine wa_istore_n (n := 3) rfl ?_
          refine wa_iinc rfl rfl ?_
          refine wa_goto ⟨_, rfl⟩ ?_
          refine wJ_S (ih (i + 1) 0 (by omega) (by omega) ?_) ⟨rfl, rfl, rfl, rfl, rfl, trivial⟩
          show (0 = (1 : Int) ∧ (tw_n (S 243) (S 244) (S 246) c s i || decide (S 246 (60 * c + (i : Int)) = s)) = true) ∨ (0 = (0 : Int) ∧ (tw_n (S 243) (S 244) (S 246) c s i || decide (S 246 (60 * c + (i : Int)) = s)) = false)
          rcases ht with ⟨q1, q2⟩ | ⟨q1, q2⟩
          · first | exact Or.inl ⟨rfl, by rw [q2]; rfl⟩ | exact absurd q1 (by omega)
          · exact Or.inr ⟨rfl, by rw [q2, decide_eq_false (by omega)]; rfl⟩
        · skip
          refine wa_fall ⟨_, rfl⟩ ?_
          refine wa_iconst ?_
          refine wa_goto ⟨_, rfl⟩ ?_
          refine wa_istore_n (n := 3) rfl ?_
          refine wa_iinc rfl rfl ?_
          refine wa_goto ⟨_, rfl⟩ ?_
          refine wJ_S (ih (i + 1) 1 (by omega) (by omega) ?_) ⟨rfl, rfl, rfl, rfl, rfl, trivial⟩
          show (1 = (1 : Int) ∧ (tw_n (S 243) (S 244) (S 246) c s i || decide (S 246 (60 * c + (i : Int)) = s)) = true) ∨ (1 = (0 : Int) ∧ (tw_n (S 243) (S 244) (S 246) c s i || decide (S 246 (60 * c + (i : Int)) = s)) = false)
          rcases ht with ⟨q1, q2⟩ | ⟨q1, q2⟩
          · first | exact Or.inl ⟨rfl, by rw [q2]; rfl⟩ | exact absurd q1 (by omega)
          · first | exact absurd q1 (by omega) | exact Or.inl ⟨rfl, by rw [q2, decide_eq_true (by omega)]; rfl⟩
theorem readsSuper_241 {p c : Int} {r : (Int × Int) ⊕ Int} (hI : lx_I S p) (hb : S 237 15 = 241) (hc : ho_nm S 241) (hcc : 0 ≤ c ∧ c < 60) (hs : 0 ≤ S 245 c ∧ S 245 c ≤ 60) (hs2 : ∀ s : Int, 0 ≤ s → s < S 241 1 → tw_of_241 S c s = false → S 245 c < 60) (he : hs_super_241 S p c = r) : wJ (pe_GA xs) wY0 M (d + 5) t_M_readsSuper ((pe_at t_M_readsSuper.bl 0).getD (0, [])).2 [(0, (2, 237)), (1, (0, c))] [] S (fun o S2 => (∃ s : Int, r = .inr s ∧ o = .inl none ∧ lx_ag (hs_S_241 S c s) S2 ∧ lx_I S2 (lx_ne S p)) ∨ (∃ t q : Int, r = .inl (t, q) ∧ o = .inr 238 ∧ w_hl S t q = S2)) := by
  have h7 : S 237 7 = p := hI.2.2.2.1
  have hM := hI.1
  unfold hs_super_241 at he
  refine wa_aload_n (n := 0) rfl ?_
  refine wa_aload_n (n := 0) rfl ?_
  refine wb_gfi 237 rfl (wy_pr rfl) wt_237 wf_15_6 (v := (S 237 6)) rfl (fun r1 => ?_)
  refine wa_iconst ?_
  refine wa_icmpne (w_rg0 (by omega) (by omega)) (w_rg0 (by omega) (by omega)) ⟨_, rfl⟩ (fun c2 => ?_) (fun c2 => ?_)
  · skip
    refine wa_iconst ?_
    refine wa_fall ⟨_, rfl⟩ ?_
    refine wa_iconst ?_
    refine wa_cv 237 rfl (wy_pr rfl) wt_237 (M2 := fun _ => False) rfl at_M_must ⟨_, rfl⟩ rfl rfl ⟨(Or.inr ⟨wy_pr rfl, fun q => q⟩), trivial, trivial⟩ trivial (fun _ _ q => False.elim q) (must_ok (g := 0) (n := 1) (Or.inl rfl) ⟨by omega, by omega⟩) (fun oq4 Sq4 hp5 q4 => ?_)
    rcases q4 with ⟨m3, _, _⟩ | ⟨_, rfl, rfl⟩
    · skip
      exact absurd m3 (by decide)
    · skip
      refine ⟨rfl, ?_⟩
      repeat (first | rw [if_pos (by omega)] at he | rw [if_neg (by omega)] at he)
      exact Or.inr ⟨_, _, he.symm, rfl, by rw [h7]⟩
  · skip
    refine wa_iconst ?_
    refine wa_goto ⟨_, rfl⟩ ?_
    refine wa_iconst ?_
    refine wa_cv 237 rfl (wy_pr rfl) wt_237 (M2 := fun _ => False) rfl at_M_must ⟨_, rfl⟩ rfl rfl ⟨(Or.inr ⟨wy_pr rfl, fun q => q⟩), trivial, trivial⟩ trivial (fun _ _ q => False.elim q) (must_ok (g := 1) (n := 1) (Or.inr rfl) ⟨by omega, by omega⟩) (fun oq7 Sq7 hp8 q7 => ?_)
    rcases q7 with ⟨_, rfl, rfl⟩ | ⟨m6, _, _⟩
    · skip
      show wJ _ _ _ _ _ _ _ _ _ _
      refine wa_aload_n (n := 0) rfl ?_
      refine wa_cv 237 rfl (wy_pr rfl) wt_237 (M2 := fun _ => False) rfl at_M_classHere ⟨_, rfl⟩ rfl rfl ⟨(Or.inr ⟨wy_pr rfl, fun q => q⟩), trivial, trivial⟩ trivial (fun _ _ q => False.elim q) (classHere_241 hI.1 hb hc (lx_I_hp hI)) (fun oq9 Sq9 hp10 q9 => ?_)
      rcases q9 with ⟨rfl, rfl⟩
      show wJ _ _ _ _ _ _ _ _ _ _
      have hch := ch_of_rg S 241 (hc).1.2
      refine wa_istore_n (n := 2) rfl ?_
      refine wa_aload_n (n := 0) rfl ?_
      refine wa_iload_n (n := 2) rfl ?_
      refine wa_iflt (w_rg0 (by omega) (by omega)) ⟨_, rfl⟩ (fun c11 => ?_) (fun c11 => ?_)
      · skip
        refine wa_iconst ?_
        refine wa_fall ⟨_, rfl⟩ ?_
        refine wa_iconst ?_
        refine wa_cv 237 rfl (wy_pr rfl) wt_237 (M2 := fun _ => False) rfl at_M_must ⟨_, rfl⟩ rfl rfl ⟨trivial, (Or.inr ⟨wy_pr rfl, fun q => q⟩), trivial, trivial⟩ trivial (fun _ _ q => False.elim q) (must_ok (g := 0) (n := 3) (Or.inl rfl) ⟨by omega, by omega⟩) (fun oq13 Sq13 hp14 q13 => ?_)
        rcases q13 with ⟨m12, _, _⟩ | ⟨_, rfl, rfl⟩
        · skip
          exact absurd m12 (by decide)
        · skip
          refine ⟨rfl, ?_⟩
          repeat (first | rw [if_pos (by omega)] at he | rw [if_neg (by omega)] at he)
          exact Or.inr ⟨_, _, he.symm, rfl, by rw [h7]⟩
      · skip
        refine wa_iconst ?_
        refine wa_goto ⟨_, rfl⟩ ?_
        refine wa_iconst ?_
        refine wa_cv 237 rfl (wy_pr rfl) wt_237 (M2 := fun _ => False) rfl at_M_must ⟨_, rfl⟩ rfl rfl ⟨trivial, (Or.inr ⟨wy_pr rfl, fun q => q⟩), trivial, trivial⟩ trivial (fun _ _ q => False.elim q) (must_ok (g := 1) (n := 3) (Or.inr rfl) ⟨by omega, by omega⟩) (fun oq16 Sq16 hp17 q16 => ?_)
        rcases q16 with ⟨_, rfl, rfl⟩ | ⟨m15, _, _⟩
        · skip
          show wJ _ _ _ _ _ _ _ _ _ _
          refine wa_aload_n (n := 0) rfl ?_
          refine wb_gf5 237 rfl (wy_pr rfl) wt_237 wf_15_15 (v := 241) (hb) (fun r18 => ?_)
          refine wb_gf4 241 rfl (wy_pr rfl) wt_241 wf_12_2 (v := 243) wl_241_2 ?_
          refine wa_iload_n (n := 2) rfl ?_
          refine wb_zald 243 rfl (wy_pr rfl) wt_243 (n := 60) ((ml_243 hM)) (by omega) (by omega) (v := (S 243 (ch_of S 241))) rfl (fun r19 => ?_)
          refine wa_ifne (w_rg0 (by omega) (by omega)) ⟨_, rfl⟩ (fun c20 => ?_) (fun c20 => ?_)
          · skip
            refine wa_iconst ?_
            refine wa_fall ⟨_, rfl⟩ ?_
            refine wa_istore_n (n := 3) rfl ?_
            refine wa_iconst ?_
            refine wa_istore (n := 4) rfl ?_
            refine wa_fall ⟨_, rfl⟩ ?_
            refine wJ_S (su_8_241 hI hb hc hcc hs ⟨by omega, by omega⟩ (fun t ht => ?_) ((S 245 c).toNat + 1) 0 0 (by omega) (by omega) (Or.inr ⟨rfl, decide_eq_false (by omega)⟩)) ⟨rfl, rfl, rfl, rfl, rfl, trivial⟩
            have ht01 : t = 0 ∨ t = 1 := by rcases ht with z | z <;> omega
            refine wa_aload_n (n := 0) rfl ?_
            refine wa_iload_n (n := 3) rfl ?_
            refine wa_ifne (w_rg0 (by omega) (by omega)) ⟨_, rfl⟩ (fun c81 => ?_) (fun c81 => ?_)
            · skip
              refine wa_iconst ?_
              refine wa_fall ⟨_, rfl⟩ ?_
              refine wa_iconst ?_
              refine wa_cv 237 rfl (wy_pr rfl) wt_237 (M2 := fun _ => False) rfl at_M_must ⟨_, rfl⟩ rfl rfl ⟨(Or.inr ⟨wy_pr rfl, fun q => q⟩), trivial, trivial, trivial, trivial⟩ trivial (fun _ _ q => False.elim q) (must_ok (g := 0) (n := 4) (Or.inl rfl) ⟨by omega, by omega⟩) (fun oq83 Sq83 hp84 q83 => ?_)
              rcases q83 with ⟨m82, _, _⟩ | ⟨_, rfl, rfl⟩
              · skip
                exact absurd m82 (by decide)
              · skip
                refine ⟨rfl, ?_⟩
                rw [if_pos (by omega), if_pos (by omega), if_pos (by rcases ht with z | z; exact z.2; exact absurd z.1 (by omega))] at he
                exact Or.inr ⟨_, _, he.symm, rfl, by rw [h7]⟩
            · skip
              refine wa_iconst ?_
              refine wa_goto ⟨_, rfl⟩ ?_
              refine wa_iconst ?_
              refine wa_cv 237 rfl (wy_pr rfl) wt_237 (M2 := fun _ => False) rfl at_M_must ⟨_, rfl⟩ rfl rfl ⟨(Or.inr ⟨wy_pr rfl, fun q => q⟩), trivial, trivial, trivial, trivial⟩ trivial (fun _ _ q => False.elim q) (must_ok (g := 1) (n := 4) (Or.inr rfl) ⟨by omega, by omega⟩) (fun oq86 Sq86 hp87 q86 => ?_)
              rcases q86 with ⟨_, rfl, rfl⟩ | ⟨m85, _, _⟩
              · skip
                show wJ _ _ _ _ _ _ _ _ _ _
                have htf : tw_of_241 S c (ch_of S 241) = false := by
                  rcases ht with z | z
                  · exact absurd z.1 (by omega)
                  · exact z.2
                have hs3 := hs2 (ch_of S 241) (by omega) (by omega) htf
                refine wa_aload_n (n := 0) rfl ?_
                refine wb_gf5 237 rfl (wy_pr rfl) wt_237 wf_15_15 (v := 241) (hb) (fun r88 => ?_)
                refine wb_gf4 241 rfl (wy_pr rfl) wt_241 wf_12_5 (v := 246) wl_241_5 ?_
                refine wa_bipush (w_rg2 (by omega) (by omega)) ?_
                refine wa_iload_n (n := 1) rfl ?_
                refine wa_imul ?_
                refine wa_aload_n (n := 0) rfl ?_
                refine wb_gf5 237 rfl (wy_pr rfl) wt_237 wf_15_15 (v := 241) (hb) (fun r89 => ?_)
                refine wb_gf4 241 rfl (wy_pr rfl) wt_241 wf_12_4 (v := 245) wl_241_4 ?_
                refine wa_iload_n (n := 1) rfl ?_
                refine wb_iald 245 rfl (wy_pr rfl) wt_245 (n := 60) ((ml_245 hM)) (by omega) (by omega) (v := (S 245 c)) rfl (fun r90 => ?_)
                refine wa_iadd ?_
                refine wa_iload_n (n := 2) rfl ?_
                refine wb_iast 246 rfl (wy_pr rfl) wt_246 (n := 3600) ((ml_246 hM)) (by omega) (by omega) ⟨(by omega), (by omega)⟩ ?_
                refine wa_aload_n (n := 0) rfl ?_
                refine wb_gf5 237 rfl (wy_pr rfl) wt_237 wf_15_15 (v := 241) ((w_up_slot (by decide)).trans (hb)) (fun r91 => ?_)
                refine wb_gf4 241 rfl (wy_pr rfl) wt_241 wf_12_4 (v := 245) wl_241_4 ?_
                refine wa_iload_n (n := 1) rfl ?_
                refine wa_dup2 (by decide) (by decide) ?_
                refine wb_iald 245 rfl (wy_pr rfl) wt_245 (n := 60) ((w_up_slot (by decide)).trans ((ml_245 hM))) (by omega) (by omega) (v := (S 245 c)) (w_up_slot (by decide)) (fun r92 => ?_)
                refine wa_iconst ?_
                refine wa_iadd ?_
                refine wb_iast 245 rfl (wy_pr rfl) wt_245 (n := 60) ((w_up_slot (by decide)).trans ((ml_245 hM))) (by omega) (by omega) ⟨(by omega), (by omega)⟩ ?_
                refine wa_aload_n (n := 0) rfl ?_
                refine wb_gf5 237 rfl (wy_pr rfl) wt_237 wf_15_15 (v := 241) ((w_up_slot (by decide)).trans ((w_up_slot (by decide)).trans (hb))) (fun r93 => ?_)
                refine wb_gf4 241 rfl (wy_pr rfl) wt_241 wf_12_6 (v := 247) wl_241_6 ?_
                refine wa_iload_n (n := 1) rfl ?_
                refine wa_dup2 (by decide) (by decide) ?_
                refine wb_lald 247 rfl (wy_pr rfl) wt_247 (n := 60) ((w_up_slot (by decide)).trans ((w_up_slot (by decide)).trans ((ml_247 hM)))) (by omega) (by omega) (v := (S 247 c)) ((w_up_slot (by decide)).trans (w_up_slot (by decide))) (fun r94 => ?_)
                refine wa_aload_n (n := 0) rfl ?_
                refine wb_gf5 237 rfl (wy_pr rfl) wt_237 wf_15_15 (v := 241) ((w_up_slot (by decide)).trans ((w_up_slot (by decide)).trans (hb))) (fun r95 => ?_)
                refine wb_gf4 241 rfl (wy_pr rfl) wt_241 wf_12_6 (v := 247) wl_241_6 ?_
                refine wa_iload_n (n := 2) rfl ?_
                refine wb_lald 247 rfl (wy_pr rfl) wt_247 (n := 60) ((w_up_slot (by decide)).trans ((w_up_slot (by decide)).trans ((ml_247 hM)))) (by omega) (by omega) (v := (S 247 (ch_of S 241))) ((w_up_slot (by decide)).trans (w_up_slot (by decide))) (fun r96 => ?_)
                refine wa_lor ?_
                have hlo := wb_lor_rg (S 247 c) (S 247 (ch_of S 241))
                refine wb_last 247 rfl (wy_pr rfl) wt_247 (n := 60) ((w_up_slot (by decide)).trans ((w_up_slot (by decide)).trans ((ml_247 hM)))) (by omega) (by omega) ⟨(by omega), (by omega)⟩ ?_
                refine wa_aload_n (n := 0) rfl ?_
                refine wb_gf5 237 rfl (wy_pr rfl) wt_237 wf_15_15 (v := 241) ((w_up_slot (by decide)).trans ((w_up_slot (by decide)).trans ((w_up_slot (by decide)).trans (hb)))) (fun r97 => ?_)
                refine wa_fall ⟨_, rfl⟩ ?_
                refine wb_gf4 241 rfl (wy_pr rfl) wt_241 wf_12_2 (v := 243) wl_241_2 ?_
                refine wa_iload_n (n := 2) rfl ?_
                refine wb_zald 243 rfl (wy_pr rfl) wt_243 (n := 60) ((w_up_slot (by decide)).trans ((w_up_slot (by decide)).trans ((w_up_slot (by decide)).trans ((ml_243 hM))))) (by omega) (by omega) (v := (S 243 (ch_of S 241))) ((w_up_slot (by decide)).trans ((w_up_slot (by decide)).trans (w_up_slot (by decide)))) (fun r98 => ?_)
                refine wa_ifne (w_rg0 (by omega) (by omega)) ⟨_, rfl⟩ (fun c99 => ?_) (fun c99 => ?_)
                · skip
                  refine wa_aload_n (n := 0) rfl ?_
                  refine wa_cv 237 rfl (wy_pr rfl) wt_237 (M2 := fun _ => False) rfl at_M_next ⟨_, rfl⟩ rfl rfl ⟨(Or.inr ⟨wy_pr rfl, fun q => q⟩), trivial, trivial, trivial, trivial⟩ trivial (fun _ _ q => False.elim q) (nx_I (S := (w_up (w_up (w_up S 246 ((60 * c) + (S 245 c)) (ch_of S 241)) 245 c ((S 245 c) + 1)) 247 c (wb_lor (S 247 c) (S 247 (ch_of S 241))))) (lx_I_up (lx_I_up (lx_I_up hI (by decide) (by omega)) (by decide) (by omega)) (by decide) (by omega)) (by have e6 : (w_up (w_up (w_up S 246 ((60 * c) + (S 245 c)) (ch_of S 241)) 245 c ((S 245 c) + 1)) 247 c (wb_lor (S 247 c) (S 247 (ch_of S 241)))) 237 6 = (S 237 6) := ((w_up_slot (by decide)).trans ((w_up_slot (by decide)).trans (w_up_slot (by decide)))); omega)) (fun oq100 Sq100 hp101 q100 => ?_)
                  rcases q100 with ⟨rfl, a1, a2⟩
                  show wJ _ _ _ _ _ _ _ _ _ _
                  refine wa_return rfl ?_
                  rw [if_pos (by omega), if_pos (by omega), if_neg (by rw [htf]; decide)] at he
                  refine Or.inl ⟨_, he.symm, rfl, ?_, by rw [show lx_ne S p = lx_ne (w_up (w_up (w_up S 246 ((60 * c) + (S 245 c)) (ch_of S 241)) 245 c ((S 245 c) + 1)) 247 c (wb_lor (S 247 c) (S 247 (ch_of S 241)))) p by rw [lx_ne_up (by decide)]; rw [lx_ne_up (by decide)]; rw [lx_ne_up (by decide)]]; exact a2⟩
                  unfold hs_S_241; first | (rw [if_pos (by omega)]; exact a1) | (rw [if_neg (by omega)]; exact a1)
                · skip
                  refine wa_aload_n (n := 0) rfl ?_
                  refine wb_gf5 237 rfl (wy_pr rfl) wt_237 wf_15_15 (v := 241) ((w_up_slot (by decide)).trans ((w_up_slot (by decide)).trans ((w_up_slot (by decide)).trans (hb)))) (fun r102 => ?_)
                  refine wb_gf4 241 rfl (wy_pr rfl) wt_241 wf_12_3 (v := 244) wl_241_3 ?_
                  refine wa_iload_n (n := 1) rfl ?_
                  refine wa_iload_n (n := 2) rfl ?_
                  refine wb_iast 244 rfl (wy_pr rfl) wt_244 (n := 60) ((w_up_slot (by decide)).trans ((w_up_slot (by decide)).trans ((w_up_slot (by decide)).trans ((ml_244 hM))))) (by omega) (by omega) ⟨(by omega), (by omega)⟩ ?_
                  refine wa_fall ⟨_, rfl⟩ ?_
                  refine wa_aload_n (n := 0) rfl ?_
                  refine wa_cv 237 rfl (wy_pr rfl) wt_237 (M2 := fun _ => False) rfl at_M_next ⟨_, rfl⟩ rfl rfl ⟨(Or.inr ⟨wy_pr rfl, fun q => q⟩), trivial, trivial, trivial, trivial⟩ trivial (fun _ _ q => False.elim q) (nx_I (S := (w_up (w_up (w_up (w_up S 246 ((60 * c) + (S 245 c)) (ch_of S 241)) 245 c ((S 245 c) + 1)) 247 c (wb_lor (S 247 c) (S 247 (ch_of S 241)))) 244 c (ch_of S 241))) (lx_I_up (lx_I_up (lx_I_up (lx_I_up hI (by decide) (by omega)) (by decide) (by omega)) (by decide) (by omega)) (by decide) (by omega)) (by have e6 : (w_up (w_up (w_up (w_up S 246 ((60 * c) + (S 245 c)) (ch_of S 241)) 245 c ((S 245 c) + 1)) 247 c (wb_lor (S 247 c) (S 247 (ch_of S 241)))) 244 c (ch_of S 241)) 237 6 = (S 237 6) := ((w_up_slot (by decide)).trans ((w_up_slot (by decide)).trans ((w_up_slot (by decide)).trans (w_up_slot (by decide))))); omega)) (fun oq103 Sq103 hp104 q103 => ?_)
                  rcases q103 with ⟨rfl, a1, a2⟩
                  show wJ _ _ _ _ _ _ _ _ _ _
                  refine wa_return rfl ?_
                  rw [if_pos (by omega), if_pos (by omega), if_neg (by rw [htf]; decide)] at he
                  refine Or.inl ⟨_, he.symm, rfl, ?_, by rw [show lx_ne S p = lx_ne (w_up (w_up (w_up (w_up S 246 ((60 * c) + (S 245 c)) (ch_of S 241)) 245 c ((S 245 c) + 1)) 247 c (wb_lor (S 247 c) (S 247 (ch_of S 241)))) 244 c (ch_of S 241)) p by rw [lx_ne_up (by decide)]; rw [lx_ne_up (by decide)]; rw [lx_ne_up (by decide)]; rw [lx_ne_up (by decide)]]; exact a2⟩
                  unfold hs_S_241; first | (rw [if_pos (by omega)]; exact a1) | (rw [if_neg (by omega)]; exact a1)
              · skip
                exact absurd m85 (by decide)
          · skip
            refine wa_aload_n (n := 0) rfl ?_
            refine wb_gf5 237 rfl (wy_pr rfl) wt_237 wf_15_15 (v := 241) (hb) (fun r21 => ?_)
            refine wb_gf4 241 rfl (wy_pr rfl) wt_241 wf_12_2 (v := 243) wl_241_2 ?_
            refine wa_iload_n (n := 1) rfl ?_
            refine wb_zald 243 rfl (wy_pr rfl) wt_243 (n := 60) ((ml_243 hM)) (by omega) (by omega) (v := (S 243 c)) rfl (fun r22 => ?_)
            refine wa_ifne (w_rg0 (by omega) (by omega)) ⟨_, rfl⟩ (fun c23 => ?_) (fun c23 => ?_)
            · skip
              refine wa_iconst ?_
              refine wa_goto ⟨_, rfl⟩ ?_
              refine wa_istore_n (n := 3) rfl ?_
              refine wa_iconst ?_
              refine wa_istore (n := 4) rfl ?_
              refine wa_fall ⟨_, rfl⟩ ?_
              refine wJ_S (su_8_241 hI hb hc hcc hs ⟨by omega, by omega⟩ (fun t ht => ?_) ((S 245 c).toNat + 1) 0 1 (by omega) (by omega) (Or.inl ⟨rfl, decide_eq_true (by omega)⟩)) ⟨rfl, rfl, rfl, rfl, rfl, trivial⟩
              have ht01 : t = 0 ∨ t = 1 := by rcases ht with z | z <;> omega
              refine wa_aload_n (n := 0) rfl ?_
              refine wa_iload_n (n := 3) rfl ?_
              refine wa_ifne (w_rg0 (by omega) (by omega)) ⟨_, rfl⟩ (fun c84 => ?_) (fun c84 => ?_)
              · skip
                refine wa_iconst ?_
                refine wa_fall ⟨_, rfl⟩ ?_
                refine wa_iconst ?_
                refine wa_cv 237 rfl (wy_pr rfl) wt_237 (M2 := fun _ => False) rfl at_M_must ⟨_, rfl⟩ rfl rfl ⟨(Or.inr ⟨wy_pr rfl, fun q => q⟩), trivial, trivial, trivial, trivial⟩ trivial (fun _ _ q => False.elim q) (must_ok (g := 0) (n := 4) (Or.inl rfl) ⟨by omega, by omega⟩) (fun oq86 Sq86 hp87 q86 => ?_)
                rcases q86 with ⟨m85, _, _⟩ | ⟨_, rfl, rfl⟩
                · skip
                  exact absurd m85 (by decide)
                · skip
                  refine ⟨rfl, ?_⟩
                  rw [if_pos (by omega), if_pos (by omega), if_pos (by rcases ht with z | z; exact z.2; exact absurd z.1 (by omega))] at he
                  exact Or.inr ⟨_, _, he.symm, rfl, by rw [h7]⟩
              · skip
                refine wa_iconst ?_
                refine wa_goto ⟨_, rfl⟩ ?_
                refine wa_iconst ?_
                refine wa_cv 237 rfl (wy_pr rfl) wt_237 (M2 := fun _ => False) rfl at_M_must ⟨_, rfl⟩ rfl rfl ⟨(Or.inr ⟨wy_pr rfl, fun q => q⟩), trivial, trivial, trivial, trivial⟩ trivial (fun _ _ q => False.elim q) (must_ok (g := 1) (n := 4) (Or.inr rfl) ⟨by omega, by omega⟩) (fun oq89 Sq89 hp90 q89 => ?_)
                rcases q89 with ⟨_, rfl, rfl⟩ | ⟨m88, _, _⟩
                · skip
                  show wJ _ _ _ _ _ _ _ _ _ _
                  have htf : tw_of_241 S c (ch_of S 241) = false := by
                    rcases ht with z | z
                    · exact absurd z.1 (by omega)
                    · exact z.2
                  have hs3 := hs2 (ch_of S 241) (by omega) (by omega) htf
                  refine wa_aload_n (n := 0) rfl ?_
                  refine wb_gf5 237 rfl (wy_pr rfl) wt_237 wf_15_15 (v := 241) (hb) (fun r91 => ?_)
                  refine wb_gf4 241 rfl (wy_pr rfl) wt_241 wf_12_5 (v := 246) wl_241_5 ?_
                  refine wa_bipush (w_rg2 (by omega) (by omega)) ?_
                  refine wa_iload_n (n := 1) rfl ?_
                  refine wa_imul ?_
                  refine wa_aload_n (n := 0) rfl ?_
                  refine wb_gf5 237 rfl (wy_pr rfl) wt_237 wf_15_15 (v := 241) (hb) (fun r92 => ?_)
                  refine wb_gf4 241 rfl (wy_pr rfl) wt_241 wf_12_4 (v := 245) wl_241_4 ?_
                  refine wa_iload_n (n := 1) rfl ?_
                  refine wb_iald 245 rfl (wy_pr rfl) wt_245 (n := 60) ((ml_245 hM)) (by omega) (by omega) (v := (S 245 c)) rfl (fun r93 => ?_)
                  refine wa_iadd ?_
                  refine wa_iload_n (n := 2) rfl ?_
                  refine wb_iast 246 rfl (wy_pr rfl) wt_246 (n := 3600) ((ml_246 hM)) (by omega) (by omega) ⟨(by omega), (by omega)⟩ ?_
                  refine wa_aload_n (n := 0) rfl ?_
                  refine wb_gf5 237 rfl (wy_pr rfl) wt_237 wf_15_15 (v := 241) ((w_up_slot (by decide)).trans (hb)) (fun r94 => ?_)
                  refine wb_gf4 241 rfl (wy_pr rfl) wt_241 wf_12_4 (v := 245) wl_241_4 ?_
                  refine wa_iload_n (n := 1) rfl ?_
                  refine wa_dup2 (by decide) (by decide) ?_
                  refine wb_iald 245 rfl (wy_pr rfl) wt_245 (n := 60) ((w_up_slot (by decide)).trans ((ml_245 hM))) (by omega) (by omega) (v := (S 245 c)) (w_up_slot (by decide)) (fun r95 => ?_)
                  refine wa_iconst ?_
                  refine wa_iadd ?_
                  refine wb_iast 245 rfl (wy_pr rfl) wt_245 (n := 60) ((w_up_slot (by decide)).trans ((ml_245 hM))) (by omega) (by omega) ⟨(by omega), (by omega)⟩ ?_
                  refine wa_aload_n (n := 0) rfl ?_
                  refine wb_gf5 237 rfl (wy_pr rfl) wt_237 wf_15_15 (v := 241) ((w_up_slot (by decide)).trans ((w_up_slot (by decide)).trans (hb))) (fun r96 => ?_)
                  refine wb_gf4 241 rfl (wy_pr rfl) wt_241 wf_12_6 (v := 247) wl_241_6 ?_
                  refine wa_iload_n (n := 1) rfl ?_
                  refine wa_dup2 (by decide) (by decide) ?_
                  refine wb_lald 247 rfl (wy_pr rfl) wt_247 (n := 60) ((w_up_slot (by decide)).trans ((w_up_slot (by decide)).trans ((ml_247 hM)))) (by omega) (by omega) (v := (S 247 c)) ((w_up_slot (by decide)).trans (w_up_slot (by decide))) (fun r97 => ?_)
                  refine wa_aload_n (n := 0) rfl ?_
                  refine wb_gf5 237 rfl (wy_pr rfl) wt_237 wf_15_15 (v := 241) ((w_up_slot (by decide)).trans ((w_up_slot (by decide)).trans (hb))) (fun r98 => ?_)
                  refine wb_gf4 241 rfl (wy_pr rfl) wt_241 wf_12_6 (v := 247) wl_241_6 ?_
                  refine wa_iload_n (n := 2) rfl ?_
                  refine wb_lald 247 rfl (wy_pr rfl) wt_247 (n := 60) ((w_up_slot (by decide)).trans ((w_up_slot (by decide)).trans ((ml_247 hM)))) (by omega) (by omega) (v := (S 247 (ch_of S 241))) ((w_up_slot (by decide)).trans (w_up_slot (by decide))) (fun r99 => ?_)
                  refine wa_lor ?_
                  have hlo := wb_lor_rg (S 247 c) (S 247 (ch_of S 241))
                  refine wb_last 247 rfl (wy_pr rfl) wt_247 (n := 60) ((w_up_slot (by decide)).trans ((w_up_slot (by decide)).trans ((ml_247 hM)))) (by omega) (by omega) ⟨(by omega), (by omega)⟩ ?_
                  refine wa_aload_n (n := 0) rfl ?_
                  refine wb_gf5 237 rfl (wy_pr rfl) wt_237 wf_15_15 (v := 241) ((w_up_slot (by decide)).trans ((w_up_slot (by decide)).trans ((w_up_slot (by decide)).trans (hb)))) (fun r100 => ?_)
                  refine wa_fall ⟨_, rfl⟩ ?_
                  refine wb_gf4 241 rfl (wy_pr rfl) wt_241 wf_12_2 (v := 243) wl_241_2 ?_
                  refine wa_iload_n (n := 2) rfl ?_
                  refine wb_zald 243 rfl (wy_pr rfl) wt_243 (n := 60) ((w_up_slot (by decide)).trans ((w_up_slot (by decide)).trans ((w_up_slot (by decide)).trans ((ml_243 hM))))) (by omega) (by omega) (v := (S 243 (ch_of S 241))) ((w_up_slot (by decide)).trans ((w_up_slot (by decide)).trans (w_up_slot (by decide)))) (fun r101 => ?_)
                  refine wa_ifne (w_rg0 (by omega) (by omega)) ⟨_, rfl⟩ (fun c102 => ?_) (fun c102 => ?_)
                  · skip
                    refine wa_aload_n (n := 0) rfl ?_
                    refine wa_cv 237 rfl (wy_pr rfl) wt_237 (M2 := fun _ => False) rfl at_M_next ⟨_, rfl⟩ rfl rfl ⟨(Or.inr ⟨wy_pr rfl, fun q => q⟩), trivial, trivial, trivial, trivial⟩ trivial (fun _ _ q => False.elim q) (nx_I (S := (w_up (w_up (w_up S 246 ((60 * c) + (S 245 c)) (ch_of S 241)) 245 c ((S 245 c) + 1)) 247 c (wb_lor (S 247 c) (S 247 (ch_of S 241))))) (lx_I_up (lx_I_up (lx_I_up hI (by decide) (by omega)) (by decide) (by omega)) (by decide) (by omega)) (by have e6 : (w_up (w_up (w_up S 246 ((60 * c) + (S 245 c)) (ch_of S 241)) 245 c ((S 245 c) + 1)) 247 c (wb_lor (S 247 c) (S 247 (ch_of S 241)))) 237 6 = (S 237 6) := ((w_up_slot (by decide)).trans ((w_up_slot (by decide)).trans (w_up_slot (by decide)))); omega)) (fun oq103 Sq103 hp104 q103 => ?_)
                    rcases q103 with ⟨rfl, a1, a2⟩
                    show wJ _ _ _ _ _ _ _ _ _ _
                    refine wa_return rfl ?_
                    rw [if_pos (by omega), if_pos (by omega), if_neg (by rw [htf]; decide)] at he
                    refine Or.inl ⟨_, he.symm, rfl, ?_, by rw [show lx_ne S p = lx_ne (w_up (w_up (w_up S 246 ((60 * c) + (S 245 c)) (ch_of S 241)) 245 c ((S 245 c) + 1)) 247 c (wb_lor (S 247 c) (S 247 (ch_of S 241)))) p by rw [lx_ne_up (by decide)]; rw [lx_ne_up (by decide)]; rw [lx_ne_up (by decide)]]; exact a2⟩
                    unfold hs_S_241; first | (rw [if_pos (by omega)]; exact a1) | (rw [if_neg (by omega)]; exact a1)
                  · skip
                    refine wa_aload_n (n := 0) rfl ?_
                    refine wb_gf5 237 rfl (wy_pr rfl) wt_237 wf_15_15 (v := 241) ((w_up_slot (by decide)).trans ((w_up_slot (by decide)).trans ((w_up_slot (by decide)).trans (hb)))) (fun r105 => ?_)
                    refine wb_gf4 241 rfl (wy_pr rfl) wt_241 wf_12_3 (v := 244) wl_241_3 ?_
                    refine wa_iload_n (n := 1) rfl ?_
                    refine wa_iload_n (n := 2) rfl ?_
                    refine wb_iast 244 rfl (wy_pr rfl) wt_244 (n := 60) ((w_up_slot (by decide)).trans ((w_up_slot (by decide)).trans ((w_up_slot (by decide)).trans ((ml_244 hM))))) (by omega) (by omega) ⟨(by omega), (by omega)⟩ ?_
                    refine wa_fall ⟨_, rfl⟩ ?_
                    refine wa_aload_n (n := 0) rfl ?_
                    refine wa_cv 237 rfl (wy_pr rfl) wt_237 (M2 := fun _ => False) rfl at_M_next ⟨_, rfl⟩ rfl rfl ⟨(Or.inr ⟨wy_pr rfl, fun q => q⟩), trivial, trivial, trivial, trivial⟩ trivial (fun _ _ q => False.elim q) (nx_I (S := (w_up (w_up (w_up (w_up S 246 ((60 * c) + (S 245 c)) (ch_of S 241)) 245 c ((S 245 c) + 1)) 247 c (wb_lor (S 247 c) (S 247 (ch_of S 241)))) 244 c (ch_of S 241))) (lx_I_up (lx_I_up (lx_I_up (lx_I_up hI (by decide) (by omega)) (by decide) (by omega)) (by decide) (by omega)) (by decide) (by omega)) (by have e6 : (w_up (w_up (w_up (w_up S 246 ((60 * c) + (S 245 c)) (ch_of S 241)) 245 c ((S 245 c) + 1)) 247 c (wb_lor (S 247 c) (S 247 (ch_of S 241)))) 244 c (ch_of S 241)) 237 6 = (S 237 6) := ((w_up_slot (by decide)).trans ((w_up_slot (by decide)).trans ((w_up_slot (by decide)).trans (w_up_slot (by decide))))); omega)) (fun oq106 Sq106 hp107 q106 => ?_)
                    rcases q106 with ⟨rfl, a1, a2⟩
                    show wJ _ _ _ _ _ _ _ _ _ _
                    refine wa_return rfl ?_
                    rw [if_pos (by omega), if_pos (by omega), if_neg (by rw [htf]; decide)] at he
                    refine Or.inl ⟨_, he.symm, rfl, ?_, by rw [show lx_ne S p = lx_ne (w_up (w_up (w_up (w_up S 246 ((60 * c) + (S 245 c)) (ch_of S 241)) 245 c ((S 245 c) + 1)) 247 c (wb_lor (S 247 c) (S 247 (ch_of S 241)))) 244 c (ch_of S 241)) p by rw [lx_ne_up (by decide)]; rw [lx_ne_up (by decide)]; rw [lx_ne_up (by decide)]; rw [lx_ne_up (by decide)]]; exact a2⟩
                    unfold hs_S_241; first | (rw [if_pos (by omega)]; exact a1) | (rw [if_neg (by omega)]; exact a1)
                · skip
                  exact absurd m88 (by decide)
            · skip
              refine wa_aload_n (n := 0) rfl ?_
              refine wb_gf5 237 rfl (wy_pr rfl) wt_237 wf_15_15 (v := 241) (hb) (fun r24 => ?_)
              refine wb_gf4 241 rfl (wy_pr rfl) wt_241 wf_12_3 (v := 244) wl_241_3 ?_
              refine wa_iload_n (n := 1) rfl ?_
              refine wb_iald 244 rfl (wy_pr rfl) wt_244 (n := 60) ((ml_244 hM)) (by omega) (by omega) (v := (S 244 c)) rfl (fun r25 => ?_)
              refine wa_iflt (w_rg0 (by omega) (by omega)) ⟨_, rfl⟩ (fun c26 => ?_) (fun c26 => ?_)
              · skip
                refine wa_iconst ?_
                refine wa_fall ⟨_, rfl⟩ ?_
                refine wa_istore_n (n := 3) rfl ?_
                refine wa_iconst ?_
                refine wa_istore (n := 4) rfl ?_
                refine wa_fall ⟨_, rfl⟩ ?_
                refine wJ_S (su_8_241 hI hb hc hcc hs ⟨by omega, by omega⟩ (fun t ht => ?_) ((S 245 c).toNat + 1) 0 0 (by omega) (by omega) (Or.inr ⟨rfl, decide_eq_false (by omega)⟩)) ⟨rfl, rfl, rfl, rfl, rfl, trivial⟩
                have ht01 : t = 0 ∨ t = 1 := by rcases ht with z | z <;> omega
                refine wa_aload_n (n := 0) rfl ?_
                refine wa_iload_n (n := 3) rfl ?_
                refine wa_ifne (w_rg0 (by omega) (by omega)) ⟨_, rfl⟩ (fun c87 => ?_) (fun c87 => ?_)
                · skip
                  refine wa_iconst ?_
                  refine wa_fall ⟨_, rfl⟩ ?_
                  refine wa_iconst ?_
                  refine wa_cv 237 rfl (wy_pr rfl) wt_237 (M2 := fun _ => False) rfl at_M_must ⟨_, rfl⟩ rfl rfl ⟨(Or.inr ⟨wy_pr rfl, fun q => q⟩), trivial, trivial, trivial, trivial⟩ trivial (fun _ _ q => False.elim q) (must_ok (g := 0) (n := 4) (Or.inl rfl) ⟨by omega, by omega⟩) (fun oq89 Sq89 hp90 q89 => ?_)
                  rcases q89 with ⟨m88, _, _⟩ | ⟨_, rfl, rfl⟩
                  · skip
                    exact absurd m88 (by decide)
                  · skip
                    refine ⟨rfl, ?_⟩
                    rw [if_pos (by omega), if_pos (by omega), if_pos (by rcases ht with z | z; exact z.2; exact absurd z.1 (by omega))] at he
                    exact Or.inr ⟨_, _, he.symm, rfl, by rw [h7]⟩
                · skip
                  refine wa_iconst ?_
                  refine wa_goto ⟨_, rfl⟩ ?_
                  refine wa_iconst ?_
                  refine wa_cv 237 rfl (wy_pr rfl) wt_237 (M2 := fun _ => False) rfl at_M_must ⟨_, rfl⟩ rfl rfl ⟨(Or.inr ⟨wy_pr rfl, fun q => q⟩), trivial, trivial, trivial, trivial⟩ trivial (fun _ _ q => False.elim q) (must_ok (g := 1) (n := 4) (Or.inr rfl) ⟨by omega, by omega⟩) (fun oq92 Sq92 hp93 q92 => ?_)
                  rcases q92 with ⟨_, rfl, rfl⟩ | ⟨m91, _, _⟩
                  · skip
                    show wJ _ _ _ _ _ _ _ _ _ _
                    have htf : tw_of_241 S c (ch_of S 241) = false := by
                      rcases ht with z | z
                      · exact absurd z.1 (by omega)
                      · exact z.2
                    have hs3 := hs2 (ch_of S 241) (by omega) (by omega) htf
                    refine wa_aload_n (n := 0) rfl ?_
                    refine wb_gf5 237 rfl (wy_pr rfl) wt_237 wf_15_15 (v := 241) (hb) (fun r94 => ?_)
                    refine wb_gf4 241 rfl (wy_pr rfl) wt_241 wf_12_5 (v := 246) wl_241_5 ?_
                    refine wa_bipush (w_rg2 (by omega) (by omega)) ?_
                    refine wa_iload_n (n := 1) rfl ?_
                    refine wa_imul ?_
                    refine wa_aload_n (n := 0) rfl ?_
                    refine wb_gf5 237 rfl (wy_pr rfl) wt_237 wf_15_15 (v := 241) (hb) (fun r95 => ?_)
                    refine wb_gf4 241 rfl (wy_pr rfl) wt_241 wf_12_4 (v := 245) wl_241_4 ?_
                    refine wa_iload_n (n := 1) rfl ?_
                    refine wb_iald 245 rfl (wy_pr rfl) wt_245 (n := 60) ((ml_245 hM)) (by omega) (by omega) (v := (S 245 c)) rfl (fun r96 => ?_)
                    refine wa_iadd ?_
                    refine wa_iload_n (n := 2) rfl ?_
                    refine wb_iast 246 rfl (wy_pr rfl) wt_246 (n := 3600) ((ml_246 hM)) (by omega) (by omega) ⟨(by omega), (by omega)⟩ ?_
                    refine wa_aload_n (n := 0) rfl ?_
                    refine wb_gf5 237 rfl (wy_pr rfl) wt_237 wf_15_15 (v := 241) ((w_up_slot (by decide)).trans (hb)) (fun r97 => ?_)
                    refine wb_gf4 241 rfl (wy_pr rfl) wt_241 wf_12_4 (v := 245) wl_241_4 ?_
                    refine wa_iload_n (n := 1) rfl ?_
                    refine wa_dup2 (by decide) (by decide) ?_
                    refine wb_iald 245 rfl (wy_pr rfl) wt_245 (n := 60) ((w_up_slot (by decide)).trans ((ml_245 hM))) (by omega) (by omega) (v := (S 245 c)) (w_up_slot (by decide)) (fun r98 => ?_)
                    refine wa_iconst ?_
                    refine wa_iadd ?_
                    refine wb_iast 245 rfl (wy_pr rfl) wt_245 (n := 60) ((w_up_slot (by decide)).trans ((ml_245 hM))) (by omega) (by omega) ⟨(by omega), (by omega)⟩ ?_
                    refine wa_aload_n (n := 0) rfl ?_
                    refine wb_gf5 237 rfl (wy_pr rfl) wt_237 wf_15_15 (v := 241) ((w_up_slot (by decide)).trans ((w_up_slot (by decide)).trans (hb))) (fun r99 => ?_)
                    refine wb_gf4 241 rfl (wy_pr rfl) wt_241 wf_12_6 (v := 247) wl_241_6 ?_
                    refine wa_iload_n (n := 1) rfl ?_
                    refine wa_dup2 (by decide) (by decide) ?_
                    refine wb_lald 247 rfl (wy_pr rfl) wt_247 (n := 60) ((w_up_slot (by decide)).trans ((w_up_slot (by decide)).trans ((ml_247 hM)))) (by omega) (by omega) (v := (S 247 c)) ((w_up_slot (by decide)).trans (w_up_slot (by decide))) (fun r100 => ?_)
                    refine wa_aload_n (n := 0) rfl ?_
                    refine wb_gf5 237 rfl (wy_pr rfl) wt_237 wf_15_15 (v := 241) ((w_up_slot (by decide)).trans ((w_up_slot (by decide)).trans (hb))) (fun r101 => ?_)
                    refine wb_gf4 241 rfl (wy_pr rfl) wt_241 wf_12_6 (v := 247) wl_241_6 ?_
                    refine wa_iload_n (n := 2) rfl ?_
                    refine wb_lald 247 rfl (wy_pr rfl) wt_247 (n := 60) ((w_up_slot (by decide)).trans ((w_up_slot (by decide)).trans ((ml_247 hM)))) (by omega) (by omega) (v := (S 247 (ch_of S 241))) ((w_up_slot (by decide)).trans (w_up_slot (by decide))) (fun r102 => ?_)
                    refine wa_lor ?_
                    have hlo := wb_lor_rg (S 247 c) (S 247 (ch_of S 241))
                    refine wb_last 247 rfl (wy_pr rfl) wt_247 (n := 60) ((w_up_slot (by decide)).trans ((w_up_slot (by decide)).trans ((ml_247 hM)))) (by omega) (by omega) ⟨(by omega), (by omega)⟩ ?_
                    refine wa_aload_n (n := 0) rfl ?_
                    refine wb_gf5 237 rfl (wy_pr rfl) wt_237 wf_15_15 (v := 241) ((w_up_slot (by decide)).trans ((w_up_slot (by decide)).trans ((w_up_slot (by decide)).trans (hb)))) (fun r103 => ?_)
                    refine wa_fall ⟨_, rfl⟩ ?_
                    refine wb_gf4 241 rfl (wy_pr rfl) wt_241 wf_12_2 (v := 243) wl_241_2 ?_
                    refine wa_iload_n (n := 2) rfl ?_
                    refine wb_zald 243 rfl (wy_pr rfl) wt_243 (n := 60) ((w_up_slot (by decide)).trans ((w_up_slot (by decide)).trans ((w_up_slot (by decide)).trans ((ml_243 hM))))) (by omega) (by omega) (v := (S 243 (ch_of S 241))) ((w_up_slot (by decide)).trans ((w_up_slot (by decide)).trans (w_up_slot (by decide)))) (fun r104 => ?_)
                    refine wa_ifne (w_rg0 (by omega) (by omega)) ⟨_, rfl⟩ (fun c105 => ?_) (fun c105 => ?_)
                    · skip
                      refine wa_aload_n (n := 0) rfl ?_
                      refine wa_cv 237 rfl (wy_pr rfl) wt_237 (M2 := fun _ => False) rfl at_M_next ⟨_, rfl⟩ rfl rfl ⟨(Or.inr ⟨wy_pr rfl, fun q => q⟩), trivial, trivial, trivial, trivial⟩ trivial (fun _ _ q => False.elim q) (nx_I (S := (w_up (w_up (w_up S 246 ((60 * c) + (S 245 c)) (ch_of S 241)) 245 c ((S 245 c) + 1)) 247 c (wb_lor (S 247 c) (S 247 (ch_of S 241))))) (lx_I_up (lx_I_up (lx_I_up hI (by decide) (by omega)) (by decide) (by omega)) (by decide) (by omega)) (by have e6 : (w_up (w_up (w_up S 246 ((60 * c) + (S 245 c)) (ch_of S 241)) 245 c ((S 245 c) + 1)) 247 c (wb_lor (S 247 c) (S 247 (ch_of S 241)))) 237 6 = (S 237 6) := ((w_up_slot (by decide)).trans ((w_up_slot (by decide)).trans (w_up_slot (by decide)))); omega)) (fun oq106 Sq106 hp107 q106 => ?_)
                      rcases q106 with ⟨rfl, a1, a2⟩
                      show wJ _ _ _ _ _ _ _ _ _ _
                      refine wa_return rfl ?_
                      rw [if_pos (by omega), if_pos (by omega), if_neg (by rw [htf]; decide)] at he
                      refine Or.inl ⟨_, he.symm, rfl, ?_, by rw [show lx_ne S p = lx_ne (w_up (w_up (w_up S 246 ((60 * c) + (S 245 c)) (ch_of S 241)) 245 c ((S 245 c) + 1)) 247 c (wb_lor (S 247 c) (S 247 (ch_of S 241)))) p by rw [lx_ne_up (by decide)]; rw [lx_ne_up (by decide)]; rw [lx_ne_up (by decide)]]; exact a2⟩
                      unfold hs_S_241; first | (rw [if_pos (by omega)]; exact a1) | (rw [if_neg (by omega)]; exact a1)
                    · skip
                      refine wa_aload_n (n := 0) rfl ?_
                      refine wb_gf5 237 rfl (wy_pr rfl) wt_237 wf_15_15 (v := 241) ((w_up_slot (by decide)).trans ((w_up_slot (by decide)).trans ((w_up_slot (by decide)).trans (hb)))) (fun r108 => ?_)
                      refine wb_gf4 241 rfl (wy_pr rfl) wt_241 wf_12_3 (v := 244) wl_241_3 ?_
                      refine wa_iload_n (n := 1) rfl ?_
                      refine wa_iload_n (n := 2) rfl ?_
                      refine wb_iast 244 rfl (wy_pr rfl) wt_244 (n := 60) ((w_up_slot (by decide)).trans ((w_up_slot (by decide)).trans ((w_up_slot (by decide)).trans ((ml_244 hM))))) (by omega) (by omega) ⟨(by omega), (by omega)⟩ ?_
                      refine wa_fall ⟨_, rfl⟩ ?_
                      refine wa_aload_n (n := 0) rfl ?_
                      refine wa_cv 237 rfl (wy_pr rfl) wt_237 (M2 := fun _ => False) rfl at_M_next ⟨_, rfl⟩ rfl rfl ⟨(Or.inr ⟨wy_pr rfl, fun q => q⟩), trivial, trivial, trivial, trivial⟩ trivial (fun _ _ q => False.elim q) (nx_I (S := (w_up (w_up (w_up (w_up S 246 ((60 * c) + (S 245 c)) (ch_of S 241)) 245 c ((S 245 c) + 1)) 247 c (wb_lor (S 247 c) (S 247 (ch_of S 241)))) 244 c (ch_of S 241))) (lx_I_up (lx_I_up (lx_I_up (lx_I_up hI (by decide) (by omega)) (by decide) (by omega)) (by decide) (by omega)) (by decide) (by omega)) (by have e6 : (w_up (w_up (w_up (w_up S 246 ((60 * c) + (S 245 c)) (ch_of S 241)) 245 c ((S 245 c) + 1)) 247 c (wb_lor (S 247 c) (S 247 (ch_of S 241)))) 244 c (ch_of S 241)) 237 6 = (S 237 6) := ((w_up_slot (by decide)).trans ((w_up_slot (by decide)).trans ((w_up_slot (by decide)).trans (w_up_slot (by decide))))); omega)) (fun oq109 Sq109 hp110 q109 => ?_)
                      rcases q109 with ⟨rfl, a1, a2⟩
                      show wJ _ _ _ _ _ _ _ _ _ _
                      refine wa_return rfl ?_
                      rw [if_pos (by omega), if_pos (by omega), if_neg (by rw [htf]; decide)] at he
                      refine Or.inl ⟨_, he.symm, rfl, ?_, by rw [show lx_ne S p = lx_ne (w_up (w_up (w_up (w_up S 246 ((60 * c) + (S 245 c)) (ch_of S 241)) 245 c ((S 245 c) + 1)) 247 c (wb_lor (S 247 c) (S 247 (ch_of S 241)))) 244 c (ch_of S 241)) p by rw [lx_ne_up (by decide)]; rw [lx_ne_up (by decide)]; rw [lx_ne_up (by decide)]; rw [lx_ne_up (by decide)]]; exact a2⟩
                      unfold hs_S_241; first | (rw [if_pos (by omega)]; exact a1) | (rw [if_neg (by omega)]; exact a1)
                  · skip
                    exact absurd m91 (by decide)
              · skip
                refine wa_fall ⟨_, rfl⟩ ?_
                refine wa_iconst ?_
                refine wa_goto ⟨_, rfl⟩ ?_
                refine wa_istore_n (n := 3) rfl ?_
                refine wa_iconst ?_
                refine wa_istore (n := 4) rfl ?_
                refine wa_fall ⟨_, rfl⟩ ?_
                refine wJ_S (su_8_241 hI hb hc hcc hs ⟨by omega, by omega⟩ (fun t ht => ?_) ((S 245 c).toNat + 1) 0 1 (by omega) (by omega) (Or.inl ⟨rfl, decide_eq_true (by omega)⟩)) ⟨rfl, rfl, rfl, rfl, rfl, trivial⟩
                have ht01 : t = 0 ∨ t = 1 := by rcases ht with z | z <;> omega
                refine wa_aload_n (n := 0) rfl ?_
                refine wa_iload_n (n := 3) rfl ?_
                refine wa_ifne (w_rg0 (by omega) (by omega)) ⟨_, rfl⟩ (fun c87 => ?_) (fun c87 => ?_)
                · skip
                  refine wa_iconst ?_
                  refine wa_fall ⟨_, rfl⟩ ?_
                  refine wa_iconst ?_
                  refine wa_cv 237 rfl (wy_pr rfl) wt_237 (M2 := fun _ => False) rfl at_M_must ⟨_, rfl⟩ rfl rfl ⟨(Or.inr ⟨wy_pr rfl, fun q => q⟩), trivial, trivial, trivial, trivial⟩ trivial (fun _ _ q => False.elim q) (must_ok (g := 0) (n := 4) (Or.inl rfl) ⟨by omega, by omega⟩) (fun oq89 Sq89 hp90 q89 => ?_)
                  rcases q89 with ⟨m88, _, _⟩ | ⟨_, rfl, rfl⟩
                  · skip
                    exact absurd m88 (by decide)
                  · skip
                    refine ⟨rfl, ?_⟩
                    rw [if_pos (by omega), if_pos (by omega), if_pos (by rcases ht with z | z; exact z.2; exact absurd z.1 (by omega))] at he
                    exact Or.inr ⟨_, _, he.symm, rfl, by rw [h7]⟩
                · skip
                  refine wa_iconst ?_
                  refine wa_goto ⟨_, rfl⟩ ?_
                  refine wa_iconst ?_
                  refine wa_cv 237 rfl (wy_pr rfl) wt_237 (M2 := fun _ => False) rfl at_M_must ⟨_, rfl⟩ rfl rfl ⟨(Or.inr ⟨wy_pr rfl, fun q => q⟩), trivial, trivial, trivial, trivial⟩ trivial (fun _ _ q => False.elim q) (must_ok (g := 1) (n := 4) (Or.inr rfl) ⟨by omega, by omega⟩) (fun oq92 Sq92 hp93 q92 => ?_)
                  rcases q92 with ⟨_, rfl, rfl⟩ | ⟨m91, _, _⟩
                  · skip
                    show wJ _ _ _ _ _ _ _ _ _ _
                    have htf : tw_of_241 S c (ch_of S 241) = false := by
                      rcases ht with z | z
                      · exact absurd z.1 (by omega)
                      · exact z.2
                    have hs3 := hs2 (ch_of S 241) (by omega) (by omega) htf
                    refine wa_aload_n (n := 0) rfl ?_
                    refine wb_gf5 237 rfl (wy_pr rfl) wt_237 wf_15_15 (v := 241) (hb) (fun r94 => ?_)
                    refine wb_gf4 241 rfl (wy_pr rfl) wt_241 wf_12_5 (v := 246) wl_241_5 ?_
                    refine wa_bipush (w_rg2 (by omega) (by omega)) ?_
                    refine wa_iload_n (n := 1) rfl ?_
                    refine wa_imul ?_
                    refine wa_aload_n (n := 0) rfl ?_
                    refine wb_gf5 237 rfl (wy_pr rfl) wt_237 wf_15_15 (v := 241) (hb) (fun r95 => ?_)
                    refine wb_gf4 241 rfl (wy_pr rfl) wt_241 wf_12_4 (v := 245) wl_241_4 ?_
                    refine wa_iload_n (n := 1) rfl ?_
                    refine wb_iald 245 rfl (wy_pr rfl) wt_245 (n := 60) ((ml_245 hM)) (by omega) (by omega) (v := (S 245 c)) rfl (fun r96 => ?_)
                    refine wa_iadd ?_
                    refine wa_iload_n (n := 2) rfl ?_
                    refine wb_iast 246 rfl (wy_pr rfl) wt_246 (n := 3600) ((ml_246 hM)) (by omega) (by omega) ⟨(by omega), (by omega)⟩ ?_
                    refine wa_aload_n (n := 0) rfl ?_
                    refine wb_gf5 237 rfl (wy_pr rfl) wt_237 wf_15_15 (v := 241) ((w_up_slot (by decide)).trans (hb)) (fun r97 => ?_)
                    refine wb_gf4 241 rfl (wy_pr rfl) wt_241 wf_12_4 (v := 245) wl_241_4 ?_
                    refine wa_iload_n (n := 1) rfl ?_
                    refine wa_dup2 (by decide) (by decide) ?_
                    refine wb_iald 245 rfl (wy_pr rfl) wt_245 (n := 60) ((w_up_slot (by decide)).trans ((ml_245 hM))) (by omega) (by omega) (v := (S 245 c)) (w_up_slot (by decide)) (fun r98 => ?_)
                    refine wa_iconst ?_
                    refine wa_iadd ?_
                    refine wb_iast 245 rfl (wy_pr rfl) wt_245 (n := 60) ((w_up_slot (by decide)).trans ((ml_245 hM))) (by omega) (by omega) ⟨(by omega), (by omega)⟩ ?_
                    refine wa_aload_n (n := 0) rfl ?_
                    refine wb_gf5 237 rfl (wy_pr rfl) wt_237 wf_15_15 (v := 241) ((w_up_slot (by decide)).trans ((w_up_slot (by decide)).trans (hb))) (fun r99 => ?_)
                    refine wb_gf4 241 rfl (wy_pr rfl) wt_241 wf_12_6 (v := 247) wl_241_6 ?_
                    refine wa_iload_n (n := 1) rfl ?_
                    refine wa_dup2 (by decide) (by decide) ?_
                    refine wb_lald 247 rfl (wy_pr rfl) wt_247 (n := 60) ((w_up_slot (by decide)).trans ((w_up_slot (by decide)).trans ((ml_247 hM)))) (by omega) (by omega) (v := (S 247 c)) ((w_up_slot (by decide)).trans (w_up_slot (by decide))) (fun r100 => ?_)
                    refine wa_aload_n (n := 0) rfl ?_
                    refine wb_gf5 237 rfl (wy_pr rfl) wt_237 wf_15_15 (v := 241) ((w_up_slot (by decide)).trans ((w_up_slot (by decide)).trans (hb))) (fun r101 => ?_)
                    refine wb_gf4 241 rfl (wy_pr rfl) wt_241 wf_12_6 (v := 247) wl_241_6 ?_
                    refine wa_iload_n (n := 2) rfl ?_
                    refine wb_lald 247 rfl (wy_pr rfl) wt_247 (n := 60) ((w_up_slot (by decide)).trans ((w_up_slot (by decide)).trans ((ml_247 hM)))) (by omega) (by omega) (v := (S 247 (ch_of S 241))) ((w_up_slot (by decide)).trans (w_up_slot (by decide))) (fun r102 => ?_)
                    refine wa_lor ?_
                    have hlo := wb_lor_rg (S 247 c) (S 247 (ch_of S 241))
                    refine wb_last 247 rfl (wy_pr rfl) wt_247 (n := 60) ((w_up_slot (by decide)).trans ((w_up_slot (by decide)).trans ((ml_247 hM)))) (by omega) (by omega) ⟨(by omega), (by omega)⟩ ?_
                    refine wa_aload_n (n := 0) rfl ?_
                    refine wb_gf5 237 rfl (wy_pr rfl) wt_237 wf_15_15 (v := 241) ((w_up_slot (by decide)).trans ((w_up_slot (by decide)).trans ((w_up_slot (by decide)).trans (hb)))) (fun r103 => ?_)
                    refine wa_fall ⟨_, rfl⟩ ?_
                    refine wb_gf4 241 rfl (wy_pr rfl) wt_241 wf_12_2 (v := 243) wl_241_2 ?_
                    refine wa_iload_n (n := 2) rfl ?_
                    refine wb_zald 243 rfl (wy_pr rfl) wt_243 (n := 60) ((w_up_slot (by decide)).trans ((w_up_slot (by decide)).trans ((w_up_slot (by decide)).trans ((ml_243 hM))))) (by omega) (by omega) (v := (S 243 (ch_of S 241))) ((w_up_slot (by decide)).trans ((w_up_slot (by decide)).trans (w_up_slot (by decide)))) (fun r104 => ?_)
                    refine wa_ifne (w_rg0 (by omega) (by omega)) ⟨_, rfl⟩ (fun c105 => ?_) (fun c105 => ?_)
                    · skip
                      refine wa_aload_n (n := 0) rfl ?_
                      refine wa_cv 237 rfl (wy_pr rfl) wt_237 (M2 := fun _ => False) rfl at_M_next ⟨_, rfl⟩ rfl rfl ⟨(Or.inr ⟨wy_pr rfl, fun q => q⟩), trivial, trivial, trivial, trivial⟩ trivial (fun _ _ q => False.elim q) (nx_I (S := (w_up (w_up (w_up S 246 ((60 * c) + (S 245 c)) (ch_of S 241)) 245 c ((S 245 c) + 1)) 247 c (wb_lor (S 247 c) (S 247 (ch_of S 241))))) (lx_I_up (lx_I_up (lx_I_up hI (by decide) (by omega)) (by decide) (by omega)) (by decide) (by omega)) (by have e6 : (w_up (w_up (w_up S 246 ((60 * c) + (S 245 c)) (ch_of S 241)) 245 c ((S 245 c) + 1)) 247 c (wb_lor (S 247 c) (S 247 (ch_of S 241)))) 237 6 = (S 237 6) := ((w_up_slot (by decide)).trans ((w_up_slot (by decide)).trans (w_up_slot (by decide)))); omega)) (fun oq106 Sq106 hp107 q106 => ?_)
                      rcases q106 with ⟨rfl, a1, a2⟩
                      show wJ _ _ _ _ _ _ _ _ _ _
                      refine wa_return rfl ?_
                      rw [if_pos (by omega), if_pos (by omega), if_neg (by rw [htf]; decide)] at he
                      refine Or.inl ⟨_, he.symm, rfl, ?_, by rw [show lx_ne S p = lx_ne (w_up (w_up (w_up S 246 ((60 * c) + (S 245 c)) (ch_of S 241)) 245 c ((S 245 c) + 1)) 247 c (wb_lor (S 247 c) (S 247 (ch_of S 241)))) p by rw [lx_ne_up (by decide)]; rw [lx_ne_up (by decide)]; rw [lx_ne_up (by decide)]]; exact a2⟩
                      unfold hs_S_241; first | (rw [if_pos (by omega)]; exact a1) | (rw [if_neg (by omega)]; exact a1)
                    · skip
                      refine wa_aload_n (n := 0) rfl ?_
                      refine wb_gf5 237 rfl (wy_pr rfl) wt_237 wf_15_15 (v := 241) ((w_up_slot (by decide)).trans ((w_up_slot (by decide)).trans ((w_up_slot (by decide)).trans (hb)))) (fun r108 => ?_)
                      refine wb_gf4 241 rfl (wy_pr rfl) wt_241 wf_12_3 (v := 244) wl_241_3 ?_
                      refine wa_iload_n (n := 1) rfl ?_
                      refine wa_iload_n (n := 2) rfl ?_
                      refine wb_iast 244 rfl (wy_pr rfl) wt_244 (n := 60) ((w_up_slot (by decide)).trans ((w_up_slot (by decide)).trans ((w_up_slot (by decide)).trans ((ml_244 hM))))) (by omega) (by omega) ⟨(by omega), (by omega)⟩ ?_
                      refine wa_fall ⟨_, rfl⟩ ?_
                      refine wa_aload_n (n := 0) rfl ?_
                      refine wa_cv 237 rfl (wy_pr rfl) wt_237 (M2 := fun _ => False) rfl at_M_next ⟨_, rfl⟩ rfl rfl ⟨(Or.inr ⟨wy_pr rfl, fun q => q⟩), trivial, trivial, trivial, trivial⟩ trivial (fun _ _ q => False.elim q) (nx_I (S := (w_up (w_up (w_up (w_up S 246 ((60 * c) + (S 245 c)) (ch_of S 241)) 245 c ((S 245 c) + 1)) 247 c (wb_lor (S 247 c) (S 247 (ch_of S 241)))) 244 c (ch_of S 241))) (lx_I_up (lx_I_up (lx_I_up (lx_I_up hI (by decide) (by omega)) (by decide) (by omega)) (by decide) (by omega)) (by decide) (by omega)) (by have e6 : (w_up (w_up (w_up (w_up S 246 ((60 * c) + (S 245 c)) (ch_of S 241)) 245 c ((S 245 c) + 1)) 247 c (wb_lor (S 247 c) (S 247 (ch_of S 241)))) 244 c (ch_of S 241)) 237 6 = (S 237 6) := ((w_up_slot (by decide)).trans ((w_up_slot (by decide)).trans ((w_up_slot (by decide)).trans (w_up_slot (by decide))))); omega)) (fun oq109 Sq109 hp110 q109 => ?_)
                      rcases q109 with ⟨rfl, a1, a2⟩
                      show wJ _ _ _ _ _ _ _ _ _ _
                      refine wa_return rfl ?_
                      rw [if_pos (by omega), if_pos (by omega), if_neg (by rw [htf]; decide)] at he
                      refine Or.inl ⟨_, he.symm, rfl, ?_, by rw [show lx_ne S p = lx_ne (w_up (w_up (w_up (w_up S 246 ((60 * c) + (S 245 c)) (ch_of S 241)) 245 c ((S 245 c) + 1)) 247 c (wb_lor (S 247 c) (S 247 (ch_of S 241)))) 244 c (ch_of S 241)) p by rw [lx_ne_up (by decide)]; rw [lx_ne_up (by decide)]; rw [lx_ne_up (by decide)]; rw [lx_ne_up (by decide)]]; exact a2⟩
                      unfold hs_S_241; first | (rw [if_pos (by omega)]; exact a1) | (rw [if_neg (by omega)]; exact a1)
                  · skip
                    exact absurd m91 (by decide)
        · skip
          exact absurd m15 (by decide)
    · skip
      exact absurd m6 (by decide)
def tw_of_261 (S : wS) (c s : Int) : Bool := tw_n (S 263) (S 264) (S 266) c s (S 265 c).toNat
def hs_super_261 (S : wS) (p c : Int) : (Int × Int) ⊕ Int := if S 237 6 = 1 then (if 0 ≤ ch_of S 261 then (if tw_of_261 S c (ch_of S 261) = true then .inl (4, p) else .inr (ch_of S 261)) else .inl (3, p)) else .inl (1, p)
def hs_S_261 (S : wS) (c s : Int) : wS := if S 263 s = 0 then w_up (w_up (w_up (w_up S 266 (60 * c + S 265 c) s) 265 c (S 265 c + 1)) 267 c (wb_lor (S 267 c) (S 267 s))) 264 c s else w_up (w_up (w_up S 266 (60 * c + S 265 c) s) 265 c (S 265 c + 1)) 267 c (wb_lor (S 267 c) (S 267 s))
theorem su_8_261 {p c s : Int} (hI : lx_I S p) (hb : S 237 15 = 261) (hc : ho_nm S 261) (hcc : 0 ≤ c ∧ c < 60) (hs : 0 ≤ S 265 c ∧ S 265 c ≤ 60) (hss : 0 ≤ s ∧ s < 60) (hk : ∀ t : Int, ((t = 1 ∧ tw_of_261 S c s = true) ∨ (t = 0 ∧ tw_of_261 S c s = false)) → wJ (pe_GA xs) wY0 M (d + 5) t_M_readsSuper ((pe_at t_M_readsSuper.bl 12).getD (0, [])).2 [(0, (2, 237)), (1, (0, c)), (2, (0, s)), (3, (0, t))] [] S Q) : ∀ (f i : Nat) (t : Int), (S 265 c).toNat - i < f → i ≤ (S 265 c).toNat → ((t = 1 ∧ tw_n (S 263) (S 264) (S 266) c s i = true) ∨ (t = 0 ∧ tw_n (S 263) (S 264) (S 266) c s i = false)) → wJ (pe_GA xs) wY0 M (d + 5) t_M_readsSuper ((pe_at t_M_readsSuper.bl 8).getD (0, [])).2 [(0, (2, 237)), (1, (0, c)), (2, (0, s)), (3, (0, t)), (4, (0, (i : Int)))] [] S Q := by
  intro f
  induction f with
  | zero => intros; omega
  | succ f ih =>
    intro i t hf hi ht
    have ht01 : t = 0 ∨ t = 1 := by rcases ht with z | z <;> omega
    have hM := hI.1
    refine wa_iload (n := 4) rfl ?_
    refine wa_aload_n (n := 0) rfl ?_
    refine wb_gf5 237 rfl (wy_pr rfl) wt_237 wf_15_15 (v := 261) (hb) (fun r1 => ?_)
    refine wb_gf4 261 rfl (wy_pr rfl) wt_261 wf_12_4 (v := 265) wl_261_4 ?_
    refine wa_iload_n (n := 1) rfl ?_
    refine wb_iald 265 rfl (wy_pr rfl) wt_265 (n := 60) ((ml_265 hM)) (by omega) (by omega) (v := (S 265 c)) rfl (fun r2 => ?_)
    refine wa_icmpge (w_rg0 (by omega) (by omega)) (w_rg0 (by omega) (by omega)) ⟨_, rfl⟩ (fun c3 => ?_) (fun c3 => ?_)
    · skip
      refine wJ_S (hk t ?_) ⟨rfl, rfl, rfl, rfl, trivial⟩
      unfold tw_of_261
      rw [show (S 265 c).toNat = i by omega]
      exact ht
    · skip
      refine wa_iload_n (n := 3) rfl ?_
      refine wa_ifne (w_rg0 (by omega) (by omega)) ⟨_, rfl⟩ (fun c4 => ?_) (fun c4 => ?_)
      · skip
        refine wa_iconst ?_
        refine wa_goto ⟨_, rfl⟩ ?_
        refine wa_istore_n (n := 3) rfl ?_
        refine wa_iinc rfl rfl ?_
        refine wa_goto ⟨_, rfl⟩ ?_
        refine wJ_S (ih (i + 1) 1 (by omega) (by omega) ?_) ⟨rfl, rfl, rfl, rfl, rfl, trivial⟩
        show (1 = (1 : Int) ∧ (tw_n (S 263) (S 264) (S 266) c s i || decide (S 266 (60 * c + (i : Int)) = s)) = true) ∨ (1 = (0 : Int) ∧ (tw_n (S 263) (S 264) (S 266) c s i || decide (S 266 (60 * c + (i : Int)) = s)) = false)
        rcases ht with ⟨q1, q2⟩ | ⟨q1, q2⟩
        · first | exact Or.inl ⟨rfl, by rw [q2]; rfl⟩ | exact absurd q1 (by omega)
        · first | exact absurd q1 (by omega) | exact Or.inl ⟨rfl, by rw [q2, decide_eq_true (by omega)]; rfl⟩
      · skip
        refine wa_aload_n (n := 0) rfl ?_
        refine wb_gf5 237 rfl (wy_pr rfl) wt_237 wf_15_15 (v := 261) (hb) (fun r5 => ?_)
        refine wb_gf4 261 rfl (wy_pr rfl) wt_261 wf_12_5 (v := 266) wl_261_5 ?_
        refine wa_bipush (w_rg2 (by omega) (by omega)) ?_
        refine wa_iload_n (n := 1) rfl ?_
        refine wa_imul ?_
        refine wa_iload (n := 4) rfl ?_
        refine wa_iadd ?_
        refine wb_iald 266 rfl (wy_pr rfl) wt_266 (n := 3600) ((ml_266 hM)) (by omega) (by omega) (v := (S 266 ((60 * c) + (i : Int)))) rfl (fun r6 => ?_)
        refine wa_iload_n (n := 2) rfl ?_
        refine wa_icmpne (w_rg0 (by omega) (by omega)) (w_rg0 (by omega) (by omega)) ⟨_, rfl⟩ (fun c7 => ?_) (fun c7 => ?_)
        · skip
          refine wa_iconst ?_
          refine wa_fall ⟨_, rfl⟩ ?_
          refine wa_istore_n (n := 3) rfl ?_
          refine wa_iinc rfl rfl ?_
          refine wa_goto ⟨_, rfl⟩ ?_
          refine wJ_S (ih (i + 1) 0 (by omega) (by omega) ?_) ⟨rfl, rfl, rfl, rfl, rfl, trivial⟩
          show (0 = (1 : Int) ∧ (tw_n (S 263) (S 264) (S 266) c s i || decide (S 266 (60 * c + (i : Int)) = s)) = true) ∨ (0 = (0 : Int) ∧ (tw_n (S 263) (S 264) (S 266) c s i || decide (S 266 (60 * c + (i : Int)) = s)) = false)
          rcases ht with ⟨q1, q2⟩ | ⟨q1, q2⟩
          · first | exact Or.inl ⟨rfl, by rw [q2]; rfl⟩ | exact absurd q1 (by omega)
          · exact Or.inr ⟨rfl, by rw [q2, decide_eq_false (by omega)]; rfl⟩
        · skip
          refine wa_fall ⟨_, rfl⟩ ?_
          refine wa_iconst ?_
          refine wa_goto ⟨_, rfl⟩ ?_
          refine wa_istore_n (n := 3) rfl ?_
          refine wa_iinc rfl rfl ?_
          refine wa_goto ⟨_, rfl⟩ ?_
          refine wJ_S (ih (i + 1) 1 (by omega) (by omega) ?_) ⟨rfl, rfl, rfl, rfl, rfl, trivial⟩
          show (1 = (1 : Int) ∧ (tw_n (S 263) (S 264) (S 266) c s i || decide (S 266 (60 * c + (i : Int)) = s)) = true) ∨ (1 = (0 : Int) ∧ (tw_n (S 263) (S 264) (S 266) c s i || decide (S 266 (60 * c + (i : Int)) = s)) = false)
          rcases ht with ⟨q1, q2⟩ | ⟨q1, q2⟩
          · first | exact Or.inl ⟨rfl, by rw [q2]; rfl⟩ | exact absurd q1 (by omega)
          · first | exact absurd q1 (by omega) | exact Or.inl ⟨rfl, by rw [q2, decide_eq_true (by omega)]; rfl⟩
theorem readsSuper_261 {p c : Int} {r : (Int × Int) ⊕ Int} (hI : lx_I S p) (hb : S 237 15 = 261) (hc : ho_nm S 261) (hcc : 0 ≤ c ∧ c < 60) (hs : 0 ≤ S 265 c ∧ S 265 c ≤ 60) (hs2 : ∀ s : Int, 0 ≤ s → s < S 261 1 → tw_of_261 S c s = false → S 265 c < 60) (he : hs_super_261 S p c = r) : wJ (pe_GA xs) wY0 M (d + 5) t_M_readsSuper ((pe_at t_M_readsSuper.bl 0).getD (0, [])).2 [(0, (2, 237)), (1, (0, c))] [] S (fun o S2 => (∃ s : Int, r = .inr s ∧ o = .inl none ∧ lx_ag (hs_S_261 S c s) S2 ∧ lx_I S2 (lx_ne S p)) ∨ (∃ t q : Int, r = .inl (t, q) ∧ o = .inr 238 ∧ w_hl S t q = S2)) := by
  have h7 : S 237 7 = p := hI.2.2.2.1
  have hM := hI.1
  unfold hs_super_261 at he
  refine wa_aload_n (n := 0) rfl ?_
  refine wa_aload_n (n := 0) rfl ?_
  refine wb_gfi 237 rfl (wy_pr rfl) wt_237 wf_15_6 (v := (S 237 6)) rfl (fun r1 => ?_)
  refine wa_iconst ?_
  refine wa_icmpne (w_rg0 (by omega) (by omega)) (w_rg0 (by omega) (by omega)) ⟨_, rfl⟩ (fun c2 => ?_) (fun c2 => ?_)
  · skip
    refine wa_iconst ?_
    refine wa_fall ⟨_, rfl⟩ ?_
    refine wa_iconst ?_
    refine wa_cv 237 rfl (wy_pr rfl) wt_237 (M2 := fun _ => False) rfl at_M_must ⟨_, rfl⟩ rfl rfl ⟨(Or.inr ⟨wy_pr rfl, fun q => q⟩), trivial, trivial⟩ trivial (fun _ _ q => False.elim q) (must_ok (g := 0) (n := 1) (Or.inl rfl) ⟨by omega, by omega⟩) (fun oq4 Sq4 hp5 q4 => ?_)
    rcases q4 with ⟨m3, _, _⟩ | ⟨_, rfl, rfl⟩
    · skip
      exact absurd m3 (by decide)
    · skip
      refine ⟨rfl, ?_⟩
      repeat (first | rw [if_pos (by omega)] at he | rw [if_neg (by omega)] at he)
      exact Or.inr ⟨_, _, he.symm, rfl, by rw [h7]⟩
  · skip
    refine wa_iconst ?_
    refine wa_goto ⟨_, rfl⟩ ?_
    refine wa_iconst ?_
    refine wa_cv 237 rfl (wy_pr rfl) wt_237 (M2 := fun _ => False) rfl at_M_must ⟨_, rfl⟩ rfl rfl ⟨(Or.inr ⟨wy_pr rfl, fun q => q⟩), trivial, trivial⟩ trivial (fun _ _ q => False.elim q) (must_ok (g := 1) (n := 1) (Or.inr rfl) ⟨by omega, by omega⟩) (fun oq7 Sq7 hp8 q7 => ?_)
    rcases q7 with ⟨_, rfl, rfl⟩ | ⟨m6, _, _⟩
    · skip
      show wJ _ _ _ _ _ _ _ _ _ _
      refine wa_aload_n (n := 0) rfl ?_
      refine wa_cv 237 rfl (wy_pr rfl) wt_237 (M2 := fun _ => False) rfl at_M_classHere ⟨_, rfl⟩ rfl rfl ⟨(Or.inr ⟨wy_pr rfl, fun q => q⟩), trivial, trivial⟩ trivial (fun _ _ q => False.elim q) (classHere_261 hI.1 hb hc (lx_I_hp hI)) (fun oq9 Sq9 hp10 q9 => ?_)
      rcases q9 with ⟨rfl, rfl⟩
      show wJ _ _ _ _ _ _ _ _ _ _
      have hch := ch_of_rg S 261 (hc).1.2
      refine wa_istore_n (n := 2) rfl ?_
      refine wa_aload_n (n := 0) rfl ?_
      refine wa_iload_n (n := 2) rfl ?_
      refine wa_iflt (w_rg0 (by omega) (by omega)) ⟨_, rfl⟩ (fun c11 => ?_) (fun c11 => ?_)
      · skip
        refine wa_iconst ?_
        refine wa_fall ⟨_, rfl⟩ ?_
        refine wa_iconst ?_
        refine wa_cv 237 rfl (wy_pr rfl) wt_237 (M2 := fun _ => False) rfl at_M_must ⟨_, rfl⟩ rfl rfl ⟨trivial, (Or.inr ⟨wy_pr rfl, fun q => q⟩), trivial, trivial⟩ trivial (fun _ _ q => False.elim q) (must_ok (g := 0) (n := 3) (Or.inl rfl) ⟨by omega, by omega⟩) (fun oq13 Sq13 hp14 q13 => ?_)
        rcases q13 with ⟨m12, _, _⟩ | ⟨_, rfl, rfl⟩
        · skip
          exact absurd m12 (by decide)
        · skip
          refine ⟨rfl, ?_⟩
          repeat (first | rw [if_pos (by omega)] at he | rw [if_neg (by omega)] at he)
          exact Or.inr ⟨_, _, he.symm, rfl, by rw [h7]⟩
      · skip
        refine wa_iconst ?_
        refine wa_goto ⟨_, rfl⟩ ?_
        refine wa_iconst ?_
        refine wa_cv 237 rfl (wy_pr rfl) wt_237 (M2 := fun _ => False) rfl at_M_must ⟨_, rfl⟩ rfl rfl ⟨trivial, (Or.inr ⟨wy_pr rfl, fun q => q⟩), trivial, trivial⟩ trivial (fun _ _ q => False.elim q) (must_ok (g := 1) (n := 3) (Or.inr rfl) ⟨by omega, by omega⟩) (fun oq16 Sq16 hp17 q16 => ?_)
        rcases q16 with ⟨_, rfl, rfl⟩ | ⟨m15, _, _⟩
        · skip
          show wJ _ _ _ _ _ _ _ _ _ _
          refine wa_aload_n (n := 0) rfl ?_
          refine wb_gf5 237 rfl (wy_pr rfl) wt_237 wf_15_15 (v := 261) (hb) (fun r18 => ?_)
          refine wb_gf4 261 rfl (wy_pr rfl) wt_261 wf_12_2 (v := 263) wl_261_2 ?_
          refine wa_iload_n (n := 2) rfl ?_
          refine wb_zald 263 rfl (wy_pr rfl) wt_263 (n := 60) ((ml_263 hM)) (by omega) (by omega) (v := (S 263 (ch_of S 261))) rfl (fun r19 => ?_)
          refine wa_ifne (w_rg0 (by omega) (by omega)) ⟨_, rfl⟩ (fun c20 => ?_) (fun c20 => ?_)
          · skip
            refine wa_iconst ?_
            refine wa_fall ⟨_, rfl⟩ ?_
            refine wa_istore_n (n := 3) rfl ?_
            refine wa_iconst ?_
            refine wa_istore (n := 4) rfl ?_
            refine wa_fall ⟨_, rfl⟩ ?_
            refine wJ_S (su_8_261 hI hb hc hcc hs ⟨by omega, by omega⟩ (fun t ht => ?_) ((S 265 c).toNat + 1) 0 0 (by omega) (by omega) (Or.inr ⟨rfl, decide_eq_false (by omega)⟩)) ⟨rfl, rfl, rfl, rfl, rfl, trivial⟩
            have ht01 : t = 0 ∨ t = 1 := by rcases ht with z | z <;> omega
            refine wa_aload_n (n := 0) rfl ?_
            refine wa_iload_n (n := 3) rfl ?_
            refine wa_ifne (w_rg0 (by omega) (by omega)) ⟨_, rfl⟩ (fun c81 => ?_) (fun c81 => ?_)
            · skip
              refine wa_iconst ?_
              refine wa_fall ⟨_, rfl⟩ ?_
              refine wa_iconst ?_
              refine wa_cv 237 rfl (wy_pr rfl) wt_237 (M2 := fun _ => False) rfl at_M_must ⟨_, rfl⟩ rfl rfl ⟨(Or.inr ⟨wy_pr rfl, fun q => q⟩), trivial, trivial, trivial, trivial⟩ trivial (fun _ _ q => False.elim q) (must_ok (g := 0) (n := 4) (Or.inl rfl) ⟨by omega, by omega⟩) (fun oq83 Sq83 hp84 q83 => ?_)
              rcases q83 with ⟨m82, _, _⟩ | ⟨_, rfl, rfl⟩
              · skip
                exact absurd m82 (by decide)
              · skip
                refine ⟨rfl, ?_⟩
                rw [if_pos (by omega), if_pos (by omega), if_pos (by rcases ht with z | z; exact z.2; exact absurd z.1 (by omega))] at he
                exact Or.inr ⟨_, _, he.symm, rfl, by rw [h7]⟩
            · skip
              refine wa_iconst ?_
              refine wa_goto ⟨_, rfl⟩ ?_
              refine wa_iconst ?_
              refine wa_cv 237 rfl (wy_pr rfl) wt_237 (M2 := fun _ => False) rfl at_M_must ⟨_, rfl⟩ rfl rfl ⟨(Or.inr ⟨wy_pr rfl, fun q => q⟩), trivial, trivial, trivial, trivial⟩ trivial (fun _ _ q => False.elim q) (must_ok (g := 1) (n := 4) (Or.inr rfl) ⟨by omega, by omega⟩) (fun oq86 Sq86 hp87 q86 => ?_)
              rcases q86 with ⟨_, rfl, rfl⟩ | ⟨m85, _, _⟩
              · skip
                show wJ _ _ _ _ _ _ _ _ _ _
                have htf : tw_of_261 S c (ch_of S 261) = false := by
                  rcases ht with z | z
                  · exact absurd z.1 (by omega)
                  · exact z.2
                have hs3 := hs2 (ch_of S 261) (by omega) (by omega) htf
                refine wa_aload_n (n := 0) rfl ?_
                refine wb_gf5 237 rfl (wy_pr rfl) wt_237 wf_15_15 (v := 261) (hb) (fun r88 => ?_)
                refine wb_gf4 261 rfl (wy_pr rfl) wt_261 wf_12_5 (v := 266) wl_261_5 ?_
                refine wa_bipush (w_rg2 (by omega) (by omega)) ?_
                refine wa_iload_n (n := 1) rfl ?_
                refine wa_imul ?_
                refine wa_aload_n (n := 0) rfl ?_
                refine wb_gf5 237 rfl (wy_pr rfl) wt_237 wf_15_15 (v := 261) (hb) (fun r89 => ?_)
                refine wb_gf4 261 rfl (wy_pr rfl) wt_261 wf_12_4 (v := 265) wl_261_4 ?_
                refine wa_iload_n (n := 1) rfl ?_
                refine wb_iald 265 rfl (wy_pr rfl) wt_265 (n := 60) ((ml_265 hM)) (by omega) (by omega) (v := (S 265 c)) rfl (fun r90 => ?_)
                refine wa_iadd ?_
                refine wa_iload_n (n := 2) rfl ?_
                refine wb_iast 266 rfl (wy_pr rfl) wt_266 (n := 3600) ((ml_266 hM)) (by omega) (by omega) ⟨(by omega), (by omega)⟩ ?_
                refine wa_aload_n (n := 0) rfl ?_
                refine wb_gf5 237 rfl (wy_pr rfl) wt_237 wf_15_15 (v := 261) ((w_up_slot (by decide)).trans (hb)) (fun r91 => ?_)
                refine wb_gf4 261 rfl (wy_pr rfl) wt_261 wf_12_4 (v := 265) wl_261_4 ?_
                refine wa_iload_n (n := 1) rfl ?_
                refine wa_dup2 (by decide) (by decide) ?_
                refine wb_iald 265 rfl (wy_pr rfl) wt_265 (n := 60) ((w_up_slot (by decide)).trans ((ml_265 hM))) (by omega) (by omega) (v := (S 265 c)) (w_up_slot (by decide)) (fun r92 => ?_)
                refine wa_iconst ?_
                refine wa_iadd ?_
                refine wb_iast 265 rfl (wy_pr rfl) wt_265 (n := 60) ((w_up_slot (by decide)).trans ((ml_265 hM))) (by omega) (by omega) ⟨(by omega), (by omega)⟩ ?_
                refine wa_aload_n (n := 0) rfl ?_
                refine wb_gf5 237 rfl (wy_pr rfl) wt_237 wf_15_15 (v := 261) ((w_up_slot (by decide)).trans ((w_up_slot (by decide)).trans (hb))) (fun r93 => ?_)
                refine wb_gf4 261 rfl (wy_pr rfl) wt_261 wf_12_6 (v := 267) wl_261_6 ?_
                refine wa_iload_n (n := 1) rfl ?_
                refine wa_dup2 (by decide) (by decide) ?_
                refine wb_lald 267 rfl (wy_pr rfl) wt_267 (n := 60) ((w_up_slot (by decide)).trans ((w_up_slot (by decide)).trans ((ml_267 hM)))) (by omega) (by omega) (v := (S 267 c)) ((w_up_slot (by decide)).trans (w_up_slot (by decide))) (fun r94 => ?_)
                refine wa_aload_n (n := 0) rfl ?_
                refine wb_gf5 237 rfl (wy_pr rfl) wt_237 wf_15_15 (v := 261) ((w_up_slot (by decide)).trans ((w_up_slot (by decide)).trans (hb))) (fun r95 => ?_)
                refine wb_gf4 261 rfl (wy_pr rfl) wt_261 wf_12_6 (v := 267) wl_261_6 ?_
                refine wa_iload_n (n := 2) rfl ?_
                refine wb_lald 267 rfl (wy_pr rfl) wt_267 (n := 60) ((w_up_slot (by decide)).trans ((w_up_slot (by decide)).trans ((ml_267 hM)))) (by omega) (by omega) (v := (S 267 (ch_of S 261))) ((w_up_slot (by decide)).trans (w_up_slot (by decide))) (fun r96 => ?_)
                refine wa_lor ?_
                have hlo := wb_lor_rg (S 267 c) (S 267 (ch_of S 261))
                refine wb_last 267 rfl (wy_pr rfl) wt_267 (n := 60) ((w_up_slot (by decide)).trans ((w_up_slot (by decide)).trans ((ml_267 hM)))) (by omega) (by omega) ⟨(by omega), (by omega)⟩ ?_
                refine wa_aload_n (n := 0) rfl ?_
                refine wb_gf5 237 rfl (wy_pr rfl) wt_237 wf_15_15 (v := 261) ((w_up_slot (by decide)).trans ((w_up_slot (by decide)).trans ((w_up_slot (by decide)).trans (hb)))) (fun r97 => ?_)
                refine wa_fall ⟨_, rfl⟩ ?_
                refine wb_gf4 261 rfl (wy_pr rfl) wt_261 wf_12_2 (v := 263) wl_261_2 ?_
                refine wa_iload_n (n := 2) rfl ?_
                refine wb_zald 263 rfl (wy_pr rfl) wt_263 (n := 60) ((w_up_slot (by decide)).trans ((w_up_slot (by decide)).trans ((w_up_slot (by decide)).trans ((ml_263 hM))))) (by omega) (by omega) (v := (S 263 (ch_of S 261))) ((w_up_slot (by decide)).trans ((w_up_slot (by decide)).trans (w_up_slot (by decide)))) (fun r98 => ?_)
                refine wa_ifne (w_rg0 (by omega) (by omega)) ⟨_, rfl⟩ (fun c99 => ?_) (fun c99 => ?_)
                · skip
                  refine wa_aload_n (n := 0) rfl ?_
                  refine wa_cv 237 rfl (wy_pr rfl) wt_237 (M2 := fun _ => False) rfl at_M_next ⟨_, rfl⟩ rfl rfl ⟨(Or.inr ⟨wy_pr rfl, fun q => q⟩), trivial, trivial, trivial, trivial⟩ trivial (fun _ _ q => False.elim q) (nx_I (S := (w_up (w_up (w_up S 266 ((60 * c) + (S 265 c)) (ch_of S 261)) 265 c ((S 265 c) + 1)) 267 c (wb_lor (S 267 c) (S 267 (ch_of S 261))))) (lx_I_up (lx_I_up (lx_I_up hI (by decide) (by omega)) (by decide) (by omega)) (by decide) (by omega)) (by have e6 : (w_up (w_up (w_up S 266 ((60 * c) + (S 265 c)) (ch_of S 261)) 265 c ((S 265 c) + 1)) 267 c (wb_lor (S 267 c) (S 267 (ch_of S 261)))) 237 6 = (S 237 6) := ((w_up_slot (by decide)).trans ((w_up_slot (by decide)).trans (w_up_slot (by decide)))); omega)) (fun oq100 Sq100 hp101 q100 => ?_)
                  rcases q100 with ⟨rfl, a1, a2⟩
                  show wJ _ _ _ _ _ _ _ _ _ _
                  refine wa_return rfl ?_
                  rw [if_pos (by omega), if_pos (by omega), if_neg (by rw [htf]; decide)] at he
                  refine Or.inl ⟨_, he.symm, rfl, ?_, by rw [show lx_ne S p = lx_ne (w_up (w_up (w_up S 266 ((60 * c) + (S 265 c)) (ch_of S 261)) 265 c ((S 265 c) + 1)) 267 c (wb_lor (S 267 c) (S 267 (ch_of S 261)))) p by rw [lx_ne_up (by decide)]; rw [lx_ne_up (by decide)]; rw [lx_ne_up (by decide)]]; exact a2⟩
                  unfold hs_S_261; first | (rw [if_pos (by omega)]; exact a1) | (rw [if_neg (by omega)]; exact a1)
                · skip
                  refine wa_aload_n (n := 0) rfl ?_
                  refine wb_gf5 237 rfl (wy_pr rfl) wt_237 wf_15_15 (v := 261) ((w_up_slot (by decide)).trans ((w_up_slot (by decide)).trans ((w_up_slot (by decide)).trans (hb)))) (fun r102 => ?_)
                  refine wb_gf4 261 rfl (wy_pr rfl) wt_261 wf_12_3 (v := 264) wl_261_3 ?_
                  refine wa_iload_n (n := 1) rfl ?_
                  refine wa_iload_n (n := 2) rfl ?_
                  refine wb_iast 264 rfl (wy_pr rfl) wt_264 (n := 60) ((w_up_slot (by decide)).trans ((w_up_slot (by decide)).trans ((w_up_slot (by decide)).trans ((ml_264 hM))))) (by omega) (by omega) ⟨(by omega), (by omega)⟩ ?_
                  refine wa_fall ⟨_, rfl⟩ ?_
                  refine wa_aload_n (n := 0) rfl ?_
                  refine wa_cv 237 rfl (wy_pr rfl) wt_237 (M2 := fun _ => False) rfl at_M_next ⟨_, rfl⟩ rfl rfl ⟨(Or.inr ⟨wy_pr rfl, fun q => q⟩), trivial, trivial, trivial, trivial⟩ trivial (fun _ _ q => False.elim q) (nx_I (S := (w_up (w_up (w_up (w_up S 266 ((60 * c) + (S 265 c)) (ch_of S 261)) 265 c ((S 265 c) + 1)) 267 c (wb_lor (S 267 c) (S 267 (ch_of S 261)))) 264 c (ch_of S 261))) (lx_I_up (lx_I_up (lx_I_up (lx_I_up hI (by decide) (by omega)) (by decide) (by omega)) (by decide) (by omega)) (by decide) (by omega)) (by have e6 : (w_up (w_up (w_up (w_up S 266 ((60 * c) + (S 265 c)) (ch_of S 261)) 265 c ((S 265 c) + 1)) 267 c (wb_lor (S 267 c) (S 267 (ch_of S 261)))) 264 c (ch_of S 261)) 237 6 = (S 237 6) := ((w_up_slot (by decide)).trans ((w_up_slot (by decide)).trans ((w_up_slot (by decide)).trans (w_up_slot (by decide))))); omega)) (fun oq103 Sq103 hp104 q103 => ?_)
                  rcases q103 with ⟨rfl, a1, a2⟩
                  show wJ _ _ _ _ _ _ _ _ _ _
                  refine wa_return rfl ?_
                  rw [if_pos (by omega), if_pos (by omega), if_neg (by rw [htf]; decide)] at he
                  refine Or.inl ⟨_, he.symm, rfl, ?_, by rw [show lx_ne S p = lx_ne (w_up (w_up (w_up (w_up S 266 ((60 * c) + (S 265 c)) (ch_of S 261)) 265 c ((S 265 c) + 1)) 267 c (wb_lor (S 267 c) (S 267 (ch_of S 261)))) 264 c (ch_of S 261)) p by rw [lx_ne_up (by decide)]; rw [lx_ne_up (by decide)]; rw [lx_ne_up (by decide)]; rw [lx_ne_up (by decide)]]; exact a2⟩
                  unfold hs_S_261; first | (rw [if_pos (by omega)]; exact a1) | (rw [if_neg (by omega)]; exact a1)
              · skip
                exact absurd m85 (by decide)
          · skip
            refine wa_aload_n (n := 0) rfl ?_
            refine wb_gf5 237 rfl (wy_pr rfl) wt_237 wf_15_15 (v := 261) (hb) (fun r21 => ?_)
            refine wb_gf4 261 rfl (wy_pr rfl) wt_261 wf_12_2 (v := 263) wl_261_2 ?_
            refine wa_iload_n (n := 1) rfl ?_
            refine wb_zald 263 rfl (wy_pr rfl) wt_263 (n := 60) ((ml_263 hM)) (by omega) (by omega) (v := (S 263 c)) rfl (fun r22 => ?_)
            refine wa_ifne (w_rg0 (by omega) (by omega)) ⟨_, rfl⟩ (fun c23 => ?_) (fun c23 => ?_)
            · skip
              refine wa_iconst ?_
              refine wa_goto ⟨_, rfl⟩ ?_
              refine wa_istore_n (n := 3) rfl ?_
              refine wa_iconst ?_
              refine wa_istore (n := 4) rfl ?_
              refine wa_fall ⟨_, rfl⟩ ?_
              refine wJ_S (su_8_261 hI hb hc hcc hs ⟨by omega, by omega⟩ (fun t ht => ?_) ((S 265 c).toNat + 1) 0 1 (by omega) (by omega) (Or.inl ⟨rfl, decide_eq_true (by omega)⟩)) ⟨rfl, rfl, rfl, rfl, rfl, trivial⟩
              have ht01 : t = 0 ∨ t = 1 := by rcases ht with z | z <;> omega
              refine wa_aload_n (n := 0) rfl ?_
              refine wa_iload_n (n := 3) rfl ?_
              refine wa_ifne (w_rg0 (by omega) (by omega)) ⟨_, rfl⟩ (fun c84 => ?_) (fun c84 => ?_)
              · skip
                refine wa_iconst ?_
                refine wa_fall ⟨_, rfl⟩ ?_
                refine wa_iconst ?_
                refine wa_cv 237 rfl (wy_pr rfl) wt_237 (M2 := fun _ => False) rfl at_M_must ⟨_, rfl⟩ rfl rfl ⟨(Or.inr ⟨wy_pr rfl, fun q => q⟩), trivial, trivial, trivial, trivial⟩ trivial (fun _ _ q => False.elim q) (must_ok (g := 0) (n := 4) (Or.inl rfl) ⟨by omega, by omega⟩) (fun oq86 Sq86 hp87 q86 => ?_)
                rcases q86 with ⟨m85, _, _⟩ | ⟨_, rfl, rfl⟩
                · skip
                  exact absurd m85 (by decide)
                · skip
                  refine ⟨rfl, ?_⟩
                  rw [if_pos (by omega), if_pos (by omega), if_pos (by rcases ht with z | z; exact z.2; exact absurd z.1 (by omega))] at he
                  exact Or.inr ⟨_, _, he.symm, rfl, by rw [h7]⟩
              · skip
                refine wa_iconst ?_
                refine wa_goto ⟨_, rfl⟩ ?_
                refine wa_iconst ?_
                refine wa_cv 237 rfl (wy_pr rfl) wt_237 (M2 := fun _ => False) rfl at_M_must ⟨_, rfl⟩ rfl rfl ⟨(Or.inr ⟨wy_pr rfl, fun q => q⟩), trivial, trivial, trivial, trivial⟩ trivial (fun _ _ q => False.elim q) (must_ok (g := 1) (n := 4) (Or.inr rfl) ⟨by omega, by omega⟩) (fun oq89 Sq89 hp90 q89 => ?_)
                rcases q89 with ⟨_, rfl, rfl⟩ | ⟨m88, _, _⟩
                · skip
                  show wJ _ _ _ _ _ _ _ _ _ _
                  have htf : tw_of_261 S c (ch_of S 261) = false := by
                    rcases ht with z | z
                    · exact absurd z.1 (by omega)
                    · exact z.2
                  have hs3 := hs2 (ch_of S 261) (by omega) (by omega) htf
                  refine wa_aload_n (n := 0) rfl ?_
                  refine wb_gf5 237 rfl (wy_pr rfl) wt_237 wf_15_15 (v := 261) (hb) (fun r91 => ?_)
                  refine wb_gf4 261 rfl (wy_pr rfl) wt_261 wf_12_5 (v := 266) wl_261_5 ?_
                  refine wa_bipush (w_rg2 (by omega) (by omega)) ?_
                  refine wa_iload_n (n := 1) rfl ?_
                  refine wa_imul ?_
                  refine wa_aload_n (n := 0) rfl ?_
                  refine wb_gf5 237 rfl (wy_pr rfl) wt_237 wf_15_15 (v := 261) (hb) (fun r92 => ?_)
                  refine wb_gf4 261 rfl (wy_pr rfl) wt_261 wf_12_4 (v := 265) wl_261_4 ?_
                  refine wa_iload_n (n := 1) rfl ?_
                  refine wb_iald 265 rfl (wy_pr rfl) wt_265 (n := 60) ((ml_265 hM)) (by omega) (by omega) (v := (S 265 c)) rfl (fun r93 => ?_)
                  refine wa_iadd ?_
                  refine wa_iload_n (n := 2) rfl ?_
                  refine wb_iast 266 rfl (wy_pr rfl) wt_266 (n := 3600) ((ml_266 hM)) (by omega) (by omega) ⟨(by omega), (by omega)⟩ ?_
                  refine wa_aload_n (n := 0) rfl ?_
                  refine wb_gf5 237 rfl (wy_pr rfl) wt_237 wf_15_15 (v := 261) ((w_up_slot (by decide)).trans (hb)) (fun r94 => ?_)
                  refine wb_gf4 261 rfl (wy_pr rfl) wt_261 wf_12_4 (v := 265) wl_261_4 ?_
                  refine wa_iload_n (n := 1) rfl ?_
                  refine wa_dup2 (by decide) (by decide) ?_
                  refine wb_iald 265 rfl (wy_pr rfl) wt_265 (n := 60) ((w_up_slot (by decide)).trans ((ml_265 hM))) (by omega) (by omega) (v := (S 265 c)) (w_up_slot (by decide)) (fun r95 => ?_)
                  refine wa_iconst ?_
                  refine wa_iadd ?_
                  refine wb_iast 265 rfl (wy_pr rfl) wt_265 (n := 60) ((w_up_slot (by decide)).trans ((ml_265 hM))) (by omega) (by omega) ⟨(by omega), (by omega)⟩ ?_
                  refine wa_aload_n (n := 0) rfl ?_
                  refine wb_gf5 237 rfl (wy_pr rfl) wt_237 wf_15_15 (v := 261) ((w_up_slot (by decide)).trans ((w_up_slot (by decide)).trans (hb))) (fun r96 => ?_)
                  refine wb_gf4 261 rfl (wy_pr rfl) wt_261 wf_12_6 (v := 267) wl_261_6 ?_
                  refine wa_iload_n (n := 1) rfl ?_
                  refine wa_dup2 (by decide) (by decide) ?_
                  refine wb_lald 267 rfl (wy_pr rfl) wt_267 (n := 60) ((w_up_slot (by decide)).trans ((w_up_slot (by decide)).trans ((ml_267 hM)))) (by omega) (by omega) (v := (S 267 c)) ((w_up_slot (by decide)).trans (w_up_slot (by decide))) (fun r97 => ?_)
                  refine wa_aload_n (n := 0) rfl ?_
                  refine wb_gf5 237 rfl (wy_pr rfl) wt_237 wf_15_15 (v := 261) ((w_up_slot (by decide)).trans ((w_up_slot (by decide)).trans (hb))) (fun r98 => ?_)
                  refine wb_gf4 261 rfl (wy_pr rfl) wt_261 wf_12_6 (v := 267) wl_261_6 ?_
                  refine wa_iload_n (n := 2) rfl ?_
                  refine wb_lald 267 rfl (wy_pr rfl) wt_267 (n := 60) ((w_up_slot (by decide)).trans ((w_up_slot (by decide)).trans ((ml_267 hM)))) (by omega) (by omega) (v := (S 267 (ch_of S 261))) ((w_up_slot (by decide)).trans (w_up_slot (by decide))) (fun r99 => ?_)
                  refine wa_lor ?_
                  have hlo := wb_lor_rg (S 267 c) (S 267 (ch_of S 261))
                  refine wb_last 267 rfl (wy_pr rfl) wt_267 (n := 60) ((w_up_slot (by decide)).trans ((w_up_slot (by decide)).trans ((ml_267 hM)))) (by omega) (by omega) ⟨(by omega), (by omega)⟩ ?_
                  refine wa_aload_n (n := 0) rfl ?_
                  refine wb_gf5 237 rfl (wy_pr rfl) wt_237 wf_15_15 (v := 261) ((w_up_slot (by decide)).trans ((w_up_slot (by decide)).trans ((w_up_slot (by decide)).trans (hb)))) (fun r100 => ?_)
                  refine wa_fall ⟨_, rfl⟩ ?_
                  refine wb_gf4 261 rfl (wy_pr rfl) wt_261 wf_12_2 (v := 263) wl_261_2 ?_
                  refine wa_iload_n (n := 2) rfl ?_
                  refine wb_zald 263 rfl (wy_pr rfl) wt_263 (n := 60) ((w_up_slot (by decide)).trans ((w_up_slot (by decide)).trans ((w_up_slot (by decide)).trans ((ml_263 hM))))) (by omega) (by omega) (v := (S 263 (ch_of S 261))) ((w_up_slot (by decide)).trans ((w_up_slot (by decide)).trans (w_up_slot (by decide)))) (fun r101 => ?_)
                  refine wa_ifne (w_rg0 (by omega) (by omega)) ⟨_, rfl⟩ (fun c102 => ?_) (fun c102 => ?_)
                  · skip
                    refine wa_aload_n (n := 0) rfl ?_
                    refine wa_cv 237 rfl (wy_pr rfl) wt_237 (M2 := fun _ => False) rfl at_M_next ⟨_, rfl⟩ rfl rfl ⟨(Or.inr ⟨wy_pr rfl, fun q => q⟩), trivial, trivial, trivial, trivial⟩ trivial (fun _ _ q => False.elim q) (nx_I (S := (w_up (w_up (w_up S 266 ((60 * c) + (S 265 c)) (ch_of S 261)) 265 c ((S 265 c) + 1)) 267 c (wb_lor (S 267 c) (S 267 (ch_of S 261))))) (lx_I_up (lx_I_up (lx_I_up hI (by decide) (by omega)) (by decide) (by omega)) (by decide) (by omega)) (by have e6 : (w_up (w_up (w_up S 266 ((60 * c) + (S 265 c)) (ch_of S 261)) 265 c ((S 265 c) + 1)) 267 c (wb_lor (S 267 c) (S 267 (ch_of S 261)))) 237 6 = (S 237 6) := ((w_up_slot (by decide)).trans ((w_up_slot (by decide)).trans (w_up_slot (by decide)))); omega)) (fun oq103 Sq103 hp104 q103 => ?_)
                    rcases q103 with ⟨rfl, a1, a2⟩
                    show wJ _ _ _ _ _ _ _ _ _ _
                    refine wa_return rfl ?_
                    rw [if_pos (by omega), if_pos (by omega), if_neg (by rw [htf]; decide)] at he
                    refine Or.inl ⟨_, he.symm, rfl, ?_, by rw [show lx_ne S p = lx_ne (w_up (w_up (w_up S 266 ((60 * c) + (S 265 c)) (ch_of S 261)) 265 c ((S 265 c) + 1)) 267 c (wb_lor (S 267 c) (S 267 (ch_of S 261)))) p by rw [lx_ne_up (by decide)]; rw [lx_ne_up (by decide)]; rw [lx_ne_up (by decide)]]; exact a2⟩
                    unfold hs_S_261; first | (rw [if_pos (by omega)]; exact a1) | (rw [if_neg (by omega)]; exact a1)
                  · skip
                    refine wa_aload_n (n := 0) rfl ?_
                    refine wb_gf5 237 rfl (wy_pr rfl) wt_237 wf_15_15 (v := 261) ((w_up_slot (by decide)).trans ((w_up_slot (by decide)).trans ((w_up_slot (by decide)).trans (hb)))) (fun r105 => ?_)
                    refine wb_gf4 261 rfl (wy_pr rfl) wt_261 wf_12_3 (v := 264) wl_261_3 ?_
                    refine wa_iload_n (n := 1) rfl ?_
                    refine wa_iload_n (n := 2) rfl ?_
                    refine wb_iast 264 rfl (wy_pr rfl) wt_264 (n := 60) ((w_up_slot (by decide)).trans ((w_up_slot (by decide)).trans ((w_up_slot (by decide)).trans ((ml_264 hM))))) (by omega) (by omega) ⟨(by omega), (by omega)⟩ ?_
                    refine wa_fall ⟨_, rfl⟩ ?_
                    refine wa_aload_n (n := 0) rfl ?_
                    refine wa_cv 237 rfl (wy_pr rfl) wt_237 (M2 := fun _ => False) rfl at_M_next ⟨_, rfl⟩ rfl rfl ⟨(Or.inr ⟨wy_pr rfl, fun q => q⟩), trivial, trivial, trivial, trivial⟩ trivial (fun _ _ q => False.elim q) (nx_I (S := (w_up (w_up (w_up (w_up S 266 ((60 * c) + (S 265 c)) (ch_of S 261)) 265 c ((S 265 c) + 1)) 267 c (wb_lor (S 267 c) (S 267 (ch_of S 261)))) 264 c (ch_of S 261))) (lx_I_up (lx_I_up (lx_I_up (lx_I_up hI (by decide) (by omega)) (by decide) (by omega)) (by decide) (by omega)) (by decide) (by omega)) (by have e6 : (w_up (w_up (w_up (w_up S 266 ((60 * c) + (S 265 c)) (ch_of S 261)) 265 c ((S 265 c) + 1)) 267 c (wb_lor (S 267 c) (S 267 (ch_of S 261)))) 264 c (ch_of S 261)) 237 6 = (S 237 6) := ((w_up_slot (by decide)).trans ((w_up_slot (by decide)).trans ((w_up_slot (by decide)).trans (w_up_slot (by decide))))); omega)) (fun oq106 Sq106 hp107 q106 => ?_)
                    rcases q106 with ⟨rfl, a1, a2⟩
                    show wJ _ _ _ _ _ _ _ _ _ _
                    refine wa_return rfl ?_
                    rw [if_pos (by omega), if_pos (by omega), if_neg (by rw [htf]; decide)] at he
                    refine Or.inl ⟨_, he.symm, rfl, ?_, by rw [show lx_ne S p = lx_ne (w_up (w_up (w_up (w_up S 266 ((60 * c) + (S 265 c)) (ch_of S 261)) 265 c ((S 265 c) + 1)) 267 c (wb_lor (S 267 c) (S 267 (ch_of S 261)))) 264 c (ch_of S 261)) p by rw [lx_ne_up (by decide)]; rw [lx_ne_up (by decide)]; rw [lx_ne_up (by decide)]; rw [lx_ne_up (by decide)]]; exact a2⟩
                    unfold hs_S_261; first | (rw [if_pos (by omega)]; exact a1) | (rw [if_neg (by omega)]; exact a1)
                · skip
                  exact absurd m88 (by decide)
            · skip
              refine wa_aload_n (n := 0) rfl ?_
              refine wb_gf5 237 rfl (wy_pr rfl) wt_237 wf_15_15 (v := 261) (hb) (fun r24 => ?_)
              refine wb_gf4 261 rfl (wy_pr rfl) wt_261 wf_12_3 (v := 264) wl_261_3 ?_
              refine wa_iload_n (n := 1) rfl ?_
              refine wb_iald 264 rfl (wy_pr rfl) wt_264 (n := 60) ((ml_264 hM)) (by omega) (by omega) (v := (S 264 c)) rfl (fun r25 => ?_)
              refine wa_iflt (w_rg0 (by omega) (by omega)) ⟨_, rfl⟩ (fun c26 => ?_) (fun c26 => ?_)
              · skip
                refine wa_iconst ?_
                refine wa_fall ⟨_, rfl⟩ ?_
                refine wa_istore_n (n := 3) rfl ?_
                refine wa_iconst ?_
                refine wa_istore (n := 4) rfl ?_
                refine wa_fall ⟨_, rfl⟩ ?_
                refine wJ_S (su_8_261 hI hb hc hcc hs ⟨by omega, by omega⟩ (fun t ht => ?_) ((S 265 c).toNat + 1) 0 0 (by omega) (by omega) (Or.inr ⟨rfl, decide_eq_false (by omega)⟩)) ⟨rfl, rfl, rfl, rfl, rfl, trivial⟩
                have ht01 : t = 0 ∨ t = 1 := by rcases ht with z | z <;> omega
                refine wa_aload_n (n := 0) rfl ?_
                refine wa_iload_n (n := 3) rfl ?_
                refine wa_ifne (w_rg0 (by omega) (by omega)) ⟨_, rfl⟩ (fun c87 => ?_) (fun c87 => ?_)
                · skip
                  refine wa_iconst ?_
                  refine wa_fall ⟨_, rfl⟩ ?_
                  refine wa_iconst ?_
                  refine wa_cv 237 rfl (wy_pr rfl) wt_237 (M2 := fun _ => False) rfl at_M_must ⟨_, rfl⟩ rfl rfl ⟨(Or.inr ⟨wy_pr rfl, fun q => q⟩), trivial, trivial, trivial, trivial⟩ trivial (fun _ _ q => False.elim q) (must_ok (g := 0) (n := 4) (Or.inl rfl) ⟨by omega, by omega⟩) (fun oq89 Sq89 hp90 q89 => ?_)
                  rcases q89 with ⟨m88, _, _⟩ | ⟨_, rfl, rfl⟩
                  · skip
                    exact absurd m88 (by decide)
                  · skip
                    refine ⟨rfl, ?_⟩
                    rw [if_pos (by omega), if_pos (by omega), if_pos (by rcases ht with z | z; exact z.2; exact absurd z.1 (by omega))] at he
                    exact Or.inr ⟨_, _, he.symm, rfl, by rw [h7]⟩
                · skip
                  refine wa_iconst ?_
                  refine wa_goto ⟨_, rfl⟩ ?_
                  refine wa_iconst ?_
                  refine wa_cv 237 rfl (wy_pr rfl) wt_237 (M2 := fun _ => False) rfl at_M_must ⟨_, rfl⟩ rfl rfl ⟨(Or.inr ⟨wy_pr rfl, fun q => q⟩), trivial, trivial, trivial, trivial⟩ trivial (fun _ _ q => False.elim q) (must_ok (g := 1) (n := 4) (Or.inr rfl) ⟨by omega, by omega⟩) (fun oq92 Sq92 hp93 q92 => ?_)
                  rcases q92 with ⟨_, rfl, rfl⟩ | ⟨m91, _, _⟩
                  · skip
                    show wJ _ _ _ _ _ _ _ _ _ _
                    have htf : tw_of_261 S c (ch_of S 261) = false := by
                      rcases ht with z | z
                      · exact absurd z.1 (by omega)
                      · exact z.2
                    have hs3 := hs2 (ch_of S 261) (by omega) (by omega) htf
                    refine wa_aload_n (n := 0) rfl ?_
                    refine wb_gf5 237 rfl (wy_pr rfl) wt_237 wf_15_15 (v := 261) (hb) (fun r94 => ?_)
                    refine wb_gf4 261 rfl (wy_pr rfl) wt_261 wf_12_5 (v := 266) wl_261_5 ?_
                    refine wa_bipush (w_rg2 (by omega) (by omega)) ?_
                    refine wa_iload_n (n := 1) rfl ?_
                    refine wa_imul ?_
                    refine wa_aload_n (n := 0) rfl ?_
                    refine wb_gf5 237 rfl (wy_pr rfl) wt_237 wf_15_15 (v := 261) (hb) (fun r95 => ?_)
                    refine wb_gf4 261 rfl (wy_pr rfl) wt_261 wf_12_4 (v := 265) wl_261_4 ?_
                    refine wa_iload_n (n := 1) rfl ?_
                    refine wb_iald 265 rfl (wy_pr rfl) wt_265 (n := 60) ((ml_265 hM)) (by omega) (by omega) (v := (S 265 c)) rfl (fun r96 => ?_)
                    refine wa_iadd ?_
                    refine wa_iload_n (n := 2) rfl ?_
                    refine wb_iast 266 rfl (wy_pr rfl) wt_266 (n := 3600) ((ml_266 hM)) (by omega) (by omega) ⟨(by omega), (by omega)⟩ ?_
                    refine wa_aload_n (n := 0) rfl ?_
                    refine wb_gf5 237 rfl (wy_pr rfl) wt_237 wf_15_15 (v := 261) ((w_up_slot (by decide)).trans (hb)) (fun r97 => ?_)
                    refine wb_gf4 261 rfl (wy_pr rfl) wt_261 wf_12_4 (v := 265) wl_261_4 ?_
                    refine wa_iload_n (n := 1) rfl ?_
                    refine wa_dup2 (by decide) (by decide) ?_
                    refine wb_iald 265 rfl (wy_pr rfl) wt_265 (n := 60) ((w_up_slot (by decide)).trans ((ml_265 hM))) (by omega) (by omega) (v := (S 265 c)) (w_up_slot (by decide)) (fun r98 => ?_)
                    refine wa_iconst ?_
                    refine wa_iadd ?_
                    refine wb_iast 265 rfl (wy_pr rfl) wt_265 (n := 60) ((w_up_slot (by decide)).trans ((ml_265 hM))) (by omega) (by omega) ⟨(by omega), (by omega)⟩ ?_
                    refine wa_aload_n (n := 0) rfl ?_
                    refine wb_gf5 237 rfl (wy_pr rfl) wt_237 wf_15_15 (v := 261) ((w_up_slot (by decide)).trans ((w_up_slot (by decide)).trans (hb))) (fun r99 => ?_)
                    refine wb_gf4 261 rfl (wy_pr rfl) wt_261 wf_12_6 (v := 267) wl_261_6 ?_
                    refine wa_iload_n (n := 1) rfl ?_
                    refine wa_dup2 (by decide) (by decide) ?_
                    refine wb_lald 267 rfl (wy_pr rfl) wt_267 (n := 60) ((w_up_slot (by decide)).trans ((w_up_slot (by decide)).trans ((ml_267 hM)))) (by omega) (by omega) (v := (S 267 c)) ((w_up_slot (by decide)).trans (w_up_slot (by decide))) (fun r100 => ?_)
                    refine wa_aload_n (n := 0) rfl ?_
                    refine wb_gf5 237 rfl (wy_pr rfl) wt_237 wf_15_15 (v := 261) ((w_up_slot (by decide)).trans ((w_up_slot (by decide)).trans (hb))) (fun r101 => ?_)
                    refine wb_gf4 261 rfl (wy_pr rfl) wt_261 wf_12_6 (v := 267) wl_261_6 ?_
                    refine wa_iload_n (n := 2) rfl ?_
                    refine wb_lald 267 rfl (wy_pr rfl) wt_267 (n := 60) ((w_up_slot (by decide)).trans ((w_up_slot (by decide)).trans ((ml_267 hM)))) (by omega) (by omega) (v := (S 267 (ch_of S 261))) ((w_up_slot (by decide)).trans (w_up_slot (by decide))) (fun r102 => ?_)
                    refine wa_lor ?_
                    have hlo := wb_lor_rg (S 267 c) (S 267 (ch_of S 261))
                    refine wb_last 267 rfl (wy_pr rfl) wt_267 (n := 60) ((w_up_slot (by decide)).trans ((w_up_slot (by decide)).trans ((ml_267 hM)))) (by omega) (by omega) ⟨(by omega), (by omega)⟩ ?_
                    refine wa_aload_n (n := 0) rfl ?_
                    refine wb_gf5 237 rfl (wy_pr rfl) wt_237 wf_15_15 (v := 261) ((w_up_slot (by decide)).trans ((w_up_slot (by decide)).trans ((w_up_slot (by decide)).trans (hb)))) (fun r103 => ?_)
                    refine wa_fall ⟨_, rfl⟩ ?_
                    refine wb_gf4 261 rfl (wy_pr rfl) wt_261 wf_12_2 (v := 263) wl_261_2 ?_
                    refine wa_iload_n (n := 2) rfl ?_
                    refine wb_zald 263 rfl (wy_pr rfl) wt_263 (n := 60) ((w_up_slot (by decide)).trans ((w_up_slot (by decide)).trans ((w_up_slot (by decide)).trans ((ml_263 hM))))) (by omega) (by omega) (v := (S 263 (ch_of S 261))) ((w_up_slot (by decide)).trans ((w_up_slot (by decide)).trans (w_up_slot (by decide)))) (fun r104 => ?_)
                    refine wa_ifne (w_rg0 (by omega) (by omega)) ⟨_, rfl⟩ (fun c105 => ?_) (fun c105 => ?_)
                    · skip
                      refine wa_aload_n (n := 0) rfl ?_
                      refine wa_cv 237 rfl (wy_pr rfl) wt_237 (M2 := fun _ => False) rfl at_M_next ⟨_, rfl⟩ rfl rfl ⟨(Or.inr ⟨wy_pr rfl, fun q => q⟩), trivial, trivial, trivial, trivial⟩ trivial (fun _ _ q => False.elim q) (nx_I (S := (w_up (w_up (w_up S 266 ((60 * c) + (S 265 c)) (ch_of S 261)) 265 c ((S 265 c) + 1)) 267 c (wb_lor (S 267 c) (S 267 (ch_of S 261))))) (lx_I_up (lx_I_up (lx_I_up hI (by decide) (by omega)) (by decide) (by omega)) (by decide) (by omega)) (by have e6 : (w_up (w_up (w_up S 266 ((60 * c) + (S 265 c)) (ch_of S 261)) 265 c ((S 265 c) + 1)) 267 c (wb_lor (S 267 c) (S 267 (ch_of S 261)))) 237 6 = (S 237 6) := ((w_up_slot (by decide)).trans ((w_up_slot (by decide)).trans (w_up_slot (by decide)))); omega)) (fun oq106 Sq106 hp107 q106 => ?_)
                      rcases q106 with ⟨rfl, a1, a2⟩
                      show wJ _ _ _ _ _ _ _ _ _ _
                      refine wa_return rfl ?_
                      rw [if_pos (by omega), if_pos (by omega), if_neg (by rw [htf]; decide)] at he
                      refine Or.inl ⟨_, he.symm, rfl, ?_, by rw [show lx_ne S p = lx_ne (w_up (w_up (w_up S 266 ((60 * c) + (S 265 c)) (ch_of S 261)) 265 c ((S 265 c) + 1)) 267 c (wb_lor (S 267 c) (S 267 (ch_of S 261)))) p by rw [lx_ne_up (by decide)]; rw [lx_ne_up (by decide)]; rw [lx_ne_up (by decide)]]; exact a2⟩
                      unfold hs_S_261; first | (rw [if_pos (by omega)]; exact a1) | (rw [if_neg (by omega)]; exact a1)
                    · skip
                      refine wa_aload_n (n := 0) rfl ?_
                      refine wb_gf5 237 rfl (wy_pr rfl) wt_237 wf_15_15 (v := 261) ((w_up_slot (by decide)).trans ((w_up_slot (by decide)).trans ((w_up_slot (by decide)).trans (hb)))) (fun r108 => ?_)
                      refine wb_gf4 261 rfl (wy_pr rfl) wt_261 wf_12_3 (v := 264) wl_261_3 ?_
                      refine wa_iload_n (n := 1) rfl ?_
                      refine wa_iload_n (n := 2) rfl ?_
                      refine wb_iast 264 rfl (wy_pr rfl) wt_264 (n := 60) ((w_up_slot (by decide)).trans ((w_up_slot (by decide)).trans ((w_up_slot (by decide)).trans ((ml_264 hM))))) (by omega) (by omega) ⟨(by omega), (by omega)⟩ ?_
                      refine wa_fall ⟨_, rfl⟩ ?_
                      refine wa_aload_n (n := 0) rfl ?_
                      refine wa_cv 237 rfl (wy_pr rfl) wt_237 (M2 := fun _ => False) rfl at_M_next ⟨_, rfl⟩ rfl rfl ⟨(Or.inr ⟨wy_pr rfl, fun q => q⟩), trivial, trivial, trivial, trivial⟩ trivial (fun _ _ q => False.elim q) (nx_I (S := (w_up (w_up (w_up (w_up S 266 ((60 * c) + (S 265 c)) (ch_of S 261)) 265 c ((S 265 c) + 1)) 267 c (wb_lor (S 267 c) (S 267 (ch_of S 261)))) 264 c (ch_of S 261))) (lx_I_up (lx_I_up (lx_I_up (lx_I_up hI (by decide) (by omega)) (by decide) (by omega)) (by decide) (by omega)) (by decide) (by omega)) (by have e6 : (w_up (w_up (w_up (w_up S 266 ((60 * c) + (S 265 c)) (ch_of S 261)) 265 c ((S 265 c) + 1)) 267 c (wb_lor (S 267 c) (S 267 (ch_of S 261)))) 264 c (ch_of S 261)) 237 6 = (S 237 6) := ((w_up_slot (by decide)).trans ((w_up_slot (by decide)).trans ((w_up_slot (by decide)).trans (w_up_slot (by decide))))); omega)) (fun oq109 Sq109 hp110 q109 => ?_)
                      rcases q109 with ⟨rfl, a1, a2⟩
                      show wJ _ _ _ _ _ _ _ _ _ _
                      refine wa_return rfl ?_
                      rw [if_pos (by omega), if_pos (by omega), if_neg (by rw [htf]; decide)] at he
                      refine Or.inl ⟨_, he.symm, rfl, ?_, by rw [show lx_ne S p = lx_ne (w_up (w_up (w_up (w_up S 266 ((60 * c) + (S 265 c)) (ch_of S 261)) 265 c ((S 265 c) + 1)) 267 c (wb_lor (S 267 c) (S 267 (ch_of S 261)))) 264 c (ch_of S 261)) p by rw [lx_ne_up (by decide)]; rw [lx_ne_up (by decide)]; rw [lx_ne_up (by decide)]; rw [lx_ne_up (by decide)]]; exact a2⟩
                      unfold hs_S_261; first | (rw [if_pos (by omega)]; exact a1) | (rw [if_neg (by omega)]; exact a1)
                  · skip
                    exact absurd m91 (by decide)
              · skip
                refine wa_fall ⟨_, rfl⟩ ?_
                refine wa_iconst ?_
                refine wa_goto ⟨_, rfl⟩ ?_
                refine wa_istore_n (n := 3) rfl ?_
                refine wa_iconst ?_
                refine wa_istore (n := 4) rfl ?_
                refine wa_fall ⟨_, rfl⟩ ?_
                refine wJ_S (su_8_261 hI hb hc hcc hs ⟨by omega, by omega⟩ (fun t ht => ?_) ((S 265 c).toNat + 1) 0 1 (by omega) (by omega) (Or.inl ⟨rfl, decide_eq_true (by omega)⟩)) ⟨rfl, rfl, rfl, rfl, rfl, trivial⟩
                have ht01 : t = 0 ∨ t = 1 := by rcases ht with z | z <;> omega
                refine wa_aload_n (n := 0) rfl ?_
                refine wa_iload_n (n := 3) rfl ?_
                refine wa_ifne (w_rg0 (by omega) (by omega)) ⟨_, rfl⟩ (fun c87 => ?_) (fun c87 => ?_)
                · skip
                  refine wa_iconst ?_
                  refine wa_fall ⟨_, rfl⟩ ?_
                  refine wa_iconst ?_
                  refine wa_cv 237 rfl (wy_pr rfl) wt_237 (M2 := fun _ => False) rfl at_M_must ⟨_, rfl⟩ rfl rfl ⟨(Or.inr ⟨wy_pr rfl, fun q => q⟩), trivial, trivial, trivial, trivial⟩ trivial (fun _ _ q => False.elim q) (must_ok (g := 0) (n := 4) (Or.inl rfl) ⟨by omega, by omega⟩) (fun oq89 Sq89 hp90 q89 => ?_)
                  rcases q89 with ⟨m88, _, _⟩ | ⟨_, rfl, rfl⟩
                  · skip
                    exact absurd m88 (by decide)
                  · skip
                    refine ⟨rfl, ?_⟩
                    rw [if_pos (by omega), if_pos (by omega), if_pos (by rcases ht with z | z; exact z.2; exact absurd z.1 (by omega))] at he
                    exact Or.inr ⟨_, _, he.symm, rfl, by rw [h7]⟩
                · skip
                  refine wa_iconst ?_
                  refine wa_goto ⟨_, rfl⟩ ?_
                  refine wa_iconst ?_
                  refine wa_cv 237 rfl (wy_pr rfl) wt_237 (M2 := fun _ => False) rfl at_M_must ⟨_, rfl⟩ rfl rfl ⟨(Or.inr ⟨wy_pr rfl, fun q => q⟩), trivial, trivial, trivial, trivial⟩ trivial (fun _ _ q => False.elim q) (must_ok (g := 1) (n := 4) (Or.inr rfl) ⟨by omega, by omega⟩) (fun oq92 Sq92 hp93 q92 => ?_)
                  rcases q92 with ⟨_, rfl, rfl⟩ | ⟨m91, _, _⟩
                  · skip
                    show wJ _ _ _ _ _ _ _ _ _ _
                    have htf : tw_of_261 S c (ch_of S 261) = false := by
                      rcases ht with z | z
                      · exact absurd z.1 (by omega)
                      · exact z.2
                    have hs3 := hs2 (ch_of S 261) (by omega) (by omega) htf
                    refine wa_aload_n (n := 0) rfl ?_
                    refine wb_gf5 237 rfl (wy_pr rfl) wt_237 wf_15_15 (v := 261) (hb) (fun r94 => ?_)
                    refine wb_gf4 261 rfl (wy_pr rfl) wt_261 wf_12_5 (v := 266) wl_261_5 ?_
                    refine wa_bipush (w_rg2 (by omega) (by omega)) ?_
                    refine wa_iload_n (n := 1) rfl ?_
                    refine wa_imul ?_
                    refine wa_aload_n (n := 0) rfl ?_
                    refine wb_gf5 237 rfl (wy_pr rfl) wt_237 wf_15_15 (v := 261) (hb) (fun r95 => ?_)
                    refine wb_gf4 261 rfl (wy_pr rfl) wt_261 wf_12_4 (v := 265) wl_261_4 ?_
                    refine wa_iload_n (n := 1) rfl ?_
                    refine wb_iald 265 rfl (wy_pr rfl) wt_265 (n := 60) ((ml_265 hM)) (by omega) (by omega) (v := (S 265 c)) rfl (fun r96 => ?_)
                    refine wa_iadd ?_
                    refine wa_iload_n (n := 2) rfl ?_
                    refine wb_iast 266 rfl (wy_pr rfl) wt_266 (n := 3600) ((ml_266 hM)) (by omega) (by omega) ⟨(by omega), (by omega)⟩ ?_
                    refine wa_aload_n (n := 0) rfl ?_
                    refine wb_gf5 237 rfl (wy_pr rfl) wt_237 wf_15_15 (v := 261) ((w_up_slot (by decide)).trans (hb)) (fun r97 => ?_)
                    refine wb_gf4 261 rfl (wy_pr rfl) wt_261 wf_12_4 (v := 265) wl_261_4 ?_
                    refine wa_iload_n (n := 1) rfl ?_
                    refine wa_dup2 (by decide) (by decide) ?_
                    refine wb_iald 265 rfl (wy_pr rfl) wt_265 (n := 60) ((w_up_slot (by decide)).trans ((ml_265 hM))) (by omega) (by omega) (v := (S 265 c)) (w_up_slot (by decide)) (fun r98 => ?_)
                    refine wa_iconst ?_
                    refine wa_iadd ?_
                    refine wb_iast 265 rfl (wy_pr rfl) wt_265 (n := 60) ((w_up_slot (by decide)).trans ((ml_265 hM))) (by omega) (by omega) ⟨(by omega), (by omega)⟩ ?_
                    refine wa_aload_n (n := 0) rfl ?_
                    refine wb_gf5 237 rfl (wy_pr rfl) wt_237 wf_15_15 (v := 261) ((w_up_slot (by decide)).trans ((w_up_slot (by decide)).trans (hb))) (fun r99 => ?_)
                    refine wb_gf4 261 rfl (wy_pr rfl) wt_261 wf_12_6 (v := 267) wl_261_6 ?_
                    refine wa_iload_n (n := 1) rfl ?_
                    refine wa_dup2 (by decide) (by decide) ?_
                    refine wb_lald 267 rfl (wy_pr rfl) wt_267 (n := 60) ((w_up_slot (by decide)).trans ((w_up_slot (by decide)).trans ((ml_267 hM)))) (by omega) (by omega) (v := (S 267 c)) ((w_up_slot (by decide)).trans (w_up_slot (by decide))) (fun r100 => ?_)
                    refine wa_aload_n (n := 0) rfl ?_
                    refine wb_gf5 237 rfl (wy_pr rfl) wt_237 wf_15_15 (v := 261) ((w_up_slot (by decide)).trans ((w_up_slot (by decide)).trans (hb))) (fun r101 => ?_)
                    refine wb_gf4 261 rfl (wy_pr rfl) wt_261 wf_12_6 (v := 267) wl_261_6 ?_
                    refine wa_iload_n (n := 2) rfl ?_
                    refine wb_lald 267 rfl (wy_pr rfl) wt_267 (n := 60) ((w_up_slot (by decide)).trans ((w_up_slot (by decide)).trans ((ml_267 hM)))) (by omega) (by omega) (v := (S 267 (ch_of S 261))) ((w_up_slot (by decide)).trans (w_up_slot (by decide))) (fun r102 => ?_)
                    refine wa_lor ?_
                    have hlo := wb_lor_rg (S 267 c) (S 267 (ch_of S 261))
                    refine wb_last 267 rfl (wy_pr rfl) wt_267 (n := 60) ((w_up_slot (by decide)).trans ((w_up_slot (by decide)).trans ((ml_267 hM)))) (by omega) (by omega) ⟨(by omega), (by omega)⟩ ?_
                    refine wa_aload_n (n := 0) rfl ?_
                    refine wb_gf5 237 rfl (wy_pr rfl) wt_237 wf_15_15 (v := 261) ((w_up_slot (by decide)).trans ((w_up_slot (by decide)).trans ((w_up_slot (by decide)).trans (hb)))) (fun r103 => ?_)
                    refine wa_fall ⟨_, rfl⟩ ?_
                    refine wb_gf4 261 rfl (wy_pr rfl) wt_261 wf_12_2 (v := 263) wl_261_2 ?_
                    refine wa_iload_n (n := 2) rfl ?_
                    refine wb_zald 263 rfl (wy_pr rfl) wt_263 (n := 60) ((w_up_slot (by decide)).trans ((w_up_slot (by decide)).trans ((w_up_slot (by decide)).trans ((ml_263 hM))))) (by omega) (by omega) (v := (S 263 (ch_of S 261))) ((w_up_slot (by decide)).trans ((w_up_slot (by decide)).trans (w_up_slot (by decide)))) (fun r104 => ?_)
                    refine wa_ifne (w_rg0 (by omega) (by omega)) ⟨_, rfl⟩ (fun c105 => ?_) (fun c105 => ?_)
                    · skip
                      refine wa_aload_n (n := 0) rfl ?_
                      refine wa_cv 237 rfl (wy_pr rfl) wt_237 (M2 := fun _ => False) rfl at_M_next ⟨_, rfl⟩ rfl rfl ⟨(Or.inr ⟨wy_pr rfl, fun q => q⟩), trivial, trivial, trivial, trivial⟩ trivial (fun _ _ q => False.elim q) (nx_I (S := (w_up (w_up (w_up S 266 ((60 * c) + (S 265 c)) (ch_of S 261)) 265 c ((S 265 c) + 1)) 267 c (wb_lor (S 267 c) (S 267 (ch_of S 261))))) (lx_I_up (lx_I_up (lx_I_up hI (by decide) (by omega)) (by decide) (by omega)) (by decide) (by omega)) (by have e6 : (w_up (w_up (w_up S 266 ((60 * c) + (S 265 c)) (ch_of S 261)) 265 c ((S 265 c) + 1)) 267 c (wb_lor (S 267 c) (S 267 (ch_of S 261)))) 237 6 = (S 237 6) := ((w_up_slot (by decide)).trans ((w_up_slot (by decide)).trans (w_up_slot (by decide)))); omega)) (fun oq106 Sq106 hp107 q106 => ?_)
                      rcases q106 with ⟨rfl, a1, a2⟩
                      show wJ _ _ _ _ _ _ _ _ _ _
                      refine wa_return rfl ?_
                      rw [if_pos (by omega), if_pos (by omega), if_neg (by rw [htf]; decide)] at he
                      refine Or.inl ⟨_, he.symm, rfl, ?_, by rw [show lx_ne S p = lx_ne (w_up (w_up (w_up S 266 ((60 * c) + (S 265 c)) (ch_of S 261)) 265 c ((S 265 c) + 1)) 267 c (wb_lor (S 267 c) (S 267 (ch_of S 261)))) p by rw [lx_ne_up (by decide)]; rw [lx_ne_up (by decide)]; rw [lx_ne_up (by decide)]]; exact a2⟩
                      unfold hs_S_261; first | (rw [if_pos (by omega)]; exact a1) | (rw [if_neg (by omega)]; exact a1)
                    · skip
                      refine wa_aload_n (n := 0) rfl ?_
                      refine wb_gf5 237 rfl (wy_pr rfl) wt_237 wf_15_15 (v := 261) ((w_up_slot (by decide)).trans ((w_up_slot (by decide)).trans ((w_up_slot (by decide)).trans (hb)))) (fun r108 => ?_)
                      refine wb_gf4 261 rfl (wy_pr rfl) wt_261 wf_12_3 (v := 264) wl_261_3 ?_
                      refine wa_iload_n (n := 1) rfl ?_
                      refine wa_iload_n (n := 2) rfl ?_
                      refine wb_iast 264 rfl (wy_pr rfl) wt_264 (n := 60) ((w_up_slot (by decide)).trans ((w_up_slot (by decide)).trans ((w_up_slot (by decide)).trans ((ml_264 hM))))) (by omega) (by omega) ⟨(by omega), (by omega)⟩ ?_
                      refine wa_fall ⟨_, rfl⟩ ?_
                      refine wa_aload_n (n := 0) rfl ?_
                      refine wa_cv 237 rfl (wy_pr rfl) wt_237 (M2 := fun _ => False) rfl at_M_next ⟨_, rfl⟩ rfl rfl ⟨(Or.inr ⟨wy_pr rfl, fun q => q⟩), trivial, trivial, trivial, trivial⟩ trivial (fun _ _ q => False.elim q) (nx_I (S := (w_up (w_up (w_up (w_up S 266 ((60 * c) + (S 265 c)) (ch_of S 261)) 265 c ((S 265 c) + 1)) 267 c (wb_lor (S 267 c) (S 267 (ch_of S 261)))) 264 c (ch_of S 261))) (lx_I_up (lx_I_up (lx_I_up (lx_I_up hI (by decide) (by omega)) (by decide) (by omega)) (by decide) (by omega)) (by decide) (by omega)) (by have e6 : (w_up (w_up (w_up (w_up S 266 ((60 * c) + (S 265 c)) (ch_of S 261)) 265 c ((S 265 c) + 1)) 267 c (wb_lor (S 267 c) (S 267 (ch_of S 261)))) 264 c (ch_of S 261)) 237 6 = (S 237 6) := ((w_up_slot (by decide)).trans ((w_up_slot (by decide)).trans ((w_up_slot (by decide)).trans (w_up_slot (by decide))))); omega)) (fun oq109 Sq109 hp110 q109 => ?_)
                      rcases q109 with ⟨rfl, a1, a2⟩
                      show wJ _ _ _ _ _ _ _ _ _ _
                      refine wa_return rfl ?_
                      rw [if_pos (by omega), if_pos (by omega), if_neg (by rw [htf]; decide)] at he
                      refine Or.inl ⟨_, he.symm, rfl, ?_, by rw [show lx_ne S p = lx_ne (w_up (w_up (w_up (w_up S 266 ((60 * c) + (S 265 c)) (ch_of S 261)) 265 c ((S 265 c) + 1)) 267 c (wb_lor (S 267 c) (S 267 (ch_of S 261)))) 264 c (ch_of S 261)) p by rw [lx_ne_up (by decide)]; rw [lx_ne_up (by decide)]; rw [lx_ne_up (by decide)]; rw [lx_ne_up (by decide)]]; exact a2⟩
                      unfold hs_S_261; first | (rw [if_pos (by omega)]; exact a1) | (rw [if_neg (by omega)]; exact a1)
                  · skip
                    exact absurd m91 (by decide)
        · skip
          exact absurd m15 (by decide)
    · skip
      exact absurd m6 (by decide)
end W77
