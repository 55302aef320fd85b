/-! PART 9t: bits of a long; the order of a class: addToOrder, addOrder. -/
section W9t
variable {xs : List (Nat × List Int32)} {M : Nat → Prop} {d : Nat} {A B C S Z : wS} {Q : wO → wS → Prop} {T : Int → Int} {n : Int} {c i : Nat}
/-- the bit x of a long -/
def bb (v : Int) (x : Nat) : Bool := ((Int64.ofInt v).toBitVec.toNat).testBit x
theorem and64_1 (a : Int64) : (a &&& 1).toInt = ((a.toBitVec.toNat % 2 : Nat) : Int) := by
  have h1 : (a &&& 1).toBitVec = BitVec.ofNat 64 (a.toBitVec.toNat % 2) := by
    apply BitVec.eq_of_toNat_eq
    rw [Int64.toBitVec_and, BitVec.toNat_and, BitVec.toNat_ofNat]
    have h2 : (1 : Int64).toBitVec.toNat = 2 ^ 1 - 1 := by decide
    rw [h2, Nat.and_two_pow_sub_one_eq_mod]
    have := Nat.mod_lt a.toBitVec.toNat (show 0 < 2 by decide)
    rw [Nat.mod_eq_of_lt (a := a.toBitVec.toNat % 2) (by omega)]
  show (a &&& 1).toBitVec.toInt = _
  rw [h1, BitVec.toInt_eq_toNat_of_lt]
  · rw [BitVec.toNat_ofNat]
    have := Nat.mod_lt a.toBitVec.toNat (show 0 < 2 by decide)
    rw [Nat.mod_eq_of_lt (a := a.toBitVec.toNat % 2) (by omega)]
  · rw [BitVec.toNat_ofNat]
    have := Nat.mod_lt a.toBitVec.toNat (show 0 < 2 by decide)
    rw [Nat.mod_eq_of_lt (a := a.toBitVec.toNat % 2) (by omega)]
    omega
theorem sh_u : ∀ x : Fin 64, ((Int32.ofInt (x.val : Int)).toInt64.toUInt64 &&& Int64.toUInt64 63) = UInt64.ofNat x.val := by decide +kernel
theorem bb_lushr {v : Int} {x : Nat} (hx : x < 64) : wb_land (wb_lushr v (x : Int)) 1 = if bb v x = true then 1 else 0 := by
  have hs := sh_u ⟨x, hx⟩
  have hs : ((Int32.ofInt (x : Int)).toInt64.toUInt64 &&& Int64.toUInt64 63) = UInt64.ofNat x := hs
  have h0 : Int64.ofInt (wb_lushr v (x : Int)) = ((Int64.ofInt v).toUInt64 >>> UInt64.ofNat x).toInt64 := by
    unfold wb_lushr
    rw [Int64.ofInt_toInt, hs]
  have h1 : wb_land (wb_lushr v (x : Int)) 1 = ((Int64.ofInt (wb_lushr v (x : Int)) &&& 1).toInt) := rfl
  rw [h1, h0, and64_1]
  have h2 : (((Int64.ofInt v).toUInt64 >>> UInt64.ofNat x).toInt64).toBitVec.toNat = ((Int64.ofInt v).toBitVec.toNat) >>> x := by
    show ((Int64.ofInt v).toUInt64 >>> UInt64.ofNat x).toNat = _
    have h5 : (UInt64.ofNat x).toNat = x := by
      show (BitVec.ofNat 64 x).toNat = x
      rw [BitVec.toNat_ofNat]
      omega
    rw [UInt64.toNat_shiftRight, h5]
    have h3 : x % 64 = x := by omega
    rw [h3]
    rfl
  rw [h2]
  have h4 : bb v x = (1 &&& ((Int64.ofInt v).toBitVec.toNat >>> x) != 0) := rfl
  rw [h4, Nat.one_and_eq_mod_two]
  rcases Nat.mod_two_eq_zero_or_one ((Int64.ofInt v).toBitVec.toNat >>> x) with h | h
  · rw [h]; rfl
  · rw [h]; rfl
theorem bb_lor (u v : Int) (x : Nat) : bb (wb_lor u v) x = (bb u x || bb v x) := by
  have h : Int64.ofInt (wb_lor u v) = (Int64.ofInt u ||| Int64.ofInt v) := by
    show Int64.ofInt ((Int64.ofInt u ||| Int64.ofInt v).toInt) = _
    rw [Int64.ofInt_toInt]
  unfold bb
  rw [h, Int64.toBitVec_or, BitVec.toNat_or, Nat.testBit_or]
theorem sh_1 : ∀ y : Fin 64, (Int64.ofInt (wb_lshl 1 (y.val : Int))).toBitVec.toNat = 2 ^ y.val := by decide +kernel
theorem bb_lshl {x y : Nat} (hy : y < 64) : bb (wb_lshl 1 (y : Int)) x = decide (y = x) := by
  have h := sh_1 ⟨y, hy⟩
  unfold bb
  rw [show (Int64.ofInt (wb_lshl 1 (y : Int))).toBitVec.toNat = 2 ^ y from h, Nat.testBit_two_pow]
theorem bb_0 (x : Nat) : bb 0 x = false := by
  unfold bb
  rw [show (Int64.ofInt 0).toBitVec.toNat = 0 from rfl, Nat.zero_testBit]
/-- one more, if it isn't there -/
def ad_l (l : List Int) (x : Int) : List Int := if x ∈ l then l else l ++ [x]
/-- the order of the class k: o6 its length, oo its rows, ob its bits -/
def od_1 (o6 oo ob : Nat) (S : wS) (k : Int) (l : List Int) : Prop := S o6 k = (l.length : Int) ∧ su_nd 60 l ∧ (∀ q : Nat, q < l.length → S oo (60 * k + (q : Int)) = l.getD q 0) ∧ ∀ x : Nat, x < 60 → bb (S ob k) x = decide ((x : Int) ∈ l)
/-- the same but for the order of the class k -/
def oz_ag (o6 oo ob : Nat) (k : Int) (S Z : wS) : Prop := ∀ (j : Nat) (i : Int), (j ≠ o6 ∨ i ≠ k) → (j ≠ oo ∨ i < 60 * k ∨ 60 * k + 60 ≤ i) → (j ≠ ob ∨ i ≠ k) → Z j i = S j i
theorem oz_tr {o6 oo ob : Nat} {k : Int} (h : oz_ag o6 oo ob k A B) (g : oz_ag o6 oo ob k B C) : oz_ag o6 oo ob k A C := fun j i a b c => (g j i a b c).trans (h j i a b c)
theorem od_oz {o6 oo ob : Nat} {k q : Int} {l : List Int} (h : od_1 o6 oo ob S q l) (g : oz_ag o6 oo ob k S Z) (hq : q ≠ k) (hd : o6 ≠ oo ∧ o6 ≠ ob ∧ oo ≠ ob) : od_1 o6 oo ob Z q l := by
  obtain ⟨h1, h2, h3, h4⟩ := h
  have hl := su_nd_len (by omega) h2
  refine ⟨(g o6 q (by omega) (by omega) (by omega)).trans h1, h2, fun x hx => ?_, fun x hx => ?_⟩
  · rw [g oo _ (by omega) (by omega) (by omega)]; exact h3 x hx
  · rw [g ob q (by omega) (by omega) (by omega)]; exact h4 x hx
theorem od_add {o6 oo ob : Nat} {k x : Int} {l : List Int} (h : od_1 o6 oo ob S k l) (hx : 0 ≤ x ∧ x < 60) (hn : x ∉ l) (h6 : Z o6 k = (l.length : Int) + 1) (hb : Z ob k = wb_lor (S ob k) (wb_lshl 1 x)) (ho : Z oo (60 * k + (l.length : Int)) = x) (hr : ∀ q : Nat, q < l.length → Z oo (60 * k + (q : Int)) = S oo (60 * k + (q : Int))) : od_1 o6 oo ob Z k (ad_l l x) := by
  have e : ad_l l x = l ++ [x] := if_neg hn
  obtain ⟨h1, h2, h3, h4⟩ := h
  rw [e]
  refine ⟨by rw [h6, List.length_append]; rfl, su_nd_add h2 hx hn, fun q hq => ?_, fun q hq => ?_⟩
  · rw [List.length_append] at hq
    simp only [List.length_cons, List.length_nil] at hq
    by_cases he : q = l.length
    · subst he
      rw [ho, List.getD_eq_getElem?_getD, List.getElem?_append_right (Nat.le_refl _), Nat.sub_self]
      rfl
    · rw [hr q (by omega), h3 q (by omega), List.getD_eq_getElem?_getD, List.getD_eq_getElem?_getD, List.getElem?_append_left (by omega)]
  · have hxt : ((x.toNat : Nat) : Int) = x := Int.toNat_of_nonneg hx.1
    rw [hb, bb_lor, h4 q hq, ← hxt, bb_lshl (by omega), hxt]
    rw [← Bool.decide_or]
    congr 1
    rw [List.mem_append, List.mem_singleton]
    apply propext
    constructor
    · rintro (z | z)
      · exact Or.inl z
      · exact Or.inr (by omega)
    · rintro (z | z)
      · exact Or.inl z
      · exact Or.inr (by omega)
theorem ato_73 {k x : Int} {l : List Int} (hC : w_CL S) (hl : od_1 93 114 115 S k l) (hk : 0 ≤ k ∧ k < 60) (hx : 0 ≤ x ∧ x < 60) : wJ (pe_GA xs) wY0 M d t_XO_addToOrder ((pe_at t_XO_addToOrder.bl 0).getD (0, [])).2 [(0, (2, 73)), (1, (0, k)), (2, (0, x))] [] S (fun o Z => o = .inl none ∧ oz_ag 93 114 115 k S Z ∧ od_1 93 114 115 Z k (ad_l l x)) := by
  have h6 : S 93 k = (l.length : Int) := hl.1
  have hxt : ((x.toNat : Nat) : Int) = x := Int.toNat_of_nonneg hx.1
  have hbt : wb_land (wb_lushr (S 115 k) x) 1 = if bb (S 115 k) x.toNat = true then 1 else 0 := by have := bb_lushr (v := S 115 k) (x := x.toNat) (by omega); rw [hxt] at this; exact this
  have hm : bb (S 115 k) x.toNat = decide (x ∈ l) := by have := hl.2.2.2 x.toNat (by omega); rw [hxt] at this; exact this
  have hll := su_nd_len (by omega) hl.2.1
  have hb01 : wb_land (wb_lushr (S 115 k) x) 1 = 0 ∨ wb_land (wb_lushr (S 115 k) x) 1 = 1 := by rw [hbt]; split <;> omega
  have hor := wb_lor_rg (S 115 k) (wb_lshl 1 x)
  have hin : wb_land (wb_lushr (S 115 k) x) 1 = 1 → x ∈ l := by
    intro z; rw [hbt, hm] at z
    by_cases q : x ∈ l
    · exact q
    · rw [decide_eq_false q] at z; exact absurd z (by decide)
  have hnin : wb_land (wb_lushr (S 115 k) x) 1 = 0 → x ∉ l := by
    intro z q; rw [hbt, hm, decide_eq_true q] at z; exact absurd z (by decide)
  refine wa_aload_n (n := 0) rfl ?_
  refine wb_gf4 73 rfl (wy_pr rfl) wt_73 wf_3_6 (v := 115) wl_73_6 ?_
  refine wa_iload_n (n := 1) rfl ?_
  refine wb_lald 115 rfl (wy_pr rfl) wt_115 (n := 60) ((cl_115 hC)) (by omega) (by omega) (v := (S 115 k)) rfl (fun r1 => ?_)
  refine wa_iload_n (n := 2) rfl ?_
  refine wa_lushr ?_
  refine wb_lconst (m := 1) rfl ?_
  refine wa_land ?_
  refine wb_lconst (m := 0) rfl ?_
  refine wa_lcmp (w_rg1 (by omega) (by omega)) (w_rg1 (by omega) (by omega)) ?_
  refine wa_ifne (by have := @wb_lcmp_cases; exact w_lcmp_rg) ⟨_, rfl⟩ (fun c2 => ?_) (fun c2 => ?_)
  · skip
    have c2x := @wb_lcmp_cases (wb_land (wb_lushr (S 115 k) x) 1) 0
    refine wa_return rfl ?_
    have hmm : x ∈ l := hin (by omega)
    exact ⟨rfl, fun _ _ _ _ _ => rfl, by rw [show ad_l l x = l from if_pos hmm]; exact hl⟩
  · skip
    have c2x := @wb_lcmp_cases (wb_land (wb_lushr (S 115 k) x) 1) 0
    have hmm0 : x ∉ l := hnin (by omega)
    have hl20 := su_nd_len (by omega) (su_nd_add hl.2.1 hx hmm0)
    rw [List.length_append] at hl20
    simp only [List.length_cons, List.length_nil] at hl20
    refine wa_aload_n (n := 0) rfl ?_
    refine wb_gf4 73 rfl (wy_pr rfl) wt_73 wf_3_5 (v := 114) wl_73_5 ?_
    refine wa_iload_n (n := 1) rfl ?_
    refine wa_bipush (w_rg2 (by omega) (by omega)) ?_
    refine wa_imul ?_
    refine wa_aload_n (n := 0) rfl ?_
    refine wb_gf4 73 rfl (wy_pr rfl) wt_73 wf_3_1 (v := 86) wl_73_1 ?_
    refine wa_bipush (w_rg2 (by omega) (by omega)) ?_
    refine wb_aald5 86 6 rfl rfl (wy_pr rfl) wt_86 (by rw [show _ = _ from ((cl_86 hC))]; omega) wl_86_6 ?_
    refine wa_iload_n (n := 1) rfl ?_
    refine wb_iald 93 rfl (wy_pr rfl) wt_93 (n := 60) ((cl_93 hC)) (by omega) (by omega) (v := (l.length : Int)) (h6) (fun r3 => ?_)
    refine wa_iadd ?_
    refine wa_iload_n (n := 2) rfl ?_
    refine wb_iast 114 rfl (wy_pr rfl) wt_114 (n := 3600) ((cl_114 hC)) (by omega) (by omega) ⟨(by omega), (by omega)⟩ ?_
    refine wa_aload_n (n := 0) rfl ?_
    refine wb_gf4 73 rfl (wy_pr rfl) wt_73 wf_3_1 (v := 86) wl_73_1 ?_
    refine wa_bipush (w_rg2 (by omega) (by omega)) ?_
    refine wb_aald5 86 6 rfl rfl (wy_pr rfl) wt_86 (by rw [show _ = _ from ((w_up_slot (by decide)).trans ((cl_86 hC)))]; omega) wl_86_6 ?_
    refine wa_iload_n (n := 1) rfl ?_
    refine wa_dup2 (by decide) (by decide) ?_
    refine wb_iald 93 rfl (wy_pr rfl) wt_93 (n := 60) ((w_up_slot (by decide)).trans ((cl_93 hC))) (by omega) (by omega) (v := (l.length : Int)) ((w_up_slot (by decide)).trans (h6)) (fun r4 => ?_)
    refine wa_iconst ?_
    refine wa_iadd ?_
    refine wb_iast 93 rfl (wy_pr rfl) wt_93 (n := 60) ((w_up_slot (by decide)).trans ((cl_93 hC))) (by omega) (by omega) ⟨(by omega), (by omega)⟩ ?_
    refine wa_aload_n (n := 0) rfl ?_
    refine wb_gf4 73 rfl (wy_pr rfl) wt_73 wf_3_6 (v := 115) wl_73_6 ?_
    refine wa_iload_n (n := 1) rfl ?_
    refine wa_dup2 (by decide) (by decide) ?_
    refine wb_lald 115 rfl (wy_pr rfl) wt_115 (n := 60) ((w_up_slot (by decide)).trans ((w_up_slot (by decide)).trans ((cl_115 hC)))) (by omega) (by omega) (v := (S 115 k)) ((w_up_slot (by decide)).trans (w_up_slot (by decide))) (fun r5 => ?_)
    refine wb_lconst (m := 1) rfl ?_
    refine wa_iload_n (n := 2) rfl ?_
    refine wa_lshl ?_
    refine wa_lor ?_
    refine wb_last 115 rfl (wy_pr rfl) wt_115 (n := 60) ((w_up_slot (by decide)).trans ((w_up_slot (by decide)).trans ((cl_115 hC)))) (by omega) (by omega) ⟨(by omega), (by omega)⟩ ?_
    refine wa_fall ⟨_, rfl⟩ ?_
    refine wa_return rfl ?_
    have hmm : x ∉ l := hnin (by omega)
    have hl2 := su_nd_len (by omega) (su_nd_add hl.2.1 hx hmm)
    rw [List.length_append] at hl2
    simp only [List.length_cons, List.length_nil] at hl2
    refine ⟨rfl, fun j y a1 a2 a3 => (w_up_no (by omega)).trans ((w_up_no (by omega)).trans ((w_up_no (by omega)).trans (rfl))), od_add hl hx hmm (((w_up_slot (by decide)).trans (w_up_same _ _ _ _))) ((w_up_same _ _ _ _)) ?_ (fun q hq => ?_)⟩
    · rw [show 60 * k + (l.length : Int) = k * 60 + (l.length : Int) by omega]; exact ((w_up_slot (by decide)).trans ((w_up_slot (by decide)).trans (w_up_same _ _ _ _)))
    · exact (w_up_no (by omega)).trans ((w_up_no (by omega)).trans ((w_up_no (by omega)).trans (rfl)))
theorem ao_l_73 {k s : Int} {l lo : List Int} (hC : w_CL S) (hlo : od_1 93 114 115 S s lo) (hk : 0 ≤ k ∧ k < 60) (hs : 0 ≤ s ∧ s < 60 ∧ s ≠ k) : ∀ (f q : Nat) (Z : wS), lo.length - q < f → q ≤ lo.length → oz_ag 93 114 115 k S Z → od_1 93 114 115 Z k ((lo.take q).foldl ad_l l) → wJ (pe_GA xs) wY0 M (d + 1) t_XO_addOrder ((pe_at t_XO_addOrder.bl 1).getD (0, [])).2 [(0, (2, 73)), (1, (0, k)), (2, (0, s)), (3, (0, (q : Int)))] [] Z (fun o Z => o = .inl none ∧ oz_ag 93 114 115 k S Z ∧ od_1 93 114 115 Z k (lo.foldl ad_l l)) := by
  intro f
  induction f with
  | zero => intro q Z h; exact absurd h (Nat.not_lt_zero _)
  | succ f ih =>
    intro q Z hf hq hz hd
    have hll := su_nd_len (by omega) hlo.2.1
    have hoz := od_oz hlo hz hs.2.2 (by decide)
    have z6 : Z 93 s = (lo.length : Int) := hoz.1
    have hCz : w_CL Z := fun y hy => (hz y.1 (-1) (by omega) (by omega) (by omega)).trans (hC y hy)
    refine wa_iload_n (n := 3) rfl ?_
    refine wa_aload_n (n := 0) rfl ?_
    refine wb_gf4 73 rfl (wy_pr rfl) wt_73 wf_3_1 (v := 86) wl_73_1 ?_
    refine wa_bipush (w_rg2 (by omega) (by omega)) ?_
    refine wb_aald5 86 6 rfl rfl (wy_pr rfl) wt_86 (by rw [show _ = _ from ((cl_86 hCz))]; omega) wl_86_6 ?_
    refine wa_iload_n (n := 2) rfl ?_
    refine wb_iald 93 rfl (wy_pr rfl) wt_93 (n := 60) ((cl_93 hCz)) (by omega) (by omega) (v := (lo.length : Int)) (z6) (fun r1 => ?_)
    refine wa_icmpge (w_rg0 (by omega) (by omega)) (w_rg0 (by omega) (by omega)) ⟨_, rfl⟩ (fun c2 => ?_) (fun c2 => ?_)
    · skip
      refine wa_return rfl ?_
      have hqe : q = lo.length := by omega
      subst hqe
      rw [List.take_length] at hd
      exact ⟨rfl, hz, hd⟩
    · skip
      have hql : q < lo.length := by omega
      have zq1 : Z 114 ((s * 60) + (q : Int)) = lo.getD q 0 := by rw [show s * 60 + (q : Int) = 60 * s + (q : Int) by omega]; exact hoz.2.2.1 q hql
      have hmr := hlo.2.1.2 _ (su_mem (k := q) hql rfl)
      refine wa_aload_n (n := 0) rfl ?_
      refine wa_iload_n (n := 1) rfl ?_
      refine wa_aload_n (n := 0) rfl ?_
      refine wb_gf4 73 rfl (wy_pr rfl) wt_73 wf_3_5 (v := 114) wl_73_5 ?_
      refine wa_iload_n (n := 2) rfl ?_
      refine wa_bipush (w_rg2 (by omega) (by omega)) ?_
      refine wa_imul ?_
      refine wa_iload_n (n := 3) rfl ?_
      refine wa_iadd ?_
      refine wb_iald 114 rfl (wy_pr rfl) wt_114 (n := 3600) ((cl_114 hCz)) (by omega) (by omega) (v := (lo.getD q 0)) (zq1) (fun r3 => ?_)
      refine wa_cv 73 rfl (wy_pr rfl) wt_73 (M2 := fun _ => False) rfl at_XO_addToOrder ⟨_, rfl⟩ rfl rfl ⟨(Or.inr ⟨wy_pr rfl, fun q => q⟩), trivial, trivial, trivial, trivial⟩ trivial (fun _ _ q => False.elim q) (ato_73 (S := Z) hCz hd hk hmr) (fun oq4 Sq4 hp5 q4 => ?_)
      rcases q4 with ⟨rfl, g1, g2⟩
      show wJ _ _ _ _ _ _ _ _ _ _
      generalize Sq4 = Zn at g1 g2 ⊢
      refine wa_iinc rfl rfl ?_
      refine wa_goto ⟨_, rfl⟩ ?_
      refine wJ_S (ih (q + 1) Zn (by omega) (by omega) (oz_tr hz g1) ?_) ⟨rfl, rfl, rfl, rfl, trivial⟩
      rw [List.take_succ, List.foldl_append, List.getElem?_eq_getElem hql]
      rw [List.getD_eq_getElem?_getD, List.getElem?_eq_getElem hql] at g2
      exact g2
theorem ao_73 {k s : Int} {l lo : List Int} (hC : w_CL S) (hlo : od_1 93 114 115 S s lo) (hl : od_1 93 114 115 S k l) (hk : 0 ≤ k ∧ k < 60) (hs : 0 ≤ s ∧ s < 60 ∧ s ≠ k) : wJ (pe_GA xs) wY0 M (d + 1) t_XO_addOrder ((pe_at t_XO_addOrder.bl 0).getD (0, [])).2 [(0, (2, 73)), (1, (0, k)), (2, (0, s))] [] S (fun o Z => o = .inl none ∧ oz_ag 93 114 115 k S Z ∧ od_1 93 114 115 Z k (lo.foldl ad_l l)) := by
  refine wa_iconst ?_
  refine wa_istore_n (n := 3) rfl ?_
  refine wa_fall ⟨_, rfl⟩ ?_
  exact wJ_S (ao_l_73 hC hlo hk hs (lo.length + 1) 0 S (by omega) (by omega) (fun _ _ _ _ _ => rfl) hl) ⟨rfl, rfl, rfl, rfl, trivial⟩
theorem ato_162 {k x : Int} {l : List Int} (hC : w_CL S) (hl : od_1 182 203 204 S k l) (hk : 0 ≤ k ∧ k < 60) (hx : 0 ≤ x ∧ x < 60) : wJ (pe_GA xs) wY0 M d t_XO_addToOrder ((pe_at t_XO_addToOrder.bl 0).getD (0, [])).2 [(0, (2, 162)), (1, (0, k)), (2, (0, x))] [] S (fun o Z => o = .inl none ∧ oz_ag 182 203 204 k S Z ∧ od_1 182 203 204 Z k (ad_l l x)) := by
  have h6 : S 182 k = (l.length : Int) := hl.1
  have hxt : ((x.toNat : Nat) : Int) = x := Int.toNat_of_nonneg hx.1
  have hbt : wb_land (wb_lushr (S 204 k) x) 1 = if bb (S 204 k) x.toNat = true then 1 else 0 := by have := bb_lushr (v := S 204 k) (x := x.toNat) (by omega); rw [hxt] at this; exact this
  have hm : bb (S 204 k) x.toNat = decide (x ∈ l) := by have := hl.2.2.2 x.toNat (by omega); rw [hxt] at this; exact this
  have hll := su_nd_len (by omega) hl.2.1
  have hb01 : wb_land (wb_lushr (S 204 k) x) 1 = 0 ∨ wb_land (wb_lushr (S 204 k) x) 1 = 1 := by rw [hbt]; split <;> omega
  have hor := wb_lor_rg (S 204 k) (wb_lshl 1 x)
  have hin : wb_land (wb_lushr (S 204 k) x) 1 = 1 → x ∈ l := by
    intro z; rw [hbt, hm] at z
    by_cases q : x ∈ l
    · exact q
    · rw [decide_eq_false q] at z; exact absurd z (by decide)
  have hnin : wb_land (wb_lushr (S 204 k) x) 1 = 0 → x ∉ l := by
    intro z q; rw [hbt, hm, decide_eq_true q] at z; exact absurd z (by decide)
  refine wa_aload_n (n := 0) rfl ?_
  refine wb_gf4 162 rfl (wy_pr rfl) wt_162 wf_3_6 (v := 204) wl_162_6 ?_
  refine wa_iload_n (n := 1) rfl ?_
  refine wb_lald 204 rfl (wy_pr rfl) wt_204 (n := 60) ((cl_204 hC)) (by omega) (by omega) (v := (S 204 k)) rfl (fun r1 => ?_)
  refine wa_iload_n (n := 2) rfl ?_
  refine wa_lushr ?_
  refine wb_lconst (m := 1) rfl ?_
  refine wa_land ?_
  refine wb_lconst (m := 0) rfl ?_
  refine wa_lcmp (w_rg1 (by omega) (by omega)) (w_rg1 (by omega) (by omega)) ?_
  refine wa_ifne (by have := @wb_lcmp_cases; exact w_lcmp_rg) ⟨_, rfl⟩ (fun c2 => ?_) (fun c2 => ?_)
  · skip
    have c2x := @wb_lcmp_cases (wb_land (wb_lushr (S 204 k) x) 1) 0
    refine wa_return rfl ?_
    have hmm : x ∈ l := hin (by omega)
    exact ⟨rfl, fun _ _ _ _ _ => rfl, by rw [show ad_l l x = l from if_pos hmm]; exact hl⟩
  · skip
    have c2x := @wb_lcmp_cases (wb_land (wb_lushr (S 204 k) x) 1) 0
    have hmm0 : x ∉ l := hnin (by omega)
    have hl20 := su_nd_len (by omega) (su_nd_add hl.2.1 hx hmm0)
    rw [List.length_append] at hl20
    simp only [List.length_cons, List.length_nil] at hl20
    refine wa_aload_n (n := 0) rfl ?_
    refine wb_gf4 162 rfl (wy_pr rfl) wt_162 wf_3_5 (v := 203) wl_162_5 ?_
    refine wa_iload_n (n := 1) rfl ?_
    refine wa_bipush (w_rg2 (by omega) (by omega)) ?_
    refine wa_imul ?_
    refine wa_aload_n (n := 0) rfl ?_
    refine wb_gf4 162 rfl (wy_pr rfl) wt_162 wf_3_1 (v := 175) wl_162_1 ?_
    refine wa_bipush (w_rg2 (by omega) (by omega)) ?_
    refine wb_aald5 175 6 rfl rfl (wy_pr rfl) wt_175 (by rw [show _ = _ from ((cl_175 hC))]; omega) wl_175_6 ?_
    refine wa_iload_n (n := 1) rfl ?_
    refine wb_iald 182 rfl (wy_pr rfl) wt_182 (n := 60) ((cl_182 hC)) (by omega) (by omega) (v := (l.length : Int)) (h6) (fun r3 => ?_)
    refine wa_iadd ?_
    refine wa_iload_n (n := 2) rfl ?_
    refine wb_iast 203 rfl (wy_pr rfl) wt_203 (n := 3600) ((cl_203 hC)) (by omega) (by omega) ⟨(by omega), (by omega)⟩ ?_
    refine wa_aload_n (n := 0) rfl ?_
    refine wb_gf4 162 rfl (wy_pr rfl) wt_162 wf_3_1 (v := 175) wl_162_1 ?_
    refine wa_bipush (w_rg2 (by omega) (by omega)) ?_
    refine wb_aald5 175 6 rfl rfl (wy_pr rfl) wt_175 (by rw [show _ = _ from ((w_up_slot (by decide)).trans ((cl_175 hC)))]; omega) wl_175_6 ?_
    refine wa_iload_n (n := 1) rfl ?_
    refine wa_dup2 (by decide) (by decide) ?_
    refine wb_iald 182 rfl (wy_pr rfl) wt_182 (n := 60) ((w_up_slot (by decide)).trans ((cl_182 hC))) (by omega) (by omega) (v := (l.length : Int)) ((w_up_slot (by decide)).trans (h6)) (fun r4 => ?_)
    refine wa_iconst ?_
    refine wa_iadd ?_
    refine wb_iast 182 rfl (wy_pr rfl) wt_182 (n := 60) ((w_up_slot (by decide)).trans ((cl_182 hC))) (by omega) (by omega) ⟨(by omega), (by omega)⟩ ?_
    refine wa_aload_n (n := 0) rfl ?_
    refine wb_gf4 162 rfl (wy_pr rfl) wt_162 wf_3_6 (v := 204) wl_162_6 ?_
    refine wa_iload_n (n := 1) rfl ?_
    refine wa_dup2 (by decide) (by decide) ?_
    refine wb_lald 204 rfl (wy_pr rfl) wt_204 (n := 60) ((w_up_slot (by decide)).trans ((w_up_slot (by decide)).trans ((cl_204 hC)))) (by omega) (by omega) (v := (S 204 k)) ((w_up_slot (by decide)).trans (w_up_slot (by decide))) (fun r5 => ?_)
    refine wb_lconst (m := 1) rfl ?_
    refine wa_iload_n (n := 2) rfl ?_
    refine wa_lshl ?_
    refine wa_lor ?_
    refine wb_last 204 rfl (wy_pr rfl) wt_204 (n := 60) ((w_up_slot (by decide)).trans ((w_up_slot (by decide)).trans ((cl_204 hC)))) (by omega) (by omega) ⟨(by omega), (by omega)⟩ ?_
    refine wa_fall ⟨_, rfl⟩ ?_
    refine wa_return rfl ?_
    have hmm : x ∉ l := hnin (by omega)
    have hl2 := su_nd_len (by omega) (su_nd_add hl.2.1 hx hmm)
    rw [List.length_append] at hl2
    simp only [List.length_cons, List.length_nil] at hl2
    refine ⟨rfl, fun j y a1 a2 a3 => (w_up_no (by omega)).trans ((w_up_no (by omega)).trans ((w_up_no (by omega)).trans (rfl))), od_add hl hx hmm (((w_up_slot (by decide)).trans (w_up_same _ _ _ _))) ((w_up_same _ _ _ _)) ?_ (fun q hq => ?_)⟩
    · rw [show 60 * k + (l.length : Int) = k * 60 + (l.length : Int) by omega]; exact ((w_up_slot (by decide)).trans ((w_up_slot (by decide)).trans (w_up_same _ _ _ _)))
    · exact (w_up_no (by omega)).trans ((w_up_no (by omega)).trans ((w_up_no (by omega)).trans (rfl)))
theorem ao_l_162 {k s : Int} {l lo : List Int} (hC : w_CL S) (hlo : od_1 182 203 204 S s lo) (hk : 0 ≤ k ∧ k < 60) (hs : 0 ≤ s ∧ s < 60 ∧ s ≠ k) : ∀ (f q : Nat) (Z : wS), lo.length - q < f → q ≤ lo.length → oz_ag 182 203 204 k S Z → od_1 182 203 204 Z k ((lo.take q).foldl ad_l l) → wJ (pe_GA xs) wY0 M (d + 1) t_XO_addOrder ((pe_at t_XO_addOrder.bl 1).getD (0, [])).2 [(0, (2, 162)), (1, (0, k)), (2, (0, s)), (3, (0, (q : Int)))] [] Z (fun o Z => o = .inl none ∧ oz_ag 182 203 204 k S Z ∧ od_1 182 203 204 Z k (lo.foldl ad_l l)) := by
  intro f
  induction f with
  | zero => intro q Z h; exact absurd h (Nat.not_lt_zero _)
  | succ f ih =>
    intro q Z hf hq hz hd
    have hll := su_nd_len (by omega) hlo.2.1
    have hoz := od_oz hlo hz hs.2.2 (by decide)
    have z6 : Z 182 s = (lo.length : Int) := hoz.1
    have hCz : w_CL Z := fun y hy => (hz y.1 (-1) (by omega) (by omega) (by omega)).trans (hC y hy)
    refine wa_iload_n (n := 3) rfl ?_
    refine wa_aload_n (n := 0) rfl ?_
    refine wb_gf4 162 rfl (wy_pr rfl) wt_162 wf_3_1 (v := 175) wl_162_1 ?_
    refine wa_bipush (w_rg2 (by omega) (by omega)) ?_
    refine wb_aald5 175 6 rfl rfl (wy_pr rfl) wt_175 (by rw [show _ = _ from ((cl_175 hCz))]; omega) wl_175_6 ?_
    refine wa_iload_n (n := 2) rfl ?_
    refine wb_iald 182 rfl (wy_pr rfl) wt_182 (n := 60) ((cl_182 hCz)) (by omega) (by omega) (v := (lo.length : Int)) (z6) (fun r1 => ?_)
    refine wa_icmpge (w_rg0 (by omega) (by omega)) (w_rg0 (by omega) (by omega)) ⟨_, rfl⟩ (fun c2 => ?_) (fun c2 => ?_)
    · skip
      refine wa_return rfl ?_
      have hqe : q = lo.length := by omega
      subst hqe
      rw [List.take_length] at hd
      exact ⟨rfl, hz, hd⟩
    · skip
      have hql : q < lo.length := by omega
      have zq1 : Z 203 ((s * 60) + (q : Int)) = lo.getD q 0 := by rw [show s * 60 + (q : Int) = 60 * s + (q : Int) by omega]; exact hoz.2.2.1 q hql
      have hmr := hlo.2.1.2 _ (su_mem (k := q) hql rfl)
      refine wa_aload_n (n := 0) rfl ?_
      refine wa_iload_n (n := 1) rfl ?_
      refine wa_aload_n (n := 0) rfl ?_
      refine wb_gf4 162 rfl (wy_pr rfl) wt_162 wf_3_5 (v := 203) wl_162_5 ?_
      refine wa_iload_n (n := 2) rfl ?_
      refine wa_bipush (w_rg2 (by omega) (by omega)) ?_
      refine wa_imul ?_
      refine wa_iload_n (n := 3) rfl ?_
      refine wa_iadd ?_
      refine wb_iald 203 rfl (wy_pr rfl) wt_203 (n := 3600) ((cl_203 hCz)) (by omega) (by omega) (v := (lo.getD q 0)) (zq1) (fun r3 => ?_)
      refine wa_cv 162 rfl (wy_pr rfl) wt_162 (M2 := fun _ => False) rfl at_XO_addToOrder ⟨_, rfl⟩ rfl rfl ⟨(Or.inr ⟨wy_pr rfl, fun q => q⟩), trivial, trivial, trivial, trivial⟩ trivial (fun _ _ q => False.elim q) (ato_162 (S := Z) hCz hd hk hmr) (fun oq4 Sq4 hp5 q4 => ?_)
      rcases q4 with ⟨rfl, g1, g2⟩
      show wJ _ _ _ _ _ _ _ _ _ _
      generalize Sq4 = Zn at g1 g2 ⊢
      refine wa_iinc rfl rfl ?_
      refine wa_goto ⟨_, rfl⟩ ?_
      refine wJ_S (ih (q + 1) Zn (by omega) (by omega) (oz_tr hz g1) ?_) ⟨rfl, rfl, rfl, rfl, trivial⟩
      rw [List.take_succ, List.foldl_append, List.getElem?_eq_getElem hql]
      rw [List.getD_eq_getElem?_getD, List.getElem?_eq_getElem hql] at g2
      exact g2
theorem ao_162 {k s : Int} {l lo : List Int} (hC : w_CL S) (hlo : od_1 182 203 204 S s lo) (hl : od_1 182 203 204 S k l) (hk : 0 ≤ k ∧ k < 60) (hs : 0 ≤ s ∧ s < 60 ∧ s ≠ k) : wJ (pe_GA xs) wY0 M (d + 1) t_XO_addOrder ((pe_at t_XO_addOrder.bl 0).getD (0, [])).2 [(0, (2, 162)), (1, (0, k)), (2, (0, s))] [] S (fun o Z => o = .inl none ∧ oz_ag 182 203 204 k S Z ∧ od_1 182 203 204 Z k (lo.foldl ad_l l)) := by
  refine wa_iconst ?_
  refine wa_istore_n (n := 3) rfl ?_
  refine wa_fall ⟨_, rfl⟩ ?_
  exact wJ_S (ao_l_162 hC hlo hk hs (lo.length + 1) 0 S (by omega) (by omega) (fun _ _ _ _ _ => rfl) hl) ⟨rfl, rfl, rfl, rfl, trivial⟩
end W9t
