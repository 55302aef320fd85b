/-! PART 9m: the class's readSupers. -/
section W9m
variable {xs : List (Nat × List Int32)} {M : Nat → Prop} {d : Nat} {A B C S Z : wS} {Q : wO → wS → Prop} {T : Int → Int} {n : Int} {c i : Nat}
/-- the same but for the place of the reader and the supers told -/
def px1 (S Z : wS) : Prop := ∀ (j : Nat) (i : Int), (j ≠ 14 ∨ i ≠ 4) → (j ≠ 61 ∨ i ≠ 4) → (j ≠ 62 ∨ i < 0) → Z j i = S j i
/-- a super at q, then more of them -/
def su_g (B : wS) (b : Nat) (c : Int) (f : Nat) (q a al : Int) (l : List Int) : (Int × Int) ⊕ (Int × List Int × Int × Int) := match su_1 B b c q a l with
  | .inl e => .inl e
  | .inr s => su_f B b c f (lx_ne (zq B q) q) (l ++ [s]) (if B (b + 2) s = 0 then s else a) (wb_lor al (B (b + 6) s))
theorem su_g_a (B : wS) (b : Nat) (c p : Int) : su_a B b c p = su_g B b c ((B 237 4 - p).toNat + 1) p (B (b + 3) c) (B (b + 6) c) [] := rfl
theorem tw_i (B : wS) (b : Nat) (c s a : Int) (l : List Int) : tw_l B b c s a l = true ↔ ((B (b + 2) s = 0 ∧ (B (b + 2) c ≠ 0 ∨ 0 ≤ a)) ∨ s ∈ l) := by
  unfold tw_l
  rw [Bool.or_eq_true, decide_eq_true_iff, decide_eq_true_iff]
/-- what readSupers has done -/
def rs_P (T : Int → Int) (n : Int) (c : Nat) (k0 : Int) (r : (Int × Int) ⊕ (Int × List Int × Int × Int)) (S : wS) (o : wO) (Z : wS) : Prop := match r with
  | .inl (e, q) => ∃ (v : Nat) (Z0 : wS), o = .inr v ∧ px1 S Z0 ∧ rz_ag Z0 Z v (e + 16 * q)
  | .inr (q, l, a, _) => o = .inl (some (0, a)) ∧ px1 S Z ∧ (∃ i : Nat, cx_P T n c i Z ∧ tp T n 1 i = q) ∧ su_I Z l ∧ su_nd k0 l ∧ (-1 ≤ a ∧ a < 60)
theorem rs_P_tr {k0 : Int} {r : (Int × Int) ⊕ (Int × List Int × Int × Int)} {o : wO} (h : px1 A B) (k : rs_P T n c k0 r B o Z) : rs_P T n c k0 r A o Z := by
  unfold rs_P at k ⊢
  match r with
  | .inl (e, q) =>
    obtain ⟨v, Z0, k1, k2, k3⟩ := k
    exact ⟨v, Z0, k1, fun j i a b c => (k2 j i a b c).trans (h j i a b c), k3⟩
  | .inr (q, l, a, al) =>
    obtain ⟨k1, k2, k3⟩ := k
    exact ⟨k1, fun j i a b c => (k2 j i a b c).trans (h j i a b c), k3⟩
theorem su_I_add {l : List Int} {s : Int} (h : su_I S l) (hl : l.length < 60) (h4 : Z 61 4 = (l.length : Int) + 1) (hs : Z 62 (l.length : Int) = s) (ho : ∀ k : Nat, k < l.length → Z 62 (k : Int) = S 62 (k : Int)) : su_I Z (l ++ [s]) := by
  refine ⟨by rw [h4, List.length_append]; rfl, by rw [List.length_append]; simp only [List.length_cons, List.length_nil]; omega, fun k hk => ?_⟩
  rw [List.length_append] at hk
  simp only [List.length_cons, List.length_nil] at hk
  by_cases he : k = l.length
  · subst he
    rw [hs, List.getD_eq_getElem?_getD, List.getElem?_append_right (Nat.le_refl _), Nat.sub_self]
    rfl
  · rw [ho k (by omega), h.2.2 k (by omega), List.getD_eq_getElem?_getD, List.getD_eq_getElem?_getD, List.getElem?_append_left (by omega)]
theorem kg_sk {k ch : Int} (h : 10 ≤ k ∧ k ≤ 34) (hs : ∀ c : Int, sk c = k ↔ c = ch) : kg T n (tp T n 1 i) = k ↔ (lx_tk T n 1 (tp T n 1 i) = 4 ∧ lx_si T n 1 (tp T n 1 i) = ch) := by
  have h0 := hs (lx_si T n 1 (tp T n 1 i))
  by_cases hp : n ≤ tp T n 1 i
  · rw [show kg T n (tp T n 1 i) = 0 from if_pos hp, tk_0 hp]; omega
  · have ht := tk_n0 (T := T) (n := n) (h := 1) (p := tp T n 1 i) (by omega)
    rw [show kg T n (tp T n 1 i) = kh T n (tp T n 1 i) from if_neg hp]
    unfold kh
    repeat' split
    all_goals omega
theorem lx_is_kg {k ch : Int} (hB : zT B T n) (h : 10 ≤ k ∧ k ≤ 34) (hs : ∀ c : Int, sk c = k ↔ c = ch) : lx_is (zq B (tp T n 1 i)) ch = true ↔ kg T n (tp T n 1 i) = k := by
  rw [kg_sk h hs]
  unfold lx_is
  rw [decide_eq_true_iff, zT_6 hB, zT_9 hB]
theorem sk_10 (c : Int) : sk c = 10 ↔ c = 40 := by
  unfold sk
  repeat' split
  all_goals omega
theorem sk_11 (c : Int) : sk c = 11 ↔ c = 41 := by
  unfold sk
  repeat' split
  all_goals omega
theorem sk_12 (c : Int) : sk c = 12 ↔ c = 123 := by
  unfold sk
  repeat' split
  all_goals omega
theorem sk_13 (c : Int) : sk c = 13 ↔ c = 125 := by
  unfold sk
  repeat' split
  all_goals omega
theorem sk_16 (c : Int) : sk c = 16 ↔ c = 44 := by
  unfold sk
  repeat' split
  all_goals omega
theorem sk_17 (c : Int) : sk c = 17 ↔ c = 59 := by
  unfold sk
  repeat' split
  all_goals omega
theorem sk_19 (c : Int) : sk c = 19 ↔ c = 58 := by
  unfold sk
  repeat' split
  all_goals omega
theorem rs_l_73 {k0 itf : Int} (hk0 : B 241 1 = k0 ∧ k0 < 60) (hit : B 243 k0 = itf ∧ (itf = 0 ∨ itf = 1)) : ∀ (f i : Nat) (l : List Int) (a al : Int) (S : wS), (n - tp T n 1 (i + 1)).toNat < f → (hx : hx_I 241 73 87 92 74 T n c B S) → (hP : cx_P T n c i S) → (2 ≤ kg T n (tp T n 1 i)) → su_I S l → su_nd k0 l → (-1 ≤ a ∧ a < 60) → wJ (pe_GA xs) wY0 M (d + 9) t_XT_readSupers ((pe_at t_XT_readSupers.bl 1).getD (0, [])).2 [(0, (2, 61)), (1, (0, itf)), (2, (0, a))] [] S (rs_P T n c k0 (su_g B 241 k0 f (tp T n 1 (i + 1)) a al l) S) := by
  intro f
  induction f with
  | zero => intro i l a al S h; exact absurd h (Nat.not_lt_zero _)
  | succ f ih =>
    intro i l a al S hf hx hP hk2 hl hnd har
    have hB : zT B T n := hx.1
    have hT : cx_T 74 T n c S := hx.2.1
    have hI : gI S := hx.2.2.1
    have hW : wd_at S 74 64 := hx.2.2.2.1
    have hrw : rw_I S 74 := hx.2.2.2.2.1
    have hwc : 13 ≤ S 74 7 ∧ S 74 7 ≤ 400000 := hx.2.2.2.2.2.1
    have hR : cn_R 241 73 87 92 74 T B S := hx.2.2.2.2.2.2.1
    have hH : S 61 1 = 73 := hx.2.2.2.2.2.2.2
    have hC : w_CL S := hR.2.2.1
    have hN : S 73 2 = B 241 1 := hR.1
    have hN6 : 0 ≤ B 241 1 ∧ B 241 1 ≤ 60 := hR.2.1
    have hpos4 : S 14 4 = (i : Int) := hP.1
    have hg0 : pg T n c i := hP.2
    have hA0 := pg_at hT hg0
    have h16_0 := hA0.1
    have h15_0 := hA0.2.1
    have hpr0 := hA0.2.2
    have hkr0 := kg_rg T n (tp T n 1 i)
    have hcn : (c : Int) ≤ n ∧ n ≤ 65536 := ⟨hT.2.2.2.2.1, hT.2.2.2.2.2.1⟩
    have hRL := hT.2.2.2.2.2.2
    have hl15 : S 14 3 ≤ S 15 (-1) := hRL.1.2
    have hl16 : S 16 (-1) = S 15 (-1) := hRL.2.1
    have hl17 : S 17 (-1) = S 15 (-1) := hRL.2.2.1
    have hc3 : S 14 3 = (c : Int) + 1 := hT.1
    have hic0 : i ≤ c := hg0.1
    have hz6 : zq B (tp T n 1 (i + 1)) 237 6 = lx_tk T n 1 (tp T n 1 (i + 1)) := zT_6 hB
    have hk5 := kg_5 T n (tp T n 1 (i + 1))
    have hl4 := hl.1
    have hll := su_nd_len (by omega) hnd
    have hne := tp_ne (i := i + 1) hB
    refine wa_aload_n (n := 0) rfl ?_
    refine wb_gf4 61 rfl (wy_pr rfl) wt_61 wf_4_0 (v := 14) wl_61_0 ?_
    refine wa_cv 14 rfl (wy_pr rfl) wt_14 (M2 := fun _ => False) rfl at_XR_next ⟨_, rfl⟩ rfl rfl ⟨(Or.inr ⟨wy_pr rfl, fun q => q⟩), trivial, trivial, trivial⟩ trivial (fun _ _ q => False.elim q) (nx_c (S := S) (hx_T hx) (show cx_P T n c (i) S from ⟨(hpos4), hg0⟩) rfl hI (by omega)) (fun oq1 Sq1 hp2 q1 => ?_)
    rcases q1 with ⟨rfl, rfl⟩
    show wJ _ _ _ _ _ _ _ _ _ _
    have hg1 : pg T n c (i + 1) := pg_next hT hg0 (by omega) (by omega)
    have hA1 := pg_at hT hg1
    have h16_1 := hA1.1
    have h15_1 := hA1.2.1
    have hpr1 := hA1.2.2
    have hkr1 := kg_rg T n (tp T n 1 (i + 1))
    have hic1 := hg1.1
    have hlt1 := tp_lt hT hg0 (by omega) (by omega)
    refine wa_aload_n (n := 0) rfl ?_
    refine wb_gf5 61 rfl (wy_pr rfl) wt_61 wf_4_1 (v := 73) ((w_up_slot (by decide)).trans (hH)) (fun r3 => ?_)
    refine wa_aload_n (n := 0) rfl ?_
    refine wa_cv 61 rfl (wy_pr rfl) wt_61 (M2 := fun _ => False) rfl at_XT_wordHere ⟨_, rfl⟩ rfl rfl ⟨(Or.inr ⟨wy_pr rfl, fun q => q⟩), trivial, trivial, trivial⟩ ⟨(Or.inr ⟨wy_pr rfl, fun q => q⟩), trivial⟩ (fun _ _ q => False.elim q) (wh_c (S := (w_up S 14 4 ((i + 1 : Nat) : Int))) (hx_T (hx_up hx (by unfold hx_o; omega))) (show cx_P T n c (i + 1) (w_up S 14 4 ((i + 1 : Nat) : Int)) from ⟨(w_up_same _ _ _ _), hg1⟩) rfl (gI_up hI (by omega) (by omega) (by omega))) (fun oq6 Sq6 hp7 q6 => ?_)
    rcases q6 with ⟨hw4, rfl, rfl⟩ | ⟨hw4, v, rfl, hrz⟩
    · skip
      show wJ _ _ _ _ _ _ _ _ _ _
      show wJ _ _ _ _ _ _ _ ((0, S 17 ((i + 1 : Nat) : Int)) :: _) _ _
      have hnt1 : nt_I S 74 T n (tp T n 1 (i + 1)) (S 17 ((i + 1 : Nat) : Int)) := pg_nt hT hg1 hw4
      have hnv1 := hnt1.2.1
      refine wa_cv 73 rfl (wy_pr rfl) wt_73 (M2 := fun _ => False) rfl at_XO_classTyped ⟨_, rfl⟩ rfl rfl ⟨(Or.inr ⟨wy_pr rfl, fun q => q⟩), trivial, trivial, trivial⟩ trivial (fun _ _ q => False.elim q) (ct_73 (S := (w_up S 14 4 ((i + 1 : Nat) : Int))) (B := B) (p := (tp T n 1 (i + 1))) hB (hx_W (hx_up hx (by unfold hx_o; omega))) (hx_R (hx_up hx (by unfold hx_o; omega))) (show nt_I (w_up S 14 4 ((i + 1 : Nat) : Int)) 74 T n (tp T n 1 (i + 1)) (S 17 ((i + 1 : Nat) : Int)) from hnt1) (by omega)) (fun oq8 Sq8 hp9 q8 => ?_)
      rcases q8 with ⟨rfl, rfl⟩
      show wJ _ _ _ _ _ _ _ _ _ _
      have hch1 := ch_of_rg (zq B (tp T n 1 (i + 1))) 241 (by show B 241 1 ≤ 60; omega)
      have hch1 : -1 ≤ (ch_of (zq B (tp T n 1 (i + 1))) 241) ∧ (ch_of (zq B (tp T n 1 (i + 1))) 241) ≤ 59 ∧ (ch_of (zq B (tp T n 1 (i + 1))) 241) < max (B 241 1) 0 := hch1
      have hct1 : 0 ≤ (ch_of (zq B (tp T n 1 (i + 1))) 241) → S 87 (ch_of (zq B (tp T n 1 (i + 1))) 241) = B 243 (ch_of (zq B (tp T n 1 (i + 1))) 241) := fun z => (hR.2.2.2 _ z (by omega)).1
      refine wa_istore_n (n := 3) rfl ?_
      refine wa_iload_n (n := 3) rfl ?_
      refine wa_iconst ?_
      refine wa_icmpne (w_rg0 (by omega) (by omega)) (w_rg0 (by omega) (by omega)) ⟨_, rfl⟩ (fun c10 => ?_) (fun c10 => ?_)
      · skip
        refine wa_aload_n (n := 0) rfl ?_
        refine wb_gf5 61 rfl (wy_pr rfl) wt_61 wf_4_1 (v := 73) ((w_up_slot (by decide)).trans (hH)) (fun r11 => ?_)
        refine wb_gf4 73 rfl (wy_pr rfl) wt_73 wf_3_1 (v := 86) wl_73_1 ?_
        refine wa_iconst ?_
        refine wb_aald5 86 0 rfl rfl (wy_pr rfl) wt_86 (by rw [show _ = _ from ((w_up_slot (by decide)).trans ((cl_86 hC)))]; omega) wl_86_0 ?_
        refine wa_iload_n (n := 3) rfl ?_
        refine wb_iald 87 rfl (wy_pr rfl) wt_87 (n := 60) ((w_up_slot (by decide)).trans ((cl_87 hC))) (by omega) (by omega) (v := (B 243 (ch_of (zq B (tp T n 1 (i + 1))) 241))) ((w_up_slot (by decide)).trans ((hct1 (by omega)))) (fun r12 => ?_)
        refine wa_ifne (w_rg0 (by omega) (by omega)) ⟨_, rfl⟩ (fun c13 => ?_) (fun c13 => ?_)
        · skip
          refine wa_iconst ?_
          refine wa_fall ⟨_, rfl⟩ ?_
          refine wa_istore (n := 4) rfl ?_
          refine wa_iload (n := 4) rfl ?_
          refine wa_ifeq (w_rg0 (by omega) (by omega)) ⟨_, rfl⟩ (fun c14 => ?_) (fun c14 => ?_)
          · skip
            refine wa_aload_n (n := 0) rfl ?_
            refine wa_iload_n (n := 3) rfl ?_
            refine wa_cv 61 rfl (wy_pr rfl) wt_61 (M2 := fun _ => False) rfl at_XT_isSuper ⟨_, rfl⟩ rfl rfl ⟨trivial, trivial, (Or.inr ⟨wy_pr rfl, fun q => q⟩), trivial, trivial, trivial⟩ trivial (fun _ _ q => False.elim q) (is_c (S := (w_up S 14 4 ((i + 1 : Nat) : Int))) (l := l) (hx_R (hx_up hx (by unfold hx_o; omega))).2.2.1 (show su_I (w_up S 14 4 ((i + 1 : Nat) : Int)) l from hl) ⟨by omega, by omega⟩) (fun oq16 Sq16 hp17 q16 => ?_)
            rcases q16 with ⟨rfl, ⟨rfl, hm15⟩ | ⟨rfl, hm15⟩⟩
            · skip
              show wJ _ _ _ _ _ _ _ _ _ _
              have hmem := hm15
              refine wa_ifeq (w_rg0 (by omega) (by omega)) ⟨_, rfl⟩ (fun c18 => ?_) (fun c18 => ?_)
              · skip
                exact absurd c18 (by omega)
              · skip
                refine wa_fall ⟨_, rfl⟩ ?_
                refine wa_aload_n (n := 0) rfl ?_
                refine wa_iconst ?_
                refine wa_cv 61 rfl (wy_pr rfl) wt_61 (M2 := fun _ => False) rfl at_XT_refuse ⟨_, rfl⟩ rfl rfl ⟨trivial, trivial, (Or.inr ⟨wy_pr rfl, fun q => q⟩), trivial, trivial, trivial⟩ trivial (fun _ _ q => False.elim q) (rf_c (S := (w_up S 14 4 ((i + 1 : Nat) : Int))) (k := 4) (p := (tp T n 1 (i + 1))) (i := ((i + 1 : Nat) : Int)) (gI_up hI (by omega) (by omega) (by omega)) (w_up_same _ _ _ _) ((w_up_slot (by decide)).trans (h16_1)) ⟨by omega, by have e : (w_up S 14 4 ((i + 1 : Nat) : Int)) 16 (-1) = S 16 (-1) := (w_up_slot (by decide)); omega⟩ ⟨by omega, by omega⟩ ⟨by omega, by omega⟩) (fun oq20 Sq20 hp21 q20 => ?_)
                rcases q20 with ⟨v, rfl, rz19⟩
                have hrz := rz19
                have hkind : (4 : Int) = 4 := rfl
                refine ⟨rfl, ?_⟩
                have htwi : tw_l B 241 k0 (ch_of (zq B (tp T n 1 (i + 1))) 241) a l = true ↔ ((B 243 (ch_of (zq B (tp T n 1 (i + 1))) 241) = 0 ∧ (B 243 k0 ≠ 0 ∨ 0 ≤ a)) ∨ (ch_of (zq B (tp T n 1 (i + 1))) 241) ∈ l) := tw_i B 241 k0 (ch_of (zq B (tp T n 1 (i + 1))) 241) a l
                rw [hit.1] at htwi
                have htw : tw_l B 241 k0 (ch_of (zq B (tp T n 1 (i + 1))) 241) a l = true := htwi.2 (by first | exact Or.inr hmem | exact Or.inl ⟨by omega, by omega⟩)
                have hr : su_g B 241 k0 (f + 1) (tp T n 1 (i + 1)) a al l = .inl (4, (tp T n 1 (i + 1))) := by
                  unfold su_g su_1; rw [hz6, if_pos hnt1.1, if_pos (by omega), if_pos htw]
                rw [hr]
                exact ⟨v, _, rfl, (fun j x a1 a2 a3 => (w_up_no (by omega)).trans (rfl)), hrz⟩
            · skip
              show wJ _ _ _ _ _ _ _ _ _ _
              have hmem := hm15
              refine wa_ifeq (w_rg0 (by omega) (by omega)) ⟨_, rfl⟩ (fun c22 => ?_) (fun c22 => ?_)
              · skip
                refine wa_iload (n := 4) rfl ?_
                refine wa_ifeq (w_rg0 (by omega) (by omega)) ⟨_, rfl⟩ (fun c23 => ?_) (fun c23 => ?_)
                · skip
                  refine wa_aload_n (n := 0) rfl ?_
                  refine wb_gf4 61 rfl (wy_pr rfl) wt_61 wf_4_3 (v := 62) wl_61_3 ?_
                  refine wa_aload_n (n := 0) rfl ?_
                  refine wb_gfi 61 rfl (wy_pr rfl) wt_61 wf_4_4 (v := (l.length : Int)) ((w_up_slot (by decide)).trans (hl4)) (fun r24 => ?_)
                  refine wa_iload_n (n := 3) rfl ?_
                  refine wb_iast 62 rfl (wy_pr rfl) wt_62 (n := 60) ((w_up_slot (by decide)).trans ((cl_62 hC))) (by omega) (by omega) ⟨(by omega), (by omega)⟩ ?_
                  refine wa_aload_n (n := 0) rfl ?_
                  refine wa_dup (by decide) ?_
                  refine wb_gfi 61 rfl (wy_pr rfl) wt_61 wf_4_4 (v := (l.length : Int)) ((w_up_slot (by decide)).trans ((w_up_slot (by decide)).trans (hl4))) (fun r25 => ?_)
                  refine wa_iconst ?_
                  refine wa_iadd ?_
                  refine wb_pfi 61 rfl (wy_pr rfl) wt_61 wf_4_4 (n := 4) rfl ⟨(by omega), (by omega)⟩ ?_
                  refine wa_aload_n (n := 0) rfl ?_
                  refine wb_gf4 61 rfl (wy_pr rfl) wt_61 wf_4_0 (v := 14) wl_61_0 ?_
                  refine wa_cv 14 rfl (wy_pr rfl) wt_14 (M2 := fun _ => False) rfl at_XR_next ⟨_, rfl⟩ rfl rfl ⟨trivial, trivial, (Or.inr ⟨wy_pr rfl, fun q => q⟩), trivial, trivial, trivial⟩ trivial (fun _ _ q => False.elim q) (nx_c (S := (w_up (w_up (w_up S 14 4 ((i + 1 : Nat) : Int)) 62 (l.length : Int) (ch_of (zq B (tp T n 1 (i + 1))) 241)) 61 4 ((l.length : Int) + 1))) (hx_T (hx_up (hx_up (hx_up hx (by unfold hx_o; omega)) (by unfold hx_o; omega)) (by unfold hx_o; omega))) (show cx_P T n c (i + 1) (w_up (w_up (w_up S 14 4 ((i + 1 : Nat) : Int)) 62 (l.length : Int) (ch_of (zq B (tp T n 1 (i + 1))) 241)) 61 4 ((l.length : Int) + 1)) from ⟨((w_up_slot (by decide)).trans ((w_up_slot (by decide)).trans (w_up_same _ _ _ _))), hg1⟩) rfl (gI_up (gI_up (gI_up hI (by omega) (by omega) (by omega)) (by omega) (by omega) (by omega)) (by omega) (by omega) (by omega)) (by omega)) (fun oq26 Sq26 hp27 q26 => ?_)
                  rcases q26 with ⟨rfl, rfl⟩
                  show wJ _ _ _ _ _ _ _ _ _ _
                  have hg2 : pg T n c (i + 1 + 1) := pg_next hT hg1 (by omega) (by omega)
                  have hA2 := pg_at hT hg2
                  have h16_2 := hA2.1
                  have h15_2 := hA2.2.1
                  have hpr2 := hA2.2.2
                  have hkr2 := kg_rg T n (tp T n 1 (i + 1 + 1))
                  have hic2 := hg2.1
                  have hlt2 := tp_lt hT hg1 (by omega) (by omega)
                  refine wa_aload_n (n := 0) rfl ?_
                  refine wb_gf4 61 rfl (wy_pr rfl) wt_61 wf_4_0 (v := 14) wl_61_0 ?_
                  refine wa_cv 14 rfl (wy_pr rfl) wt_14 (M2 := fun _ => False) rfl at_XR_kind ⟨_, rfl⟩ rfl rfl ⟨trivial, trivial, (Or.inr ⟨wy_pr rfl, fun q => q⟩), trivial, trivial, trivial⟩ trivial (fun _ _ q => False.elim q) ?_ (fun _ _ _ q => q)
                  refine wa_aload_n (n := 0) rfl ?_
                  refine wb_gf4 14 rfl (wy_pr rfl) wt_14 wf_6_0 (v := 15) wl_14_0 ?_
                  refine wa_aload_n (n := 0) rfl ?_
                  refine wb_gfi 14 rfl (wy_pr rfl) wt_14 wf_6_4 (v := ((i + 1 + 1 : Nat) : Int)) (w_up_same _ _ _ _) (fun r28 => ?_)
                  refine wb_bald 15 rfl (wy_pr rfl) wt_15 (n := (S 15 (-1))) ((w_up_slot (by decide)).trans ((w_up_slot (by decide)).trans ((w_up_slot (by decide)).trans (w_up_slot (by decide))))) (by omega) (by omega) (v := (kg T n (tp T n 1 (i + 1 + 1)))) ((w_up_slot (by decide)).trans ((w_up_slot (by decide)).trans ((w_up_slot (by decide)).trans ((w_up_slot (by decide)).trans (h15_2))))) (fun r29 => ?_)
                  refine wa_ireturn rfl ?_
                  show wJ _ _ _ _ _ _ _ _ _ _
                  refine wa_bipush (w_rg2 (by omega) (by omega)) ?_
                  refine wa_icmpne (w_rg0 (by omega) (by omega)) (w_rg0 (by omega) (by omega)) ⟨_, rfl⟩ (fun c30 => ?_) (fun c30 => ?_)
                  · skip
                    refine wa_iload_n (n := 2) rfl ?_
                    refine wa_ireturn rfl ?_
                    by_cases hk16 : kg T n (tp T n 1 (i + 1 + 1)) = 16
                    · exfalso
                      have hnd2 : (ch_of (zq B (tp T n 1 (i + 1))) 241) ∉ l → su_nd k0 (l ++ [(ch_of (zq B (tp T n 1 (i + 1))) 241)]) := fun z => su_nd_add hnd ⟨by omega, by omega⟩ z
                      have hll2 := su_nd_len (by omega) (hnd2 hmem)
                      rw [List.length_append] at hll2
                      simp only [List.length_cons, List.length_nil] at hll2
                      omega
                    have htwi : tw_l B 241 k0 (ch_of (zq B (tp T n 1 (i + 1))) 241) a l = true ↔ ((B 243 (ch_of (zq B (tp T n 1 (i + 1))) 241) = 0 ∧ (B 243 k0 ≠ 0 ∨ 0 ≤ a)) ∨ (ch_of (zq B (tp T n 1 (i + 1))) 241) ∈ l) := tw_i B 241 k0 (ch_of (zq B (tp T n 1 (i + 1))) 241) a l
                    rw [hit.1] at htwi
                    have htw : ¬ tw_l B 241 k0 (ch_of (zq B (tp T n 1 (i + 1))) 241) a l = true := by
                      rw [htwi]; rintro (z | z)
                      · omega
                      · exact hmem z
                    have ha2 : (if B 243 (ch_of (zq B (tp T n 1 (i + 1))) 241) = 0 then (ch_of (zq B (tp T n 1 (i + 1))) 241) else a) = a := by first | exact if_pos (by omega) | exact if_neg (by omega)
                    have hr : su_g B 241 k0 (f + 1) (tp T n 1 (i + 1)) a al l = su_f B 241 k0 (f + 1) (tp T n 1 (i + 1 + 1)) (l ++ [(ch_of (zq B (tp T n 1 (i + 1))) 241)]) a (wb_lor al (B 247 (ch_of (zq B (tp T n 1 (i + 1))) 241))) := by
                      unfold su_g su_1; rw [hz6, if_pos hnt1.1, if_pos (by omega), if_neg htw]
                      show su_f B 241 k0 (f + 1) (lx_ne (zq B (tp T n 1 (i + 1))) (tp T n 1 (i + 1))) (l ++ [(ch_of (zq B (tp T n 1 (i + 1))) 241)]) (if B 243 (ch_of (zq B (tp T n 1 (i + 1))) 241) = 0 then (ch_of (zq B (tp T n 1 (i + 1))) 241) else a) (wb_lor al (B 247 (ch_of (zq B (tp T n 1 (i + 1))) 241))) = _
                      rw [hne, ha2]
                    have hnd2 : su_nd k0 (l ++ [(ch_of (zq B (tp T n 1 (i + 1))) 241)]) := su_nd_add hnd ⟨by omega, by omega⟩ hmem
                    have hll2 := su_nd_len (by omega) hnd2
                    rw [List.length_append] at hll2
                    simp only [List.length_cons, List.length_nil] at hll2
                    have hsu : su_I (w_up (w_up (w_up (w_up S 14 4 ((i + 1 : Nat) : Int)) 62 (l.length : Int) (ch_of (zq B (tp T n 1 (i + 1))) 241)) 61 4 ((l.length : Int) + 1)) 14 4 ((i + 1 + 1 : Nat) : Int)) (l ++ [(ch_of (zq B (tp T n 1 (i + 1))) 241)]) := su_I_add hl (by omega) (((w_up_slot (by decide)).trans (w_up_same _ _ _ _))) (((w_up_slot (by decide)).trans ((w_up_slot (by decide)).trans (w_up_same _ _ _ _)))) (fun q hq => ((w_up_slot (by decide)).trans ((w_up_slot (by decide)).trans ((w_up_at (by omega)).trans ((w_up_slot (by decide)).trans (rfl))))))
                    have hcm := lx_is_kg (i := i + 1 + 1) hB (k := 16) (ch := 44) (by decide) sk_16
                    rw [hr, su_f_s]
                    rw [if_neg (fun z => hk16 (hcm.1 z))]
                    exact ⟨rfl, (fun j x a1 a2 a3 => (w_up_no (by omega)).trans ((w_up_no (by omega)).trans ((w_up_no (by omega)).trans ((w_up_no (by omega)).trans (rfl))))), ⟨_, (show cx_P T n c (i + 1 + 1) (w_up (w_up (w_up (w_up S 14 4 ((i + 1 : Nat) : Int)) 62 (l.length : Int) (ch_of (zq B (tp T n 1 (i + 1))) 241)) 61 4 ((l.length : Int) + 1)) 14 4 ((i + 1 + 1 : Nat) : Int)) from ⟨(w_up_same _ _ _ _), hg2⟩), rfl⟩, hsu, hnd2, ⟨by omega, by omega⟩⟩
                  · skip
                    refine wa_aload_n (n := 0) rfl ?_
                    refine wb_gfi 61 rfl (wy_pr rfl) wt_61 wf_4_4 (v := ((l.length : Int) + 1)) ((w_up_slot (by decide)).trans (w_up_same _ _ _ _)) (fun r31 => ?_)
                    refine wa_bipush (w_rg2 (by omega) (by omega)) ?_
                    refine wa_icmplt (w_rg0 (by omega) (by omega)) (w_rg0 (by omega) (by omega)) ⟨_, rfl⟩ (fun c32 => ?_) (fun c32 => ?_)
                    · skip
                      have htwi : tw_l B 241 k0 (ch_of (zq B (tp T n 1 (i + 1))) 241) a l = true ↔ ((B 243 (ch_of (zq B (tp T n 1 (i + 1))) 241) = 0 ∧ (B 243 k0 ≠ 0 ∨ 0 ≤ a)) ∨ (ch_of (zq B (tp T n 1 (i + 1))) 241) ∈ l) := tw_i B 241 k0 (ch_of (zq B (tp T n 1 (i + 1))) 241) a l
                      rw [hit.1] at htwi
                      have htw : ¬ tw_l B 241 k0 (ch_of (zq B (tp T n 1 (i + 1))) 241) a l = true := by
                        rw [htwi]; rintro (z | z)
                        · omega
                        · exact hmem z
                      have ha2 : (if B 243 (ch_of (zq B (tp T n 1 (i + 1))) 241) = 0 then (ch_of (zq B (tp T n 1 (i + 1))) 241) else a) = a := by first | exact if_pos (by omega) | exact if_neg (by omega)
                      have hr : su_g B 241 k0 (f + 1) (tp T n 1 (i + 1)) a al l = su_f B 241 k0 (f + 1) (tp T n 1 (i + 1 + 1)) (l ++ [(ch_of (zq B (tp T n 1 (i + 1))) 241)]) a (wb_lor al (B 247 (ch_of (zq B (tp T n 1 (i + 1))) 241))) := by
                        unfold su_g su_1; rw [hz6, if_pos hnt1.1, if_pos (by omega), if_neg htw]
                        show su_f B 241 k0 (f + 1) (lx_ne (zq B (tp T n 1 (i + 1))) (tp T n 1 (i + 1))) (l ++ [(ch_of (zq B (tp T n 1 (i + 1))) 241)]) (if B 243 (ch_of (zq B (tp T n 1 (i + 1))) 241) = 0 then (ch_of (zq B (tp T n 1 (i + 1))) 241) else a) (wb_lor al (B 247 (ch_of (zq B (tp T n 1 (i + 1))) 241))) = _
                        rw [hne, ha2]
                      have hnd2 : su_nd k0 (l ++ [(ch_of (zq B (tp T n 1 (i + 1))) 241)]) := su_nd_add hnd ⟨by omega, by omega⟩ hmem
                      have hll2 := su_nd_len (by omega) hnd2
                      rw [List.length_append] at hll2
                      simp only [List.length_cons, List.length_nil] at hll2
                      have hsu : su_I (w_up (w_up (w_up (w_up S 14 4 ((i + 1 : Nat) : Int)) 62 (l.length : Int) (ch_of (zq B (tp T n 1 (i + 1))) 241)) 61 4 ((l.length : Int) + 1)) 14 4 ((i + 1 + 1 : Nat) : Int)) (l ++ [(ch_of (zq B (tp T n 1 (i + 1))) 241)]) := su_I_add hl (by omega) (((w_up_slot (by decide)).trans (w_up_same _ _ _ _))) (((w_up_slot (by decide)).trans ((w_up_slot (by decide)).trans (w_up_same _ _ _ _)))) (fun q hq => ((w_up_slot (by decide)).trans ((w_up_slot (by decide)).trans ((w_up_at (by omega)).trans ((w_up_slot (by decide)).trans (rfl))))))
                      have hcm := lx_is_kg (i := i + 1 + 1) hB (k := 16) (ch := 44) (by decide) sk_16
                      rw [hr, su_f_s]
                      rw [if_pos (hcm.2 (by omega)), tp_ne (i := i + 1 + 1) hB]
                      have hlt3 := tp_lt hT hg2 (by omega) (by omega)
                      have hpr3 := (pg_at hT (pg_next hT hg2 (by omega) (by omega))).2.2
                      refine wJ_mono (wJ_S (ih (i + 1 + 1) (l ++ [(ch_of (zq B (tp T n 1 (i + 1))) 241)]) a (wb_lor al (B 247 (ch_of (zq B (tp T n 1 (i + 1))) 241))) (w_up (w_up (w_up (w_up S 14 4 ((i + 1 : Nat) : Int)) 62 (l.length : Int) (ch_of (zq B (tp T n 1 (i + 1))) 241)) 61 4 ((l.length : Int) + 1)) 14 4 ((i + 1 + 1 : Nat) : Int)) (by omega) (hx_up (hx_up (hx_up (hx_up hx (by unfold hx_o; omega)) (by unfold hx_o; omega)) (by unfold hx_o; omega)) (by unfold hx_o; omega)) (show cx_P T n c (i + 1 + 1) (w_up (w_up (w_up (w_up S 14 4 ((i + 1 : Nat) : Int)) 62 (l.length : Int) (ch_of (zq B (tp T n 1 (i + 1))) 241)) 61 4 ((l.length : Int) + 1)) 14 4 ((i + 1 + 1 : Nat) : Int)) from ⟨(w_up_same _ _ _ _), hg2⟩) (by omega) hsu hnd2 ⟨by omega, by omega⟩) ⟨rfl, rfl, rfl, trivial⟩) (fun o Z hz => rs_P_tr (fun j x a1 a2 a3 => (w_up_no (by omega)).trans ((w_up_no (by omega)).trans ((w_up_no (by omega)).trans ((w_up_no (by omega)).trans (rfl))))) hz)
                    · skip
                      refine wa_fall ⟨_, rfl⟩ ?_
                      refine wa_iload_n (n := 2) rfl ?_
                      refine wa_ireturn rfl ?_
                      by_cases hk16 : kg T n (tp T n 1 (i + 1 + 1)) = 16
                      · exfalso
                        have hnd2 : (ch_of (zq B (tp T n 1 (i + 1))) 241) ∉ l → su_nd k0 (l ++ [(ch_of (zq B (tp T n 1 (i + 1))) 241)]) := fun z => su_nd_add hnd ⟨by omega, by omega⟩ z
                        have hll2 := su_nd_len (by omega) (hnd2 hmem)
                        rw [List.length_append] at hll2
                        simp only [List.length_cons, List.length_nil] at hll2
                        omega
                      have htwi : tw_l B 241 k0 (ch_of (zq B (tp T n 1 (i + 1))) 241) a l = true ↔ ((B 243 (ch_of (zq B (tp T n 1 (i + 1))) 241) = 0 ∧ (B 243 k0 ≠ 0 ∨ 0 ≤ a)) ∨ (ch_of (zq B (tp T n 1 (i + 1))) 241) ∈ l) := tw_i B 241 k0 (ch_of (zq B (tp T n 1 (i + 1))) 241) a l
                      rw [hit.1] at htwi
                      have htw : ¬ tw_l B 241 k0 (ch_of (zq B (tp T n 1 (i + 1))) 241) a l = true := by
                        rw [htwi]; rintro (z | z)
                        · omega
                        · exact hmem z
                      have ha2 : (if B 243 (ch_of (zq B (tp T n 1 (i + 1))) 241) = 0 then (ch_of (zq B (tp T n 1 (i + 1))) 241) else a) = a := by first | exact if_pos (by omega) | exact if_neg (by omega)
                      have hr : su_g B 241 k0 (f + 1) (tp T n 1 (i + 1)) a al l = su_f B 241 k0 (f + 1) (tp T n 1 (i + 1 + 1)) (l ++ [(ch_of (zq B (tp T n 1 (i + 1))) 241)]) a (wb_lor al (B 247 (ch_of (zq B (tp T n 1 (i + 1))) 241))) := by
                        unfold su_g su_1; rw [hz6, if_pos hnt1.1, if_pos (by omega), if_neg htw]
                        show su_f B 241 k0 (f + 1) (lx_ne (zq B (tp T n 1 (i + 1))) (tp T n 1 (i + 1))) (l ++ [(ch_of (zq B (tp T n 1 (i + 1))) 241)]) (if B 243 (ch_of (zq B (tp T n 1 (i + 1))) 241) = 0 then (ch_of (zq B (tp T n 1 (i + 1))) 241) else a) (wb_lor al (B 247 (ch_of (zq B (tp T n 1 (i + 1))) 241))) = _
                        rw [hne, ha2]
                      have hnd2 : su_nd k0 (l ++ [(ch_of (zq B (tp T n 1 (i + 1))) 241)]) := su_nd_add hnd ⟨by omega, by omega⟩ hmem
                      have hll2 := su_nd_len (by omega) hnd2
                      rw [List.length_append] at hll2
                      simp only [List.length_cons, List.length_nil] at hll2
                      have hsu : su_I (w_up (w_up (w_up (w_up S 14 4 ((i + 1 : Nat) : Int)) 62 (l.length : Int) (ch_of (zq B (tp T n 1 (i + 1))) 241)) 61 4 ((l.length : Int) + 1)) 14 4 ((i + 1 + 1 : Nat) : Int)) (l ++ [(ch_of (zq B (tp T n 1 (i + 1))) 241)]) := su_I_add hl (by omega) (((w_up_slot (by decide)).trans (w_up_same _ _ _ _))) (((w_up_slot (by decide)).trans ((w_up_slot (by decide)).trans (w_up_same _ _ _ _)))) (fun q hq => ((w_up_slot (by decide)).trans ((w_up_slot (by decide)).trans ((w_up_at (by omega)).trans ((w_up_slot (by decide)).trans (rfl))))))
                      have hcm := lx_is_kg (i := i + 1 + 1) hB (k := 16) (ch := 44) (by decide) sk_16
                      rw [hr, su_f_s]
                      rw [if_neg (fun z => hk16 (hcm.1 z))]
                      exact ⟨rfl, (fun j x a1 a2 a3 => (w_up_no (by omega)).trans ((w_up_no (by omega)).trans ((w_up_no (by omega)).trans ((w_up_no (by omega)).trans (rfl))))), ⟨_, (show cx_P T n c (i + 1 + 1) (w_up (w_up (w_up (w_up S 14 4 ((i + 1 : Nat) : Int)) 62 (l.length : Int) (ch_of (zq B (tp T n 1 (i + 1))) 241)) 61 4 ((l.length : Int) + 1)) 14 4 ((i + 1 + 1 : Nat) : Int)) from ⟨(w_up_same _ _ _ _), hg2⟩), rfl⟩, hsu, hnd2, ⟨by omega, by omega⟩⟩
                · skip
                  exact absurd c23 (by omega)
              · skip
                exact absurd c22 (by omega)
          · skip
            exact absurd c14 (by omega)
        · skip
          refine wa_iconst ?_
          refine wa_goto ⟨_, rfl⟩ ?_
          refine wa_istore (n := 4) rfl ?_
          refine wa_iload (n := 4) rfl ?_
          refine wa_ifeq (w_rg0 (by omega) (by omega)) ⟨_, rfl⟩ (fun c33 => ?_) (fun c33 => ?_)
          · skip
            exact absurd c33 (by omega)
          · skip
            refine wa_iload_n (n := 1) rfl ?_
            refine wa_ifne (w_rg0 (by omega) (by omega)) ⟨_, rfl⟩ (fun c34 => ?_) (fun c34 => ?_)
            · skip
              refine wa_aload_n (n := 0) rfl ?_
              refine wa_iconst ?_
              refine wa_cv 61 rfl (wy_pr rfl) wt_61 (M2 := fun _ => False) rfl at_XT_refuse ⟨_, rfl⟩ rfl rfl ⟨trivial, trivial, (Or.inr ⟨wy_pr rfl, fun q => q⟩), trivial, trivial, trivial⟩ trivial (fun _ _ q => False.elim q) (rf_c (S := (w_up S 14 4 ((i + 1 : Nat) : Int))) (k := 4) (p := (tp T n 1 (i + 1))) (i := ((i + 1 : Nat) : Int)) (gI_up hI (by omega) (by omega) (by omega)) (w_up_same _ _ _ _) ((w_up_slot (by decide)).trans (h16_1)) ⟨by omega, by have e : (w_up S 14 4 ((i + 1 : Nat) : Int)) 16 (-1) = S 16 (-1) := (w_up_slot (by decide)); omega⟩ ⟨by omega, by omega⟩ ⟨by omega, by omega⟩) (fun oq36 Sq36 hp37 q36 => ?_)
              rcases q36 with ⟨v, rfl, rz35⟩
              have hrz := rz35
              have hkind : (4 : Int) = 4 := rfl
              refine ⟨rfl, ?_⟩
              have htwi : tw_l B 241 k0 (ch_of (zq B (tp T n 1 (i + 1))) 241) a l = true ↔ ((B 243 (ch_of (zq B (tp T n 1 (i + 1))) 241) = 0 ∧ (B 243 k0 ≠ 0 ∨ 0 ≤ a)) ∨ (ch_of (zq B (tp T n 1 (i + 1))) 241) ∈ l) := tw_i B 241 k0 (ch_of (zq B (tp T n 1 (i + 1))) 241) a l
              rw [hit.1] at htwi
              have htw : tw_l B 241 k0 (ch_of (zq B (tp T n 1 (i + 1))) 241) a l = true := htwi.2 (by first | exact Or.inr hmem | exact Or.inl ⟨by omega, by omega⟩)
              have hr : su_g B 241 k0 (f + 1) (tp T n 1 (i + 1)) a al l = .inl (4, (tp T n 1 (i + 1))) := by
                unfold su_g su_1; rw [hz6, if_pos hnt1.1, if_pos (by omega), if_pos htw]
              rw [hr]
              exact ⟨v, _, rfl, (fun j x a1 a2 a3 => (w_up_no (by omega)).trans (rfl)), hrz⟩
            · skip
              refine wa_iload_n (n := 2) rfl ?_
              refine wa_iconst ?_
              refine wa_icmpne (w_rg0 (by omega) (by omega)) (w_rg0 (by omega) (by omega)) ⟨_, rfl⟩ (fun c38 => ?_) (fun c38 => ?_)
              · skip
                refine wa_aload_n (n := 0) rfl ?_
                refine wa_iconst ?_
                refine wa_cv 61 rfl (wy_pr rfl) wt_61 (M2 := fun _ => False) rfl at_XT_refuse ⟨_, rfl⟩ rfl rfl ⟨trivial, trivial, (Or.inr ⟨wy_pr rfl, fun q => q⟩), trivial, trivial, trivial⟩ trivial (fun _ _ q => False.elim q) (rf_c (S := (w_up S 14 4 ((i + 1 : Nat) : Int))) (k := 4) (p := (tp T n 1 (i + 1))) (i := ((i + 1 : Nat) : Int)) (gI_up hI (by omega) (by omega) (by omega)) (w_up_same _ _ _ _) ((w_up_slot (by decide)).trans (h16_1)) ⟨by omega, by have e : (w_up S 14 4 ((i + 1 : Nat) : Int)) 16 (-1) = S 16 (-1) := (w_up_slot (by decide)); omega⟩ ⟨by omega, by omega⟩ ⟨by omega, by omega⟩) (fun oq40 Sq40 hp41 q40 => ?_)
                rcases q40 with ⟨v, rfl, rz39⟩
                have hrz := rz39
                have hkind : (4 : Int) = 4 := rfl
                refine ⟨rfl, ?_⟩
                have htwi : tw_l B 241 k0 (ch_of (zq B (tp T n 1 (i + 1))) 241) a l = true ↔ ((B 243 (ch_of (zq B (tp T n 1 (i + 1))) 241) = 0 ∧ (B 243 k0 ≠ 0 ∨ 0 ≤ a)) ∨ (ch_of (zq B (tp T n 1 (i + 1))) 241) ∈ l) := tw_i B 241 k0 (ch_of (zq B (tp T n 1 (i + 1))) 241) a l
                rw [hit.1] at htwi
                have htw : tw_l B 241 k0 (ch_of (zq B (tp T n 1 (i + 1))) 241) a l = true := htwi.2 (by first | exact Or.inr hmem | exact Or.inl ⟨by omega, by omega⟩)
                have hr : su_g B 241 k0 (f + 1) (tp T n 1 (i + 1)) a al l = .inl (4, (tp T n 1 (i + 1))) := by
                  unfold su_g su_1; rw [hz6, if_pos hnt1.1, if_pos (by omega), if_pos htw]
                rw [hr]
                exact ⟨v, _, rfl, (fun j x a1 a2 a3 => (w_up_no (by omega)).trans (rfl)), hrz⟩
              · skip
                refine wa_fall ⟨_, rfl⟩ ?_
                refine wa_aload_n (n := 0) rfl ?_
                refine wa_iload_n (n := 3) rfl ?_
                refine wa_cv 61 rfl (wy_pr rfl) wt_61 (M2 := fun _ => False) rfl at_XT_isSuper ⟨_, rfl⟩ rfl rfl ⟨trivial, trivial, (Or.inr ⟨wy_pr rfl, fun q => q⟩), trivial, trivial, trivial⟩ trivial (fun _ _ q => False.elim q) (is_c (S := (w_up S 14 4 ((i + 1 : Nat) : Int))) (l := l) (hx_R (hx_up hx (by unfold hx_o; omega))).2.2.1 (show su_I (w_up S 14 4 ((i + 1 : Nat) : Int)) l from hl) ⟨by omega, by omega⟩) (fun oq43 Sq43 hp44 q43 => ?_)
                rcases q43 with ⟨rfl, ⟨rfl, hm42⟩ | ⟨rfl, hm42⟩⟩
                · skip
                  show wJ _ _ _ _ _ _ _ _ _ _
                  have hmem := hm42
                  refine wa_ifeq (w_rg0 (by omega) (by omega)) ⟨_, rfl⟩ (fun c45 => ?_) (fun c45 => ?_)
                  · skip
                    exact absurd c45 (by omega)
                  · skip
                    refine wa_fall ⟨_, rfl⟩ ?_
                    refine wa_aload_n (n := 0) rfl ?_
                    refine wa_iconst ?_
                    refine wa_cv 61 rfl (wy_pr rfl) wt_61 (M2 := fun _ => False) rfl at_XT_refuse ⟨_, rfl⟩ rfl rfl ⟨trivial, trivial, (Or.inr ⟨wy_pr rfl, fun q => q⟩), trivial, trivial, trivial⟩ trivial (fun _ _ q => False.elim q) (rf_c (S := (w_up S 14 4 ((i + 1 : Nat) : Int))) (k := 4) (p := (tp T n 1 (i + 1))) (i := ((i + 1 : Nat) : Int)) (gI_up hI (by omega) (by omega) (by omega)) (w_up_same _ _ _ _) ((w_up_slot (by decide)).trans (h16_1)) ⟨by omega, by have e : (w_up S 14 4 ((i + 1 : Nat) : Int)) 16 (-1) = S 16 (-1) := (w_up_slot (by decide)); omega⟩ ⟨by omega, by omega⟩ ⟨by omega, by omega⟩) (fun oq47 Sq47 hp48 q47 => ?_)
                    rcases q47 with ⟨v, rfl, rz46⟩
                    have hrz := rz46
                    have hkind : (4 : Int) = 4 := rfl
                    refine ⟨rfl, ?_⟩
                    have htwi : tw_l B 241 k0 (ch_of (zq B (tp T n 1 (i + 1))) 241) a l = true ↔ ((B 243 (ch_of (zq B (tp T n 1 (i + 1))) 241) = 0 ∧ (B 243 k0 ≠ 0 ∨ 0 ≤ a)) ∨ (ch_of (zq B (tp T n 1 (i + 1))) 241) ∈ l) := tw_i B 241 k0 (ch_of (zq B (tp T n 1 (i + 1))) 241) a l
                    rw [hit.1] at htwi
                    have htw : tw_l B 241 k0 (ch_of (zq B (tp T n 1 (i + 1))) 241) a l = true := htwi.2 (by first | exact Or.inr hmem | exact Or.inl ⟨by omega, by omega⟩)
                    have hr : su_g B 241 k0 (f + 1) (tp T n 1 (i + 1)) a al l = .inl (4, (tp T n 1 (i + 1))) := by
                      unfold su_g su_1; rw [hz6, if_pos hnt1.1, if_pos (by omega), if_pos htw]
                    rw [hr]
                    exact ⟨v, _, rfl, (fun j x a1 a2 a3 => (w_up_no (by omega)).trans (rfl)), hrz⟩
                · skip
                  show wJ _ _ _ _ _ _ _ _ _ _
                  have hmem := hm42
                  refine wa_ifeq (w_rg0 (by omega) (by omega)) ⟨_, rfl⟩ (fun c49 => ?_) (fun c49 => ?_)
                  · skip
                    refine wa_iload (n := 4) rfl ?_
                    refine wa_ifeq (w_rg0 (by omega) (by omega)) ⟨_, rfl⟩ (fun c50 => ?_) (fun c50 => ?_)
                    · skip
                      exact absurd c50 (by omega)
                    · skip
                      refine wa_iload_n (n := 3) rfl ?_
                      refine wa_istore_n (n := 2) rfl ?_
                      refine wa_fall ⟨_, rfl⟩ ?_
                      refine wa_aload_n (n := 0) rfl ?_
                      refine wb_gf4 61 rfl (wy_pr rfl) wt_61 wf_4_3 (v := 62) wl_61_3 ?_
                      refine wa_aload_n (n := 0) rfl ?_
                      refine wb_gfi 61 rfl (wy_pr rfl) wt_61 wf_4_4 (v := (l.length : Int)) ((w_up_slot (by decide)).trans (hl4)) (fun r51 => ?_)
                      refine wa_iload_n (n := 3) rfl ?_
                      refine wb_iast 62 rfl (wy_pr rfl) wt_62 (n := 60) ((w_up_slot (by decide)).trans ((cl_62 hC))) (by omega) (by omega) ⟨(by omega), (by omega)⟩ ?_
                      refine wa_aload_n (n := 0) rfl ?_
                      refine wa_dup (by decide) ?_
                      refine wb_gfi 61 rfl (wy_pr rfl) wt_61 wf_4_4 (v := (l.length : Int)) ((w_up_slot (by decide)).trans ((w_up_slot (by decide)).trans (hl4))) (fun r52 => ?_)
                      refine wa_iconst ?_
                      refine wa_iadd ?_
                      refine wb_pfi 61 rfl (wy_pr rfl) wt_61 wf_4_4 (n := 4) rfl ⟨(by omega), (by omega)⟩ ?_
                      refine wa_aload_n (n := 0) rfl ?_
                      refine wb_gf4 61 rfl (wy_pr rfl) wt_61 wf_4_0 (v := 14) wl_61_0 ?_
                      refine wa_cv 14 rfl (wy_pr rfl) wt_14 (M2 := fun _ => False) rfl at_XR_next ⟨_, rfl⟩ rfl rfl ⟨trivial, trivial, trivial, (Or.inr ⟨wy_pr rfl, fun q => q⟩), trivial, trivial⟩ trivial (fun _ _ q => False.elim q) (nx_c (S := (w_up (w_up (w_up S 14 4 ((i + 1 : Nat) : Int)) 62 (l.length : Int) (ch_of (zq B (tp T n 1 (i + 1))) 241)) 61 4 ((l.length : Int) + 1))) (hx_T (hx_up (hx_up (hx_up hx (by unfold hx_o; omega)) (by unfold hx_o; omega)) (by unfold hx_o; omega))) (show cx_P T n c (i + 1) (w_up (w_up (w_up S 14 4 ((i + 1 : Nat) : Int)) 62 (l.length : Int) (ch_of (zq B (tp T n 1 (i + 1))) 241)) 61 4 ((l.length : Int) + 1)) from ⟨((w_up_slot (by decide)).trans ((w_up_slot (by decide)).trans (w_up_same _ _ _ _))), hg1⟩) rfl (gI_up (gI_up (gI_up hI (by omega) (by omega) (by omega)) (by omega) (by omega) (by omega)) (by omega) (by omega) (by omega)) (by omega)) (fun oq53 Sq53 hp54 q53 => ?_)
                      rcases q53 with ⟨rfl, rfl⟩
                      show wJ _ _ _ _ _ _ _ _ _ _
                      have hg2 : pg T n c (i + 1 + 1) := pg_next hT hg1 (by omega) (by omega)
                      have hA2 := pg_at hT hg2
                      have h16_2 := hA2.1
                      have h15_2 := hA2.2.1
                      have hpr2 := hA2.2.2
                      have hkr2 := kg_rg T n (tp T n 1 (i + 1 + 1))
                      have hic2 := hg2.1
                      have hlt2 := tp_lt hT hg1 (by omega) (by omega)
                      refine wa_aload_n (n := 0) rfl ?_
                      refine wb_gf4 61 rfl (wy_pr rfl) wt_61 wf_4_0 (v := 14) wl_61_0 ?_
                      refine wa_cv 14 rfl (wy_pr rfl) wt_14 (M2 := fun _ => False) rfl at_XR_kind ⟨_, rfl⟩ rfl rfl ⟨trivial, trivial, trivial, (Or.inr ⟨wy_pr rfl, fun q => q⟩), trivial, trivial⟩ trivial (fun _ _ q => False.elim q) ?_ (fun _ _ _ q => q)
                      refine wa_aload_n (n := 0) rfl ?_
                      refine wb_gf4 14 rfl (wy_pr rfl) wt_14 wf_6_0 (v := 15) wl_14_0 ?_
                      refine wa_aload_n (n := 0) rfl ?_
                      refine wb_gfi 14 rfl (wy_pr rfl) wt_14 wf_6_4 (v := ((i + 1 + 1 : Nat) : Int)) (w_up_same _ _ _ _) (fun r55 => ?_)
                      refine wb_bald 15 rfl (wy_pr rfl) wt_15 (n := (S 15 (-1))) ((w_up_slot (by decide)).trans ((w_up_slot (by decide)).trans ((w_up_slot (by decide)).trans (w_up_slot (by decide))))) (by omega) (by omega) (v := (kg T n (tp T n 1 (i + 1 + 1)))) ((w_up_slot (by decide)).trans ((w_up_slot (by decide)).trans ((w_up_slot (by decide)).trans ((w_up_slot (by decide)).trans (h15_2))))) (fun r56 => ?_)
                      refine wa_ireturn rfl ?_
                      show wJ _ _ _ _ _ _ _ _ _ _
                      refine wa_bipush (w_rg2 (by omega) (by omega)) ?_
                      refine wa_icmpne (w_rg0 (by omega) (by omega)) (w_rg0 (by omega) (by omega)) ⟨_, rfl⟩ (fun c57 => ?_) (fun c57 => ?_)
                      · skip
                        refine wa_iload_n (n := 2) rfl ?_
                        refine wa_ireturn rfl ?_
                        by_cases hk16 : kg T n (tp T n 1 (i + 1 + 1)) = 16
                        · exfalso
                          have hnd2 : (ch_of (zq B (tp T n 1 (i + 1))) 241) ∉ l → su_nd k0 (l ++ [(ch_of (zq B (tp T n 1 (i + 1))) 241)]) := fun z => su_nd_add hnd ⟨by omega, by omega⟩ z
                          have hll2 := su_nd_len (by omega) (hnd2 hmem)
                          rw [List.length_append] at hll2
                          simp only [List.length_cons, List.length_nil] at hll2
                          omega
                        have htwi : tw_l B 241 k0 (ch_of (zq B (tp T n 1 (i + 1))) 241) a l = true ↔ ((B 243 (ch_of (zq B (tp T n 1 (i + 1))) 241) = 0 ∧ (B 243 k0 ≠ 0 ∨ 0 ≤ a)) ∨ (ch_of (zq B (tp T n 1 (i + 1))) 241) ∈ l) := tw_i B 241 k0 (ch_of (zq B (tp T n 1 (i + 1))) 241) a l
                        rw [hit.1] at htwi
                        have htw : ¬ tw_l B 241 k0 (ch_of (zq B (tp T n 1 (i + 1))) 241) a l = true := by
                          rw [htwi]; rintro (z | z)
                          · omega
                          · exact hmem z
                        have ha2 : (if B 243 (ch_of (zq B (tp T n 1 (i + 1))) 241) = 0 then (ch_of (zq B (tp T n 1 (i + 1))) 241) else a) = (ch_of (zq B (tp T n 1 (i + 1))) 241) := by first | exact if_pos (by omega) | exact if_neg (by omega)
                        have hr : su_g B 241 k0 (f + 1) (tp T n 1 (i + 1)) a al l = su_f B 241 k0 (f + 1) (tp T n 1 (i + 1 + 1)) (l ++ [(ch_of (zq B (tp T n 1 (i + 1))) 241)]) (ch_of (zq B (tp T n 1 (i + 1))) 241) (wb_lor al (B 247 (ch_of (zq B (tp T n 1 (i + 1))) 241))) := by
                          unfold su_g su_1; rw [hz6, if_pos hnt1.1, if_pos (by omega), if_neg htw]
                          show su_f B 241 k0 (f + 1) (lx_ne (zq B (tp T n 1 (i + 1))) (tp T n 1 (i + 1))) (l ++ [(ch_of (zq B (tp T n 1 (i + 1))) 241)]) (if B 243 (ch_of (zq B (tp T n 1 (i + 1))) 241) = 0 then (ch_of (zq B (tp T n 1 (i + 1))) 241) else a) (wb_lor al (B 247 (ch_of (zq B (tp T n 1 (i + 1))) 241))) = _
                          rw [hne, ha2]
                        have hnd2 : su_nd k0 (l ++ [(ch_of (zq B (tp T n 1 (i + 1))) 241)]) := su_nd_add hnd ⟨by omega, by omega⟩ hmem
                        have hll2 := su_nd_len (by omega) hnd2
                        rw [List.length_append] at hll2
                        simp only [List.length_cons, List.length_nil] at hll2
                        have hsu : su_I (w_up (w_up (w_up (w_up S 14 4 ((i + 1 : Nat) : Int)) 62 (l.length : Int) (ch_of (zq B (tp T n 1 (i + 1))) 241)) 61 4 ((l.length : Int) + 1)) 14 4 ((i + 1 + 1 : Nat) : Int)) (l ++ [(ch_of (zq B (tp T n 1 (i + 1))) 241)]) := su_I_add hl (by omega) (((w_up_slot (by decide)).trans (w_up_same _ _ _ _))) (((w_up_slot (by decide)).trans ((w_up_slot (by decide)).trans (w_up_same _ _ _ _)))) (fun q hq => ((w_up_slot (by decide)).trans ((w_up_slot (by decide)).trans ((w_up_at (by omega)).trans ((w_up_slot (by decide)).trans (rfl))))))
                        have hcm := lx_is_kg (i := i + 1 + 1) hB (k := 16) (ch := 44) (by decide) sk_16
                        rw [hr, su_f_s]
                        rw [if_neg (fun z => hk16 (hcm.1 z))]
                        exact ⟨rfl, (fun j x a1 a2 a3 => (w_up_no (by omega)).trans ((w_up_no (by omega)).trans ((w_up_no (by omega)).trans ((w_up_no (by omega)).trans (rfl))))), ⟨_, (show cx_P T n c (i + 1 + 1) (w_up (w_up (w_up (w_up S 14 4 ((i + 1 : Nat) : Int)) 62 (l.length : Int) (ch_of (zq B (tp T n 1 (i + 1))) 241)) 61 4 ((l.length : Int) + 1)) 14 4 ((i + 1 + 1 : Nat) : Int)) from ⟨(w_up_same _ _ _ _), hg2⟩), rfl⟩, hsu, hnd2, ⟨by omega, by omega⟩⟩
                      · skip
                        refine wa_aload_n (n := 0) rfl ?_
                        refine wb_gfi 61 rfl (wy_pr rfl) wt_61 wf_4_4 (v := ((l.length : Int) + 1)) ((w_up_slot (by decide)).trans (w_up_same _ _ _ _)) (fun r58 => ?_)
                        refine wa_bipush (w_rg2 (by omega) (by omega)) ?_
                        refine wa_icmplt (w_rg0 (by omega) (by omega)) (w_rg0 (by omega) (by omega)) ⟨_, rfl⟩ (fun c59 => ?_) (fun c59 => ?_)
                        · skip
                          have htwi : tw_l B 241 k0 (ch_of (zq B (tp T n 1 (i + 1))) 241) a l = true ↔ ((B 243 (ch_of (zq B (tp T n 1 (i + 1))) 241) = 0 ∧ (B 243 k0 ≠ 0 ∨ 0 ≤ a)) ∨ (ch_of (zq B (tp T n 1 (i + 1))) 241) ∈ l) := tw_i B 241 k0 (ch_of (zq B (tp T n 1 (i + 1))) 241) a l
                          rw [hit.1] at htwi
                          have htw : ¬ tw_l B 241 k0 (ch_of (zq B (tp T n 1 (i + 1))) 241) a l = true := by
                            rw [htwi]; rintro (z | z)
                            · omega
                            · exact hmem z
                          have ha2 : (if B 243 (ch_of (zq B (tp T n 1 (i + 1))) 241) = 0 then (ch_of (zq B (tp T n 1 (i + 1))) 241) else a) = (ch_of (zq B (tp T n 1 (i + 1))) 241) := by first | exact if_pos (by omega) | exact if_neg (by omega)
                          have hr : su_g B 241 k0 (f + 1) (tp T n 1 (i + 1)) a al l = su_f B 241 k0 (f + 1) (tp T n 1 (i + 1 + 1)) (l ++ [(ch_of (zq B (tp T n 1 (i + 1))) 241)]) (ch_of (zq B (tp T n 1 (i + 1))) 241) (wb_lor al (B 247 (ch_of (zq B (tp T n 1 (i + 1))) 241))) := by
                            unfold su_g su_1; rw [hz6, if_pos hnt1.1, if_pos (by omega), if_neg htw]
                            show su_f B 241 k0 (f + 1) (lx_ne (zq B (tp T n 1 (i + 1))) (tp T n 1 (i + 1))) (l ++ [(ch_of (zq B (tp T n 1 (i + 1))) 241)]) (if B 243 (ch_of (zq B (tp T n 1 (i + 1))) 241) = 0 then (ch_of (zq B (tp T n 1 (i + 1))) 241) else a) (wb_lor al (B 247 (ch_of (zq B (tp T n 1 (i + 1))) 241))) = _
                            rw [hne, ha2]
                          have hnd2 : su_nd k0 (l ++ [(ch_of (zq B (tp T n 1 (i + 1))) 241)]) := su_nd_add hnd ⟨by omega, by omega⟩ hmem
                          have hll2 := su_nd_len (by omega) hnd2
                          rw [List.length_append] at hll2
                          simp only [List.length_cons, List.length_nil] at hll2
                          have hsu : su_I (w_up (w_up (w_up (w_up S 14 4 ((i + 1 : Nat) : Int)) 62 (l.length : Int) (ch_of (zq B (tp T n 1 (i + 1))) 241)) 61 4 ((l.length : Int) + 1)) 14 4 ((i + 1 + 1 : Nat) : Int)) (l ++ [(ch_of (zq B (tp T n 1 (i + 1))) 241)]) := su_I_add hl (by omega) (((w_up_slot (by decide)).trans (w_up_same _ _ _ _))) (((w_up_slot (by decide)).trans ((w_up_slot (by decide)).trans (w_up_same _ _ _ _)))) (fun q hq => ((w_up_slot (by decide)).trans ((w_up_slot (by decide)).trans ((w_up_at (by omega)).trans ((w_up_slot (by decide)).trans (rfl))))))
                          have hcm := lx_is_kg (i := i + 1 + 1) hB (k := 16) (ch := 44) (by decide) sk_16
                          rw [hr, su_f_s]
                          rw [if_pos (hcm.2 (by omega)), tp_ne (i := i + 1 + 1) hB]
                          have hlt3 := tp_lt hT hg2 (by omega) (by omega)
                          have hpr3 := (pg_at hT (pg_next hT hg2 (by omega) (by omega))).2.2
                          refine wJ_mono (wJ_S (ih (i + 1 + 1) (l ++ [(ch_of (zq B (tp T n 1 (i + 1))) 241)]) (ch_of (zq B (tp T n 1 (i + 1))) 241) (wb_lor al (B 247 (ch_of (zq B (tp T n 1 (i + 1))) 241))) (w_up (w_up (w_up (w_up S 14 4 ((i + 1 : Nat) : Int)) 62 (l.length : Int) (ch_of (zq B (tp T n 1 (i + 1))) 241)) 61 4 ((l.length : Int) + 1)) 14 4 ((i + 1 + 1 : Nat) : Int)) (by omega) (hx_up (hx_up (hx_up (hx_up hx (by unfold hx_o; omega)) (by unfold hx_o; omega)) (by unfold hx_o; omega)) (by unfold hx_o; omega)) (show cx_P T n c (i + 1 + 1) (w_up (w_up (w_up (w_up S 14 4 ((i + 1 : Nat) : Int)) 62 (l.length : Int) (ch_of (zq B (tp T n 1 (i + 1))) 241)) 61 4 ((l.length : Int) + 1)) 14 4 ((i + 1 + 1 : Nat) : Int)) from ⟨(w_up_same _ _ _ _), hg2⟩) (by omega) hsu hnd2 ⟨by omega, by omega⟩) ⟨rfl, rfl, rfl, trivial⟩) (fun o Z hz => rs_P_tr (fun j x a1 a2 a3 => (w_up_no (by omega)).trans ((w_up_no (by omega)).trans ((w_up_no (by omega)).trans ((w_up_no (by omega)).trans (rfl))))) hz)
                        · skip
                          refine wa_fall ⟨_, rfl⟩ ?_
                          refine wa_iload_n (n := 2) rfl ?_
                          refine wa_ireturn rfl ?_
                          by_cases hk16 : kg T n (tp T n 1 (i + 1 + 1)) = 16
                          · exfalso
                            have hnd2 : (ch_of (zq B (tp T n 1 (i + 1))) 241) ∉ l → su_nd k0 (l ++ [(ch_of (zq B (tp T n 1 (i + 1))) 241)]) := fun z => su_nd_add hnd ⟨by omega, by omega⟩ z
                            have hll2 := su_nd_len (by omega) (hnd2 hmem)
                            rw [List.length_append] at hll2
                            simp only [List.length_cons, List.length_nil] at hll2
                            omega
                          have htwi : tw_l B 241 k0 (ch_of (zq B (tp T n 1 (i + 1))) 241) a l = true ↔ ((B 243 (ch_of (zq B (tp T n 1 (i + 1))) 241) = 0 ∧ (B 243 k0 ≠ 0 ∨ 0 ≤ a)) ∨ (ch_of (zq B (tp T n 1 (i + 1))) 241) ∈ l) := tw_i B 241 k0 (ch_of (zq B (tp T n 1 (i + 1))) 241) a l
                          rw [hit.1] at htwi
                          have htw : ¬ tw_l B 241 k0 (ch_of (zq B (tp T n 1 (i + 1))) 241) a l = true := by
                            rw [htwi]; rintro (z | z)
                            · omega
                            · exact hmem z
                          have ha2 : (if B 243 (ch_of (zq B (tp T n 1 (i + 1))) 241) = 0 then (ch_of (zq B (tp T n 1 (i + 1))) 241) else a) = (ch_of (zq B (tp T n 1 (i + 1))) 241) := by first | exact if_pos (by omega) | exact if_neg (by omega)
                          have hr : su_g B 241 k0 (f + 1) (tp T n 1 (i + 1)) a al l = su_f B 241 k0 (f + 1) (tp T n 1 (i + 1 + 1)) (l ++ [(ch_of (zq B (tp T n 1 (i + 1))) 241)]) (ch_of (zq B (tp T n 1 (i + 1))) 241) (wb_lor al (B 247 (ch_of (zq B (tp T n 1 (i + 1))) 241))) := by
                            unfold su_g su_1; rw [hz6, if_pos hnt1.1, if_pos (by omega), if_neg htw]
                            show su_f B 241 k0 (f + 1) (lx_ne (zq B (tp T n 1 (i + 1))) (tp T n 1 (i + 1))) (l ++ [(ch_of (zq B (tp T n 1 (i + 1))) 241)]) (if B 243 (ch_of (zq B (tp T n 1 (i + 1))) 241) = 0 then (ch_of (zq B (tp T n 1 (i + 1))) 241) else a) (wb_lor al (B 247 (ch_of (zq B (tp T n 1 (i + 1))) 241))) = _
                            rw [hne, ha2]
                          have hnd2 : su_nd k0 (l ++ [(ch_of (zq B (tp T n 1 (i + 1))) 241)]) := su_nd_add hnd ⟨by omega, by omega⟩ hmem
                          have hll2 := su_nd_len (by omega) hnd2
                          rw [List.length_append] at hll2
                          simp only [List.length_cons, List.length_nil] at hll2
                          have hsu : su_I (w_up (w_up (w_up (w_up S 14 4 ((i + 1 : Nat) : Int)) 62 (l.length : Int) (ch_of (zq B (tp T n 1 (i + 1))) 241)) 61 4 ((l.length : Int) + 1)) 14 4 ((i + 1 + 1 : Nat) : Int)) (l ++ [(ch_of (zq B (tp T n 1 (i + 1))) 241)]) := su_I_add hl (by omega) (((w_up_slot (by decide)).trans (w_up_same _ _ _ _))) (((w_up_slot (by decide)).trans ((w_up_slot (by decide)).trans (w_up_same _ _ _ _)))) (fun q hq => ((w_up_slot (by decide)).trans ((w_up_slot (by decide)).trans ((w_up_at (by omega)).trans ((w_up_slot (by decide)).trans (rfl))))))
                          have hcm := lx_is_kg (i := i + 1 + 1) hB (k := 16) (ch := 44) (by decide) sk_16
                          rw [hr, su_f_s]
                          rw [if_neg (fun z => hk16 (hcm.1 z))]
                          exact ⟨rfl, (fun j x a1 a2 a3 => (w_up_no (by omega)).trans ((w_up_no (by omega)).trans ((w_up_no (by omega)).trans ((w_up_no (by omega)).trans (rfl))))), ⟨_, (show cx_P T n c (i + 1 + 1) (w_up (w_up (w_up (w_up S 14 4 ((i + 1 : Nat) : Int)) 62 (l.length : Int) (ch_of (zq B (tp T n 1 (i + 1))) 241)) 61 4 ((l.length : Int) + 1)) 14 4 ((i + 1 + 1 : Nat) : Int)) from ⟨(w_up_same _ _ _ _), hg2⟩), rfl⟩, hsu, hnd2, ⟨by omega, by omega⟩⟩
                  · skip
                    exact absurd c49 (by omega)
      · skip
        refine wa_aload_n (n := 0) rfl ?_
        refine wa_iconst ?_
        refine wa_cv 61 rfl (wy_pr rfl) wt_61 (M2 := fun _ => False) rfl at_XT_refuse ⟨_, rfl⟩ rfl rfl ⟨trivial, (Or.inr ⟨wy_pr rfl, fun q => q⟩), trivial, trivial, trivial⟩ trivial (fun _ _ q => False.elim q) (rf_c (S := (w_up S 14 4 ((i + 1 : Nat) : Int))) (k := 3) (p := (tp T n 1 (i + 1))) (i := ((i + 1 : Nat) : Int)) (gI_up hI (by omega) (by omega) (by omega)) (w_up_same _ _ _ _) ((w_up_slot (by decide)).trans (h16_1)) ⟨by omega, by have e : (w_up S 14 4 ((i + 1 : Nat) : Int)) 16 (-1) = S 16 (-1) := (w_up_slot (by decide)); omega⟩ ⟨by omega, by omega⟩ ⟨by omega, by omega⟩) (fun oq61 Sq61 hp62 q61 => ?_)
        rcases q61 with ⟨v, rfl, rz60⟩
        have hrz := rz60
        have hkind : (3 : Int) = 3 := rfl
        refine ⟨rfl, ?_⟩
        have hr : su_g B 241 k0 (f + 1) (tp T n 1 (i + 1)) a al l = .inl (3, (tp T n 1 (i + 1))) := by
          unfold su_g su_1; rw [hz6, if_pos hnt1.1, if_neg (by omega)]
        rw [hr]
        exact ⟨v, _, rfl, (fun j x a1 a2 a3 => (w_up_no (by omega)).trans (rfl)), hrz⟩
    · skip
      have hkg := hw4
      refine ⟨rfl, ?_⟩
      have hr : su_g B 241 k0 (f + 1) (tp T n 1 (i + 1)) a al l = .inl (1, (tp T n 1 (i + 1))) := by
        unfold su_g su_1; rw [hz6, if_neg (fun z => hkg (hk5.2 z))]
      rw [hr]
      exact ⟨v, _, rfl, (fun j x a1 a2 a3 => (w_up_no (by omega)).trans (rfl)), hrz⟩
theorem rs_73 {k0 itf : Int} (hk0 : B 241 1 = k0 ∧ k0 < 60) (hit : B 243 k0 = itf ∧ (itf = 0 ∨ itf = 1)) (hb3 : B 244 k0 = -1) (hx : hx_I 241 73 87 92 74 T n c B S) (hP : cx_P T n c i S) (hk2 : 2 ≤ kg T n (tp T n 1 i)) (h4 : S 61 4 = 0) : wJ (pe_GA xs) wY0 M (d + 9) t_XT_readSupers ((pe_at t_XT_readSupers.bl 0).getD (0, [])).2 [(0, (2, 61)), (1, (0, itf))] [] S (rs_P T n c k0 (su_a B 241 k0 (tp T n 1 (i + 1))) S) := by
  have hB4 : B 237 4 = n := hx.1.2.1
  rw [su_g_a, hB4, hb3]
  refine wa_iconst ?_
  refine wa_istore_n (n := 2) rfl ?_
  refine wa_fall ⟨_, rfl⟩ ?_
  exact wJ_S (rs_l_73 hk0 hit ((n - tp T n 1 (i + 1)).toNat + 1) i [] (-1) (B 247 k0) S (by omega) hx hP hk2 ⟨h4, by decide, fun k hk => absurd hk (Nat.not_lt_zero _)⟩ ⟨List.nodup_nil, fun x hx => absurd hx (List.not_mem_nil)⟩ ⟨by omega, by omega⟩) ⟨rfl, rfl, rfl, trivial⟩
theorem rs_l_162 {k0 itf : Int} (hk0 : B 261 1 = k0 ∧ k0 < 60) (hit : B 263 k0 = itf ∧ (itf = 0 ∨ itf = 1)) : ∀ (f i : Nat) (l : List Int) (a al : Int) (S : wS), (n - tp T n 1 (i + 1)).toNat < f → (hx : hx_I 261 162 176 181 163 T n c B S) → (hP : cx_P T n c i S) → (2 ≤ kg T n (tp T n 1 i)) → su_I S l → su_nd k0 l → (-1 ≤ a ∧ a < 60) → wJ (pe_GA xs) wY0 M (d + 9) t_XT_readSupers ((pe_at t_XT_readSupers.bl 1).getD (0, [])).2 [(0, (2, 61)), (1, (0, itf)), (2, (0, a))] [] S (rs_P T n c k0 (su_g B 261 k0 f (tp T n 1 (i + 1)) a al l) S) := by
  intro f
  induction f with
  | zero => intro i l a al S h; exact absurd h (Nat.not_lt_zero _)
  | succ f ih =>
    intro i l a al S hf hx hP hk2 hl hnd har
    have hB : zT B T n := hx.1
    have hT : cx_T 163 T n c S := hx.2.1
    have hI : gI S := hx.2.2.1
    have hW : wd_at S 163 64 := hx.2.2.2.1
    have hrw : rw_I S 163 := hx.2.2.2.2.1
    have hwc : 13 ≤ S 163 7 ∧ S 163 7 ≤ 400000 := hx.2.2.2.2.2.1
    have hR : cn_R 261 162 176 181 163 T B S := hx.2.2.2.2.2.2.1
    have hH : S 61 1 = 162 := hx.2.2.2.2.2.2.2
    have hC : w_CL S := hR.2.2.1
    have hN : S 162 2 = B 261 1 := hR.1
    have hN6 : 0 ≤ B 261 1 ∧ B 261 1 ≤ 60 := hR.2.1
    have hpos4 : S 14 4 = (i : Int) := hP.1
    have hg0 : pg T n c i := hP.2
    have hA0 := pg_at hT hg0
    have h16_0 := hA0.1
    have h15_0 := hA0.2.1
    have hpr0 := hA0.2.2
    have hkr0 := kg_rg T n (tp T n 1 i)
    have hcn : (c : Int) ≤ n ∧ n ≤ 65536 := ⟨hT.2.2.2.2.1, hT.2.2.2.2.2.1⟩
    have hRL := hT.2.2.2.2.2.2
    have hl15 : S 14 3 ≤ S 15 (-1) := hRL.1.2
    have hl16 : S 16 (-1) = S 15 (-1) := hRL.2.1
    have hl17 : S 17 (-1) = S 15 (-1) := hRL.2.2.1
    have hc3 : S 14 3 = (c : Int) + 1 := hT.1
    have hic0 : i ≤ c := hg0.1
    have hz6 : zq B (tp T n 1 (i + 1)) 237 6 = lx_tk T n 1 (tp T n 1 (i + 1)) := zT_6 hB
    have hk5 := kg_5 T n (tp T n 1 (i + 1))
    have hl4 := hl.1
    have hll := su_nd_len (by omega) hnd
    have hne := tp_ne (i := i + 1) hB
    refine wa_aload_n (n := 0) rfl ?_
    refine wb_gf4 61 rfl (wy_pr rfl) wt_61 wf_4_0 (v := 14) wl_61_0 ?_
    refine wa_cv 14 rfl (wy_pr rfl) wt_14 (M2 := fun _ => False) rfl at_XR_next ⟨_, rfl⟩ rfl rfl ⟨(Or.inr ⟨wy_pr rfl, fun q => q⟩), trivial, trivial, trivial⟩ trivial (fun _ _ q => False.elim q) (nx_c (S := S) (hx_T hx) (show cx_P T n c (i) S from ⟨(hpos4), hg0⟩) rfl hI (by omega)) (fun oq1 Sq1 hp2 q1 => ?_)
    rcases q1 with ⟨rfl, rfl⟩
    show wJ _ _ _ _ _ _ _ _ _ _
    have hg1 : pg T n c (i + 1) := pg_next hT hg0 (by omega) (by omega)
    have hA1 := pg_at hT hg1
    have h16_1 := hA1.1
    have h15_1 := hA1.2.1
    have hpr1 := hA1.2.2
    have hkr1 := kg_rg T n (tp T n 1 (i + 1))
    have hic1 := hg1.1
    have hlt1 := tp_lt hT hg0 (by omega) (by omega)
    refine wa_aload_n (n := 0) rfl ?_
    refine wb_gf5 61 rfl (wy_pr rfl) wt_61 wf_4_1 (v := 162) ((w_up_slot (by decide)).trans (hH)) (fun r3 => ?_)
    refine wa_aload_n (n := 0) rfl ?_
    refine wa_cv 61 rfl (wy_pr rfl) wt_61 (M2 := fun _ => False) rfl at_XT_wordHere ⟨_, rfl⟩ rfl rfl ⟨(Or.inr ⟨wy_pr rfl, fun q => q⟩), trivial, trivial, trivial⟩ ⟨(Or.inr ⟨wy_pr rfl, fun q => q⟩), trivial⟩ (fun _ _ q => False.elim q) (wh_c (S := (w_up S 14 4 ((i + 1 : Nat) : Int))) (hx_T (hx_up hx (by unfold hx_o; omega))) (show cx_P T n c (i + 1) (w_up S 14 4 ((i + 1 : Nat) : Int)) from ⟨(w_up_same _ _ _ _), hg1⟩) rfl (gI_up hI (by omega) (by omega) (by omega))) (fun oq6 Sq6 hp7 q6 => ?_)
    rcases q6 with ⟨hw4, rfl, rfl⟩ | ⟨hw4, v, rfl, hrz⟩
    · skip
      show wJ _ _ _ _ _ _ _ _ _ _
      show wJ _ _ _ _ _ _ _ ((0, S 17 ((i + 1 : Nat) : Int)) :: _) _ _
      have hnt1 : nt_I S 163 T n (tp T n 1 (i + 1)) (S 17 ((i + 1 : Nat) : Int)) := pg_nt hT hg1 hw4
      have hnv1 := hnt1.2.1
      refine wa_cv 162 rfl (wy_pr rfl) wt_162 (M2 := fun _ => False) rfl at_XO_classTyped ⟨_, rfl⟩ rfl rfl ⟨(Or.inr ⟨wy_pr rfl, fun q => q⟩), trivial, trivial, trivial⟩ trivial (fun _ _ q => False.elim q) (ct_162 (S := (w_up S 14 4 ((i + 1 : Nat) : Int))) (B := B) (p := (tp T n 1 (i + 1))) hB (hx_W (hx_up hx (by unfold hx_o; omega))) (hx_R (hx_up hx (by unfold hx_o; omega))) (show nt_I (w_up S 14 4 ((i + 1 : Nat) : Int)) 163 T n (tp T n 1 (i + 1)) (S 17 ((i + 1 : Nat) : Int)) from hnt1) (by omega)) (fun oq8 Sq8 hp9 q8 => ?_)
      rcases q8 with ⟨rfl, rfl⟩
      show wJ _ _ _ _ _ _ _ _ _ _
      have hch1 := ch_of_rg (zq B (tp T n 1 (i + 1))) 261 (by show B 261 1 ≤ 60; omega)
      have hch1 : -1 ≤ (ch_of (zq B (tp T n 1 (i + 1))) 261) ∧ (ch_of (zq B (tp T n 1 (i + 1))) 261) ≤ 59 ∧ (ch_of (zq B (tp T n 1 (i + 1))) 261) < max (B 261 1) 0 := hch1
      have hct1 : 0 ≤ (ch_of (zq B (tp T n 1 (i + 1))) 261) → S 176 (ch_of (zq B (tp T n 1 (i + 1))) 261) = B 263 (ch_of (zq B (tp T n 1 (i + 1))) 261) := fun z => (hR.2.2.2 _ z (by omega)).1
      refine wa_istore_n (n := 3) rfl ?_
      refine wa_iload_n (n := 3) rfl ?_
      refine wa_iconst ?_
      refine wa_icmpne (w_rg0 (by omega) (by omega)) (w_rg0 (by omega) (by omega)) ⟨_, rfl⟩ (fun c10 => ?_) (fun c10 => ?_)
      · skip
        refine wa_aload_n (n := 0) rfl ?_
        refine wb_gf5 61 rfl (wy_pr rfl) wt_61 wf_4_1 (v := 162) ((w_up_slot (by decide)).trans (hH)) (fun r11 => ?_)
        refine wb_gf4 162 rfl (wy_pr rfl) wt_162 wf_3_1 (v := 175) wl_162_1 ?_
        refine wa_iconst ?_
        refine wb_aald5 175 0 rfl rfl (wy_pr rfl) wt_175 (by rw [show _ = _ from ((w_up_slot (by decide)).trans ((cl_175 hC)))]; omega) wl_175_0 ?_
        refine wa_iload_n (n := 3) rfl ?_
        refine wb_iald 176 rfl (wy_pr rfl) wt_176 (n := 60) ((w_up_slot (by decide)).trans ((cl_176 hC))) (by omega) (by omega) (v := (B 263 (ch_of (zq B (tp T n 1 (i + 1))) 261))) ((w_up_slot (by decide)).trans ((hct1 (by omega)))) (fun r12 => ?_)
        refine wa_ifne (w_rg0 (by omega) (by omega)) ⟨_, rfl⟩ (fun c13 => ?_) (fun c13 => ?_)
        · skip
          refine wa_iconst ?_
          refine wa_fall ⟨_, rfl⟩ ?_
          refine wa_istore (n := 4) rfl ?_
          refine wa_iload (n := 4) rfl ?_
          refine wa_ifeq (w_rg0 (by omega) (by omega)) ⟨_, rfl⟩ (fun c14 => ?_) (fun c14 => ?_)
          · skip
            refine wa_aload_n (n := 0) rfl ?_
            refine wa_iload_n (n := 3) rfl ?_
            refine wa_cv 61 rfl (wy_pr rfl) wt_61 (M2 := fun _ => False) rfl at_XT_isSuper ⟨_, rfl⟩ rfl rfl ⟨trivial, trivial, (Or.inr ⟨wy_pr rfl, fun q => q⟩), trivial, trivial, trivial⟩ trivial (fun _ _ q => False.elim q) (is_c (S := (w_up S 14 4 ((i + 1 : Nat) : Int))) (l := l) (hx_R (hx_up hx (by unfold hx_o; omega))).2.2.1 (show su_I (w_up S 14 4 ((i + 1 : Nat) : Int)) l from hl) ⟨by omega, by omega⟩) (fun oq16 Sq16 hp17 q16 => ?_)
            rcases q16 with ⟨rfl, ⟨rfl, hm15⟩ | ⟨rfl, hm15⟩⟩
            · skip
              show wJ _ _ _ _ _ _ _ _ _ _
              have hmem := hm15
              refine wa_ifeq (w_rg0 (by omega) (by omega)) ⟨_, rfl⟩ (fun c18 => ?_) (fun c18 => ?_)
              · skip
                exact absurd c18 (by omega)
              · skip
                refine wa_fall ⟨_, rfl⟩ ?_
                refine wa_aload_n (n := 0) rfl ?_
                refine wa_iconst ?_
                refine wa_cv 61 rfl (wy_pr rfl) wt_61 (M2 := fun _ => False) rfl at_XT_refuse ⟨_, rfl⟩ rfl rfl ⟨trivial, trivial, (Or.inr ⟨wy_pr rfl, fun q => q⟩), trivial, trivial, trivial⟩ trivial (fun _ _ q => False.elim q) (rf_c (S := (w_up S 14 4 ((i + 1 : Nat) : Int))) (k := 4) (p := (tp T n 1 (i + 1))) (i := ((i + 1 : Nat) : Int)) (gI_up hI (by omega) (by omega) (by omega)) (w_up_same _ _ _ _) ((w_up_slot (by decide)).trans (h16_1)) ⟨by omega, by have e : (w_up S 14 4 ((i + 1 : Nat) : Int)) 16 (-1) = S 16 (-1) := (w_up_slot (by decide)); omega⟩ ⟨by omega, by omega⟩ ⟨by omega, by omega⟩) (fun oq20 Sq20 hp21 q20 => ?_)
                rcases q20 with ⟨v, rfl, rz19⟩
                have hrz := rz19
                have hkind : (4 : Int) = 4 := rfl
                refine ⟨rfl, ?_⟩
                have htwi : tw_l B 261 k0 (ch_of (zq B (tp T n 1 (i + 1))) 261) a l = true ↔ ((B 263 (ch_of (zq B (tp T n 1 (i + 1))) 261) = 0 ∧ (B 263 k0 ≠ 0 ∨ 0 ≤ a)) ∨ (ch_of (zq B (tp T n 1 (i + 1))) 261) ∈ l) := tw_i B 261 k0 (ch_of (zq B (tp T n 1 (i + 1))) 261) a l
                rw [hit.1] at htwi
                have htw : tw_l B 261 k0 (ch_of (zq B (tp T n 1 (i + 1))) 261) a l = true := htwi.2 (by first | exact Or.inr hmem | exact Or.inl ⟨by omega, by omega⟩)
                have hr : su_g B 261 k0 (f + 1) (tp T n 1 (i + 1)) a al l = .inl (4, (tp T n 1 (i + 1))) := by
                  unfold su_g su_1; rw [hz6, if_pos hnt1.1, if_pos (by omega), if_pos htw]
                rw [hr]
                exact ⟨v, _, rfl, (fun j x a1 a2 a3 => (w_up_no (by omega)).trans (rfl)), hrz⟩
            · skip
              show wJ _ _ _ _ _ _ _ _ _ _
              have hmem := hm15
              refine wa_ifeq (w_rg0 (by omega) (by omega)) ⟨_, rfl⟩ (fun c22 => ?_) (fun c22 => ?_)
              · skip
                refine wa_iload (n := 4) rfl ?_
                refine wa_ifeq (w_rg0 (by omega) (by omega)) ⟨_, rfl⟩ (fun c23 => ?_) (fun c23 => ?_)
                · skip
                  refine wa_aload_n (n := 0) rfl ?_
                  refine wb_gf4 61 rfl (wy_pr rfl) wt_61 wf_4_3 (v := 62) wl_61_3 ?_
                  refine wa_aload_n (n := 0) rfl ?_
                  refine wb_gfi 61 rfl (wy_pr rfl) wt_61 wf_4_4 (v := (l.length : Int)) ((w_up_slot (by decide)).trans (hl4)) (fun r24 => ?_)
                  refine wa_iload_n (n := 3) rfl ?_
                  refine wb_iast 62 rfl (wy_pr rfl) wt_62 (n := 60) ((w_up_slot (by decide)).trans ((cl_62 hC))) (by omega) (by omega) ⟨(by omega), (by omega)⟩ ?_
                  refine wa_aload_n (n := 0) rfl ?_
                  refine wa_dup (by decide) ?_
                  refine wb_gfi 61 rfl (wy_pr rfl) wt_61 wf_4_4 (v := (l.length : Int)) ((w_up_slot (by decide)).trans ((w_up_slot (by decide)).trans (hl4))) (fun r25 => ?_)
                  refine wa_iconst ?_
                  refine wa_iadd ?_
                  refine wb_pfi 61 rfl (wy_pr rfl) wt_61 wf_4_4 (n := 4) rfl ⟨(by omega), (by omega)⟩ ?_
                  refine wa_aload_n (n := 0) rfl ?_
                  refine wb_gf4 61 rfl (wy_pr rfl) wt_61 wf_4_0 (v := 14) wl_61_0 ?_
                  refine wa_cv 14 rfl (wy_pr rfl) wt_14 (M2 := fun _ => False) rfl at_XR_next ⟨_, rfl⟩ rfl rfl ⟨trivial, trivial, (Or.inr ⟨wy_pr rfl, fun q => q⟩), trivial, trivial, trivial⟩ trivial (fun _ _ q => False.elim q) (nx_c (S := (w_up (w_up (w_up S 14 4 ((i + 1 : Nat) : Int)) 62 (l.length : Int) (ch_of (zq B (tp T n 1 (i + 1))) 261)) 61 4 ((l.length : Int) + 1))) (hx_T (hx_up (hx_up (hx_up hx (by unfold hx_o; omega)) (by unfold hx_o; omega)) (by unfold hx_o; omega))) (show cx_P T n c (i + 1) (w_up (w_up (w_up S 14 4 ((i + 1 : Nat) : Int)) 62 (l.length : Int) (ch_of (zq B (tp T n 1 (i + 1))) 261)) 61 4 ((l.length : Int) + 1)) from ⟨((w_up_slot (by decide)).trans ((w_up_slot (by decide)).trans (w_up_same _ _ _ _))), hg1⟩) rfl (gI_up (gI_up (gI_up hI (by omega) (by omega) (by omega)) (by omega) (by omega) (by omega)) (by omega) (by omega) (by omega)) (by omega)) (fun oq26 Sq26 hp27 q26 => ?_)
                  rcases q26 with ⟨rfl, rfl⟩
                  show wJ _ _ _ _ _ _ _ _ _ _
                  have hg2 : pg T n c (i + 1 + 1) := pg_next hT hg1 (by omega) (by omega)
                  have hA2 := pg_at hT hg2
                  have h16_2 := hA2.1
                  have h15_2 := hA2.2.1
                  have hpr2 := hA2.2.2
                  have hkr2 := kg_rg T n (tp T n 1 (i + 1 + 1))
                  have hic2 := hg2.1
                  have hlt2 := tp_lt hT hg1 (by omega) (by omega)
                  refine wa_aload_n (n := 0) rfl ?_
                  refine wb_gf4 61 rfl (wy_pr rfl) wt_61 wf_4_0 (v := 14) wl_61_0 ?_
                  refine wa_cv 14 rfl (wy_pr rfl) wt_14 (M2 := fun _ => False) rfl at_XR_kind ⟨_, rfl⟩ rfl rfl ⟨trivial, trivial, (Or.inr ⟨wy_pr rfl, fun q => q⟩), trivial, trivial, trivial⟩ trivial (fun _ _ q => False.elim q) ?_ (fun _ _ _ q => q)
                  refine wa_aload_n (n := 0) rfl ?_
                  refine wb_gf4 14 rfl (wy_pr rfl) wt_14 wf_6_0 (v := 15) wl_14_0 ?_
                  refine wa_aload_n (n := 0) rfl ?_
                  refine wb_gfi 14 rfl (wy_pr rfl) wt_14 wf_6_4 (v := ((i + 1 + 1 : Nat) : Int)) (w_up_same _ _ _ _) (fun r28 => ?_)
                  refine wb_bald 15 rfl (wy_pr rfl) wt_15 (n := (S 15 (-1))) ((w_up_slot (by decide)).trans ((w_up_slot (by decide)).trans ((w_up_slot (by decide)).trans (w_up_slot (by decide))))) (by omega) (by omega) (v := (kg T n (tp T n 1 (i + 1 + 1)))) ((w_up_slot (by decide)).trans ((w_up_slot (by decide)).trans ((w_up_slot (by decide)).trans ((w_up_slot (by decide)).trans (h15_2))))) (fun r29 => ?_)
                  refine wa_ireturn rfl ?_
                  show wJ _ _ _ _ _ _ _ _ _ _
                  refine wa_bipush (w_rg2 (by omega) (by omega)) ?_
                  refine wa_icmpne (w_rg0 (by omega) (by omega)) (w_rg0 (by omega) (by omega)) ⟨_, rfl⟩ (fun c30 => ?_) (fun c30 => ?_)
                  · skip
                    refine wa_iload_n (n := 2) rfl ?_
                    refine wa_ireturn rfl ?_
                    by_cases hk16 : kg T n (tp T n 1 (i + 1 + 1)) = 16
                    · exfalso
                      have hnd2 : (ch_of (zq B (tp T n 1 (i + 1))) 261) ∉ l → su_nd k0 (l ++ [(ch_of (zq B (tp T n 1 (i + 1))) 261)]) := fun z => su_nd_add hnd ⟨by omega, by omega⟩ z
                      have hll2 := su_nd_len (by omega) (hnd2 hmem)
                      rw [List.length_append] at hll2
                      simp only [List.length_cons, List.length_nil] at hll2
                      omega
                    have htwi : tw_l B 261 k0 (ch_of (zq B (tp T n 1 (i + 1))) 261) a l = true ↔ ((B 263 (ch_of (zq B (tp T n 1 (i + 1))) 261) = 0 ∧ (B 263 k0 ≠ 0 ∨ 0 ≤ a)) ∨ (ch_of (zq B (tp T n 1 (i + 1))) 261) ∈ l) := tw_i B 261 k0 (ch_of (zq B (tp T n 1 (i + 1))) 261) a l
                    rw [hit.1] at htwi
                    have htw : ¬ tw_l B 261 k0 (ch_of (zq B (tp T n 1 (i + 1))) 261) a l = true := by
                      rw [htwi]; rintro (z | z)
                      · omega
                      · exact hmem z
                    have ha2 : (if B 263 (ch_of (zq B (tp T n 1 (i + 1))) 261) = 0 then (ch_of (zq B (tp T n 1 (i + 1))) 261) else a) = a := by first | exact if_pos (by omega) | exact if_neg (by omega)
                    have hr : su_g B 261 k0 (f + 1) (tp T n 1 (i + 1)) a al l = su_f B 261 k0 (f + 1) (tp T n 1 (i + 1 + 1)) (l ++ [(ch_of (zq B (tp T n 1 (i + 1))) 261)]) a (wb_lor al (B 267 (ch_of (zq B (tp T n 1 (i + 1))) 261))) := by
                      unfold su_g su_1; rw [hz6, if_pos hnt1.1, if_pos (by omega), if_neg htw]
                      show su_f B 261 k0 (f + 1) (lx_ne (zq B (tp T n 1 (i + 1))) (tp T n 1 (i + 1))) (l ++ [(ch_of (zq B (tp T n 1 (i + 1))) 261)]) (if B 263 (ch_of (zq B (tp T n 1 (i + 1))) 261) = 0 then (ch_of (zq B (tp T n 1 (i + 1))) 261) else a) (wb_lor al (B 267 (ch_of (zq B (tp T n 1 (i + 1))) 261))) = _
                      rw [hne, ha2]
                    have hnd2 : su_nd k0 (l ++ [(ch_of (zq B (tp T n 1 (i + 1))) 261)]) := su_nd_add hnd ⟨by omega, by omega⟩ hmem
                    have hll2 := su_nd_len (by omega) hnd2
                    rw [List.length_append] at hll2
                    simp only [List.length_cons, List.length_nil] at hll2
                    have hsu : su_I (w_up (w_up (w_up (w_up S 14 4 ((i + 1 : Nat) : Int)) 62 (l.length : Int) (ch_of (zq B (tp T n 1 (i + 1))) 261)) 61 4 ((l.length : Int) + 1)) 14 4 ((i + 1 + 1 : Nat) : Int)) (l ++ [(ch_of (zq B (tp T n 1 (i + 1))) 261)]) := su_I_add hl (by omega) (((w_up_slot (by decide)).trans (w_up_same _ _ _ _))) (((w_up_slot (by decide)).trans ((w_up_slot (by decide)).trans (w_up_same _ _ _ _)))) (fun q hq => ((w_up_slot (by decide)).trans ((w_up_slot (by decide)).trans ((w_up_at (by omega)).trans ((w_up_slot (by decide)).trans (rfl))))))
                    have hcm := lx_is_kg (i := i + 1 + 1) hB (k := 16) (ch := 44) (by decide) sk_16
                    rw [hr, su_f_s]
                    rw [if_neg (fun z => hk16 (hcm.1 z))]
                    exact ⟨rfl, (fun j x a1 a2 a3 => (w_up_no (by omega)).trans ((w_up_no (by omega)).trans ((w_up_no (by omega)).trans ((w_up_no (by omega)).trans (rfl))))), ⟨_, (show cx_P T n c (i + 1 + 1) (w_up (w_up (w_up (w_up S 14 4 ((i + 1 : Nat) : Int)) 62 (l.length : Int) (ch_of (zq B (tp T n 1 (i + 1))) 261)) 61 4 ((l.length : Int) + 1)) 14 4 ((i + 1 + 1 : Nat) : Int)) from ⟨(w_up_same _ _ _ _), hg2⟩), rfl⟩, hsu, hnd2, ⟨by omega, by omega⟩⟩
                  · skip
                    refine wa_aload_n (n := 0) rfl ?_
                    refine wb_gfi 61 rfl (wy_pr rfl) wt_61 wf_4_4 (v := ((l.length : Int) + 1)) ((w_up_slot (by decide)).trans (w_up_same _ _ _ _)) (fun r31 => ?_)
                    refine wa_bipush (w_rg2 (by omega) (by omega)) ?_
                    refine wa_icmplt (w_rg0 (by omega) (by omega)) (w_rg0 (by omega) (by omega)) ⟨_, rfl⟩ (fun c32 => ?_) (fun c32 => ?_)
                    · skip
                      have htwi : tw_l B 261 k0 (ch_of (zq B (tp T n 1 (i + 1))) 261) a l = true ↔ ((B 263 (ch_of (zq B (tp T n 1 (i + 1))) 261) = 0 ∧ (B 263 k0 ≠ 0 ∨ 0 ≤ a)) ∨ (ch_of (zq B (tp T n 1 (i + 1))) 261) ∈ l) := tw_i B 261 k0 (ch_of (zq B (tp T n 1 (i + 1))) 261) a l
                      rw [hit.1] at htwi
                      have htw : ¬ tw_l B 261 k0 (ch_of (zq B (tp T n 1 (i + 1))) 261) a l = true := by
                        rw [htwi]; rintro (z | z)
                        · omega
                        · exact hmem z
                      have ha2 : (if B 263 (ch_of (zq B (tp T n 1 (i + 1))) 261) = 0 then (ch_of (zq B (tp T n 1 (i + 1))) 261) else a) = a := by first | exact if_pos (by omega) | exact if_neg (by omega)
                      have hr : su_g B 261 k0 (f + 1) (tp T n 1 (i + 1)) a al l = su_f B 261 k0 (f + 1) (tp T n 1 (i + 1 + 1)) (l ++ [(ch_of (zq B (tp T n 1 (i + 1))) 261)]) a (wb_lor al (B 267 (ch_of (zq B (tp T n 1 (i + 1))) 261))) := by
                        unfold su_g su_1; rw [hz6, if_pos hnt1.1, if_pos (by omega), if_neg htw]
                        show su_f B 261 k0 (f + 1) (lx_ne (zq B (tp T n 1 (i + 1))) (tp T n 1 (i + 1))) (l ++ [(ch_of (zq B (tp T n 1 (i + 1))) 261)]) (if B 263 (ch_of (zq B (tp T n 1 (i + 1))) 261) = 0 then (ch_of (zq B (tp T n 1 (i + 1))) 261) else a) (wb_lor al (B 267 (ch_of (zq B (tp T n 1 (i + 1))) 261))) = _
                        rw [hne, ha2]
                      have hnd2 : su_nd k0 (l ++ [(ch_of (zq B (tp T n 1 (i + 1))) 261)]) := su_nd_add hnd ⟨by omega, by omega⟩ hmem
                      have hll2 := su_nd_len (by omega) hnd2
                      rw [List.length_append] at hll2
                      simp only [List.length_cons, List.length_nil] at hll2
                      have hsu : su_I (w_up (w_up (w_up (w_up S 14 4 ((i + 1 : Nat) : Int)) 62 (l.length : Int) (ch_of (zq B (tp T n 1 (i + 1))) 261)) 61 4 ((l.length : Int) + 1)) 14 4 ((i + 1 + 1 : Nat) : Int)) (l ++ [(ch_of (zq B (tp T n 1 (i + 1))) 261)]) := su_I_add hl (by omega) (((w_up_slot (by decide)).trans (w_up_same _ _ _ _))) (((w_up_slot (by decide)).trans ((w_up_slot (by decide)).trans (w_up_same _ _ _ _)))) (fun q hq => ((w_up_slot (by decide)).trans ((w_up_slot (by decide)).trans ((w_up_at (by omega)).trans ((w_up_slot (by decide)).trans (rfl))))))
                      have hcm := lx_is_kg (i := i + 1 + 1) hB (k := 16) (ch := 44) (by decide) sk_16
                      rw [hr, su_f_s]
                      rw [if_pos (hcm.2 (by omega)), tp_ne (i := i + 1 + 1) hB]
                      have hlt3 := tp_lt hT hg2 (by omega) (by omega)
                      have hpr3 := (pg_at hT (pg_next hT hg2 (by omega) (by omega))).2.2
                      refine wJ_mono (wJ_S (ih (i + 1 + 1) (l ++ [(ch_of (zq B (tp T n 1 (i + 1))) 261)]) a (wb_lor al (B 267 (ch_of (zq B (tp T n 1 (i + 1))) 261))) (w_up (w_up (w_up (w_up S 14 4 ((i + 1 : Nat) : Int)) 62 (l.length : Int) (ch_of (zq B (tp T n 1 (i + 1))) 261)) 61 4 ((l.length : Int) + 1)) 14 4 ((i + 1 + 1 : Nat) : Int)) (by omega) (hx_up (hx_up (hx_up (hx_up hx (by unfold hx_o; omega)) (by unfold hx_o; omega)) (by unfold hx_o; omega)) (by unfold hx_o; omega)) (show cx_P T n c (i + 1 + 1) (w_up (w_up (w_up (w_up S 14 4 ((i + 1 : Nat) : Int)) 62 (l.length : Int) (ch_of (zq B (tp T n 1 (i + 1))) 261)) 61 4 ((l.length : Int) + 1)) 14 4 ((i + 1 + 1 : Nat) : Int)) from ⟨(w_up_same _ _ _ _), hg2⟩) (by omega) hsu hnd2 ⟨by omega, by omega⟩) ⟨rfl, rfl, rfl, trivial⟩) (fun o Z hz => rs_P_tr (fun j x a1 a2 a3 => (w_up_no (by omega)).trans ((w_up_no (by omega)).trans ((w_up_no (by omega)).trans ((w_up_no (by omega)).trans (rfl))))) hz)
                    · skip
                      refine wa_fall ⟨_, rfl⟩ ?_
                      refine wa_iload_n (n := 2) rfl ?_
                      refine wa_ireturn rfl ?_
                      by_cases hk16 : kg T n (tp T n 1 (i + 1 + 1)) = 16
                      · exfalso
                        have hnd2 : (ch_of (zq B (tp T n 1 (i + 1))) 261) ∉ l → su_nd k0 (l ++ [(ch_of (zq B (tp T n 1 (i + 1))) 261)]) := fun z => su_nd_add hnd ⟨by omega, by omega⟩ z
                        have hll2 := su_nd_len (by omega) (hnd2 hmem)
                        rw [List.length_append] at hll2
                        simp only [List.length_cons, List.length_nil] at hll2
                        omega
                      have htwi : tw_l B 261 k0 (ch_of (zq B (tp T n 1 (i + 1))) 261) a l = true ↔ ((B 263 (ch_of (zq B (tp T n 1 (i + 1))) 261) = 0 ∧ (B 263 k0 ≠ 0 ∨ 0 ≤ a)) ∨ (ch_of (zq B (tp T n 1 (i + 1))) 261) ∈ l) := tw_i B 261 k0 (ch_of (zq B (tp T n 1 (i + 1))) 261) a l
                      rw [hit.1] at htwi
                      have htw : ¬ tw_l B 261 k0 (ch_of (zq B (tp T n 1 (i + 1))) 261) a l = true := by
                        rw [htwi]; rintro (z | z)
                        · omega
                        · exact hmem z
                      have ha2 : (if B 263 (ch_of (zq B (tp T n 1 (i + 1))) 261) = 0 then (ch_of (zq B (tp T n 1 (i + 1))) 261) else a) = a := by first | exact if_pos (by omega) | exact if_neg (by omega)
                      have hr : su_g B 261 k0 (f + 1) (tp T n 1 (i + 1)) a al l = su_f B 261 k0 (f + 1) (tp T n 1 (i + 1 + 1)) (l ++ [(ch_of (zq B (tp T n 1 (i + 1))) 261)]) a (wb_lor al (B 267 (ch_of (zq B (tp T n 1 (i + 1))) 261))) := by
                        unfold su_g su_1; rw [hz6, if_pos hnt1.1, if_pos (by omega), if_neg htw]
                        show su_f B 261 k0 (f + 1) (lx_ne (zq B (tp T n 1 (i + 1))) (tp T n 1 (i + 1))) (l ++ [(ch_of (zq B (tp T n 1 (i + 1))) 261)]) (if B 263 (ch_of (zq B (tp T n 1 (i + 1))) 261) = 0 then (ch_of (zq B (tp T n 1 (i + 1))) 261) else a) (wb_lor al (B 267 (ch_of (zq B (tp T n 1 (i + 1))) 261))) = _
                        rw [hne, ha2]
                      have hnd2 : su_nd k0 (l ++ [(ch_of (zq B (tp T n 1 (i + 1))) 261)]) := su_nd_add hnd ⟨by omega, by omega⟩ hmem
                      have hll2 := su_nd_len (by omega) hnd2
                      rw [List.length_append] at hll2
                      simp only [List.length_cons, List.length_nil] at hll2
                      have hsu : su_I (w_up (w_up (w_up (w_up S 14 4 ((i + 1 : Nat) : Int)) 62 (l.length : Int) (ch_of (zq B (tp T n 1 (i + 1))) 261)) 61 4 ((l.length : Int) + 1)) 14 4 ((i + 1 + 1 : Nat) : Int)) (l ++ [(ch_of (zq B (tp T n 1 (i + 1))) 261)]) := su_I_add hl (by omega) (((w_up_slot (by decide)).trans (w_up_same _ _ _ _))) (((w_up_slot (by decide)).trans ((w_up_slot (by decide)).trans (w_up_same _ _ _ _)))) (fun q hq => ((w_up_slot (by decide)).trans ((w_up_slot (by decide)).trans ((w_up_at (by omega)).trans ((w_up_slot (by decide)).trans (rfl))))))
                      have hcm := lx_is_kg (i := i + 1 + 1) hB (k := 16) (ch := 44) (by decide) sk_16
                      rw [hr, su_f_s]
                      rw [if_neg (fun z => hk16 (hcm.1 z))]
                      exact ⟨rfl, (fun j x a1 a2 a3 => (w_up_no (by omega)).trans ((w_up_no (by omega)).trans ((w_up_no (by omega)).trans ((w_up_no (by omega)).trans (rfl))))), ⟨_, (show cx_P T n c (i + 1 + 1) (w_up (w_up (w_up (w_up S 14 4 ((i + 1 : Nat) : Int)) 62 (l.length : Int) (ch_of (zq B (tp T n 1 (i + 1))) 261)) 61 4 ((l.length : Int) + 1)) 14 4 ((i + 1 + 1 : Nat) : Int)) from ⟨(w_up_same _ _ _ _), hg2⟩), rfl⟩, hsu, hnd2, ⟨by omega, by omega⟩⟩
                · skip
                  exact absurd c23 (by omega)
              · skip
                exact absurd c22 (by omega)
          · skip
            exact absurd c14 (by omega)
        · skip
          refine wa_iconst ?_
          refine wa_goto ⟨_, rfl⟩ ?_
          refine wa_istore (n := 4) rfl ?_
          refine wa_iload (n := 4) rfl ?_
          refine wa_ifeq (w_rg0 (by omega) (by omega)) ⟨_, rfl⟩ (fun c33 => ?_) (fun c33 => ?_)
          · skip
            exact absurd c33 (by omega)
          · skip
            refine wa_iload_n (n := 1) rfl ?_
            refine wa_ifne (w_rg0 (by omega) (by omega)) ⟨_, rfl⟩ (fun c34 => ?_) (fun c34 => ?_)
            · skip
              refine wa_aload_n (n := 0) rfl ?_
              refine wa_iconst ?_
              refine wa_cv 61 rfl (wy_pr rfl) wt_61 (M2 := fun _ => False) rfl at_XT_refuse ⟨_, rfl⟩ rfl rfl ⟨trivial, trivial, (Or.inr ⟨wy_pr rfl, fun q => q⟩), trivial, trivial, trivial⟩ trivial (fun _ _ q => False.elim q) (rf_c (S := (w_up S 14 4 ((i + 1 : Nat) : Int))) (k := 4) (p := (tp T n 1 (i + 1))) (i := ((i + 1 : Nat) : Int)) (gI_up hI (by omega) (by omega) (by omega)) (w_up_same _ _ _ _) ((w_up_slot (by decide)).trans (h16_1)) ⟨by omega, by have e : (w_up S 14 4 ((i + 1 : Nat) : Int)) 16 (-1) = S 16 (-1) := (w_up_slot (by decide)); omega⟩ ⟨by omega, by omega⟩ ⟨by omega, by omega⟩) (fun oq36 Sq36 hp37 q36 => ?_)
              rcases q36 with ⟨v, rfl, rz35⟩
              have hrz := rz35
              have hkind : (4 : Int) = 4 := rfl
              refine ⟨rfl, ?_⟩
              have htwi : tw_l B 261 k0 (ch_of (zq B (tp T n 1 (i + 1))) 261) a l = true ↔ ((B 263 (ch_of (zq B (tp T n 1 (i + 1))) 261) = 0 ∧ (B 263 k0 ≠ 0 ∨ 0 ≤ a)) ∨ (ch_of (zq B (tp T n 1 (i + 1))) 261) ∈ l) := tw_i B 261 k0 (ch_of (zq B (tp T n 1 (i + 1))) 261) a l
              rw [hit.1] at htwi
              have htw : tw_l B 261 k0 (ch_of (zq B (tp T n 1 (i + 1))) 261) a l = true := htwi.2 (by first | exact Or.inr hmem | exact Or.inl ⟨by omega, by omega⟩)
              have hr : su_g B 261 k0 (f + 1) (tp T n 1 (i + 1)) a al l = .inl (4, (tp T n 1 (i + 1))) := by
                unfold su_g su_1; rw [hz6, if_pos hnt1.1, if_pos (by omega), if_pos htw]
              rw [hr]
              exact ⟨v, _, rfl, (fun j x a1 a2 a3 => (w_up_no (by omega)).trans (rfl)), hrz⟩
            · skip
              refine wa_iload_n (n := 2) rfl ?_
              refine wa_iconst ?_
              refine wa_icmpne (w_rg0 (by omega) (by omega)) (w_rg0 (by omega) (by omega)) ⟨_, rfl⟩ (fun c38 => ?_) (fun c38 => ?_)
              · skip
                refine wa_aload_n (n := 0) rfl ?_
                refine wa_iconst ?_
                refine wa_cv 61 rfl (wy_pr rfl) wt_61 (M2 := fun _ => False) rfl at_XT_refuse ⟨_, rfl⟩ rfl rfl ⟨trivial, trivial, (Or.inr ⟨wy_pr rfl, fun q => q⟩), trivial, trivial, trivial⟩ trivial (fun _ _ q => False.elim q) (rf_c (S := (w_up S 14 4 ((i + 1 : Nat) : Int))) (k := 4) (p := (tp T n 1 (i + 1))) (i := ((i + 1 : Nat) : Int)) (gI_up hI (by omega) (by omega) (by omega)) (w_up_same _ _ _ _) ((w_up_slot (by decide)).trans (h16_1)) ⟨by omega, by have e : (w_up S 14 4 ((i + 1 : Nat) : Int)) 16 (-1) = S 16 (-1) := (w_up_slot (by decide)); omega⟩ ⟨by omega, by omega⟩ ⟨by omega, by omega⟩) (fun oq40 Sq40 hp41 q40 => ?_)
                rcases q40 with ⟨v, rfl, rz39⟩
                have hrz := rz39
                have hkind : (4 : Int) = 4 := rfl
                refine ⟨rfl, ?_⟩
                have htwi : tw_l B 261 k0 (ch_of (zq B (tp T n 1 (i + 1))) 261) a l = true ↔ ((B 263 (ch_of (zq B (tp T n 1 (i + 1))) 261) = 0 ∧ (B 263 k0 ≠ 0 ∨ 0 ≤ a)) ∨ (ch_of (zq B (tp T n 1 (i + 1))) 261) ∈ l) := tw_i B 261 k0 (ch_of (zq B (tp T n 1 (i + 1))) 261) a l
                rw [hit.1] at htwi
                have htw : tw_l B 261 k0 (ch_of (zq B (tp T n 1 (i + 1))) 261) a l = true := htwi.2 (by first | exact Or.inr hmem | exact Or.inl ⟨by omega, by omega⟩)
                have hr : su_g B 261 k0 (f + 1) (tp T n 1 (i + 1)) a al l = .inl (4, (tp T n 1 (i + 1))) := by
                  unfold su_g su_1; rw [hz6, if_pos hnt1.1, if_pos (by omega), if_pos htw]
                rw [hr]
                exact ⟨v, _, rfl, (fun j x a1 a2 a3 => (w_up_no (by omega)).trans (rfl)), hrz⟩
              · skip
                refine wa_fall ⟨_, rfl⟩ ?_
                refine wa_aload_n (n := 0) rfl ?_
                refine wa_iload_n (n := 3) rfl ?_
                refine wa_cv 61 rfl (wy_pr rfl) wt_61 (M2 := fun _ => False) rfl at_XT_isSuper ⟨_, rfl⟩ rfl rfl ⟨trivial, trivial, (Or.inr ⟨wy_pr rfl, fun q => q⟩), trivial, trivial, trivial⟩ trivial (fun _ _ q => False.elim q) (is_c (S := (w_up S 14 4 ((i + 1 : Nat) : Int))) (l := l) (hx_R (hx_up hx (by unfold hx_o; omega))).2.2.1 (show su_I (w_up S 14 4 ((i + 1 : Nat) : Int)) l from hl) ⟨by omega, by omega⟩) (fun oq43 Sq43 hp44 q43 => ?_)
                rcases q43 with ⟨rfl, ⟨rfl, hm42⟩ | ⟨rfl, hm42⟩⟩
                · skip
                  show wJ _ _ _ _ _ _ _ _ _ _
                  have hmem := hm42
                  refine wa_ifeq (w_rg0 (by omega) (by omega)) ⟨_, rfl⟩ (fun c45 => ?_) (fun c45 => ?_)
                  · skip
                    exact absurd c45 (by omega)
                  · skip
                    refine wa_fall ⟨_, rfl⟩ ?_
                    refine wa_aload_n (n := 0) rfl ?_
                    refine wa_iconst ?_
                    refine wa_cv 61 rfl (wy_pr rfl) wt_61 (M2 := fun _ => False) rfl at_XT_refuse ⟨_, rfl⟩ rfl rfl ⟨trivial, trivial, (Or.inr ⟨wy_pr rfl, fun q => q⟩), trivial, trivial, trivial⟩ trivial (fun _ _ q => False.elim q) (rf_c (S := (w_up S 14 4 ((i + 1 : Nat) : Int))) (k := 4) (p := (tp T n 1 (i + 1))) (i := ((i + 1 : Nat) : Int)) (gI_up hI (by omega) (by omega) (by omega)) (w_up_same _ _ _ _) ((w_up_slot (by decide)).trans (h16_1)) ⟨by omega, by have e : (w_up S 14 4 ((i + 1 : Nat) : Int)) 16 (-1) = S 16 (-1) := (w_up_slot (by decide)); omega⟩ ⟨by omega, by omega⟩ ⟨by omega, by omega⟩) (fun oq47 Sq47 hp48 q47 => ?_)
                    rcases q47 with ⟨v, rfl, rz46⟩
                    have hrz := rz46
                    have hkind : (4 : Int) = 4 := rfl
                    refine ⟨rfl, ?_⟩
                    have htwi : tw_l B 261 k0 (ch_of (zq B (tp T n 1 (i + 1))) 261) a l = true ↔ ((B 263 (ch_of (zq B (tp T n 1 (i + 1))) 261) = 0 ∧ (B 263 k0 ≠ 0 ∨ 0 ≤ a)) ∨ (ch_of (zq B (tp T n 1 (i + 1))) 261) ∈ l) := tw_i B 261 k0 (ch_of (zq B (tp T n 1 (i + 1))) 261) a l
                    rw [hit.1] at htwi
                    have htw : tw_l B 261 k0 (ch_of (zq B (tp T n 1 (i + 1))) 261) a l = true := htwi.2 (by first | exact Or.inr hmem | exact Or.inl ⟨by omega, by omega⟩)
                    have hr : su_g B 261 k0 (f + 1) (tp T n 1 (i + 1)) a al l = .inl (4, (tp T n 1 (i + 1))) := by
                      unfold su_g su_1; rw [hz6, if_pos hnt1.1, if_pos (by omega), if_pos htw]
                    rw [hr]
                    exact ⟨v, _, rfl, (fun j x a1 a2 a3 => (w_up_no (by omega)).trans (rfl)), hrz⟩
                · skip
                  show wJ _ _ _ _ _ _ _ _ _ _
                  have hmem := hm42
                  refine wa_ifeq (w_rg0 (by omega) (by omega)) ⟨_, rfl⟩ (fun c49 => ?_) (fun c49 => ?_)
                  · skip
                    refine wa_iload (n := 4) rfl ?_
                    refine wa_ifeq (w_rg0 (by omega) (by omega)) ⟨_, rfl⟩ (fun c50 => ?_) (fun c50 => ?_)
                    · skip
                      exact absurd c50 (by omega)
                    · skip
                      refine wa_iload_n (n := 3) rfl ?_
                      refine wa_istore_n (n := 2) rfl ?_
                      refine wa_fall ⟨_, rfl⟩ ?_
                      refine wa_aload_n (n := 0) rfl ?_
                      refine wb_gf4 61 rfl (wy_pr rfl) wt_61 wf_4_3 (v := 62) wl_61_3 ?_
                      refine wa_aload_n (n := 0) rfl ?_
                      refine wb_gfi 61 rfl (wy_pr rfl) wt_61 wf_4_4 (v := (l.length : Int)) ((w_up_slot (by decide)).trans (hl4)) (fun r51 => ?_)
                      refine wa_iload_n (n := 3) rfl ?_
                      refine wb_iast 62 rfl (wy_pr rfl) wt_62 (n := 60) ((w_up_slot (by decide)).trans ((cl_62 hC))) (by omega) (by omega) ⟨(by omega), (by omega)⟩ ?_
                      refine wa_aload_n (n := 0) rfl ?_
                      refine wa_dup (by decide) ?_
                      refine wb_gfi 61 rfl (wy_pr rfl) wt_61 wf_4_4 (v := (l.length : Int)) ((w_up_slot (by decide)).trans ((w_up_slot (by decide)).trans (hl4))) (fun r52 => ?_)
                      refine wa_iconst ?_
                      refine wa_iadd ?_
                      refine wb_pfi 61 rfl (wy_pr rfl) wt_61 wf_4_4 (n := 4) rfl ⟨(by omega), (by omega)⟩ ?_
                      refine wa_aload_n (n := 0) rfl ?_
                      refine wb_gf4 61 rfl (wy_pr rfl) wt_61 wf_4_0 (v := 14) wl_61_0 ?_
                      refine wa_cv 14 rfl (wy_pr rfl) wt_14 (M2 := fun _ => False) rfl at_XR_next ⟨_, rfl⟩ rfl rfl ⟨trivial, trivial, trivial, (Or.inr ⟨wy_pr rfl, fun q => q⟩), trivial, trivial⟩ trivial (fun _ _ q => False.elim q) (nx_c (S := (w_up (w_up (w_up S 14 4 ((i + 1 : Nat) : Int)) 62 (l.length : Int) (ch_of (zq B (tp T n 1 (i + 1))) 261)) 61 4 ((l.length : Int) + 1))) (hx_T (hx_up (hx_up (hx_up hx (by unfold hx_o; omega)) (by unfold hx_o; omega)) (by unfold hx_o; omega))) (show cx_P T n c (i + 1) (w_up (w_up (w_up S 14 4 ((i + 1 : Nat) : Int)) 62 (l.length : Int) (ch_of (zq B (tp T n 1 (i + 1))) 261)) 61 4 ((l.length : Int) + 1)) from ⟨((w_up_slot (by decide)).trans ((w_up_slot (by decide)).trans (w_up_same _ _ _ _))), hg1⟩) rfl (gI_up (gI_up (gI_up hI (by omega) (by omega) (by omega)) (by omega) (by omega) (by omega)) (by omega) (by omega) (by omega)) (by omega)) (fun oq53 Sq53 hp54 q53 => ?_)
                      rcases q53 with ⟨rfl, rfl⟩
                      show wJ _ _ _ _ _ _ _ _ _ _
                      have hg2 : pg T n c (i + 1 + 1) := pg_next hT hg1 (by omega) (by omega)
                      have hA2 := pg_at hT hg2
                      have h16_2 := hA2.1
                      have h15_2 := hA2.2.1
                      have hpr2 := hA2.2.2
                      have hkr2 := kg_rg T n (tp T n 1 (i + 1 + 1))
                      have hic2 := hg2.1
                      have hlt2 := tp_lt hT hg1 (by omega) (by omega)
                      refine wa_aload_n (n := 0) rfl ?_
                      refine wb_gf4 61 rfl (wy_pr rfl) wt_61 wf_4_0 (v := 14) wl_61_0 ?_
                      refine wa_cv 14 rfl (wy_pr rfl) wt_14 (M2 := fun _ => False) rfl at_XR_kind ⟨_, rfl⟩ rfl rfl ⟨trivial, trivial, trivial, (Or.inr ⟨wy_pr rfl, fun q => q⟩), trivial, trivial⟩ trivial (fun _ _ q => False.elim q) ?_ (fun _ _ _ q => q)
                      refine wa_aload_n (n := 0) rfl ?_
                      refine wb_gf4 14 rfl (wy_pr rfl) wt_14 wf_6_0 (v := 15) wl_14_0 ?_
                      refine wa_aload_n (n := 0) rfl ?_
                      refine wb_gfi 14 rfl (wy_pr rfl) wt_14 wf_6_4 (v := ((i + 1 + 1 : Nat) : Int)) (w_up_same _ _ _ _) (fun r55 => ?_)
                      refine wb_bald 15 rfl (wy_pr rfl) wt_15 (n := (S 15 (-1))) ((w_up_slot (by decide)).trans ((w_up_slot (by decide)).trans ((w_up_slot (by decide)).trans (w_up_slot (by decide))))) (by omega) (by omega) (v := (kg T n (tp T n 1 (i + 1 + 1)))) ((w_up_slot (by decide)).trans ((w_up_slot (by decide)).trans ((w_up_slot (by decide)).trans ((w_up_slot (by decide)).trans (h15_2))))) (fun r56 => ?_)
                      refine wa_ireturn rfl ?_
                      show wJ _ _ _ _ _ _ _ _ _ _
                      refine wa_bipush (w_rg2 (by omega) (by omega)) ?_
                      refine wa_icmpne (w_rg0 (by omega) (by omega)) (w_rg0 (by omega) (by omega)) ⟨_, rfl⟩ (fun c57 => ?_) (fun c57 => ?_)
                      · skip
                        refine wa_iload_n (n := 2) rfl ?_
                        refine wa_ireturn rfl ?_
                        by_cases hk16 : kg T n (tp T n 1 (i + 1 + 1)) = 16
                        · exfalso
                          have hnd2 : (ch_of (zq B (tp T n 1 (i + 1))) 261) ∉ l → su_nd k0 (l ++ [(ch_of (zq B (tp T n 1 (i + 1))) 261)]) := fun z => su_nd_add hnd ⟨by omega, by omega⟩ z
                          have hll2 := su_nd_len (by omega) (hnd2 hmem)
                          rw [List.length_append] at hll2
                          simp only [List.length_cons, List.length_nil] at hll2
                          omega
                        have htwi : tw_l B 261 k0 (ch_of (zq B (tp T n 1 (i + 1))) 261) a l = true ↔ ((B 263 (ch_of (zq B (tp T n 1 (i + 1))) 261) = 0 ∧ (B 263 k0 ≠ 0 ∨ 0 ≤ a)) ∨ (ch_of (zq B (tp T n 1 (i + 1))) 261) ∈ l) := tw_i B 261 k0 (ch_of (zq B (tp T n 1 (i + 1))) 261) a l
                        rw [hit.1] at htwi
                        have htw : ¬ tw_l B 261 k0 (ch_of (zq B (tp T n 1 (i + 1))) 261) a l = true := by
                          rw [htwi]; rintro (z | z)
                          · omega
                          · exact hmem z
                        have ha2 : (if B 263 (ch_of (zq B (tp T n 1 (i + 1))) 261) = 0 then (ch_of (zq B (tp T n 1 (i + 1))) 261) else a) = (ch_of (zq B (tp T n 1 (i + 1))) 261) := by first | exact if_pos (by omega) | exact if_neg (by omega)
                        have hr : su_g B 261 k0 (f + 1) (tp T n 1 (i + 1)) a al l = su_f B 261 k0 (f + 1) (tp T n 1 (i + 1 + 1)) (l ++ [(ch_of (zq B (tp T n 1 (i + 1))) 261)]) (ch_of (zq B (tp T n 1 (i + 1))) 261) (wb_lor al (B 267 (ch_of (zq B (tp T n 1 (i + 1))) 261))) := by
                          unfold su_g su_1; rw [hz6, if_pos hnt1.1, if_pos (by omega), if_neg htw]
                          show su_f B 261 k0 (f + 1) (lx_ne (zq B (tp T n 1 (i + 1))) (tp T n 1 (i + 1))) (l ++ [(ch_of (zq B (tp T n 1 (i + 1))) 261)]) (if B 263 (ch_of (zq B (tp T n 1 (i + 1))) 261) = 0 then (ch_of (zq B (tp T n 1 (i + 1))) 261) else a) (wb_lor al (B 267 (ch_of (zq B (tp T n 1 (i + 1))) 261))) = _
                          rw [hne, ha2]
                        have hnd2 : su_nd k0 (l ++ [(ch_of (zq B (tp T n 1 (i + 1))) 261)]) := su_nd_add hnd ⟨by omega, by omega⟩ hmem
                        have hll2 := su_nd_len (by omega) hnd2
                        rw [List.length_append] at hll2
                        simp only [List.length_cons, List.length_nil] at hll2
                        have hsu : su_I (w_up (w_up (w_up (w_up S 14 4 ((i + 1 : Nat) : Int)) 62 (l.length : Int) (ch_of (zq B (tp T n 1 (i + 1))) 261)) 61 4 ((l.length : Int) + 1)) 14 4 ((i + 1 + 1 : Nat) : Int)) (l ++ [(ch_of (zq B (tp T n 1 (i + 1))) 261)]) := su_I_add hl (by omega) (((w_up_slot (by decide)).trans (w_up_same _ _ _ _))) (((w_up_slot (by decide)).trans ((w_up_slot (by decide)).trans (w_up_same _ _ _ _)))) (fun q hq => ((w_up_slot (by decide)).trans ((w_up_slot (by decide)).trans ((w_up_at (by omega)).trans ((w_up_slot (by decide)).trans (rfl))))))
                        have hcm := lx_is_kg (i := i + 1 + 1) hB (k := 16) (ch := 44) (by decide) sk_16
                        rw [hr, su_f_s]
                        rw [if_neg (fun z => hk16 (hcm.1 z))]
                        exact ⟨rfl, (fun j x a1 a2 a3 => (w_up_no (by omega)).trans ((w_up_no (by omega)).trans ((w_up_no (by omega)).trans ((w_up_no (by omega)).trans (rfl))))), ⟨_, (show cx_P T n c (i + 1 + 1) (w_up (w_up (w_up (w_up S 14 4 ((i + 1 : Nat) : Int)) 62 (l.length : Int) (ch_of (zq B (tp T n 1 (i + 1))) 261)) 61 4 ((l.length : Int) + 1)) 14 4 ((i + 1 + 1 : Nat) : Int)) from ⟨(w_up_same _ _ _ _), hg2⟩), rfl⟩, hsu, hnd2, ⟨by omega, by omega⟩⟩
                      · skip
                        refine wa_aload_n (n := 0) rfl ?_
                        refine wb_gfi 61 rfl (wy_pr rfl) wt_61 wf_4_4 (v := ((l.length : Int) + 1)) ((w_up_slot (by decide)).trans (w_up_same _ _ _ _)) (fun r58 => ?_)
                        refine wa_bipush (w_rg2 (by omega) (by omega)) ?_
                        refine wa_icmplt (w_rg0 (by omega) (by omega)) (w_rg0 (by omega) (by omega)) ⟨_, rfl⟩ (fun c59 => ?_) (fun c59 => ?_)
                        · skip
                          have htwi : tw_l B 261 k0 (ch_of (zq B (tp T n 1 (i + 1))) 261) a l = true ↔ ((B 263 (ch_of (zq B (tp T n 1 (i + 1))) 261) = 0 ∧ (B 263 k0 ≠ 0 ∨ 0 ≤ a)) ∨ (ch_of (zq B (tp T n 1 (i + 1))) 261) ∈ l) := tw_i B 261 k0 (ch_of (zq B (tp T n 1 (i + 1))) 261) a l
                          rw [hit.1] at htwi
                          have htw : ¬ tw_l B 261 k0 (ch_of (zq B (tp T n 1 (i + 1))) 261) a l = true := by
                            rw [htwi]; rintro (z | z)
                            · omega
                            · exact hmem z
                          have ha2 : (if B 263 (ch_of (zq B (tp T n 1 (i + 1))) 261) = 0 then (ch_of (zq B (tp T n 1 (i + 1))) 261) else a) = (ch_of (zq B (tp T n 1 (i + 1))) 261) := by first | exact if_pos (by omega) | exact if_neg (by omega)
                          have hr : su_g B 261 k0 (f + 1) (tp T n 1 (i + 1)) a al l = su_f B 261 k0 (f + 1) (tp T n 1 (i + 1 + 1)) (l ++ [(ch_of (zq B (tp T n 1 (i + 1))) 261)]) (ch_of (zq B (tp T n 1 (i + 1))) 261) (wb_lor al (B 267 (ch_of (zq B (tp T n 1 (i + 1))) 261))) := by
                            unfold su_g su_1; rw [hz6, if_pos hnt1.1, if_pos (by omega), if_neg htw]
                            show su_f B 261 k0 (f + 1) (lx_ne (zq B (tp T n 1 (i + 1))) (tp T n 1 (i + 1))) (l ++ [(ch_of (zq B (tp T n 1 (i + 1))) 261)]) (if B 263 (ch_of (zq B (tp T n 1 (i + 1))) 261) = 0 then (ch_of (zq B (tp T n 1 (i + 1))) 261) else a) (wb_lor al (B 267 (ch_of (zq B (tp T n 1 (i + 1))) 261))) = _
                            rw [hne, ha2]
                          have hnd2 : su_nd k0 (l ++ [(ch_of (zq B (tp T n 1 (i + 1))) 261)]) := su_nd_add hnd ⟨by omega, by omega⟩ hmem
                          have hll2 := su_nd_len (by omega) hnd2
                          rw [List.length_append] at hll2
                          simp only [List.length_cons, List.length_nil] at hll2
                          have hsu : su_I (w_up (w_up (w_up (w_up S 14 4 ((i + 1 : Nat) : Int)) 62 (l.length : Int) (ch_of (zq B (tp T n 1 (i + 1))) 261)) 61 4 ((l.length : Int) + 1)) 14 4 ((i + 1 + 1 : Nat) : Int)) (l ++ [(ch_of (zq B (tp T n 1 (i + 1))) 261)]) := su_I_add hl (by omega) (((w_up_slot (by decide)).trans (w_up_same _ _ _ _))) (((w_up_slot (by decide)).trans ((w_up_slot (by decide)).trans (w_up_same _ _ _ _)))) (fun q hq => ((w_up_slot (by decide)).trans ((w_up_slot (by decide)).trans ((w_up_at (by omega)).trans ((w_up_slot (by decide)).trans (rfl))))))
                          have hcm := lx_is_kg (i := i + 1 + 1) hB (k := 16) (ch := 44) (by decide) sk_16
                          rw [hr, su_f_s]
                          rw [if_pos (hcm.2 (by omega)), tp_ne (i := i + 1 + 1) hB]
                          have hlt3 := tp_lt hT hg2 (by omega) (by omega)
                          have hpr3 := (pg_at hT (pg_next hT hg2 (by omega) (by omega))).2.2
                          refine wJ_mono (wJ_S (ih (i + 1 + 1) (l ++ [(ch_of (zq B (tp T n 1 (i + 1))) 261)]) (ch_of (zq B (tp T n 1 (i + 1))) 261) (wb_lor al (B 267 (ch_of (zq B (tp T n 1 (i + 1))) 261))) (w_up (w_up (w_up (w_up S 14 4 ((i + 1 : Nat) : Int)) 62 (l.length : Int) (ch_of (zq B (tp T n 1 (i + 1))) 261)) 61 4 ((l.length : Int) + 1)) 14 4 ((i + 1 + 1 : Nat) : Int)) (by omega) (hx_up (hx_up (hx_up (hx_up hx (by unfold hx_o; omega)) (by unfold hx_o; omega)) (by unfold hx_o; omega)) (by unfold hx_o; omega)) (show cx_P T n c (i + 1 + 1) (w_up (w_up (w_up (w_up S 14 4 ((i + 1 : Nat) : Int)) 62 (l.length : Int) (ch_of (zq B (tp T n 1 (i + 1))) 261)) 61 4 ((l.length : Int) + 1)) 14 4 ((i + 1 + 1 : Nat) : Int)) from ⟨(w_up_same _ _ _ _), hg2⟩) (by omega) hsu hnd2 ⟨by omega, by omega⟩) ⟨rfl, rfl, rfl, trivial⟩) (fun o Z hz => rs_P_tr (fun j x a1 a2 a3 => (w_up_no (by omega)).trans ((w_up_no (by omega)).trans ((w_up_no (by omega)).trans ((w_up_no (by omega)).trans (rfl))))) hz)
                        · skip
                          refine wa_fall ⟨_, rfl⟩ ?_
                          refine wa_iload_n (n := 2) rfl ?_
                          refine wa_ireturn rfl ?_
                          by_cases hk16 : kg T n (tp T n 1 (i + 1 + 1)) = 16
                          · exfalso
                            have hnd2 : (ch_of (zq B (tp T n 1 (i + 1))) 261) ∉ l → su_nd k0 (l ++ [(ch_of (zq B (tp T n 1 (i + 1))) 261)]) := fun z => su_nd_add hnd ⟨by omega, by omega⟩ z
                            have hll2 := su_nd_len (by omega) (hnd2 hmem)
                            rw [List.length_append] at hll2
                            simp only [List.length_cons, List.length_nil] at hll2
                            omega
                          have htwi : tw_l B 261 k0 (ch_of (zq B (tp T n 1 (i + 1))) 261) a l = true ↔ ((B 263 (ch_of (zq B (tp T n 1 (i + 1))) 261) = 0 ∧ (B 263 k0 ≠ 0 ∨ 0 ≤ a)) ∨ (ch_of (zq B (tp T n 1 (i + 1))) 261) ∈ l) := tw_i B 261 k0 (ch_of (zq B (tp T n 1 (i + 1))) 261) a l
                          rw [hit.1] at htwi
                          have htw : ¬ tw_l B 261 k0 (ch_of (zq B (tp T n 1 (i + 1))) 261) a l = true := by
                            rw [htwi]; rintro (z | z)
                            · omega
                            · exact hmem z
                          have ha2 : (if B 263 (ch_of (zq B (tp T n 1 (i + 1))) 261) = 0 then (ch_of (zq B (tp T n 1 (i + 1))) 261) else a) = (ch_of (zq B (tp T n 1 (i + 1))) 261) := by first | exact if_pos (by omega) | exact if_neg (by omega)
                          have hr : su_g B 261 k0 (f + 1) (tp T n 1 (i + 1)) a al l = su_f B 261 k0 (f + 1) (tp T n 1 (i + 1 + 1)) (l ++ [(ch_of (zq B (tp T n 1 (i + 1))) 261)]) (ch_of (zq B (tp T n 1 (i + 1))) 261) (wb_lor al (B 267 (ch_of (zq B (tp T n 1 (i + 1))) 261))) := by
                            unfold su_g su_1; rw [hz6, if_pos hnt1.1, if_pos (by omega), if_neg htw]
                            show su_f B 261 k0 (f + 1) (lx_ne (zq B (tp T n 1 (i + 1))) (tp T n 1 (i + 1))) (l ++ [(ch_of (zq B (tp T n 1 (i + 1))) 261)]) (if B 263 (ch_of (zq B (tp T n 1 (i + 1))) 261) = 0 then (ch_of (zq B (tp T n 1 (i + 1))) 261) else a) (wb_lor al (B 267 (ch_of (zq B (tp T n 1 (i + 1))) 261))) = _
                            rw [hne, ha2]
                          have hnd2 : su_nd k0 (l ++ [(ch_of (zq B (tp T n 1 (i + 1))) 261)]) := su_nd_add hnd ⟨by omega, by omega⟩ hmem
                          have hll2 := su_nd_len (by omega) hnd2
                          rw [List.length_append] at hll2
                          simp only [List.length_cons, List.length_nil] at hll2
                          have hsu : su_I (w_up (w_up (w_up (w_up S 14 4 ((i + 1 : Nat) : Int)) 62 (l.length : Int) (ch_of (zq B (tp T n 1 (i + 1))) 261)) 61 4 ((l.length : Int) + 1)) 14 4 ((i + 1 + 1 : Nat) : Int)) (l ++ [(ch_of (zq B (tp T n 1 (i + 1))) 261)]) := su_I_add hl (by omega) (((w_up_slot (by decide)).trans (w_up_same _ _ _ _))) (((w_up_slot (by decide)).trans ((w_up_slot (by decide)).trans (w_up_same _ _ _ _)))) (fun q hq => ((w_up_slot (by decide)).trans ((w_up_slot (by decide)).trans ((w_up_at (by omega)).trans ((w_up_slot (by decide)).trans (rfl))))))
                          have hcm := lx_is_kg (i := i + 1 + 1) hB (k := 16) (ch := 44) (by decide) sk_16
                          rw [hr, su_f_s]
                          rw [if_neg (fun z => hk16 (hcm.1 z))]
                          exact ⟨rfl, (fun j x a1 a2 a3 => (w_up_no (by omega)).trans ((w_up_no (by omega)).trans ((w_up_no (by omega)).trans ((w_up_no (by omega)).trans (rfl))))), ⟨_, (show cx_P T n c (i + 1 + 1) (w_up (w_up (w_up (w_up S 14 4 ((i + 1 : Nat) : Int)) 62 (l.length : Int) (ch_of (zq B (tp T n 1 (i + 1))) 261)) 61 4 ((l.length : Int) + 1)) 14 4 ((i + 1 + 1 : Nat) : Int)) from ⟨(w_up_same _ _ _ _), hg2⟩), rfl⟩, hsu, hnd2, ⟨by omega, by omega⟩⟩
                  · skip
                    exact absurd c49 (by omega)
      · skip
        refine wa_aload_n (n := 0) rfl ?_
        refine wa_iconst ?_
        refine wa_cv 61 rfl (wy_pr rfl) wt_61 (M2 := fun _ => False) rfl at_XT_refuse ⟨_, rfl⟩ rfl rfl ⟨trivial, (Or.inr ⟨wy_pr rfl, fun q => q⟩), trivial, trivial, trivial⟩ trivial (fun _ _ q => False.elim q) (rf_c (S := (w_up S 14 4 ((i + 1 : Nat) : Int))) (k := 3) (p := (tp T n 1 (i + 1))) (i := ((i + 1 : Nat) : Int)) (gI_up hI (by omega) (by omega) (by omega)) (w_up_same _ _ _ _) ((w_up_slot (by decide)).trans (h16_1)) ⟨by omega, by have e : (w_up S 14 4 ((i + 1 : Nat) : Int)) 16 (-1) = S 16 (-1) := (w_up_slot (by decide)); omega⟩ ⟨by omega, by omega⟩ ⟨by omega, by omega⟩) (fun oq61 Sq61 hp62 q61 => ?_)
        rcases q61 with ⟨v, rfl, rz60⟩
        have hrz := rz60
        have hkind : (3 : Int) = 3 := rfl
        refine ⟨rfl, ?_⟩
        have hr : su_g B 261 k0 (f + 1) (tp T n 1 (i + 1)) a al l = .inl (3, (tp T n 1 (i + 1))) := by
          unfold su_g su_1; rw [hz6, if_pos hnt1.1, if_neg (by omega)]
        rw [hr]
        exact ⟨v, _, rfl, (fun j x a1 a2 a3 => (w_up_no (by omega)).trans (rfl)), hrz⟩
    · skip
      have hkg := hw4
      refine ⟨rfl, ?_⟩
      have hr : su_g B 261 k0 (f + 1) (tp T n 1 (i + 1)) a al l = .inl (1, (tp T n 1 (i + 1))) := by
        unfold su_g su_1; rw [hz6, if_neg (fun z => hkg (hk5.2 z))]
      rw [hr]
      exact ⟨v, _, rfl, (fun j x a1 a2 a3 => (w_up_no (by omega)).trans (rfl)), hrz⟩
theorem rs_162 {k0 itf : Int} (hk0 : B 261 1 = k0 ∧ k0 < 60) (hit : B 263 k0 = itf ∧ (itf = 0 ∨ itf = 1)) (hb3 : B 264 k0 = -1) (hx : hx_I 261 162 176 181 163 T n c B S) (hP : cx_P T n c i S) (hk2 : 2 ≤ kg T n (tp T n 1 i)) (h4 : S 61 4 = 0) : wJ (pe_GA xs) wY0 M (d + 9) t_XT_readSupers ((pe_at t_XT_readSupers.bl 0).getD (0, [])).2 [(0, (2, 61)), (1, (0, itf))] [] S (rs_P T n c k0 (su_a B 261 k0 (tp T n 1 (i + 1))) S) := by
  have hB4 : B 237 4 = n := hx.1.2.1
  rw [su_g_a, hB4, hb3]
  refine wa_iconst ?_
  refine wa_istore_n (n := 2) rfl ?_
  refine wa_fall ⟨_, rfl⟩ ?_
  exact wJ_S (rs_l_162 hk0 hit ((n - tp T n 1 (i + 1)).toNat + 1) i [] (-1) (B 267 k0) S (by omega) hx hP hk2 ⟨h4, by decide, fun k hk => absurd hk (Nat.not_lt_zero _)⟩ ⟨List.nodup_nil, fun x hx => absurd hx (List.not_mem_nil)⟩ ⟨by omega, by omega⟩) ⟨rfl, rfl, rfl, trivial⟩
end W9m
