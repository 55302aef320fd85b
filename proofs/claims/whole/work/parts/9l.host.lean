/-! PART 9l: the class's reader of hosts: what it knows; typeHere, isSuper, readSupers. -/
section W9l
variable {xs : List (Nat × List Int32)} {M : Nat → Prop} {d : Nat} {A B C S Z : wS} {Q : wO → wS → Prop} {T : Int → Int} {n : Int} {c i : Nat}
/-- no fault among the first i tokens -/
def pg (T : Int → Int) (n : Int) (c i : Nat) : Prop := i ≤ c ∧ ∀ k : Nat, k < i → lx_tk T n 1 (tp T n 1 k) ≠ 5
theorem pg_at {w : Nat} (hT : cx_T w T n c S) (hg : pg T n c i) : S 16 (i : Int) = tp T n 1 i ∧ S 15 (i : Int) = kg T n (tp T n 1 i) ∧ 0 ≤ tp T n 1 i ∧ tp T n 1 i ≤ n := by
  by_cases hic : i < c
  · obtain ⟨a1, a2, a3, a4, -⟩ := (hT.2.1 i hic).1
    exact ⟨a3, by rw [a4]; exact (if_neg (by omega)).symm, a2, by omega⟩
  · have hi : i = c := by have := hg.1; omega
    subst hi
    rcases hT.2.2.2.1 with h | ⟨k, k1, k2⟩
    · have := hT.2.2.2.2.1
      exact ⟨hT.2.2.1.1.trans h.symm, hT.2.2.1.2.trans (by rw [h]; exact (if_pos (Int.le_refl _)).symm), by omega, by omega⟩
    · exact absurd k2 (hg.2 k (by omega))
theorem pg_lt {w : Nat} (hT : cx_T w T n c S) (hg : pg T n c i) (h : kg T n (tp T n 1 i) ≠ 0) : i < c := by
  by_cases hic : i < c
  · exact hic
  · exfalso
    have hi : i = c := by have := hg.1; omega
    subst hi
    rcases hT.2.2.2.1 with h' | ⟨k, k1, k2⟩
    · exact h ((kg_0 T n _).2 (by omega))
    · exact absurd k2 (hg.2 k (by omega))
theorem pg_next {w : Nat} (hT : cx_T w T n c S) (hg : pg T n c i) (h0 : kg T n (tp T n 1 i) ≠ 0) (h1 : kg T n (tp T n 1 i) ≠ 1) : pg T n c (i + 1) := by
  have := pg_lt hT hg h0
  refine ⟨by omega, fun k hk => ?_⟩
  by_cases hki : k = i
  · subst hki
    exact fun q => h1 ((kg_1 T n _).2 q)
  · exact hg.2 k (by omega)
theorem pg_nt {w : Nat} (hT : cx_T w T n c S) (hg : pg T n c i) (h : kg T n (tp T n 1 i) = 5) : nt_I S w T n (tp T n 1 i) (S 17 (i : Int)) := by
  have h1 := (kg_5 T n _).1 h
  exact ⟨h1, (hT.2.1 i (pg_lt hT hg (by omega))).1.2.2.2.2 h1⟩
theorem tp_lt {w : Nat} (hT : cx_T w T n c S) (hg : pg T n c i) (h0 : kg T n (tp T n 1 i) ≠ 0) (h1 : kg T n (tp T n 1 i) ≠ 1) : tp T n 1 i < tp T n 1 (i + 1) := by
  have hp : tp T n 1 i < n := by have := mt (kg_0 T n (tp T n 1 i)).2 h0; omega
  have h2 := lx_en_gx (T := T) (n := n) (h := 1) hp (fun q => h1 ((kg_1 T n _).2 q))
  have h3 := (lx_en_le (T := T) (n := n) (h := 1) (p := tp T n 1 i) (by omega)).2.1 (fun q => h1 ((kg_1 T n _).2 q))
  have h4 := lx_bl_rg T n ((n - lx_en T n 1 (tp T n 1 i)).toNat + 1) (lx_en T n 1 (tp T n 1 i)) h3
  have h5 : lx_en T n 1 (tp T n 1 i) ≤ tp T n 1 (i + 1) := h4.1
  omega
theorem tp_ne (hB : zT B T n) : lx_ne (zq B (tp T n 1 i)) (tp T n 1 i) = tp T n 1 (i + 1) := zT_ne hB
/-- what the reader of hosts knows -/
def hx_I (b ho t0 t5 w : Nat) (T : Int → Int) (n : Int) (c : Nat) (B S : wS) : Prop := zT B T n ∧ cx_T w T n c S ∧ gI S ∧ wd_at S w 64 ∧ rw_I S w ∧ (13 ≤ S w 7 ∧ S w 7 ≤ 400000) ∧ cn_R b ho t0 t5 w T B S ∧ S 61 1 = (ho : Int)
theorem hx_T {b ho t0 t5 w : Nat} (h : hx_I b ho t0 t5 w T n c B S) : cx_T w T n c S := h.2.1
theorem hx_W {b ho t0 t5 w : Nat} (h : hx_I b ho t0 t5 w T n c B S) : wd_at S w 64 := h.2.2.2.1
theorem hx_R {b ho t0 t5 w : Nat} (h : hx_I b ho t0 t5 w T n c B S) : cn_R b ho t0 t5 w T B S := h.2.2.2.2.2.2.1
/-- a slot that doesn't matter to it -/
def hx_o (ho t0 t5 w j : Nat) (i x : Int) : Prop := 0 ≤ i ∧ 18 < w ∧ (j ≠ 14 ∨ (i ≠ 3 ∧ i ≠ 5)) ∧ (j < 15 ∨ 17 < j) ∧ (j < w ∨ w + 10 < j) ∧ j ≠ t0 ∧ j ≠ t5 ∧ (j ≠ ho ∨ i ≠ 2) ∧ (j ≠ 61 ∨ i ≠ 1) ∧ (j ≠ 238 ∨ 5 ≤ i)
theorem hx_ag {b ho t0 t5 w : Nat} (h : hx_I b ho t0 t5 w T n c B S) (hw : 18 < w) (e3 : Z 14 3 = S 14 3) (eg : gI Z) (er : ∀ j : Nat, (j = 15 ∨ j = 16 ∨ j = 17 ∨ (w ≤ j ∧ j ≤ w + 10) ∨ j = t0 ∨ j = t5) → Z j = S j) (e2 : Z ho 2 = S ho 2) (e1 : Z 61 1 = S 61 1) (ec : w_CL Z) : hx_I b ho t0 t5 w T n c B Z := by
  obtain ⟨h1, h2, h3, h4, h5, h6, h7, h8⟩ := h
  have ew := er w (by omega)
  have ew1 := er (w + 1) (by omega)
  have ew2 := er (w + 2) (by omega)
  have ew3 := er (w + 3) (by omega)
  refine ⟨h1, cx_T_ag hw h2 e3 (fun j hj => er j (by omega)), eg, wd_at_ag h4 (fun x hx => er (w + x) (by omega)), ?_, by rw [ew]; exact h6, ?_, e1.trans h8⟩
  · unfold rw_I
    rw [ew1, ew2, ew3]; exact h5
  · refine ⟨e2.trans h7.1, h7.2.1, ec, ?_⟩
    rw [er t0 (by omega), er t5 (by omega), ew, ew1, ew2, ew3]
    exact h7.2.2.2
theorem hx_up {b ho t0 t5 w j : Nat} {k x : Int} (h : hx_I b ho t0 t5 w T n c B S) (ho0 : hx_o ho t0 t5 w j k x) : hx_I b ho t0 t5 w T n c B (w_up S j k x) := by
  obtain ⟨o1, o2, o3, o4, o5, o6, o7, o8, o9, o10⟩ := ho0
  exact hx_ag h o2 (w_up_no (by omega)) (gI_up h.2.2.1 o1 o10 (by omega)) (fun q hq => w_up_row (by omega)) (w_up_no (by omega)) (w_up_no (by omega)) (w_CL_up h.2.2.2.2.2.2.1.2.2.1 o1)
/-- a type at p, as the class's reader finds it: its number, or a fault -/
def ty_c (B : wS) (b : Nat) (p : Int) : Int ⊕ Int := if zq B p 237 6 = 1 then (if 0 ≤ pl_of (zq B p) tx_27 then .inr (pl_of (zq B p) tx_27) else if 0 ≤ ch_of (zq B p) b then .inr (9 + ch_of (zq B p) b) else .inl 3) else .inl 1
theorem th_73 (hx : hx_I 241 73 87 92 74 T n c B S) (hP : cx_P T n c i S) : wJ (pe_GA xs) wY0 M (d + 8) t_XT_typeHere ((pe_at t_XT_typeHere.bl 0).getD (0, [])).2 [(0, (2, 61))] [] S (fun o Z => (∃ y : Int, ty_c B 241 (tp T n 1 i) = .inr y ∧ o = .inl (some (0, y)) ∧ (kg T n (tp T n 1 i) = 5 ∧ 0 ≤ y ∧ y ≤ 68) ∧ S = Z) ∨ (∃ e : Int, ty_c B 241 (tp T n 1 i) = .inl e ∧ ∃ v : Nat, o = .inr v ∧ rz_ag S Z v (e + 16 * tp T n 1 i))) := by
  have hB : zT B T n := hx.1
  have hT : cx_T 74 T n c S := hx.2.1
  have hI : gI S := hx.2.2.1
  have hW : wd_at S 74 64 := hx.2.2.2.1
  have hrw : rw_I S 74 := hx.2.2.2.2.1
  have hwc : 13 ≤ S 74 7 ∧ S 74 7 ≤ 400000 := hx.2.2.2.2.2.1
  have hR : cn_R 241 73 87 92 74 T B S := hx.2.2.2.2.2.2.1
  have hH : S 61 1 = 73 := hx.2.2.2.2.2.2.2
  have hC : w_CL S := hR.2.2.1
  have hN : S 73 2 = B 241 1 := hR.1
  have hN6 : 0 ≤ B 241 1 ∧ B 241 1 ≤ 60 := hR.2.1
  have hpos4 : S 14 4 = (i : Int) := hP.1
  have hg0 : pg T n c i := hP.2
  have hA0 := pg_at hT hg0
  have h16_0 := hA0.1
  have h15_0 := hA0.2.1
  have hpr0 := hA0.2.2
  have hkr0 := kg_rg T n (tp T n 1 i)
  have hcn : (c : Int) ≤ n ∧ n ≤ 65536 := ⟨hT.2.2.2.2.1, hT.2.2.2.2.2.1⟩
  have hRL := hT.2.2.2.2.2.2
  have hl15 : S 14 3 ≤ S 15 (-1) := hRL.1.2
  have hl16 : S 16 (-1) = S 15 (-1) := hRL.2.1
  have hl17 : S 17 (-1) = S 15 (-1) := hRL.2.2.1
  have hc3 : S 14 3 = (c : Int) + 1 := hT.1
  have hic0 : i ≤ c := hg0.1
  have hk5 := kg_5 T n (tp T n 1 i)
  have hz6 : zq B (tp T n 1 i) 237 6 = lx_tk T n 1 (tp T n 1 i) := zT_6 hB
  refine wa_aload_n (n := 0) rfl ?_
  refine wa_cv 61 rfl (wy_pr rfl) wt_61 (M2 := fun _ => False) rfl at_XT_wordHere ⟨_, rfl⟩ rfl rfl ⟨(Or.inr ⟨wy_pr rfl, fun q => q⟩), trivial⟩ trivial (fun _ _ q => False.elim q) (wh_c (S := S) (hx_T hx) (show cx_P T n c (i) S from ⟨(hpos4), hg0⟩) rfl hI) (fun oq3 Sq3 hp4 q3 => ?_)
  rcases q3 with ⟨hw1, rfl, rfl⟩ | ⟨hw1, v, rfl, hrz⟩
  · skip
    show wJ _ _ _ _ _ _ _ _ _ _
    have hnt0 : nt_I S 74 T n (tp T n 1 i) (S 17 (i : Int)) := pg_nt hT hg0 hw1
    have hnv0 := hnt0.2.1
    refine wa_istore_n (n := 1) rfl ?_
    refine wa_iload_n (n := 1) rfl ?_
    refine wa_bipush (w_rg2 (by omega) (by omega)) ?_
    refine wa_icmpgt (w_rg0 (by omega) (by omega)) (w_rg0 (by omega) (by omega)) ⟨_, rfl⟩ (fun c5 => ?_) (fun c5 => ?_)
    · skip
      refine wa_aload_n (n := 0) rfl ?_
      refine wb_gf5 61 rfl (wy_pr rfl) wt_61 wf_4_1 (v := 73) (hH) (fun r6 => ?_)
      refine wa_iload_n (n := 1) rfl ?_
      refine wa_cv 73 rfl (wy_pr rfl) wt_73 (M2 := fun _ => False) rfl at_XO_classTyped ⟨_, rfl⟩ rfl rfl ⟨trivial, (Or.inr ⟨wy_pr rfl, fun q => q⟩), trivial⟩ trivial (fun _ _ q => False.elim q) (ct_73 (S := S) (B := B) (p := (tp T n 1 i)) hB (hx_W hx) (hx_R hx) (show nt_I S 74 T n (tp T n 1 i) (S 17 (i : Int)) from hnt0) (by omega)) (fun oq7 Sq7 hp8 q7 => ?_)
      rcases q7 with ⟨rfl, rfl⟩
      show wJ _ _ _ _ _ _ _ _ _ _
      have hch0 := ch_of_rg (zq B (tp T n 1 i)) 241 (by show B 241 1 ≤ 60; omega)
      have hch0 : -1 ≤ (ch_of (zq B (tp T n 1 i)) 241) ∧ (ch_of (zq B (tp T n 1 i)) 241) ≤ 59 ∧ (ch_of (zq B (tp T n 1 i)) 241) < max (B 241 1) 0 := hch0
      have hct0 : 0 ≤ (ch_of (zq B (tp T n 1 i)) 241) → S 87 (ch_of (zq B (tp T n 1 i)) 241) = B 243 (ch_of (zq B (tp T n 1 i)) 241) := fun z => (hR.2.2.2 _ z (by omega)).1
      refine wa_istore_n (n := 2) rfl ?_
      refine wa_iload_n (n := 2) rfl ?_
      refine wa_iconst ?_
      refine wa_icmpne (w_rg0 (by omega) (by omega)) (w_rg0 (by omega) (by omega)) ⟨_, rfl⟩ (fun c9 => ?_) (fun c9 => ?_)
      · skip
        refine wa_bipush (w_rg2 (by omega) (by omega)) ?_
        refine wa_iload_n (n := 2) rfl ?_
        refine wa_iadd ?_
        refine wa_ireturn rfl ?_
        refine Or.inl ⟨_, ?_, rfl, ⟨hk5.2 hnt0.1, by omega, by omega⟩, rfl⟩
        have hpl : pl_of (zq B (tp T n 1 i)) tx_27 = -1 := by rw [pl_27_k hB hW hrw hwc.1 hnt0, if_neg (by omega)]
        unfold ty_c; rw [hz6, if_pos hnt0.1, hpl, if_neg (by omega), if_pos (by omega)]
      · skip
        refine wa_aload_n (n := 0) rfl ?_
        refine wa_iconst ?_
        refine wa_cv 61 rfl (wy_pr rfl) wt_61 (M2 := fun _ => False) rfl at_XT_refuse ⟨_, rfl⟩ rfl rfl ⟨trivial, trivial, (Or.inr ⟨wy_pr rfl, fun q => q⟩), trivial⟩ trivial (fun _ _ q => False.elim q) (rf_c (S := S) (k := 3) (p := (tp T n 1 i)) (i := (i : Int)) hI (hpos4) (h16_0) ⟨by omega, by have e : S 16 (-1) = S 16 (-1) := rfl; omega⟩ ⟨by omega, by omega⟩ ⟨by omega, by omega⟩) (fun oq11 Sq11 hp12 q11 => ?_)
        rcases q11 with ⟨v, rfl, rz10⟩
        have hrz := rz10
        have hkind : (3 : Int) = 3 := rfl
        refine ⟨rfl, ?_⟩
        have hpl : pl_of (zq B (tp T n 1 i)) tx_27 = -1 := by rw [pl_27_k hB hW hrw hwc.1 hnt0, if_neg (by omega)]
        exact Or.inr ⟨3, by unfold ty_c; rw [hz6, if_pos hnt0.1, hpl, if_neg (by omega), if_neg (by omega)], v, rfl, hrz⟩
    · skip
      refine wa_iload_n (n := 1) rfl ?_
      refine wa_ireturn rfl ?_
      refine Or.inl ⟨_, ?_, rfl, ⟨hk5.2 hnt0.1, by omega, by omega⟩, rfl⟩
      have hpl : pl_of (zq B (tp T n 1 i)) tx_27 = S 17 (i : Int) := by rw [pl_27_k hB hW hrw hwc.1 hnt0, if_pos (by omega)]
      unfold ty_c; rw [hz6, if_pos hnt0.1, hpl, if_pos (by omega)]
  · skip
    have hkg := hw1
    refine ⟨rfl, ?_⟩
    exact Or.inr ⟨1, by unfold ty_c; rw [hz6, if_neg (fun z => hkg (hk5.2 z))], v, rfl, hrz⟩
theorem th_162 (hx : hx_I 261 162 176 181 163 T n c B S) (hP : cx_P T n c i S) : wJ (pe_GA xs) wY0 M (d + 8) t_XT_typeHere ((pe_at t_XT_typeHere.bl 0).getD (0, [])).2 [(0, (2, 61))] [] S (fun o Z => (∃ y : Int, ty_c B 261 (tp T n 1 i) = .inr y ∧ o = .inl (some (0, y)) ∧ (kg T n (tp T n 1 i) = 5 ∧ 0 ≤ y ∧ y ≤ 68) ∧ S = Z) ∨ (∃ e : Int, ty_c B 261 (tp T n 1 i) = .inl e ∧ ∃ v : Nat, o = .inr v ∧ rz_ag S Z v (e + 16 * tp T n 1 i))) := by
  have hB : zT B T n := hx.1
  have hT : cx_T 163 T n c S := hx.2.1
  have hI : gI S := hx.2.2.1
  have hW : wd_at S 163 64 := hx.2.2.2.1
  have hrw : rw_I S 163 := hx.2.2.2.2.1
  have hwc : 13 ≤ S 163 7 ∧ S 163 7 ≤ 400000 := hx.2.2.2.2.2.1
  have hR : cn_R 261 162 176 181 163 T B S := hx.2.2.2.2.2.2.1
  have hH : S 61 1 = 162 := hx.2.2.2.2.2.2.2
  have hC : w_CL S := hR.2.2.1
  have hN : S 162 2 = B 261 1 := hR.1
  have hN6 : 0 ≤ B 261 1 ∧ B 261 1 ≤ 60 := hR.2.1
  have hpos4 : S 14 4 = (i : Int) := hP.1
  have hg0 : pg T n c i := hP.2
  have hA0 := pg_at hT hg0
  have h16_0 := hA0.1
  have h15_0 := hA0.2.1
  have hpr0 := hA0.2.2
  have hkr0 := kg_rg T n (tp T n 1 i)
  have hcn : (c : Int) ≤ n ∧ n ≤ 65536 := ⟨hT.2.2.2.2.1, hT.2.2.2.2.2.1⟩
  have hRL := hT.2.2.2.2.2.2
  have hl15 : S 14 3 ≤ S 15 (-1) := hRL.1.2
  have hl16 : S 16 (-1) = S 15 (-1) := hRL.2.1
  have hl17 : S 17 (-1) = S 15 (-1) := hRL.2.2.1
  have hc3 : S 14 3 = (c : Int) + 1 := hT.1
  have hic0 : i ≤ c := hg0.1
  have hk5 := kg_5 T n (tp T n 1 i)
  have hz6 : zq B (tp T n 1 i) 237 6 = lx_tk T n 1 (tp T n 1 i) := zT_6 hB
  refine wa_aload_n (n := 0) rfl ?_
  refine wa_cv 61 rfl (wy_pr rfl) wt_61 (M2 := fun _ => False) rfl at_XT_wordHere ⟨_, rfl⟩ rfl rfl ⟨(Or.inr ⟨wy_pr rfl, fun q => q⟩), trivial⟩ trivial (fun _ _ q => False.elim q) (wh_c (S := S) (hx_T hx) (show cx_P T n c (i) S from ⟨(hpos4), hg0⟩) rfl hI) (fun oq3 Sq3 hp4 q3 => ?_)
  rcases q3 with ⟨hw1, rfl, rfl⟩ | ⟨hw1, v, rfl, hrz⟩
  · skip
    show wJ _ _ _ _ _ _ _ _ _ _
    have hnt0 : nt_I S 163 T n (tp T n 1 i) (S 17 (i : Int)) := pg_nt hT hg0 hw1
    have hnv0 := hnt0.2.1
    refine wa_istore_n (n := 1) rfl ?_
    refine wa_iload_n (n := 1) rfl ?_
    refine wa_bipush (w_rg2 (by omega) (by omega)) ?_
    refine wa_icmpgt (w_rg0 (by omega) (by omega)) (w_rg0 (by omega) (by omega)) ⟨_, rfl⟩ (fun c5 => ?_) (fun c5 => ?_)
    · skip
      refine wa_aload_n (n := 0) rfl ?_
      refine wb_gf5 61 rfl (wy_pr rfl) wt_61 wf_4_1 (v := 162) (hH) (fun r6 => ?_)
      refine wa_iload_n (n := 1) rfl ?_
      refine wa_cv 162 rfl (wy_pr rfl) wt_162 (M2 := fun _ => False) rfl at_XO_classTyped ⟨_, rfl⟩ rfl rfl ⟨trivial, (Or.inr ⟨wy_pr rfl, fun q => q⟩), trivial⟩ trivial (fun _ _ q => False.elim q) (ct_162 (S := S) (B := B) (p := (tp T n 1 i)) hB (hx_W hx) (hx_R hx) (show nt_I S 163 T n (tp T n 1 i) (S 17 (i : Int)) from hnt0) (by omega)) (fun oq7 Sq7 hp8 q7 => ?_)
      rcases q7 with ⟨rfl, rfl⟩
      show wJ _ _ _ _ _ _ _ _ _ _
      have hch0 := ch_of_rg (zq B (tp T n 1 i)) 261 (by show B 261 1 ≤ 60; omega)
      have hch0 : -1 ≤ (ch_of (zq B (tp T n 1 i)) 261) ∧ (ch_of (zq B (tp T n 1 i)) 261) ≤ 59 ∧ (ch_of (zq B (tp T n 1 i)) 261) < max (B 261 1) 0 := hch0
      have hct0 : 0 ≤ (ch_of (zq B (tp T n 1 i)) 261) → S 176 (ch_of (zq B (tp T n 1 i)) 261) = B 263 (ch_of (zq B (tp T n 1 i)) 261) := fun z => (hR.2.2.2 _ z (by omega)).1
      refine wa_istore_n (n := 2) rfl ?_
      refine wa_iload_n (n := 2) rfl ?_
      refine wa_iconst ?_
      refine wa_icmpne (w_rg0 (by omega) (by omega)) (w_rg0 (by omega) (by omega)) ⟨_, rfl⟩ (fun c9 => ?_) (fun c9 => ?_)
      · skip
        refine wa_bipush (w_rg2 (by omega) (by omega)) ?_
        refine wa_iload_n (n := 2) rfl ?_
        refine wa_iadd ?_
        refine wa_ireturn rfl ?_
        refine Or.inl ⟨_, ?_, rfl, ⟨hk5.2 hnt0.1, by omega, by omega⟩, rfl⟩
        have hpl : pl_of (zq B (tp T n 1 i)) tx_27 = -1 := by rw [pl_27_k hB hW hrw hwc.1 hnt0, if_neg (by omega)]
        unfold ty_c; rw [hz6, if_pos hnt0.1, hpl, if_neg (by omega), if_pos (by omega)]
      · skip
        refine wa_aload_n (n := 0) rfl ?_
        refine wa_iconst ?_
        refine wa_cv 61 rfl (wy_pr rfl) wt_61 (M2 := fun _ => False) rfl at_XT_refuse ⟨_, rfl⟩ rfl rfl ⟨trivial, trivial, (Or.inr ⟨wy_pr rfl, fun q => q⟩), trivial⟩ trivial (fun _ _ q => False.elim q) (rf_c (S := S) (k := 3) (p := (tp T n 1 i)) (i := (i : Int)) hI (hpos4) (h16_0) ⟨by omega, by have e : S 16 (-1) = S 16 (-1) := rfl; omega⟩ ⟨by omega, by omega⟩ ⟨by omega, by omega⟩) (fun oq11 Sq11 hp12 q11 => ?_)
        rcases q11 with ⟨v, rfl, rz10⟩
        have hrz := rz10
        have hkind : (3 : Int) = 3 := rfl
        refine ⟨rfl, ?_⟩
        have hpl : pl_of (zq B (tp T n 1 i)) tx_27 = -1 := by rw [pl_27_k hB hW hrw hwc.1 hnt0, if_neg (by omega)]
        exact Or.inr ⟨3, by unfold ty_c; rw [hz6, if_pos hnt0.1, hpl, if_neg (by omega), if_neg (by omega)], v, rfl, hrz⟩
    · skip
      refine wa_iload_n (n := 1) rfl ?_
      refine wa_ireturn rfl ?_
      refine Or.inl ⟨_, ?_, rfl, ⟨hk5.2 hnt0.1, by omega, by omega⟩, rfl⟩
      have hpl : pl_of (zq B (tp T n 1 i)) tx_27 = S 17 (i : Int) := by rw [pl_27_k hB hW hrw hwc.1 hnt0, if_pos (by omega)]
      unfold ty_c; rw [hz6, if_pos hnt0.1, hpl, if_pos (by omega)]
  · skip
    have hkg := hw1
    refine ⟨rfl, ?_⟩
    exact Or.inr ⟨1, by unfold ty_c; rw [hz6, if_neg (fun z => hkg (hk5.2 z))], v, rfl, hrz⟩
theorem su_mem {l : List Int} {k : Nat} {s : Int} (h : k < l.length) (e : l.getD k 0 = s) : s ∈ l := by
  rw [List.getD_eq_getElem?_getD, List.getElem?_eq_getElem h] at e
  have e : l[k] = s := e
  rw [← e]
  exact List.getElem_mem h
theorem su_nmem {l : List Int} {s : Int} (h : ∀ q : Nat, q < l.length → l.getD q 0 ≠ s) : s ∉ l := by
  intro hm
  obtain ⟨k, hk, e⟩ := List.getElem_of_mem hm
  refine h k hk ?_
  rw [List.getD_eq_getElem?_getD, List.getElem?_eq_getElem hk]
  exact e
/-- the supers told so far -/
def su_I (S : wS) (l : List Int) : Prop := S 61 4 = (l.length : Int) ∧ l.length ≤ 60 ∧ ∀ k : Nat, k < l.length → S 62 (k : Int) = l.getD k 0
theorem is_l {s : Int} {l : List Int} (hC : w_CL S) (hl : su_I S l) (hs : -2147483648 ≤ s ∧ s ≤ 2147483647) : ∀ (f k : Nat), l.length - k < f → k ≤ l.length → (∀ q : Nat, q < k → l.getD q 0 ≠ s) → wJ (pe_GA xs) wY0 M d t_XT_isSuper ((pe_at t_XT_isSuper.bl 1).getD (0, [])).2 [(0, (2, 61)), (1, (0, s)), (2, (0, (k : Int)))] [] S (fun o Z => S = Z ∧ ((o = .inl (some (0, 1)) ∧ s ∈ l) ∨ (o = .inl (some (0, 0)) ∧ s ∉ l))) := by
  have h4 := hl.1
  have h60 := hl.2.1
  intro f
  induction f with
  | zero => intro k h; exact absurd h (Nat.not_lt_zero _)
  | succ f ih =>
    intro k hf hk hq
    refine wa_iload_n (n := 2) rfl ?_
    refine wa_aload_n (n := 0) rfl ?_
    refine wb_gfi 61 rfl (wy_pr rfl) wt_61 wf_4_4 (v := (l.length : Int)) (h4) (fun r1 => ?_)
    refine wa_icmpge (w_rg0 (by omega) (by omega)) (w_rg0 (by omega) (by omega)) ⟨_, rfl⟩ (fun c2 => ?_) (fun c2 => ?_)
    · skip
      refine wa_iconst ?_
      refine wa_zreturn rfl (Or.inl rfl) ?_
      exact ⟨rfl, Or.inr ⟨rfl, su_nmem (fun q q1 => hq q (by omega))⟩⟩
    · skip
      have hkl : k < l.length := by omega
      have h62 := hl.2.2 k hkl
      refine wa_aload_n (n := 0) rfl ?_
      refine wb_gf4 61 rfl (wy_pr rfl) wt_61 wf_4_3 (v := 62) wl_61_3 ?_
      refine wa_iload_n (n := 2) rfl ?_
      refine wb_iald 62 rfl (wy_pr rfl) wt_62 (n := 60) ((cl_62 hC)) (by omega) (by omega) (v := (l.getD k 0)) (h62) (fun r3 => ?_)
      refine wa_iload_n (n := 1) rfl ?_
      refine wa_icmpne (w_rg0 (by omega) (by omega)) (w_rg0 (by omega) (by omega)) ⟨_, rfl⟩ (fun c4 => ?_) (fun c4 => ?_)
      · skip
        refine wa_iinc rfl rfl ?_
        refine wa_goto ⟨_, rfl⟩ ?_
        refine wJ_S (ih (k + 1) (by omega) (by omega) (fun q q1 => ?_)) ⟨rfl, rfl, rfl, trivial⟩
        by_cases hqk : q = k
        · rw [hqk]; omega
        · exact hq q (by omega)
      · skip
        refine wa_iconst ?_
        refine wa_zreturn rfl (Or.inr rfl) ?_
        exact ⟨rfl, Or.inl ⟨rfl, su_mem hkl (by omega)⟩⟩
theorem is_c {s : Int} {l : List Int} (hC : w_CL S) (hl : su_I S l) (hs : -2147483648 ≤ s ∧ s ≤ 2147483647) : wJ (pe_GA xs) wY0 M d t_XT_isSuper ((pe_at t_XT_isSuper.bl 0).getD (0, [])).2 [(0, (2, 61)), (1, (0, s))] [] S (fun o Z => S = Z ∧ ((o = .inl (some (0, 1)) ∧ s ∈ l) ∨ (o = .inl (some (0, 0)) ∧ s ∉ l))) := by
  refine wa_iconst ?_
  refine wa_istore_n (n := 2) rfl ?_
  refine wa_fall ⟨_, rfl⟩ ?_
  exact wJ_S (is_l hC hl hs (l.length + 1) 0 (by omega) (by omega) (fun q h => absurd h (Nat.not_lt_zero _))) ⟨rfl, rfl, rfl, trivial⟩
end W9l
