/-! PART 21: the evaluator's heap is one of the pure machine; it only grows. -/
def pe_d (x : pe_E) : pm_E := match x with
  | .inr (.inl (ci, vs)) => .inr (ci, vs)
  | .inl (t, n, c) => .inl (t, .inl (n, fun j => pe_lk 0 j c))
  | .inr (.inr (.inr ((t, n, c)))) => .inl (t, .inr (.inl (n, fun j => pe_lk 0 j c)))
  | .inr (.inr (.inl (t, n, c))) => .inl (t, .inr (.inr (n, fun j => pe_lk none j c)))
def pe_D (h : pe_H) : pm_H := h.map pe_d
theorem pe_D_length (h : pe_H) : (pe_D h).length = h.length := List.length_map _
theorem pe_D_at {h : pe_H} {a : Nat} {x : pe_E} (hx : pe_at h a = some x) : (pe_D h)[a]? = some (pe_d x) := by
  rw [pe_at_eq] at hx
  unfold pe_D
  rw [List.getElem?_map, hx]; rfl
theorem pe_D_set (h : pe_H) (a : Nat) (x : pe_E) : pe_D (h.set a x) = (pe_D h).set a (pe_d x) := List.map_set
theorem pe_D_push (h : pe_H) (x : pe_E) : pe_D (h ++ [x]) = pe_D h ++ [pe_d x] := by simp [pe_D]
def pe_le (h h2 : pe_H) : Prop := h.length ≤ h2.length ∧ pm_sz (pe_D h) ≤ pm_sz (pe_D h2)
theorem pe_le.rf {h : pe_H} : pe_le h h := ⟨Nat.le_refl _, Nat.le_refl _⟩
theorem pe_le.tr {h h2 h3 : pe_H} (a : pe_le h h2) (b : pe_le h2 h3) : pe_le h h3 := ⟨Nat.le_trans a.1 b.1, Nat.le_trans a.2 b.2⟩
theorem pe_le.set {h : pe_H} {a : Nat} {x y : pe_E} (hx : pe_at h a = some x) (hn : pm_n (pe_d y) = pm_n (pe_d x)) : pe_le h (h.set a y) := by
  refine ⟨by rw [List.length_set]; exact Nat.le_refl _, ?_⟩
  rw [pe_D_set, pm_sz_set (pe_D_at hx) hn]
  exact Nat.le_refl _
theorem pe_le.push {h : pe_H} {x : pe_E} : pe_le h (h ++ [x]) := by
  refine ⟨by simp, ?_⟩
  rw [pe_D_push, pm_sz_push]
  exact Nat.le_add_right _ _
theorem pe_ldi_inv {α : Type} {i : Nat} {L : pm_L} {k : Int32 → Option α} {r : α} (h : pe_ldi i L k = some r) : ∃ x, pm_get L i = some (.int x) ∧ k x = some r := by
  unfold pe_ldi at h
  rw [pe_gl_eq] at h
  split at h
  · exact ⟨_, by assumption, h⟩
  · cases h
theorem pe_ldl_inv {α : Type} {i : Nat} {L : pm_L} {k : Int64 → Option α} {r : α} (h : pe_ldl i L k = some r) : ∃ x, pm_get L i = some (.long x) ∧ k x = some r := by
  unfold pe_ldl at h
  rw [pe_gl_eq] at h
  split at h
  · exact ⟨_, by assumption, h⟩
  · cases h
theorem pe_bif_inv {α : Type} {b : Bool} {x : Option α} {r : α} (h : (bif b then x else none) = some r) : b = true ∧ x = some r := by
  cases b
  · cases h
  · exact ⟨rfl, h⟩
theorem pe_bif_inv2 {α : Type} {b : Bool} {x : Option α} {r : α} (h : (bif b then none else x) = some r) : b = false ∧ x = some r := by
  cases b
  · exact ⟨rfl, h⟩
  · cases h
theorem pe_lda_inv {α : Type} {i : Nat} {L : pm_L} {k : Value → Option α} {r : α} (h : pe_lda i L k = some r) : ∃ v, pm_get L i = some v ∧ pm_isR v = true ∧ k v = some r := by
  unfold pe_lda at h
  rw [pe_gl_eq] at h
  split at h
  · obtain ⟨h1, h2⟩ := pe_bif_inv h
    exact ⟨_, by assumption, h1, h2⟩
  · cases h
theorem pe_ari_inv {α : Type} {h : pe_H} {a : Nat} {k : Nat → Nat → List (Nat × Int32) → Option α} {r : α} (hg : pe_ari h a k = some r) : ∃ t n c, pe_at h a = some (.inl (t, n, c)) ∧ k t n c = some r := by
  unfold pe_ari at hg
  split at hg
  · exact ⟨_, _, _, by assumption, hg⟩
  · cases hg
theorem pe_arl_inv {α : Type} {h : pe_H} {a : Nat} {k : Nat → Nat → List (Nat × Int64) → Option α} {r : α} (hg : pe_arl h a k = some r) : ∃ t n c, pe_at h a = some (.inr (.inr (.inr ((t, n, c))))) ∧ k t n c = some r := by
  unfold pe_arl at hg
  split at hg
  · exact ⟨_, _, _, by assumption, hg⟩
  · cases hg
theorem pe_arr_inv {α : Type} {h : pe_H} {a : Nat} {k : Nat → Nat → List (Nat × Option Nat) → Option α} {r : α} (hg : pe_arr h a k = some r) : ∃ t n c, pe_at h a = some (.inr (.inr (.inl (t, n, c)))) ∧ k t n c = some r := by
  unfold pe_arr at hg
  split at hg
  · exact ⟨_, _, _, by assumption, hg⟩
  · cases hg
theorem pe_obj_inv {α : Type} {h : pe_H} {a ci : Nat} {k : List Value → Option α} {r : α} (hg : pe_obj h a ci k = some r) : ∃ vs, pe_at h a = some (.inr (.inl (ci, vs))) ∧ k vs = some r := by
  unfold pe_obj at hg
  split at hg
  · rename_i c vs hc
    obtain ⟨h1, h2⟩ := pe_bif_inv hg
    have := Nat.eq_of_beq_eq_true h1
    subst this
    exact ⟨_, hc, h2⟩
  · cases hg
theorem pe_lenk_inv {α : Type} {h : pe_H} {a : Nat} {k : Nat → Option α} {r : α} (hg : pe_lenk h a k = some r) : ∃ t x, (pe_D h)[a]? = some (.inl (t, x)) ∧ pe_tOK t = true ∧ k (pm_len x) = some r := by
  unfold pe_lenk at hg
  split at hg
  · rename_i hc; obtain ⟨q, hg⟩ := pe_bif_inv hg; exact ⟨_, _, pe_D_at hc, q, hg⟩
  · rename_i hc; obtain ⟨q, hg⟩ := pe_bif_inv hg; exact ⟨_, _, pe_D_at hc, q, hg⟩
  · rename_i hc; obtain ⟨q, hg⟩ := pe_bif_inv hg; exact ⟨_, _, pe_D_at hc, q, hg⟩
  · cases hg
theorem pe_rfk_eq {α : Type} (r : Option Nat) (k : Value → Option α) : pe_rfk r k = k (pm_r r) := by cases r <;> rfl
theorem pe_newk_inv {α : Type} {ty : ArrayType} {N : Nat} {k : pe_E → Option α} {r : α} (hg : pe_newk ty N k = some r) : ∃ x, k x = some r ∧ ((ty = .int ∧ x = .inl (0, N, [])) ∨ (ty = .long ∧ x = .inr (.inr (.inr ((1, N, []))))) ∨ (ty = .byte ∧ x = .inl (2, N, [])) ∨ (ty = .boolean ∧ x = .inl (3, N, []))) := by
  cases ty
  all_goals first | (cases hg; done) | exact ⟨_, hg, by simp⟩
theorem pe_xi_inv {α : Type} {xs : List (Nat × List Int32)} {st : List Value} {k : Int32 → List Value → Option α} {e : Option α} {r : α} (hg : pe_xi xs st k e = some r) : (∃ i j st2 tx z, st = .int i :: .retAddr j :: st2 ∧ pe_at xs j = some (1, tx) ∧ pe_inb i tx.length = true ∧ pe_at tx i.toNatClampNeg = some z ∧ k z st2 = some r) ∨ e = some r := by
  unfold pe_xi at hg
  split at hg
  · split at hg
    · obtain ⟨h1, h2⟩ := pe_bif_inv hg
      split at h2
      · exact Or.inl ⟨_, _, _, _, _, rfl, by assumption, h1, by assumption, h2⟩
      · cases h2
    · cases hg
  · exact Or.inr hg
theorem pe_xn_inv {α : Type} {xs : List (Nat × List Int32)} {st : List Value} {k : Nat → List Value → Option α} {e : Option α} {r : α} (hg : pe_xn xs st k e = some r) : (∃ j st2 tx, st = .retAddr j :: st2 ∧ pe_at xs j = some (1, tx) ∧ k tx.length st2 = some r) ∨ e = some r := by
  unfold pe_xn at hg
  split at hg
  · split at hg
    · exact Or.inl ⟨_, _, _, rfl, by assumption, hg⟩
    · cases hg
  · exact Or.inr hg
/-- what an operation leads to: the same, or a set cell, or a new one -/
theorem pe_op_mono {α : Type} {xs : List (Nat × List Int32)} {mx : Nat} {i : Instr} {L : pm_L} {st : List Value} {h : pe_H} {k : pm_L → List Value → pe_H → Option α} {r : α} (hg : pe_op xs mx i L st h k = some r) : ∃ L2 st2 h2, k L2 st2 h2 = some r ∧ pe_le h h2 := by
  cases i with
  | iadd =>
    obtain ⟨x, y, st2, rfl, g0⟩ := pe_2i_inv hg
    rw [pe_fi_eq] at g0
    exact ⟨_, _, _, g0, pe_le.rf⟩
  | isub =>
    obtain ⟨x, y, st2, rfl, g0⟩ := pe_2i_inv hg
    rw [pe_fi_eq] at g0
    exact ⟨_, _, _, g0, pe_le.rf⟩
  | imul =>
    obtain ⟨x, y, st2, rfl, g0⟩ := pe_2i_inv hg
    rw [pe_fi_eq] at g0
    exact ⟨_, _, _, g0, pe_le.rf⟩
  | iand =>
    obtain ⟨x, y, st2, rfl, g0⟩ := pe_2i_inv hg
    rw [pe_fi_eq] at g0
    exact ⟨_, _, _, g0, pe_le.rf⟩
  | ior =>
    obtain ⟨x, y, st2, rfl, g0⟩ := pe_2i_inv hg
    rw [pe_fi_eq] at g0
    exact ⟨_, _, _, g0, pe_le.rf⟩
  | ixor =>
    obtain ⟨x, y, st2, rfl, g0⟩ := pe_2i_inv hg
    rw [pe_fi_eq] at g0
    exact ⟨_, _, _, g0, pe_le.rf⟩
  | ishl =>
    obtain ⟨x, y, st2, rfl, g0⟩ := pe_2i_inv hg
    rw [pe_fi_eq] at g0
    exact ⟨_, _, _, g0, pe_le.rf⟩
  | ishr =>
    obtain ⟨x, y, st2, rfl, g0⟩ := pe_2i_inv hg
    rw [pe_fi_eq] at g0
    exact ⟨_, _, _, g0, pe_le.rf⟩
  | iushr =>
    obtain ⟨x, y, st2, rfl, g0⟩ := pe_2i_inv hg
    rw [pe_fi_eq] at g0
    exact ⟨_, _, _, g0, pe_le.rf⟩
  | ladd =>
    obtain ⟨x, y, st2, rfl, g0⟩ := pe_2l_inv hg
    rw [pe_fl_eq] at g0
    exact ⟨_, _, _, g0, pe_le.rf⟩
  | lsub =>
    obtain ⟨x, y, st2, rfl, g0⟩ := pe_2l_inv hg
    rw [pe_fl_eq] at g0
    exact ⟨_, _, _, g0, pe_le.rf⟩
  | lmul =>
    obtain ⟨x, y, st2, rfl, g0⟩ := pe_2l_inv hg
    rw [pe_fl_eq] at g0
    exact ⟨_, _, _, g0, pe_le.rf⟩
  | land =>
    obtain ⟨x, y, st2, rfl, g0⟩ := pe_2l_inv hg
    rw [pe_fl_eq] at g0
    exact ⟨_, _, _, g0, pe_le.rf⟩
  | lor =>
    obtain ⟨x, y, st2, rfl, g0⟩ := pe_2l_inv hg
    rw [pe_fl_eq] at g0
    exact ⟨_, _, _, g0, pe_le.rf⟩
  | lxor =>
    obtain ⟨x, y, st2, rfl, g0⟩ := pe_2l_inv hg
    rw [pe_fl_eq] at g0
    exact ⟨_, _, _, g0, pe_le.rf⟩
  | idiv =>
    obtain ⟨x, y, st2, rfl, g0⟩ := pe_2i_inv hg
    obtain ⟨b1, g1⟩ := pe_bif_inv2 g0
    rw [pe_fi_eq] at g1
    exact ⟨_, _, _, g1, pe_le.rf⟩
  | irem =>
    obtain ⟨x, y, st2, rfl, g0⟩ := pe_2i_inv hg
    obtain ⟨b1, g1⟩ := pe_bif_inv2 g0
    rw [pe_fi_eq] at g1
    exact ⟨_, _, _, g1, pe_le.rf⟩
  | ldiv =>
    obtain ⟨x, y, st2, rfl, g0⟩ := pe_2l_inv hg
    obtain ⟨b1, g1⟩ := pe_bif_inv2 g0
    rw [pe_fl_eq] at g1
    exact ⟨_, _, _, g1, pe_le.rf⟩
  | lrem =>
    obtain ⟨x, y, st2, rfl, g0⟩ := pe_2l_inv hg
    obtain ⟨b1, g1⟩ := pe_bif_inv2 g0
    rw [pe_fl_eq] at g1
    exact ⟨_, _, _, g1, pe_le.rf⟩
  | ineg =>
    obtain ⟨x, st2, rfl, g0⟩ := pe_1i_inv hg
    rw [pe_fi_eq] at g0
    exact ⟨_, _, _, g0, pe_le.rf⟩
  | lneg =>
    obtain ⟨x, st2, rfl, g0⟩ := pe_1l_inv hg
    rw [pe_fl_eq] at g0
    exact ⟨_, _, _, g0, pe_le.rf⟩
  | lushr =>
    obtain ⟨x, y, st2, rfl, g0⟩ := pe_li_inv hg
    rw [pe_fl_eq] at g0
    exact ⟨_, _, _, g0, pe_le.rf⟩
  | lshl =>
    obtain ⟨x, y, st2, rfl, g0⟩ := pe_li_inv hg
    rw [pe_fl_eq] at g0
    exact ⟨_, _, _, g0, pe_le.rf⟩
  | lshr =>
    obtain ⟨x, y, st2, rfl, g0⟩ := pe_li_inv hg
    rw [pe_fl_eq] at g0
    exact ⟨_, _, _, g0, pe_le.rf⟩
  | i2l =>
    obtain ⟨x, st2, rfl, g0⟩ := pe_1i_inv hg
    rw [pe_fl_eq] at g0
    exact ⟨_, _, _, g0, pe_le.rf⟩
  | l2i =>
    obtain ⟨x, st2, rfl, g0⟩ := pe_1l_inv hg
    rw [pe_fi_eq] at g0
    exact ⟨_, _, _, g0, pe_le.rf⟩
  | i2b =>
    obtain ⟨x, st2, rfl, g0⟩ := pe_1i_inv hg
    rw [pe_fi_eq] at g0
    exact ⟨_, _, _, g0, pe_le.rf⟩
  | i2c =>
    obtain ⟨x, st2, rfl, g0⟩ := pe_1i_inv hg
    rw [pe_fi_eq] at g0
    exact ⟨_, _, _, g0, pe_le.rf⟩
  | lcmp =>
    obtain ⟨x, y, st2, rfl, g0⟩ := pe_2l_inv hg
    rw [pe_fi_eq] at g0
    exact ⟨_, _, _, g0, pe_le.rf⟩
  | iconst n =>
    replace hg : (pe_fi (Int32.ofInt n) fun z => k L (.int z :: st) h) = some r := hg
    rw [pe_fi_eq] at hg
    exact ⟨_, _, _, hg, pe_le.rf⟩
  | bipush n =>
    replace hg : (pe_fi (Int8.ofInt n).toInt32 fun z => k L (.int z :: st) h) = some r := hg
    rw [pe_fi_eq] at hg
    exact ⟨_, _, _, hg, pe_le.rf⟩
  | sipush n =>
    replace hg : (pe_fi (Int16.ofInt n).toInt32 fun z => k L (.int z :: st) h) = some r := hg
    rw [pe_fi_eq] at hg
    exact ⟨_, _, _, hg, pe_le.rf⟩
  | lconst n =>
    replace hg : (pe_fl (Int64.ofNat n.val) fun z => k L (.long z :: st) h) = some r := hg
    rw [pe_fl_eq] at hg
    exact ⟨_, _, _, hg, pe_le.rf⟩
  | aconst_null =>
    exact ⟨_, _, _, hg, pe_le.rf⟩
  | dup =>
    obtain ⟨v, st2, rfl, g0⟩ := pe_v_inv hg
    obtain ⟨b1, g1⟩ := pe_bif_inv g0
    exact ⟨_, _, _, g1, pe_le.rf⟩
  | pop =>
    obtain ⟨v, st2, rfl, g0⟩ := pe_v_inv hg
    obtain ⟨b1, g1⟩ := pe_bif_inv g0
    exact ⟨_, _, _, g1, pe_le.rf⟩
  | dup2 =>
    obtain ⟨v, st2, rfl, g0⟩ := pe_v_inv hg
    cases hb : Nat.beq v.category 2
    · rw [hb] at g0
      obtain ⟨u, st3, rfl, g1⟩ := pe_v_inv g0
      obtain ⟨_, g2⟩ := pe_bif_inv g1
      exact ⟨_, _, _, g2, pe_le.rf⟩
    · rw [hb] at g0
      exact ⟨_, _, _, g0, pe_le.rf⟩
  | dup_x1 =>
    obtain ⟨u, v, st2, rfl, g0⟩ := pe_vv_inv hg
    obtain ⟨b1, g1⟩ := pe_bif_inv g0
    exact ⟨_, _, _, g1, pe_le.rf⟩
  | iload_n n =>
    obtain ⟨x, e0, g0⟩ := pe_ldi_inv hg
    exact ⟨_, _, _, g0, pe_le.rf⟩
  | lload_n n =>
    obtain ⟨x, e0, g0⟩ := pe_ldl_inv hg
    exact ⟨_, _, _, g0, pe_le.rf⟩
  | aload_n n =>
    obtain ⟨v, e0, r0, g0⟩ := pe_lda_inv hg
    exact ⟨_, _, _, g0, pe_le.rf⟩
  | istore_n n =>
    obtain ⟨x, st2, rfl, g0⟩ := pe_1i_inv hg
    obtain ⟨b1, g1⟩ := pe_bif_inv g0
    rw [pe_st1k_eq] at g1
    exact ⟨_, _, _, g1, pe_le.rf⟩
  | lstore_n n =>
    obtain ⟨x, st2, rfl, g0⟩ := pe_1l_inv hg
    obtain ⟨b1, g1⟩ := pe_bif_inv g0
    rw [pe_st2k_eq] at g1
    exact ⟨_, _, _, g1, pe_le.rf⟩
  | astore_n n =>
    obtain ⟨v, st2, rfl, g0⟩ := pe_v_inv hg
    obtain ⟨b1, g1⟩ := pe_bif_inv g0
    rw [pe_st1k_eq] at g1
    exact ⟨_, _, _, g1, pe_le.rf⟩
  | iload n =>
    obtain ⟨x, e0, g0⟩ := pe_ldi_inv hg
    exact ⟨_, _, _, g0, pe_le.rf⟩
  | lload n =>
    obtain ⟨x, e0, g0⟩ := pe_ldl_inv hg
    exact ⟨_, _, _, g0, pe_le.rf⟩
  | aload n =>
    obtain ⟨v, e0, r0, g0⟩ := pe_lda_inv hg
    exact ⟨_, _, _, g0, pe_le.rf⟩
  | istore n =>
    obtain ⟨x, st2, rfl, g0⟩ := pe_1i_inv hg
    obtain ⟨b1, g1⟩ := pe_bif_inv g0
    rw [pe_st1k_eq] at g1
    exact ⟨_, _, _, g1, pe_le.rf⟩
  | lstore n =>
    obtain ⟨x, st2, rfl, g0⟩ := pe_1l_inv hg
    obtain ⟨b1, g1⟩ := pe_bif_inv g0
    rw [pe_st2k_eq] at g1
    exact ⟨_, _, _, g1, pe_le.rf⟩
  | astore n =>
    obtain ⟨v, st2, rfl, g0⟩ := pe_v_inv hg
    obtain ⟨b1, g1⟩ := pe_bif_inv g0
    rw [pe_st1k_eq] at g1
    exact ⟨_, _, _, g1, pe_le.rf⟩
  | iinc i n =>
    obtain ⟨x, e0, g0⟩ := pe_ldi_inv hg
    obtain ⟨b1, g1⟩ := pe_bif_inv g0
    rw [pe_fi_eq] at g1
    rw [pe_st1k_eq] at g1
    exact ⟨_, _, _, g1, pe_le.rf⟩
  | iaload =>
    rcases pe_xi_inv hg with ⟨i, j, st2, tx, z, rfl, _, _, _, g⟩ | hg
    · exact ⟨_, _, _, g, pe_le.rf⟩
    · obtain ⟨a, i, st2, rfl, g0⟩ := pe_ix_inv hg
      obtain ⟨t, n, c, e1, g1⟩ := pe_ari_inv g0
      obtain ⟨_, g2⟩ := pe_bif_inv g1
      rw [pe_fi_eq] at g2
      exact ⟨_, _, _, g2, pe_le.rf⟩
  | baload =>
    obtain ⟨a0, i0, st2, rfl, g0⟩ := pe_ix_inv hg
    obtain ⟨t0, n0c, c0, e1, g1⟩ := pe_ari_inv g0
    obtain ⟨b2, g2⟩ := pe_bif_inv g1
    rw [pe_fi_eq] at g2
    exact ⟨_, _, _, g2, pe_le.rf⟩
  | laload =>
    obtain ⟨a0, i0, st2, rfl, g0⟩ := pe_ix_inv hg
    obtain ⟨t0, n0c, c0, e1, g1⟩ := pe_arl_inv g0
    obtain ⟨b2, g2⟩ := pe_bif_inv g1
    rw [pe_fl_eq] at g2
    exact ⟨_, _, _, g2, pe_le.rf⟩
  | aaload =>
    obtain ⟨a0, i0, st2, rfl, g0⟩ := pe_ix_inv hg
    obtain ⟨t0, n0c, c0, e1, g1⟩ := pe_arr_inv g0
    obtain ⟨b2, g2⟩ := pe_bif_inv g1
    rw [pe_rfk_eq] at g2
    exact ⟨_, _, _, g2, pe_le.rf⟩
  | iastore =>
    obtain ⟨a0, i0, x, st2, rfl, g0⟩ := pe_ixi_inv hg
    obtain ⟨t0, n0c, c0, e1, g1⟩ := pe_ari_inv g0
    obtain ⟨b2, g2⟩ := pe_bif_inv g1
    rw [pe_fi_eq] at g2
    rw [pe_insk_eq] at g2
    rw [pe_setk_eq] at g2
    exact ⟨_, _, _, g2, pe_le.set e1 rfl⟩
  | bastore =>
    obtain ⟨a, i, x, st2, rfl, g0⟩ := pe_ixi_inv hg
    obtain ⟨t, n, c, e1, g1⟩ := pe_ari_inv g0
    cases hb : Nat.beq t 2 && pe_inb i n
    · rw [hb] at g1
      obtain ⟨_, g2⟩ := pe_bif_inv g1
      rw [pe_fi_eq, pe_insk_eq, pe_setk_eq] at g2
      exact ⟨_, _, _, g2, pe_le.set e1 rfl⟩
    · rw [hb] at g1
      have g2 : pe_fi (vp_nar .byte x) (fun z => pe_insk (decide (z = 0)) i.toNatClampNeg z c fun c => pe_setk (.inl (t, n, c)) h a fun h => k L st2 h) = some r := g1
      rw [pe_fi_eq, pe_insk_eq, pe_setk_eq] at g2
      exact ⟨_, _, _, g2, pe_le.set e1 rfl⟩
  | lastore =>
    obtain ⟨a0, i0, x, st2, rfl, g0⟩ := pe_ixl_inv hg
    obtain ⟨t0, n0c, c0, e1, g1⟩ := pe_arl_inv g0
    obtain ⟨b2, g2⟩ := pe_bif_inv g1
    rw [pe_insk_eq] at g2
    rw [pe_setk_eq] at g2
    exact ⟨_, _, _, g2, pe_le.set e1 rfl⟩
  | aastore =>
    obtain ⟨a0, i0, x, st2, rfl, g0⟩ := pe_ixr_inv hg
    obtain ⟨t0, n0c, c0, e1, g1⟩ := pe_arr_inv g0
    obtain ⟨b2, g2⟩ := pe_bif_inv g1
    rw [pe_insk_eq] at g2
    rw [pe_setk_eq] at g2
    exact ⟨_, _, _, g2, pe_le.set e1 rfl⟩
  | arraylength =>
    replace hg : (pe_xn xs st (fun n st => pe_fi (Int32.ofNat n) fun z => k L (.int z :: st) h) (pe_rf st fun a st => pe_lenk h a fun n => pe_fi (Int32.ofNat n) fun z => k L (.int z :: st) h)) = some r := hg
    rcases pe_xn_inv hg with ⟨j, st2, tx, rfl, _, g⟩ | hg
    · rw [pe_fi_eq] at g
      exact ⟨_, _, _, g, pe_le.rf⟩
    · obtain ⟨a, st2, rfl, g0⟩ := pe_rf_inv hg
      obtain ⟨t, x, _, _, g1⟩ := pe_lenk_inv g0
      rw [pe_fi_eq] at g1
      exact ⟨_, _, _, g1, pe_le.rf⟩
  | newarray ty =>
    obtain ⟨n, st2, rfl, g0⟩ := pe_1i_inv hg
    obtain ⟨_, g1⟩ := pe_bif_inv g0
    rw [pe_fn_eq, pe_fn_eq] at g1
    obtain ⟨x0, g2, _⟩ := pe_newk_inv g1
    rw [pe_pushk_eq] at g2
    exact ⟨_, _, _, g2, pe_le.push⟩
  | _ => cases hg
theorem pe_jmp_inv {α : Type} {mt : pe_Mt} {tb : Nat} {k : List pe_I → Option α} {r : α} (hg : pe_jmp mt tb k = some r) : ∃ p is, pe_at mt.bl tb = some (p, is) ∧ k is = some r := by
  unfold pe_jmp at hg
  split at hg
  · exact ⟨_, _, by assumption, hg⟩
  · cases hg
theorem pe_pop_inv0 {α : Type} (n : Nat) : ∀ (acc st : List Value) (k : List Value → List Value → Option α) (r : α), pe_pop n acc st k = some r → ∃ As st2, As.length = n ∧ st = As ++ st2 ∧ k (As.reverse ++ acc) st2 = some r := by
  induction n with
  | zero => intro acc st k r hg; exact ⟨[], st, rfl, rfl, hg⟩
  | succ n ih =>
    intro acc st k r hg
    cases st with
    | nil => cases hg
    | cons v st =>
      obtain ⟨As, st2, h1, h2, h3⟩ := ih (v :: acc) st k r hg
      refine ⟨v :: As, st2, by rw [List.length_cons, h1], by rw [h2]; rfl, ?_⟩
      rw [List.reverse_cons, List.append_assoc]
      exact h3
theorem pe_pop_inv {α : Type} {n : Nat} {st : List Value} {k : List Value → List Value → Option α} {r : α} (hg : pe_pop n [] st k = some r) : ∃ As st2, As.length = n ∧ st = As.reverse ++ st2 ∧ k As st2 = some r := by
  obtain ⟨As, st2, h1, h2, h3⟩ := pe_pop_inv0 n [] st k r hg
  exact ⟨As.reverse, st2, by rw [List.length_reverse, h1], by rw [List.reverse_reverse, h2], by rw [List.append_nil] at h3; exact h3⟩
theorem pe_cal_inv {α : Type} {rc : Nat → pe_Mt → List pe_I → pm_L → List Value → pe_H → Option (pm_O × pe_H)} {ms : List pe_Mt} {d mi : Nat} {av st : List Value} {h : pe_H} {k : List Value → pe_H → Option α} {r : α} (hg : pe_cal rc ms d mi av st h k = some r) : ∃ m2 d2 p0 is v h3, pe_at ms mi = some m2 ∧ d = d2 + 1 ∧ pe_cat st ≤ 8 ∧ m2.mx ≤ 41 ∧ pe_cat av ≤ m2.mx ∧ pe_at m2.bl 0 = some (p0, is) ∧ rc d2 m2 is (pm_args 0 av) [] h = some (.inl v, h3) ∧ k (v.toList ++ st) h3 = some r := by
  unfold pe_cal at hg
  split at hg
  · obtain ⟨h1, h2⟩ := pe_bif_inv hg
    rw [Bool.and_eq_true, Bool.and_eq_true] at h1
    obtain ⟨p0, is, h3, h4⟩ := pe_jmp_inv h2
    rw [pe_argk_eq] at h4
    split at h4
    · exact ⟨_, _, _, _, none, _, by assumption, rfl, Nat.le_of_ble_eq_true h1.1, Nat.le_of_ble_eq_true h1.2.1, Nat.le_of_ble_eq_true h1.2.2, h3, by assumption, h4⟩
    · exact ⟨_, _, _, _, some _, _, by assumption, rfl, Nat.le_of_ble_eq_true h1.1, Nat.le_of_ble_eq_true h1.2.1, Nat.le_of_ble_eq_true h1.2.2, h3, by assumption, h4⟩
    · cases h4
  · cases hg
theorem pe_cd_inv {α : Type} {i : Instr} {st : List Value} {k : Bool → List Value → Option α} {r : α} (hg : pe_cd i st k = some r) : ∃ b st2, k b st2 = some r := by
  cases i with
  | goto _ => exact ⟨_, _, hg⟩
  | ifCond c _ => obtain ⟨x, st2, rfl, g⟩ := pe_1i_inv hg; exact ⟨_, _, g⟩
  | if_icmp c _ => obtain ⟨x, y, st2, rfl, g⟩ := pe_2i_inv hg; exact ⟨_, _, g⟩
  | ifnull _ => obtain ⟨v, st2, rfl, g⟩ := pe_v_inv hg; obtain ⟨_, g⟩ := pe_bif_inv g; exact ⟨_, _, g⟩
  | ifnonnull _ => obtain ⟨v, st2, rfl, g⟩ := pe_v_inv hg; obtain ⟨_, g⟩ := pe_bif_inv g; exact ⟨_, _, g⟩
  | _ => cases hg
theorem pe_cpk_eq {β : Type} (src : List (Nat × Int32)) (sp dp n : Nat) : ∀ (c : List (Nat × Int32)), ∃ c2, (∀ k2 : List (Nat × Int32) → β, pe_cpk src sp dp n c k2 = k2 c2) ∧ ∀ j, pe_lk 0 j c2 = if dp ≤ j ∧ j < dp + n then pe_lk 0 (sp + (j - dp)) src else pe_lk 0 j c := by
  induction n with
  | zero =>
    intro c
    exact ⟨c, fun _ => rfl, fun j => by rw [if_neg (by omega)]⟩
  | succ n ih =>
    intro c
    obtain ⟨c2, h1, h2⟩ := ih c
    refine ⟨pe_ins (decide (pe_lk 0 (sp + n) src = 0)) (dp + n) (pe_lk 0 (sp + n) src) c2, fun k2 => ?_, fun j => ?_⟩
    · show pe_cpk src sp dp n c (fun c => pe_fi (pe_lk 0 (sp + n) src) fun x => pe_insk (decide (x = 0)) (dp + n) x c k2) = _
      rw [h1, pe_fi_eq, pe_insk_eq]
    · rw [pe_lk_ins _ _ _ _ (fun q => of_decide_eq_true q), h2]
      by_cases h3 : j = dp + n
      · subst h3
        rw [if_pos rfl, if_pos (by omega), Nat.add_sub_cancel_left]
      · rw [if_neg h3]
        by_cases h4 : dp ≤ j ∧ j < dp + n
        · rw [if_pos h4, if_pos (by omega)]
        · rw [if_neg h4, if_neg (by omega)]
theorem pe_slk_inv {α : Type} {xs : List (Nat × List Int32)} {st : List Value} {k : Int32 → List Value → Option α} {r : α} (hg : pe_slk xs st k = some r) : ∃ j st2 tx, st = .retAddr j :: st2 ∧ pe_at xs j = some (0, tx) ∧ k (Int32.ofNat tx.length) st2 = some r := by
  unfold pe_slk at hg
  split at hg
  · split at hg
    · rw [pe_fi_eq] at hg; exact ⟨_, _, _, rfl, by assumption, hg⟩
    · cases hg
  · cases hg
theorem pe_sck_inv {α : Type} {xs : List (Nat × List Int32)} {st : List Value} {k : Int32 → List Value → Option α} {r : α} (hg : pe_sck xs st k = some r) : ∃ i j st2 tx z, st = .int i :: .retAddr j :: st2 ∧ pe_at xs j = some (0, tx) ∧ pe_inb i tx.length = true ∧ pe_at tx i.toNatClampNeg = some z ∧ k z st2 = some r := by
  unfold pe_sck at hg
  split at hg
  · split at hg
    · obtain ⟨h1, h2⟩ := pe_bif_inv hg
      split at h2
      · exact ⟨_, _, _, _, _, rfl, by assumption, h1, by assumption, h2⟩
      · cases h2
    · cases hg
  · cases hg
theorem pe_fB_ok (c : List (Nat × Int32)) (sp n : Nat) (h : pe_fB c sp n = true) : ∀ i, i < n → fits .byte (.int (pe_lk 0 (sp + i) c)) = true := by
  induction n with
  | zero => intro i hi; omega
  | succ n ih =>
    intro i hi
    unfold pe_fB at h
    rw [Bool.and_eq_true] at h
    by_cases h1 : i = n
    · subst h1; exact h.1
    · exact ih h.2 i (by omega)
theorem pe_ack_inv {α : Type} {d : Nat} {h : pe_H} {st : List Value} {k : List Value → pe_H → Option α} {r : α} (hg : pe_ack d h st k = some r) : ∃ (n dp : Int32) (b : Nat) (sp : Int32) (a : Nat) (st2 : List Value) (n1 : Nat) (c1 : List (Nat × Int32)) (n2 : Nat) (c2 c3 : List (Nat × Int32)), st = .int n :: .int dp :: .ref b :: .int sp :: .ref a :: st2 ∧ pe_at h a = some (.inl (2, n1, c1)) ∧ pe_at h b = some (.inl (2, n2, c2)) ∧ ¬ n < 0 ∧ ¬ sp < 0 ∧ ¬ dp < 0 ∧ sp.toNatClampNeg + n.toNatClampNeg ≤ n1 ∧ dp.toNatClampNeg + n.toNatClampNeg ≤ n2 ∧ (∀ i, i < n.toNatClampNeg → fits .byte (.int (pe_lk 0 (sp.toNatClampNeg + i) c1)) = true) ∧ 0 < d ∧ pe_cat st2 ≤ 8 ∧ (∀ j, pe_lk 0 j c3 = if dp.toNatClampNeg ≤ j ∧ j < dp.toNatClampNeg + n.toNatClampNeg then pe_lk 0 (sp.toNatClampNeg + (j - dp.toNatClampNeg)) c1 else pe_lk 0 j c2) ∧ k st2 (h.set b (.inl (2, n2, c3))) = some r := by
  unfold pe_ack at hg
  split at hg
  · rename_i n dp b sp a st2
    obtain ⟨t1, n1, c1, e1, g1⟩ := pe_ari_inv hg
    obtain ⟨t2, n2, c2, e2, g2⟩ := pe_ari_inv g1
    obtain ⟨q, g3⟩ := pe_bif_inv g2
    simp only [Bool.and_eq_true, Bool.not_eq_true', decide_eq_false_iff_not] at q
    obtain ⟨q1, q2, q3, q4, q5, q6, q7, q8, q9, q10⟩ := q
    rw [Nat.blt_eq] at q9
    have q1 := Nat.eq_of_beq_eq_true q1
    have q2 := Nat.eq_of_beq_eq_true q2
    subst q1
    subst q2
    obtain ⟨c3, w1, w2⟩ := pe_cpk_eq (β := Option α) c1 sp.toNatClampNeg dp.toNatClampNeg n.toNatClampNeg c2
    rw [w1, pe_setk_eq] at g3
    exact ⟨_, _, _, _, _, _, _, _, _, _, c3, rfl, e1, e2, q3, q4, q5, Nat.le_of_ble_eq_true q6, Nat.le_of_ble_eq_true q7, pe_fB_ok _ _ _ q8, q9, Nat.le_of_ble_eq_true q10, w2, g3⟩
  · cases hg
theorem pe_lkk_inv {α : Type} {i : Instr} {ofs : List (Int × Nat)} {x : Int32} {k : Nat → Option α} {r : α} (hg : pe_lkk i ofs x k = some r) : ∃ tb, k tb = some r := by
  unfold pe_lkk at hg
  split at hg
  · split at hg
    · exact ⟨_, hg⟩
    · cases hg
  · cases hg
theorem pe_rt_inv {ret : Option FieldType} {i : Instr} {st : List Value} {h h2 : pe_H} {o : pm_O} (hg : pe_rt ret i st h = some (o, h2)) : h2 = h := by
  unfold pe_rt at hg
  split at hg
  all_goals first | (cases hg; rfl) | (obtain ⟨_, hg⟩ := pe_bif_inv hg; cases hg; rfl) | cases hg
theorem pe_le.app {h : pe_H} {g : pe_H} : pe_le h (h ++ g) := by
  refine ⟨by simp, ?_⟩
  simp [pe_D, pm_sz]
theorem pe_spk_mono {α : Type} {xs : List (Nat × List Int32)} {d : Nat} {i : pe_S} {st : List Value} {h : pe_H} {k : List Value → pe_H → Option α} {r : α} (hg : pe_spk xs d i st h k = some r) : ∃ st2 h2, k st2 h2 = some r ∧ pe_le h h2 := by
  rcases i with ⟨wide, ix, j⟩ | ⟨ix, ws⟩ | ⟨ix, ws⟩ | ⟨ix, ws⟩ | ⟨ix, j, host, wd⟩ | ⟨ix, ws⟩
  · exact ⟨_, _, hg, pe_le.rf⟩
  · obtain ⟨_, g⟩ := pe_bif_inv hg
    obtain ⟨i, j, st3, tx, z, rfl, _, _, _, g⟩ := pe_sck_inv g
    obtain ⟨_, g⟩ := pe_bif_inv g
    exact ⟨_, _, g, pe_le.rf⟩
  · obtain ⟨n, dp, b, sp, a, st3, n1, c1, n2, c2, c3, rfl, _, e2, _, _, _, _, _, _, _, _, _, g⟩ := pe_ack_inv hg
    exact ⟨_, _, g, pe_le.set (y := .inl (2, n2, c3)) e2 rfl⟩
  · obtain ⟨_, g⟩ := pe_bif_inv hg
    obtain ⟨j, st3, tx, rfl, _, g⟩ := pe_slk_inv g
    obtain ⟨_, g⟩ := pe_bif_inv g
    exact ⟨_, _, g, pe_le.rf⟩
  · exact ⟨_, _, hg, pe_le.rf⟩
  · obtain ⟨m, n, st3, rfl, g⟩ := pe_2i_inv hg
    obtain ⟨_, g⟩ := pe_bif_inv g
    rw [pe_fn_eq, pe_fn_eq, pe_fn_eq, pe_rowk_eq, pe_pushk_eq, pe_repk_eq] at g
    exact ⟨_, _, g, pe_le.push.tr pe_le.app⟩
theorem pe_mono (G : pe_G) : ∀ (f d : Nat) (mt : pe_Mt) (is : List pe_I) (L : pm_L) (st : List Value) (h : pe_H) (o : pm_O) (h2 : pe_H), pe_go G f d mt is L st h = some (o, h2) → pe_le h h2 := by
  intro f
  induction f with
  | zero => intro d mt is L st h o h2 hg; cases hg
  | succ f ih =>
    intro d mt is L st h o h2 hg
    cases is with
    | nil => cases hg
    | cons i rest =>
      rcases i with i | ⟨ix, ci, k0, host, wd⟩ | ⟨i, tb⟩ | ⟨wide, ix, v, wd⟩ | ⟨ix, ci, k0, tk, host, wd⟩ | ⟨ix, mi, n, rc, ws⟩ | ⟨ix, mi, n, ws⟩ | ⟨ix, mi, n, ws⟩ | tb | i | ⟨ix, v, wd⟩ | ⟨i, n, lo, ts, df⟩ | ⟨ix, ci, ws⟩ | ⟨ix, t, wd⟩ | ⟨ix, ws⟩ | i | ⟨i, n, ofs⟩ | u
      · obtain ⟨L3, st3, h3, g, q⟩ := pe_op_mono hg
        exact q.tr (ih _ _ _ _ _ _ _ _ g)
      · obtain ⟨a, st3, rfl, g⟩ := pe_rf_inv hg
        obtain ⟨vs, _, g⟩ := pe_obj_inv g
        split at g
        · exact ih _ _ _ _ _ _ _ _ g
        · cases g
      · replace hg : (pe_cd i st (fun b st => bif b then pe_jmp mt tb (fun is => pe_go G f d mt is L st h) else pe_go G f d mt rest L st h)) = some (o, h2) := hg
        obtain ⟨b, st3, g⟩ := pe_cd_inv hg
        cases b
        · exact ih _ _ _ _ _ _ _ _ g
        · obtain ⟨p, is, _, g⟩ := pe_jmp_inv g
          exact ih _ _ _ _ _ _ _ _ g
      · exact ih _ _ _ _ _ _ _ _ hg
      · obtain ⟨a, v, st3, rfl, g⟩ := pe_irf_inv hg
        obtain ⟨_, g⟩ := pe_bif_inv g
        obtain ⟨vs, e1, g⟩ := pe_obj_inv g
        obtain ⟨_, g⟩ := pe_bif_inv g
        rw [pe_setk_eq, pe_setk_eq] at g
        exact (pe_le.set e1 (by simp [pe_d, pm_n])).tr (ih _ _ _ _ _ _ _ _ g)
      · obtain ⟨As, st3, _, rfl, g⟩ := pe_pop_inv hg
        obtain ⟨b, st4, rfl, g⟩ := pe_rf_inv g
        obtain ⟨_, _, g⟩ := pe_obj_inv g
        obtain ⟨m2, d2, p0, is, v, h3, _, _, _, _, _, _, g1, g2⟩ := pe_cal_inv g
        exact (ih _ _ _ _ _ _ _ _ g1).tr (ih _ _ _ _ _ _ _ _ g2)
      · obtain ⟨As, st3, _, rfl, g⟩ := pe_pop_inv hg
        obtain ⟨m2, d2, p0, is, v, h3, _, _, _, _, _, _, g1, g2⟩ := pe_cal_inv g
        exact (ih _ _ _ _ _ _ _ _ g1).tr (ih _ _ _ _ _ _ _ _ g2)
      · obtain ⟨As, st3, _, rfl, g⟩ := pe_pop_inv hg
        obtain ⟨b, st4, rfl, g⟩ := pe_rf_inv g
        obtain ⟨m2, d2, p0, is, v, h3, _, _, _, _, _, _, g1, g2⟩ := pe_cal_inv g
        exact (ih _ _ _ _ _ _ _ _ g1).tr (ih _ _ _ _ _ _ _ _ g2)
      · obtain ⟨p, is, _, g⟩ := pe_jmp_inv hg
        exact ih _ _ _ _ _ _ _ _ g
      · rw [pe_rt_inv (show pe_rt mt.ret i st h = some (o, h2) from hg)]
        exact pe_le.rf
      · exact ih _ _ _ _ _ _ _ _ hg
      · obtain ⟨x, st3, rfl, g⟩ := pe_1i_inv hg
        obtain ⟨p, is, _, g⟩ := pe_jmp_inv g
        exact ih _ _ _ _ _ _ _ _ g
      · replace hg : (match pe_at G.dv ci with
        | some vs => pe_fn h.length (fun a => pe_pushk (.inr (.inl (ci, vs))) h (fun h => pe_go G f d mt rest L (.ref a :: st) h))
        | none => none) = some (o, h2) := hg
        split at hg
        · rw [pe_fn_eq, pe_pushk_eq] at hg
          exact pe_le.push.tr (ih _ _ _ _ _ _ _ _ hg)
        · cases hg
      · obtain ⟨n, st3, rfl, g⟩ := pe_1i_inv hg
        obtain ⟨_, g⟩ := pe_bif_inv g
        rw [pe_fn_eq, pe_fn_eq, pe_pushk_eq] at g
        exact pe_le.push.tr (ih _ _ _ _ _ _ _ _ g)
      · obtain ⟨a, st3, rfl, g⟩ := pe_rf_inv hg
        obtain ⟨_, g⟩ := pe_bif_inv g
        exact ih _ _ _ _ _ _ _ _ g
      · obtain ⟨st3, h3, g, q⟩ := pe_spk_mono hg
        exact q.tr (ih _ _ _ _ _ _ _ _ g)
      · obtain ⟨x, st3, rfl, g⟩ := pe_1i_inv hg
        obtain ⟨tb, g⟩ := pe_lkk_inv g
        obtain ⟨p, is, _, g⟩ := pe_jmp_inv g
        exact ih _ _ _ _ _ _ _ _ g
      · cases hg
