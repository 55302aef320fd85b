/-! PART 21c: what lies at an address stays what it is, and as long as it is. -/
def pe_kl (x : pe_E) : Nat × Nat × Nat := match x with
  | .inl (t, n, _) => (0, t, n)
  | .inr (.inl (ci, _)) => (1, ci, 0)
  | .inr (.inr (.inl (t, n, _))) => (2, t, n)
  | .inr (.inr (.inr (t, n, _))) => (3, t, n)
def pe_lm (h h2 : pe_H) : Prop := ∀ (a : Nat) (x : pe_E), h[a]? = some x → ∃ y : pe_E, h2[a]? = some y ∧ pe_kl y = pe_kl x
theorem pe_lm.rf {h : pe_H} : pe_lm h h := fun a x hx => ⟨x, hx, rfl⟩
theorem pe_lm.tr {h h2 h3 : pe_H} (a : pe_lm h h2) (b : pe_lm h2 h3) : pe_lm h h3 := fun i x hx => by
  obtain ⟨y, y1, y2⟩ := a i x hx
  obtain ⟨z, z1, z2⟩ := b i y y1
  exact ⟨z, z1, z2.trans y2⟩
theorem pe_lm.set {h : pe_H} {a : Nat} {x y : pe_E} (hx : pe_at h a = some x) (hn : pe_kl y = pe_kl x) : pe_lm h (h.set a y) := fun i z hz => by
  rw [pe_at_eq] at hx
  by_cases e : a = i
  · subst e
    have hl : a < h.length := (List.getElem?_eq_some_iff.mp hx).1
    refine ⟨y, by rw [List.getElem?_set_self hl], ?_⟩
    rw [hx] at hz
    cases hz
    exact hn
  · exact ⟨z, by rw [List.getElem?_set_ne e]; exact hz, rfl⟩
theorem pe_lm.app {h : pe_H} {g : pe_H} : pe_lm h (h ++ g) := fun i z hz => ⟨z, by rw [List.getElem?_append_left (List.getElem?_eq_some_iff.mp hz).1]; exact hz, rfl⟩
theorem pe_lm.push {h : pe_H} {x : pe_E} : pe_lm h (h ++ [x]) := pe_lm.app
theorem pe_op_lm {α : Type} {xs : List (Nat × List Int32)} {mx : Nat} {i : Instr} {L : pm_L} {st : List Value} {h : pe_H} {k : pm_L → List Value → pe_H → Option α} {r : α} (hg : pe_op xs mx i L st h k = some r) : ∃ L2 st2 h2, k L2 st2 h2 = some r ∧ pe_lm h h2 := by
  cases i with
  | iadd =>
    obtain ⟨x, y, st2, rfl, g0⟩ := pe_2i_inv hg
    rw [pe_fi_eq] at g0
    exact ⟨_, _, _, g0, pe_lm.rf⟩
  | imul =>
    obtain ⟨x, y, st2, rfl, g0⟩ := pe_2i_inv hg
    rw [pe_fi_eq] at g0
    exact ⟨_, _, _, g0, pe_lm.rf⟩
  | ior =>
    obtain ⟨x, y, st2, rfl, g0⟩ := pe_2i_inv hg
    rw [pe_fi_eq] at g0
    exact ⟨_, _, _, g0, pe_lm.rf⟩
  | ixor =>
    obtain ⟨x, y, st2, rfl, g0⟩ := pe_2i_inv hg
    rw [pe_fi_eq] at g0
    exact ⟨_, _, _, g0, pe_lm.rf⟩
  | ishl =>
    obtain ⟨x, y, st2, rfl, g0⟩ := pe_2i_inv hg
    rw [pe_fi_eq] at g0
    exact ⟨_, _, _, g0, pe_lm.rf⟩
  | ishr =>
    obtain ⟨x, y, st2, rfl, g0⟩ := pe_2i_inv hg
    rw [pe_fi_eq] at g0
    exact ⟨_, _, _, g0, pe_lm.rf⟩
  | iushr =>
    obtain ⟨x, y, st2, rfl, g0⟩ := pe_2i_inv hg
    rw [pe_fi_eq] at g0
    exact ⟨_, _, _, g0, pe_lm.rf⟩
  | ladd =>
    obtain ⟨x, y, st2, rfl, g0⟩ := pe_2l_inv hg
    rw [pe_fl_eq] at g0
    exact ⟨_, _, _, g0, pe_lm.rf⟩
  | lsub =>
    obtain ⟨x, y, st2, rfl, g0⟩ := pe_2l_inv hg
    rw [pe_fl_eq] at g0
    exact ⟨_, _, _, g0, pe_lm.rf⟩
  | lmul =>
    obtain ⟨x, y, st2, rfl, g0⟩ := pe_2l_inv hg
    rw [pe_fl_eq] at g0
    exact ⟨_, _, _, g0, pe_lm.rf⟩
  | land =>
    obtain ⟨x, y, st2, rfl, g0⟩ := pe_2l_inv hg
    rw [pe_fl_eq] at g0
    exact ⟨_, _, _, g0, pe_lm.rf⟩
  | lor =>
    obtain ⟨x, y, st2, rfl, g0⟩ := pe_2l_inv hg
    rw [pe_fl_eq] at g0
    exact ⟨_, _, _, g0, pe_lm.rf⟩
  | lxor =>
    obtain ⟨x, y, st2, rfl, g0⟩ := pe_2l_inv hg
    rw [pe_fl_eq] at g0
    exact ⟨_, _, _, g0, pe_lm.rf⟩
  | idiv =>
    obtain ⟨x, y, st2, rfl, g0⟩ := pe_2i_inv hg
    obtain ⟨b1, g1⟩ := pe_bif_inv2 g0
    rw [pe_fi_eq] at g1
    exact ⟨_, _, _, g1, pe_lm.rf⟩
  | irem =>
    obtain ⟨x, y, st2, rfl, g0⟩ := pe_2i_inv hg
    obtain ⟨b1, g1⟩ := pe_bif_inv2 g0
    rw [pe_fi_eq] at g1
    exact ⟨_, _, _, g1, pe_lm.rf⟩
  | ldiv =>
    obtain ⟨x, y, st2, rfl, g0⟩ := pe_2l_inv hg
    obtain ⟨b1, g1⟩ := pe_bif_inv2 g0
    rw [pe_fl_eq] at g1
    exact ⟨_, _, _, g1, pe_lm.rf⟩
  | lrem =>
    obtain ⟨x, y, st2, rfl, g0⟩ := pe_2l_inv hg
    obtain ⟨b1, g1⟩ := pe_bif_inv2 g0
    rw [pe_fl_eq] at g1
    exact ⟨_, _, _, g1, pe_lm.rf⟩
  | ineg =>
    obtain ⟨x, st2, rfl, g0⟩ := pe_1i_inv hg
    rw [pe_fi_eq] at g0
    exact ⟨_, _, _, g0, pe_lm.rf⟩
  | lneg =>
    obtain ⟨x, st2, rfl, g0⟩ := pe_1l_inv hg
    rw [pe_fl_eq] at g0
    exact ⟨_, _, _, g0, pe_lm.rf⟩
  | lushr =>
    obtain ⟨x, y, st2, rfl, g0⟩ := pe_li_inv hg
    rw [pe_fl_eq] at g0
    exact ⟨_, _, _, g0, pe_lm.rf⟩
  | lshl =>
    obtain ⟨x, y, st2, rfl, g0⟩ := pe_li_inv hg
    rw [pe_fl_eq] at g0
    exact ⟨_, _, _, g0, pe_lm.rf⟩
  | lshr =>
    obtain ⟨x, y, st2, rfl, g0⟩ := pe_li_inv hg
    rw [pe_fl_eq] at g0
    exact ⟨_, _, _, g0, pe_lm.rf⟩
  | iand =>
    obtain ⟨u, v, st2, rfl, g0⟩ := pe_vv_inv hg
    obtain ⟨w, g1, hq⟩ := pe_iak_inv g0
    exact ⟨_, _, _, g1, pe_lm.rf⟩
  | isub =>
    obtain ⟨u, v, st2, rfl, g0⟩ := pe_vv_inv hg
    obtain ⟨w, g1, hq⟩ := pe_isbk_inv g0
    exact ⟨_, _, _, g1, pe_lm.rf⟩
  | i2l =>
    obtain ⟨v, st2, rfl, g0⟩ := pe_v_inv hg
    obtain ⟨u, g1, hq⟩ := pe_i2lk_inv g0
    exact ⟨_, _, _, g1, pe_lm.rf⟩
  | l2i =>
    obtain ⟨x, st2, rfl, g0⟩ := pe_1l_inv hg
    rw [pe_fi_eq] at g0
    exact ⟨_, _, _, g0, pe_lm.rf⟩
  | i2b =>
    obtain ⟨x, st2, rfl, g0⟩ := pe_1i_inv hg
    rw [pe_fi_eq] at g0
    exact ⟨_, _, _, g0, pe_lm.rf⟩
  | i2c =>
    obtain ⟨x, st2, rfl, g0⟩ := pe_1i_inv hg
    rw [pe_fi_eq] at g0
    exact ⟨_, _, _, g0, pe_lm.rf⟩
  | lcmp =>
    obtain ⟨u, v, st2, rfl, g0⟩ := pe_vv_inv hg
    obtain ⟨w, g1, hq⟩ := pe_lck_inv g0
    exact ⟨_, _, _, g1, pe_lm.rf⟩
  | iconst n =>
    replace hg : (pe_fi (Int32.ofInt n) fun z => k L (.int z :: st) h) = some r := hg
    rw [pe_fi_eq] at hg
    exact ⟨_, _, _, hg, pe_lm.rf⟩
  | bipush n =>
    replace hg : (pe_fi (Int8.ofInt n).toInt32 fun z => k L (.int z :: st) h) = some r := hg
    rw [pe_fi_eq] at hg
    exact ⟨_, _, _, hg, pe_lm.rf⟩
  | sipush n =>
    replace hg : (pe_fi (Int16.ofInt n).toInt32 fun z => k L (.int z :: st) h) = some r := hg
    rw [pe_fi_eq] at hg
    exact ⟨_, _, _, hg, pe_lm.rf⟩
  | lconst n =>
    replace hg : (pe_fl (Int64.ofNat n.val) fun z => k L (.long z :: st) h) = some r := hg
    rw [pe_fl_eq] at hg
    exact ⟨_, _, _, hg, pe_lm.rf⟩
  | aconst_null =>
    exact ⟨_, _, _, hg, pe_lm.rf⟩
  | dup =>
    obtain ⟨v, st2, rfl, g0⟩ := pe_v_inv hg
    obtain ⟨b1, g1⟩ := pe_bif_inv g0
    exact ⟨_, _, _, g1, pe_lm.rf⟩
  | pop =>
    obtain ⟨v, st2, rfl, g0⟩ := pe_v_inv hg
    obtain ⟨b1, g1⟩ := pe_bif_inv g0
    exact ⟨_, _, _, g1, pe_lm.rf⟩
  | dup2 =>
    obtain ⟨v, st2, rfl, g0⟩ := pe_v_inv hg
    cases hb : Nat.beq v.category 2
    · rw [hb] at g0
      obtain ⟨u, st3, rfl, g1⟩ := pe_v_inv g0
      obtain ⟨_, g2⟩ := pe_bif_inv g1
      exact ⟨_, _, _, g2, pe_lm.rf⟩
    · rw [hb] at g0
      exact ⟨_, _, _, g0, pe_lm.rf⟩
  | dup_x1 =>
    obtain ⟨u, v, st2, rfl, g0⟩ := pe_vv_inv hg
    obtain ⟨b1, g1⟩ := pe_bif_inv g0
    exact ⟨_, _, _, g1, pe_lm.rf⟩
  | iload_n n =>
    obtain ⟨v, e0, r0, g0⟩ := pe_ldv_inv hg
    exact ⟨_, _, _, g0, pe_lm.rf⟩
  | lload_n n =>
    obtain ⟨v, e0, r0, g0⟩ := pe_ldw_inv hg
    exact ⟨_, _, _, g0, pe_lm.rf⟩
  | aload_n n =>
    obtain ⟨v, e0, r0, g0⟩ := pe_lda_inv hg
    exact ⟨_, _, _, g0, pe_lm.rf⟩
  | istore_n n =>
    obtain ⟨v, st2, rfl, g0⟩ := pe_v_inv hg
    obtain ⟨b1, g1⟩ := pe_bif_inv g0
    rw [pe_st1k_eq] at g1
    exact ⟨_, _, _, g1, pe_lm.rf⟩
  | lstore_n n =>
    obtain ⟨x, st2, rfl, g0⟩ := pe_1l_inv hg
    obtain ⟨b1, g1⟩ := pe_bif_inv g0
    rw [pe_st2k_eq] at g1
    exact ⟨_, _, _, g1, pe_lm.rf⟩
  | astore_n n =>
    obtain ⟨v, st2, rfl, g0⟩ := pe_v_inv hg
    obtain ⟨b1, g1⟩ := pe_bif_inv g0
    rw [pe_st1k_eq] at g1
    exact ⟨_, _, _, g1, pe_lm.rf⟩
  | iload n =>
    obtain ⟨v, e0, r0, g0⟩ := pe_ldv_inv hg
    exact ⟨_, _, _, g0, pe_lm.rf⟩
  | lload n =>
    obtain ⟨v, e0, r0, g0⟩ := pe_ldw_inv hg
    exact ⟨_, _, _, g0, pe_lm.rf⟩
  | aload n =>
    obtain ⟨v, e0, r0, g0⟩ := pe_lda_inv hg
    exact ⟨_, _, _, g0, pe_lm.rf⟩
  | istore n =>
    obtain ⟨v, st2, rfl, g0⟩ := pe_v_inv hg
    obtain ⟨b1, g1⟩ := pe_bif_inv g0
    rw [pe_st1k_eq] at g1
    exact ⟨_, _, _, g1, pe_lm.rf⟩
  | lstore n =>
    obtain ⟨x, st2, rfl, g0⟩ := pe_1l_inv hg
    obtain ⟨b1, g1⟩ := pe_bif_inv g0
    rw [pe_st2k_eq] at g1
    exact ⟨_, _, _, g1, pe_lm.rf⟩
  | astore n =>
    obtain ⟨v, st2, rfl, g0⟩ := pe_v_inv hg
    obtain ⟨b1, g1⟩ := pe_bif_inv g0
    rw [pe_st1k_eq] at g1
    exact ⟨_, _, _, g1, pe_lm.rf⟩
  | iinc i n =>
    obtain ⟨x, e0, g0⟩ := pe_ldi_inv hg
    obtain ⟨b1, g1⟩ := pe_bif_inv g0
    rw [pe_fi_eq] at g1
    rw [pe_st1k_eq] at g1
    exact ⟨_, _, _, g1, pe_lm.rf⟩
  | iaload =>
    replace hg : (pe_xi xs st (fun v st => k L (v :: st) h) (pe_ix st fun a i st => pe_ari h a fun t n c => bif Nat.beq t 0 && pe_inb i n then pe_fi (pe_lk 0 i.toNatClampNeg c) fun z => k L (.int z :: st) h else none)) = some r := hg
    rcases pe_xi_inv hg with ⟨i, j, st2, tx, z, v, rfl, _, _, g, _⟩ | hg
    · exact ⟨_, _, _, g, pe_lm.rf⟩
    · obtain ⟨a, i, st2, rfl, g0⟩ := pe_ix_inv hg
      obtain ⟨t, n, c, e1, g1⟩ := pe_ari_inv g0
      obtain ⟨_, g2⟩ := pe_bif_inv g1
      rw [pe_fi_eq] at g2
      exact ⟨_, _, _, g2, pe_lm.rf⟩
  | baload =>
    replace hg : (pe_xb xs st (fun z st => k L (.int z :: st) h) (pe_ix st fun a i st => pe_ari h a fun t n c => bif (Nat.beq t 2 || Nat.beq t 3) && pe_inb i n then pe_fi (pe_lk 0 i.toNatClampNeg c) fun z => k L (.int z :: st) h else none)) = some r := hg
    rcases pe_xb_inv hg with ⟨i, j, st2, tx, z, rfl, _, _, g, _⟩ | hg
    · exact ⟨_, _, _, g, pe_lm.rf⟩
    · obtain ⟨a, i, st2, rfl, g0⟩ := pe_ix_inv hg
      obtain ⟨t, n, c, e1, g1⟩ := pe_ari_inv g0
      obtain ⟨_, g2⟩ := pe_bif_inv g1
      rw [pe_fi_eq] at g2
      exact ⟨_, _, _, g2, pe_lm.rf⟩
  | laload =>
    obtain ⟨a0, i0, st2, rfl, g0⟩ := pe_ix_inv hg
    obtain ⟨t0, n0c, c0, e1, g1⟩ := pe_arl_inv g0
    obtain ⟨b2, g2⟩ := pe_bif_inv g1
    rw [pe_fl_eq] at g2
    exact ⟨_, _, _, g2, pe_lm.rf⟩
  | aaload =>
    obtain ⟨a0, i0, st2, rfl, g0⟩ := pe_ix_inv hg
    obtain ⟨t0, n0c, c0, e1, g1⟩ := pe_arr_inv g0
    obtain ⟨b2, g2⟩ := pe_bif_inv g1
    rw [pe_rfk_eq] at g2
    exact ⟨_, _, _, g2, pe_lm.rf⟩
  | iastore =>
    obtain ⟨a0, i0, x, st2, rfl, g0⟩ := pe_ixi_inv hg
    obtain ⟨t0, n0c, c0, e1, g1⟩ := pe_ari_inv g0
    obtain ⟨b2, g2⟩ := pe_bif_inv g1
    rw [pe_fi_eq] at g2
    rw [pe_insk_eq] at g2
    rw [pe_setk_eq] at g2
    exact ⟨_, _, _, g2, pe_lm.set e1 rfl⟩
  | bastore =>
    obtain ⟨a, i, x, st2, rfl, g0⟩ := pe_ixi_inv hg
    obtain ⟨t, n, c, e1, g1⟩ := pe_ari_inv g0
    cases hb : Nat.beq t 2 && pe_inb i n
    · rw [hb] at g1
      obtain ⟨_, g2⟩ := pe_bif_inv g1
      rw [pe_fi_eq, pe_insk_eq, pe_setk_eq] at g2
      exact ⟨_, _, _, g2, pe_lm.set e1 rfl⟩
    · rw [hb] at g1
      have g2 : pe_fi (vp_nar .byte x) (fun z => pe_insk (decide (z = 0)) i.toNatClampNeg z c fun c => pe_setk (.inl (t, n, c)) h a fun h => k L st2 h) = some r := g1
      rw [pe_fi_eq, pe_insk_eq, pe_setk_eq] at g2
      exact ⟨_, _, _, g2, pe_lm.set e1 rfl⟩
  | lastore =>
    obtain ⟨a0, i0, x, st2, rfl, g0⟩ := pe_ixl_inv hg
    obtain ⟨t0, n0c, c0, e1, g1⟩ := pe_arl_inv g0
    obtain ⟨b2, g2⟩ := pe_bif_inv g1
    rw [pe_insk_eq] at g2
    rw [pe_setk_eq] at g2
    exact ⟨_, _, _, g2, pe_lm.set e1 rfl⟩
  | aastore =>
    obtain ⟨a0, i0, x, st2, rfl, g0⟩ := pe_ixr_inv hg
    obtain ⟨t0, n0c, c0, e1, g1⟩ := pe_arr_inv g0
    obtain ⟨b2, g2⟩ := pe_bif_inv g1
    rw [pe_insk_eq] at g2
    rw [pe_setk_eq] at g2
    exact ⟨_, _, _, g2, pe_lm.set e1 rfl⟩
  | arraylength =>
    replace hg : (pe_xn xs st (fun n st => pe_fi (Int32.ofNat n) fun z => k L (.int z :: st) h) (pe_rf st fun a st => pe_lenk h a fun n => pe_fi (Int32.ofNat n) fun z => k L (.int z :: st) h)) = some r := hg
    rcases pe_xn_inv hg with ⟨j, st2, tx, rfl, _, g⟩ | hg
    · rw [pe_fi_eq] at g
      exact ⟨_, _, _, g, pe_lm.rf⟩
    · obtain ⟨a, st2, rfl, g0⟩ := pe_rf_inv hg
      obtain ⟨t, x, _, _, g1⟩ := pe_lenk_inv g0
      rw [pe_fi_eq] at g1
      exact ⟨_, _, _, g1, pe_lm.rf⟩
  | newarray ty =>
    obtain ⟨n, st2, rfl, g0⟩ := pe_1i_inv hg
    obtain ⟨_, g1⟩ := pe_bif_inv g0
    rw [pe_fn_eq, pe_fn_eq] at g1
    obtain ⟨x0, g2, _⟩ := pe_newk_inv g1
    rw [pe_pushk_eq] at g2
    exact ⟨_, _, _, g2, pe_lm.push⟩
  | _ => cases hg
theorem pe_spk_lm {α : Type} {xs : List (Nat × List Int32)} {d : Nat} {i : pe_S} {L : pm_L} {st : List Value} {h : pe_H} {k : List Value → pe_H → Option α} {r : α} (hg : pe_spk xs d i L st h k = some r) : ∃ st2 h2, k st2 h2 = some r ∧ pe_lm h h2 := by
  rcases i with ⟨wide, ix, j⟩ | ⟨ix, ws⟩ | ⟨ix, ws⟩ | ⟨ix, ws⟩ | ⟨ix, j, host, wd⟩ | ⟨ix, ws⟩ | ⟨ix, ic, ws⟩ | ⟨ix, ws⟩ | ⟨wide, ix, ic, kx, j, ci, ws⟩ | ⟨ix, ws⟩
  · exact ⟨_, _, hg, pe_lm.rf⟩
  · obtain ⟨_, g⟩ := pe_bif_inv hg
    obtain ⟨i, j, st3, tx, z, rfl, _, _, _, g⟩ := pe_sck_inv g
    obtain ⟨_, g⟩ := pe_bif_inv g
    exact ⟨_, _, g, pe_lm.rf⟩
  · obtain ⟨n, dp, b, sp, a, st3, n1, n2, rfl, _, _, _, _, _, _, _, g⟩ := pe_ack_inv hg
    rcases g with ⟨t, c1, c2, c3, _, e2, _, _, g⟩ | ⟨c1, c2, c3, _, e2, _, g⟩
    · exact ⟨_, _, g, pe_lm.set (y := .inl (t, n2, c3)) e2 rfl⟩
    · exact ⟨_, _, g, pe_lm.set (y := .inr (.inr (.inr ((1, n2, c3))))) e2 rfl⟩
  · obtain ⟨_, g⟩ := pe_bif_inv hg
    obtain ⟨j, st3, tx, rfl, _, g⟩ := pe_slk_inv g
    obtain ⟨_, g⟩ := pe_bif_inv g
    exact ⟨_, _, g, pe_lm.rf⟩
  · exact ⟨_, _, hg, pe_lm.rf⟩
  · obtain ⟨m, n, st3, rfl, g⟩ := pe_2i_inv hg
    obtain ⟨_, g⟩ := pe_bif_inv g
    rw [pe_fn_eq, pe_fn_eq, pe_fn_eq, pe_rowk_eq, pe_pushk_eq, pe_repk_eq] at g
    exact ⟨_, _, g, pe_lm.push.tr pe_lm.app⟩
  · obtain ⟨_, g⟩ := pe_bif_inv hg
    rw [pe_fn_eq, pe_pushk_eq] at g
    exact ⟨_, _, g, pe_lm.push⟩
  · obtain ⟨a, b, vs, c, _, _, _, e2, _, g⟩ := pe_zlk_inv hg
    exact ⟨_, _, g, pe_lm.set (y := .inl (3, 4000, [])) e2 rfl⟩
  · obtain ⟨_, g⟩ := pe_bif_inv hg
    rw [pe_fn_eq, pe_pushk_eq] at g
    exact ⟨_, _, g, pe_lm.push⟩
  · obtain ⟨_, g⟩ := pe_bif_inv hg
    obtain ⟨i, j, st3, tx, rfl, _, _, _, g⟩ := pe_sik_inv g
    obtain ⟨_, g⟩ := pe_bif_inv g
    exact ⟨_, _, g, pe_lm.rf⟩
theorem pe_lmo (G : pe_G) : ∀ (f d : Nat) (mt : pe_Mt) (is : List pe_I) (L : pm_L) (st : List Value) (h : pe_H) (o : pm_O) (h2 : pe_H), pe_go G f d mt is L st h = some (o, h2) → pe_lm h h2 := by
  intro f
  induction f with
  | zero => intro d mt is L st h o h2 hg; cases hg
  | succ f ih =>
    intro d mt is L st h o h2 hg
    cases is with
    | nil => cases hg
    | cons i rest =>
      rcases i with i | ⟨ix, ci, k0, host, wd⟩ | ⟨i, tb⟩ | ⟨wide, ix, v, wd⟩ | ⟨ix, ci, k0, tk, host, wd⟩ | ⟨ix, mi, n, rc, ws⟩ | ⟨ix, mi, n, ws⟩ | ⟨ix, mi, n, ws⟩ | tb | i | ⟨ix, v, wd⟩ | ⟨i, n, lo, ts, df⟩ | ⟨ix, ci, ws⟩ | ⟨ix, t, wd⟩ | ⟨ix, ws⟩ | i | ⟨i, n, ofs⟩ | u | ⟨ix, mi, n, rc, ws, hdl⟩ | hdl
      · obtain ⟨L3, st3, h3, g, q⟩ := pe_op_lm hg
        exact q.tr (ih _ _ _ _ _ _ _ _ g)
      · obtain ⟨a, st3, rfl, g⟩ := pe_rf_inv hg
        obtain ⟨vs, _, g⟩ := pe_obj_inv g
        split at g
        · exact ih _ _ _ _ _ _ _ _ g
        · cases g
      · replace hg : (pe_cd i st (fun b st => bif b then pe_jmp mt tb (fun is => pe_go G f d mt is L st h) else pe_go G f d mt rest L st h)) = some (o, h2) := hg
        obtain ⟨b, st3, g⟩ := pe_cd_inv hg
        cases b
        · exact ih _ _ _ _ _ _ _ _ g
        · obtain ⟨p, is, _, g⟩ := pe_jmp_inv g
          exact ih _ _ _ _ _ _ _ _ g
      · exact ih _ _ _ _ _ _ _ _ hg
      · obtain ⟨a, v, st3, rfl, g⟩ := pe_irf_inv hg
        obtain ⟨_, g⟩ := pe_bif_inv g
        obtain ⟨vs, e1, g⟩ := pe_obj_inv g
        obtain ⟨_, g⟩ := pe_bif_inv g
        rw [pe_setk_eq, pe_setk_eq] at g
        exact (pe_lm.set e1 (by simp [pe_kl])).tr (ih _ _ _ _ _ _ _ _ g)
      · obtain ⟨As, st3, _, rfl, g⟩ := pe_pop_inv hg
        obtain ⟨b, st4, rfl, g⟩ := pe_rf_inv g
        obtain ⟨_, _, g⟩ := pe_obj_inv g
        obtain ⟨m2, d2, p0, is, o3, h3, _, _, _, _, _, _, g1, g2⟩ := pe_calx_inv g
        rcases g2 with ⟨v, rfl, g2⟩ | ⟨x, rfl, g2⟩
        · exact (ih _ _ _ _ _ _ _ _ g1).tr (ih _ _ _ _ _ _ _ _ g2)
        · obtain ⟨_, g2⟩ := pe_bif_inv g2
          cases g2
          exact ih _ _ _ _ _ _ _ _ g1
      · obtain ⟨As, st3, _, rfl, g⟩ := pe_pop_inv hg
        obtain ⟨m2, d2, p0, is, o3, h3, _, _, _, _, _, _, g1, g2⟩ := pe_calx_inv g
        rcases g2 with ⟨v, rfl, g2⟩ | ⟨x, rfl, g2⟩
        · exact (ih _ _ _ _ _ _ _ _ g1).tr (ih _ _ _ _ _ _ _ _ g2)
        · obtain ⟨_, g2⟩ := pe_bif_inv g2
          cases g2
          exact ih _ _ _ _ _ _ _ _ g1
      · obtain ⟨As, st3, _, rfl, g⟩ := pe_pop_inv hg
        obtain ⟨b, st4, rfl, g⟩ := pe_rf_inv g
        obtain ⟨m2, d2, p0, is, o3, h3, _, _, _, _, _, _, g1, g2⟩ := pe_calx_inv g
        rcases g2 with ⟨v, rfl, g2⟩ | ⟨x, rfl, g2⟩
        · exact (ih _ _ _ _ _ _ _ _ g1).tr (ih _ _ _ _ _ _ _ _ g2)
        · obtain ⟨_, g2⟩ := pe_bif_inv g2
          cases g2
          exact ih _ _ _ _ _ _ _ _ g1
      · obtain ⟨p, is, _, g⟩ := pe_jmp_inv hg
        exact ih _ _ _ _ _ _ _ _ g
      · rw [pe_rt_inv (show pe_rt mt.ret i st h = some (o, h2) from hg)]
        exact pe_lm.rf
      · exact ih _ _ _ _ _ _ _ _ hg
      · replace hg : (pe_swk lo ts df st (fun tb st => pe_jmp mt tb (fun is => pe_go G f d mt is L st h))) = some (o, h2) := hg
        obtain ⟨v, x, st3, rfl, _, g⟩ := pe_swk_inv hg (fun _ => 0) 0
        obtain ⟨p, is, _, g⟩ := pe_jmp_inv g
        exact ih _ _ _ _ _ _ _ _ g
      · replace hg : (match pe_at G.dv ci with
        | some vs => pe_fn h.length (fun a => pe_pushk (.inr (.inl (ci, vs))) h (fun h => pe_go G f d mt rest L (.ref a :: st) h))
        | none => none) = some (o, h2) := hg
        split at hg
        · rw [pe_fn_eq, pe_pushk_eq] at hg
          exact pe_lm.push.tr (ih _ _ _ _ _ _ _ _ hg)
        · cases hg
      · obtain ⟨n, st3, rfl, g⟩ := pe_1i_inv hg
        obtain ⟨_, g⟩ := pe_bif_inv g
        rw [pe_fn_eq, pe_fn_eq, pe_pushk_eq] at g
        exact pe_lm.push.tr (ih _ _ _ _ _ _ _ _ g)
      · obtain ⟨a, st3, rfl, g⟩ := pe_rf_inv hg
        obtain ⟨_, g⟩ := pe_bif_inv g
        exact ih _ _ _ _ _ _ _ _ g
      · obtain ⟨st3, h3, g, q⟩ := pe_spk_lm hg
        exact q.tr (ih _ _ _ _ _ _ _ _ g)
      · obtain ⟨x, st3, rfl, g⟩ := pe_1i_inv hg
        obtain ⟨tb, g⟩ := pe_lkk_inv g
        obtain ⟨p, is, _, g⟩ := pe_jmp_inv g
        exact ih _ _ _ _ _ _ _ _ g
      · obtain ⟨x, st3, rfl, rfl, rfl⟩ := pe_thk_inv (show pe_thk st h = some (o, h2) from hg)
        exact pe_lm.rf
      · obtain ⟨As, st3, _, rfl, g⟩ := pe_pop_inv hg
        obtain ⟨b, st4, rfl, g⟩ := pe_rf_inv g
        obtain ⟨_, _, g⟩ := pe_obj_inv g
        obtain ⟨m2, d2, p0, is, o3, h3, _, _, _, _, _, _, g1, g2⟩ := pe_calx_inv g
        rcases g2 with ⟨v, rfl, g2⟩ | ⟨x, rfl, g2⟩
        · exact (ih _ _ _ _ _ _ _ _ g1).tr (ih _ _ _ _ _ _ _ _ g2)
        · obtain ⟨vs, q, _, _, g2⟩ := pe_ctk_inv g2
          obtain ⟨p, is, _, g2⟩ := pe_jmp_inv g2
          exact (ih _ _ _ _ _ _ _ _ g1).tr (ih _ _ _ _ _ _ _ _ g2)
      · obtain ⟨x, st3, rfl, g⟩ := pe_rf_inv hg
        obtain ⟨vs, q, _, _, g⟩ := pe_ctk_inv g
        obtain ⟨p, is, _, g⟩ := pe_jmp_inv g
        exact ih _ _ _ _ _ _ _ _ g
