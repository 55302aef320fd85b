/-! PART 22: an operation of the evaluator is right. -/
def pe_len : Instr → Nat
  | .iload _ => 2
  | .lload _ => 2
  | .aload _ => 2
  | .istore _ => 2
  | .lstore _ => 2
  | .astore _ => 2
  | .bipush _ => 2
  | .newarray _ => 2
  | .sipush _ => 3
  | .iinc _ _ => 3
  | _ => 1
def pe_tyOf (cl : List vw_C) (t : Nat) : Option FieldType := match t with
  | 0 => some .int
  | 1 => some .long
  | 2 => some .byte
  | 3 => some .boolean
  | 4 => some .char
  | 5 => some (.array .int)
  | t + 6 => (pe_at cl t).map (fun q => .object q.1)
theorem pe_inb_ok {i : Int32} {n : Nat} (h : pe_inb i n = true) : vp_in i n := by
  unfold pe_inb at h
  rw [Bool.and_eq_true, Bool.not_eq_true', decide_eq_false_iff_not] at h
  intro q
  rcases q with q | q
  · exact h.1 q
  · have h2 := h.2
    rw [Nat.blt_eq] at h2
    omega
theorem pe_ins_upd (c : List (Nat × Int32)) (i : Nat) (x : Int32) : (fun j => pe_lk 0 j (pe_ins (decide (x = 0)) i x c)) = upd (fun j => pe_lk 0 j c) i x := by
  funext j
  rw [pe_lk_ins _ _ _ _ (fun q => of_decide_eq_true q)]; rfl
theorem pe_ins_updL (c : List (Nat × Int64)) (i : Nat) (x : Int64) : (fun j => pe_lk 0 j (pe_ins (decide (x = 0)) i x c)) = vp_updL (fun j => pe_lk 0 j c) i x := by
  funext j
  rw [pe_lk_ins _ _ _ _ (fun q => of_decide_eq_true q)]; rfl
theorem pe_ins_updR (c : List (Nat × Option Nat)) (i : Nat) (x : Option Nat) : (fun j => pe_lk none j (pe_ins false i x c)) = va_up (fun j => pe_lk none j c) i x := by
  funext j
  rw [pe_lk_ins _ _ _ _ (fun q => by cases q)]; rfl
theorem pe_d_ai (t n i : Nat) (x : Int32) (c : List (Nat × Int32)) : pe_d (.inl (t, n, (pe_ins (decide (x = 0)) i x c))) = .inl (t, .inl (n, upd (fun j => pe_lk 0 j c) i x)) := by
  rw [← pe_ins_upd]; rfl
theorem pe_d_al (t n i : Nat) (x : Int64) (c : List (Nat × Int64)) : pe_d (.inr (.inr (.inr ((t, n, (pe_ins (decide (x = 0)) i x c)))))) = .inl (t, .inr (.inl (n, vp_updL (fun j => pe_lk 0 j c) i x))) := by
  rw [← pe_ins_updL]; rfl
theorem pe_d_ar (t n i : Nat) (x : Option Nat) (c : List (Nat × Option Nat)) : pe_d (.inr (.inr (.inl (t, n, (pe_ins false i x c))))) = .inl (t, .inr (.inr (n, va_up (fun j => pe_lk none j c) i x))) := by
  rw [← pe_ins_updR]; rfl
theorem pe_ty_ref {cl : List vw_C} {t : Nat} {ty : FieldType} (h5 : 5 ≤ t) (h : pe_tyOf cl t = some ty) : ty.isReference = true := by
  match t, h5, h with
  | 5, _, h => cases h; rfl
  | t + 6, _, h =>
    have h2 : (pe_at cl t).map (fun q => FieldType.object q.1) = some ty := h
    cases hq : pe_at cl t with
    | none => rw [hq] at h2; cases h2
    | some q => rw [hq] at h2; cases h2; rfl
section PE22
variable {p : Program} {l : Launch} {e : Env} {R : Room} {s : State} {m : MethodId} {args : Array Value} {below : List Frame} {meth : Method} {c : Code} {Q : State → Prop} {ex : Nat → Nat} {B : Nat} {dA : Nat → ClassId} {D : va_G} {cl : List vw_C} {nL n0 z0 : Nat} {cc : ByteArray} {pc : Nat}
variable {tys : List (ClassId × FieldType)} {xs : List (Nat × List Int32)}
theorem pm_alenX (hx : p.tables.exec = Jvm.exec) (hb : c.code = cc) {L : pm_L} {st : List Value} {h : pm_H} {j N : Nat} {ty : FieldType} {f : Nat → Value} (hT : va_T ty (ex j) N f (fun q => B ≤ q) s s.heap) (hdg : decode cc pc = .ok (.arraylength, 1)) (k : pm_W p l e R s m args below meth c Q ex B dA D cl nL n0 z0 (pc + 1) L (.int (Int32.ofNat N) :: st) h) : pm_W p l e R s m args below meth c Q ex B dA D cl nL n0 z0 pc L (.retAddr j :: st) h := fun ls H locs hl hP hS => va_tlen hx hb hT hS rfl hdg (k ls H locs hl hP hS)
theorem pe_op_ok (hx : p.tables.exec = Jvm.exec) (hb : c.code = cc) (hK : va_K D cl tys s) (hB : s.heap.size = B + n0) (hT : ∀ t, pe_tOK t = true → ∃ ty, pe_tyOf cl t = some ty ∧ tys[t]? = some (dA t, ty)) (harr : ∀ ty, ty = .int ∨ ty = .long ∨ ty = .byte ∨ ty = .boolean → (Cond.arrayClass ty).before args s = true)
    (hxs : ∀ j tx, pe_at xs j = some (1, tx) → va_T .int (ex j) tx.length (fun k => .int (tx.getD k 0)) (fun q => B ≤ q) s s.heap) (hsc : ∀ j tx, pe_at xs j = some (2, tx) → va_T .int (ex j) tx.length (fun k => pm_ph ex (tx.getD k 0).toNatClampNeg) (fun q => B ≤ q) s s.heap) (hxb : ∀ j tx, pe_at xs j = some (3, tx) → va_T .byte (ex j) tx.length (fun k => .int (tx.getD k 0)) (fun q => B ≤ q) s s.heap) (hov : (Cond.arrayOver (.array .int)).before args s = true)
    {α : Type} {i : Instr} {L : pm_L} {st : List Value} {h : pe_H} {k : pm_L → List Value → pe_H → Option α} {r : α} (hg : pe_op xs nL i L st h k = some r) (hdg : decode cc pc = .ok (i, pe_len i)) (hn0 : n0 ≤ h.length) (hz0 : z0 ≤ pm_sz (pe_D h))
    (hR : ∀ L2 st2 h2, k L2 st2 h2 = some r → h2.length - n0 ≤ R.cells ∧ pm_sz (pe_D h2) - z0 ≤ R.slots)
    (K : ∀ L2 st2 h2, k L2 st2 h2 = some r → pe_le h h2 → pm_W p l e R s m args below meth c Q ex B dA D cl nL n0 z0 (pc + pe_len i) L2 st2 (pe_D h2)) : pm_W p l e R s m args below meth c Q ex B dA D cl nL n0 z0 pc L st (pe_D h) := by
  have hty : ∀ t ty, pe_tOK t = true → pe_tyOf cl t = some ty → tys[t]? = some (dA t, ty) := fun t ty h1 h2 => by
    obtain ⟨ty2, q1, q2⟩ := hT t h1
    rw [h2] at q1
    rw [Option.some.inj q1]; exact q2
  cases i with
  | iadd =>
    obtain ⟨x, y, st2, rfl, g0⟩ := pe_2i_inv hg
    rw [pe_fi_eq] at g0
    exact pm_iadd hx hb hdg (K _ _ _ g0 pe_le.rf)
  | imul =>
    obtain ⟨x, y, st2, rfl, g0⟩ := pe_2i_inv hg
    rw [pe_fi_eq] at g0
    exact pm_imul hx hb hdg (K _ _ _ g0 pe_le.rf)
  | ior =>
    obtain ⟨x, y, st2, rfl, g0⟩ := pe_2i_inv hg
    rw [pe_fi_eq] at g0
    exact pm_ior hx hb hdg (K _ _ _ g0 pe_le.rf)
  | ixor =>
    obtain ⟨x, y, st2, rfl, g0⟩ := pe_2i_inv hg
    rw [pe_fi_eq] at g0
    exact pm_ixor hx hb hdg (K _ _ _ g0 pe_le.rf)
  | ishl =>
    obtain ⟨x, y, st2, rfl, g0⟩ := pe_2i_inv hg
    rw [pe_fi_eq] at g0
    exact pm_ishl hx hb hdg (K _ _ _ g0 pe_le.rf)
  | ishr =>
    obtain ⟨x, y, st2, rfl, g0⟩ := pe_2i_inv hg
    rw [pe_fi_eq] at g0
    exact pm_ishr hx hb hdg (K _ _ _ g0 pe_le.rf)
  | iushr =>
    obtain ⟨x, y, st2, rfl, g0⟩ := pe_2i_inv hg
    rw [pe_fi_eq] at g0
    exact pm_iushr hx hb hdg (K _ _ _ g0 pe_le.rf)
  | ladd =>
    obtain ⟨x, y, st2, rfl, g0⟩ := pe_2l_inv hg
    rw [pe_fl_eq] at g0
    exact pm_ladd hx hb hdg (K _ _ _ g0 pe_le.rf)
  | lsub =>
    obtain ⟨x, y, st2, rfl, g0⟩ := pe_2l_inv hg
    rw [pe_fl_eq] at g0
    exact pm_lsub hx hb hdg (K _ _ _ g0 pe_le.rf)
  | lmul =>
    obtain ⟨x, y, st2, rfl, g0⟩ := pe_2l_inv hg
    rw [pe_fl_eq] at g0
    exact pm_lmul hx hb hdg (K _ _ _ g0 pe_le.rf)
  | land =>
    obtain ⟨x, y, st2, rfl, g0⟩ := pe_2l_inv hg
    rw [pe_fl_eq] at g0
    exact pm_land hx hb hdg (K _ _ _ g0 pe_le.rf)
  | lor =>
    obtain ⟨x, y, st2, rfl, g0⟩ := pe_2l_inv hg
    rw [pe_fl_eq] at g0
    exact pm_lor hx hb hdg (K _ _ _ g0 pe_le.rf)
  | lxor =>
    obtain ⟨x, y, st2, rfl, g0⟩ := pe_2l_inv hg
    rw [pe_fl_eq] at g0
    exact pm_lxor hx hb hdg (K _ _ _ g0 pe_le.rf)
  | idiv =>
    obtain ⟨x, y, st2, rfl, g0⟩ := pe_2i_inv hg
    obtain ⟨b1, g1⟩ := pe_bif_inv2 g0
    rw [pe_fi_eq] at g1
    exact pm_idiv hx hb hdg (of_decide_eq_false b1) (K _ _ _ g1 pe_le.rf)
  | irem =>
    obtain ⟨x, y, st2, rfl, g0⟩ := pe_2i_inv hg
    obtain ⟨b1, g1⟩ := pe_bif_inv2 g0
    rw [pe_fi_eq] at g1
    exact pm_irem hx hb hdg (of_decide_eq_false b1) (K _ _ _ g1 pe_le.rf)
  | ldiv =>
    obtain ⟨x, y, st2, rfl, g0⟩ := pe_2l_inv hg
    obtain ⟨b1, g1⟩ := pe_bif_inv2 g0
    rw [pe_fl_eq] at g1
    exact pm_ldiv hx hb hdg (of_decide_eq_false b1) (K _ _ _ g1 pe_le.rf)
  | lrem =>
    obtain ⟨x, y, st2, rfl, g0⟩ := pe_2l_inv hg
    obtain ⟨b1, g1⟩ := pe_bif_inv2 g0
    rw [pe_fl_eq] at g1
    exact pm_lrem hx hb hdg (of_decide_eq_false b1) (K _ _ _ g1 pe_le.rf)
  | ineg =>
    obtain ⟨x, st2, rfl, g0⟩ := pe_1i_inv hg
    rw [pe_fi_eq] at g0
    exact pm_ineg hx hb hdg (K _ _ _ g0 pe_le.rf)
  | lneg =>
    obtain ⟨x, st2, rfl, g0⟩ := pe_1l_inv hg
    rw [pe_fl_eq] at g0
    exact pm_lneg hx hb hdg (K _ _ _ g0 pe_le.rf)
  | lushr =>
    obtain ⟨x, y, st2, rfl, g0⟩ := pe_li_inv hg
    rw [pe_fl_eq] at g0
    exact pm_lushr hx hb hdg (K _ _ _ g0 pe_le.rf)
  | lshl =>
    obtain ⟨x, y, st2, rfl, g0⟩ := pe_li_inv hg
    rw [pe_fl_eq] at g0
    exact pm_lshl hx hb hdg (K _ _ _ g0 pe_le.rf)
  | lshr =>
    obtain ⟨x, y, st2, rfl, g0⟩ := pe_li_inv hg
    rw [pe_fl_eq] at g0
    exact pm_lshr hx hb hdg (K _ _ _ g0 pe_le.rf)
  | iand =>
    obtain ⟨u, v, st2, rfl, g0⟩ := pe_vv_inv hg
    obtain ⟨w, g1, hq⟩ := pe_iak_inv g0
    obtain ⟨x, y, q1, q2, q3⟩ := hq ex B
    exact pm_cg2 (u := .int y) (u2 := .int x) q2 q1 (pm_iand hx hb hdg (pm_cg1 q3.symm (K _ _ _ g1 pe_le.rf)))
  | isub =>
    obtain ⟨u, v, st2, rfl, g0⟩ := pe_vv_inv hg
    obtain ⟨w, g1, hq⟩ := pe_isbk_inv g0
    obtain ⟨x, y, q1, q2, q3⟩ := hq ex B
    exact pm_cg2 (u := .int y) (u2 := .int x) q2 q1 (pm_isub hx hb hdg (pm_cg1 q3.symm (K _ _ _ g1 pe_le.rf)))
  | i2l =>
    obtain ⟨v, st2, rfl, g0⟩ := pe_v_inv hg
    obtain ⟨u, g1, hq⟩ := pe_i2lk_inv g0
    obtain ⟨x, q1, q2⟩ := hq ex B
    exact pm_cg1 (u := .int x) q1 (pm_i2l hx hb hdg (pm_cg1 q2.symm (K _ _ _ g1 pe_le.rf)))
  | l2i =>
    obtain ⟨x, st2, rfl, g0⟩ := pe_1l_inv hg
    rw [pe_fi_eq] at g0
    exact pm_l2i hx hb hdg (K _ _ _ g0 pe_le.rf)
  | i2b =>
    obtain ⟨x, st2, rfl, g0⟩ := pe_1i_inv hg
    rw [pe_fi_eq] at g0
    exact pm_i2b hx hb hdg (K _ _ _ g0 pe_le.rf)
  | i2c =>
    obtain ⟨x, st2, rfl, g0⟩ := pe_1i_inv hg
    rw [pe_fi_eq] at g0
    exact pm_i2c hx hb hdg (K _ _ _ g0 pe_le.rf)
  | lcmp =>
    obtain ⟨u, v, st2, rfl, g0⟩ := pe_vv_inv hg
    obtain ⟨w, g1, hq⟩ := pe_lck_inv g0
    obtain ⟨x, y, q1, q2, q3⟩ := hq ex B
    exact pm_cg2 (u := .long y) (u2 := .long x) q2 q1 (pm_lcmp hx hb hdg (pm_cg1 q3.symm (K _ _ _ g1 pe_le.rf)))
  | iconst n =>
    replace hg : (pe_fi (Int32.ofInt n) fun z => k L (.int z :: st) h) = some r := hg
    rw [pe_fi_eq] at hg
    exact pm_iconst hx hb hdg (K _ _ _ hg pe_le.rf)
  | bipush n =>
    replace hg : (pe_fi (Int8.ofInt n).toInt32 fun z => k L (.int z :: st) h) = some r := hg
    rw [pe_fi_eq] at hg
    exact pm_bipush hx hb hdg (K _ _ _ hg pe_le.rf)
  | sipush n =>
    replace hg : (pe_fi (Int16.ofInt n).toInt32 fun z => k L (.int z :: st) h) = some r := hg
    rw [pe_fi_eq] at hg
    exact pm_sipush hx hb hdg (K _ _ _ hg pe_le.rf)
  | lconst n =>
    replace hg : (pe_fl (Int64.ofNat n.val) fun z => k L (.long z :: st) h) = some r := hg
    rw [pe_fl_eq] at hg
    exact pm_lconst hx hb hdg (K _ _ _ hg pe_le.rf)
  | aconst_null =>
    exact pm_null hx hb hdg (K _ _ _ hg pe_le.rf)
  | dup =>
    obtain ⟨v, st2, rfl, g0⟩ := pe_v_inv hg
    obtain ⟨b1, g1⟩ := pe_bif_inv g0
    exact pm_dup hx hb hdg (Nat.eq_of_beq_eq_true b1) (K _ _ _ g1 pe_le.rf)
  | pop =>
    obtain ⟨v, st2, rfl, g0⟩ := pe_v_inv hg
    obtain ⟨b1, g1⟩ := pe_bif_inv g0
    exact pm_pop hx hb hdg (Nat.eq_of_beq_eq_true b1) (K _ _ _ g1 pe_le.rf)
  | dup2 =>
    obtain ⟨v, st2, rfl, g0⟩ := pe_v_inv hg
    cases hb2 : Nat.beq v.category 2
    · rw [hb2] at g0
      obtain ⟨u, st3, rfl, g1⟩ := pe_v_inv g0
      obtain ⟨q, g2⟩ := pe_bif_inv g1
      rw [Bool.and_eq_true] at q
      exact pm_dup2_11 hx hb hdg (Nat.eq_of_beq_eq_true q.1) (Nat.eq_of_beq_eq_true q.2) (K _ _ _ g2 pe_le.rf)
    · rw [hb2] at g0
      exact pm_dup2_2 hx hb hdg (Nat.eq_of_beq_eq_true hb2) (K _ _ _ g0 pe_le.rf)
  | dup_x1 =>
    obtain ⟨u, v, st2, rfl, g0⟩ := pe_vv_inv hg
    obtain ⟨b1, g1⟩ := pe_bif_inv g0
    rw [Bool.and_eq_true] at b1
    exact pm_dup_x1 hx hb hdg (Nat.eq_of_beq_eq_true b1.1) (Nat.eq_of_beq_eq_true b1.2) (K _ _ _ g1 pe_le.rf)
  | iload_n n =>
    obtain ⟨v, e0, r0, g0⟩ := pe_ldv_inv hg
    obtain ⟨x, hxv⟩ := pe_isI_ok r0 ex B
    exact pm_iload_nV hx hb hdg rfl hxv e0 (K _ _ _ g0 pe_le.rf)
  | lload_n n =>
    obtain ⟨v, e0, r0, g0⟩ := pe_ldw_inv hg
    obtain ⟨x, hxv⟩ := pe_isL_ok r0 ex B
    exact pm_lload_nV hx hb hdg rfl hxv e0 (K _ _ _ g0 pe_le.rf)
  | aload_n n =>
    obtain ⟨v, e0, r0, g0⟩ := pe_lda_inv hg
    exact pm_aload_n hx hb hdg rfl e0 r0 (K _ _ _ g0 pe_le.rf)
  | istore_n n =>
    obtain ⟨v, st2, rfl, g0⟩ := pe_v_inv hg
    obtain ⟨b1, g1⟩ := pe_bif_inv g0
    rw [pe_st1k_eq] at g1
    rw [Bool.and_eq_true] at b1
    obtain ⟨x, hxv⟩ := pe_isI_ok b1.1 ex B
    exact pm_istore_nV hx hb hdg rfl hxv (by have q := b1.2; rw [Nat.blt_eq] at q; exact q) (K _ _ _ g1 pe_le.rf)
  | lstore_n n =>
    obtain ⟨x, st2, rfl, g0⟩ := pe_1l_inv hg
    obtain ⟨b1, g1⟩ := pe_bif_inv g0
    rw [pe_st2k_eq] at g1
    exact pm_lstore_n hx hb hdg rfl (by have q := b1; rw [Nat.blt_eq] at q; exact q) (K _ _ _ g1 pe_le.rf)
  | astore_n n =>
    obtain ⟨v, st2, rfl, g0⟩ := pe_v_inv hg
    obtain ⟨b1, g1⟩ := pe_bif_inv g0
    rw [pe_st1k_eq] at g1
    rw [Bool.and_eq_true] at b1
    exact pm_astore_n hx hb hdg rfl b1.1 (by have q := b1.2; rw [Nat.blt_eq] at q; exact q) (K _ _ _ g1 pe_le.rf)
  | iload n =>
    obtain ⟨v, e0, r0, g0⟩ := pe_ldv_inv hg
    obtain ⟨x, hxv⟩ := pe_isI_ok r0 ex B
    exact pm_iloadV hx hb hdg hxv e0 (K _ _ _ g0 pe_le.rf)
  | lload n =>
    obtain ⟨v, e0, r0, g0⟩ := pe_ldw_inv hg
    obtain ⟨x, hxv⟩ := pe_isL_ok r0 ex B
    exact pm_lloadV hx hb hdg hxv e0 (K _ _ _ g0 pe_le.rf)
  | aload n =>
    obtain ⟨v, e0, r0, g0⟩ := pe_lda_inv hg
    exact pm_aload hx hb hdg e0 r0 (K _ _ _ g0 pe_le.rf)
  | istore n =>
    obtain ⟨v, st2, rfl, g0⟩ := pe_v_inv hg
    obtain ⟨b1, g1⟩ := pe_bif_inv g0
    rw [pe_st1k_eq] at g1
    rw [Bool.and_eq_true] at b1
    obtain ⟨x, hxv⟩ := pe_isI_ok b1.1 ex B
    exact pm_istoreV hx hb hdg hxv (by have q := b1.2; rw [Nat.blt_eq] at q; exact q) (K _ _ _ g1 pe_le.rf)
  | lstore n =>
    obtain ⟨x, st2, rfl, g0⟩ := pe_1l_inv hg
    obtain ⟨b1, g1⟩ := pe_bif_inv g0
    rw [pe_st2k_eq] at g1
    exact pm_lstore hx hb hdg (by have q := b1; rw [Nat.blt_eq] at q; exact q) (K _ _ _ g1 pe_le.rf)
  | astore n =>
    obtain ⟨v, st2, rfl, g0⟩ := pe_v_inv hg
    obtain ⟨b1, g1⟩ := pe_bif_inv g0
    rw [pe_st1k_eq] at g1
    rw [Bool.and_eq_true] at b1
    exact pm_astore hx hb hdg b1.1 (by have q := b1.2; rw [Nat.blt_eq] at q; exact q) (K _ _ _ g1 pe_le.rf)
  | iinc i n =>
    obtain ⟨x, e0, g0⟩ := pe_ldi_inv hg
    obtain ⟨b1, g1⟩ := pe_bif_inv g0
    rw [pe_fi_eq] at g1
    rw [pe_st1k_eq] at g1
    exact pm_iinc hx hb hdg e0 (by have q := b1; rw [Nat.blt_eq] at q; exact q) (K _ _ _ g1 pe_le.rf)
  | iaload =>
    replace hg : (pe_xi xs st (fun v st => k L (v :: st) h) (pe_ix st fun a i st => pe_ari h a fun t n c => bif Nat.beq t 0 && pe_inb i n then pe_fi (pe_lk 0 i.toNatClampNeg c) fun z => k L (.int z :: st) h else none)) = some r := hg
    rcases pe_xi_inv hg with ⟨i, j, st2, tx, z, v, rfl, x2, x3, g, ⟨x1, rfl⟩ | ⟨x1, hv⟩⟩ | hg
    · refine pm_ialdX hx hb (hxs j tx x1) (pe_inb_ok x2) (v := .int z) ?_ hdg (K _ _ _ g pe_le.rf)
      rw [pe_at_eq] at x3
      show Value.int (tx.getD i.toNatClampNeg 0) = .int z
      rw [List.getD_eq_getElem?_getD, x3]; rfl
    · obtain ⟨hv1, x0, hv2⟩ := hv ex B
      refine pm_ialdX hx hb (hsc j tx x1) (pe_inb_ok x2) (v := v) ?_ hdg (K _ _ _ g pe_le.rf)
      rw [pe_at_eq] at x3
      show pm_ph ex (tx.getD i.toNatClampNeg 0).toNatClampNeg = pm_v ex B v
      rw [List.getD_eq_getElem?_getD, x3, hv1]; rfl
    · obtain ⟨a, i, st2, rfl, g0⟩ := pe_ix_inv hg
      obtain ⟨t, n, c, e1, g1⟩ := pe_ari_inv g0
      obtain ⟨q, g2⟩ := pe_bif_inv g1
      rw [pe_fi_eq] at g2
      rw [Bool.and_eq_true] at q
      have ht := Nat.eq_of_beq_eq_true q.1
      subst ht
      exact pm_iald hx hb hK 0 (pe_D_at e1) (hty 0 _ (by decide) rfl) (pe_inb_ok q.2) hdg (K _ _ _ g2 pe_le.rf)
  | baload =>
    replace hg : (pe_xb xs st (fun z st => k L (.int z :: st) h) (pe_ix st fun a i st => pe_ari h a fun t n c => bif (Nat.beq t 2 || Nat.beq t 3) && pe_inb i n then pe_fi (pe_lk 0 i.toNatClampNeg c) fun z => k L (.int z :: st) h else none)) = some r := hg
    rcases pe_xb_inv hg with ⟨i, j, st2, tx, z, rfl, x2, x3, g, x1⟩ | hg
    · refine pm_baldX hx hb (hxb j tx x1) (pe_inb_ok x2) (v := .int z) ?_ hdg (K _ _ _ g pe_le.rf)
      rw [pe_at_eq] at x3
      show Value.int (tx.getD i.toNatClampNeg 0) = .int z
      rw [List.getD_eq_getElem?_getD, x3]; rfl
    · obtain ⟨a, i, st2, rfl, g0⟩ := pe_ix_inv hg
      obtain ⟨t, n, c, e1, g1⟩ := pe_ari_inv g0
      obtain ⟨q0, g2⟩ := pe_bif_inv g1
      rw [pe_fi_eq] at g2
      rw [Bool.and_eq_true, Bool.or_eq_true] at q0
      rcases q0.1 with q | q
      · have ht := Nat.eq_of_beq_eq_true q
        subst ht
        exact pm_bald hx hb hK 2 (pe_D_at e1) (hty 2 _ (by decide) rfl) (pe_inb_ok q0.2) hdg (K _ _ _ g2 pe_le.rf)
      · have ht := Nat.eq_of_beq_eq_true q
        subst ht
        exact pm_zald hx hb hK 3 (pe_D_at e1) (hty 3 _ (by decide) rfl) (pe_inb_ok q0.2) hdg (K _ _ _ g2 pe_le.rf)
  | laload =>
    obtain ⟨a0, i0, st2, rfl, g0⟩ := pe_ix_inv hg
    obtain ⟨t0, n0c, c0, e1, g1⟩ := pe_arl_inv g0
    obtain ⟨b2, g2⟩ := pe_bif_inv g1
    rw [pe_fl_eq] at g2
    rw [Bool.and_eq_true] at b2
    have ht := Nat.eq_of_beq_eq_true b2.1
    subst ht
    exact pm_lald hx hb hK 1 (pe_D_at e1) (hty 1 _ (by decide) rfl) (pe_inb_ok b2.2) hdg (K _ _ _ g2 pe_le.rf)
  | aaload =>
    obtain ⟨a0, i0, st2, rfl, g0⟩ := pe_ix_inv hg
    obtain ⟨t0, n0c, c0, e1, g1⟩ := pe_arr_inv g0
    obtain ⟨b2, g2⟩ := pe_bif_inv g1
    rw [pe_rfk_eq] at g2
    rw [Bool.and_eq_true, Bool.and_eq_true] at b2
    obtain ⟨ty, q1, _⟩ := hT _ b2.1.2
    exact pm_aald hx hb hK _ (pe_ty_ref (Nat.le_of_ble_eq_true b2.1.1) q1) (pe_D_at e1) (hty _ _ b2.1.2 q1) (pe_inb_ok b2.2) hdg (K _ _ _ g2 pe_le.rf)
  | iastore =>
    obtain ⟨a0, i0, x, st2, rfl, g0⟩ := pe_ixi_inv hg
    obtain ⟨t0, n0c, c0, e1, g1⟩ := pe_ari_inv g0
    obtain ⟨b2, g2⟩ := pe_bif_inv g1
    rw [pe_fi_eq] at g2
    rw [pe_insk_eq] at g2
    rw [pe_setk_eq] at g2
    rw [Bool.and_eq_true] at b2
    have ht := Nat.eq_of_beq_eq_true b2.1
    subst ht
    have K2 := K _ _ _ g2 (pe_le.set e1 rfl)
    rw [pe_D_set, pe_d_ai] at K2
    exact pm_iast hx hb hK 0 (pe_D_at e1) (hty 0 _ (by decide) rfl) (pe_inb_ok b2.2) hdg K2
  | bastore =>
    obtain ⟨a, i, x, st2, rfl, g0⟩ := pe_ixi_inv hg
    obtain ⟨t, n, c, e1, g1⟩ := pe_ari_inv g0
    cases hb2 : Nat.beq t 2 && pe_inb i n
    · rw [hb2] at g1
      obtain ⟨q, g2⟩ := pe_bif_inv g1
      rw [pe_fi_eq, pe_insk_eq, pe_setk_eq] at g2
      rw [Bool.and_eq_true] at q
      have ht := Nat.eq_of_beq_eq_true q.1
      subst ht
      have K2 := K _ _ _ g2 (pe_le.set e1 rfl)
      rw [pe_D_set, pe_d_ai] at K2
      exact pm_zast hx hb hK 3 (pe_D_at e1) (hty 3 _ (by decide) rfl) (pe_inb_ok q.2) hdg K2
    · rw [hb2] at g1
      have g2 : pe_fi (vp_nar .byte x) (fun z => pe_insk (decide (z = 0)) i.toNatClampNeg z c fun c => pe_setk (.inl (t, n, c)) h a fun h => k L st2 h) = some r := g1
      rw [pe_fi_eq, pe_insk_eq, pe_setk_eq] at g2
      rw [Bool.and_eq_true] at hb2
      have ht := Nat.eq_of_beq_eq_true hb2.1
      subst ht
      have K2 := K _ _ _ g2 (pe_le.set e1 rfl)
      rw [pe_D_set, pe_d_ai] at K2
      exact pm_bast hx hb hK 2 (pe_D_at e1) (hty 2 _ (by decide) rfl) (pe_inb_ok hb2.2) hdg K2
  | lastore =>
    obtain ⟨a0, i0, x, st2, rfl, g0⟩ := pe_ixl_inv hg
    obtain ⟨t0, n0c, c0, e1, g1⟩ := pe_arl_inv g0
    obtain ⟨b2, g2⟩ := pe_bif_inv g1
    rw [pe_insk_eq] at g2
    rw [pe_setk_eq] at g2
    rw [Bool.and_eq_true] at b2
    have ht := Nat.eq_of_beq_eq_true b2.1
    subst ht
    have K2 := K _ _ _ g2 (pe_le.set e1 rfl)
    rw [pe_D_set, pe_d_al] at K2
    exact pm_last hx hb hK 1 (pe_D_at e1) (hty 1 _ (by decide) rfl) (pe_inb_ok b2.2) hdg K2
  | aastore =>
    obtain ⟨a0, i0, x, st2, rfl, g0⟩ := pe_ixr_inv hg
    obtain ⟨t0, n0c, c0, e1, g1⟩ := pe_arr_inv g0
    obtain ⟨b2, g2⟩ := pe_bif_inv g1
    rw [pe_insk_eq] at g2
    rw [pe_setk_eq] at g2
    rw [Bool.and_eq_true] at b2
    have q0 := b2.2
    unfold pe_fitA at q0
    split at q0
    · rename_i ci vs q1
      rw [Bool.and_eq_true] at q0
      have ht := Nat.eq_of_beq_eq_true q0.1
      subst ht
      have K2 := K _ _ _ g2 (pe_le.set e1 rfl)
      rw [pe_D_set, pe_d_ar] at K2
      obtain ⟨ty, w1, w2⟩ := hT _ q0.2
      cases hq : pe_at cl ci with
      | none =>
        have w3 : (pe_at cl ci).map (fun q => FieldType.object q.1) = some ty := w1
        rw [hq] at w3; cases w3
      | some q =>
        have w3 : (pe_at cl ci).map (fun q => FieldType.object q.1) = some ty := w1
        rw [hq] at w3
        have w4 := Option.some.inj w3
        exact pm_aast hx hb hK (ci + 6) (pe_D_at e1) (by rw [w2, ← w4]) (pe_D_at q1) (by rw [← pe_at_eq, hq]) (pe_inb_ok b2.1) hdg K2
    · rename_i t2 n2 c2 q1
      rw [Bool.and_eq_true] at q0
      have ht := Nat.eq_of_beq_eq_true q0.1
      have ht2 := Nat.eq_of_beq_eq_true q0.2
      subst ht
      subst ht2
      have K2 := K _ _ _ g2 (pe_le.set e1 rfl)
      rw [pe_D_set, pe_d_ar] at K2
      exact pm_aastA hx hb hK hov (hty 5 _ (by decide) rfl) (hty 0 _ (by decide) rfl) (pe_D_at e1) (pe_D_at q1) (pe_inb_ok b2.1) hdg K2
    · cases q0
  | arraylength =>
    replace hg : (pe_xn xs st (fun n st => pe_fi (Int32.ofNat n) fun z => k L (.int z :: st) h) (pe_rf st fun a st => pe_lenk h a fun n => pe_fi (Int32.ofNat n) fun z => k L (.int z :: st) h)) = some r := hg
    rcases pe_xn_inv hg with ⟨j, st2, tx, rfl, x1, g⟩ | hg
    · rw [pe_fi_eq] at g
      rcases x1 with x1 | x1
      · exact pm_alenX hx hb (hxs j tx x1) hdg (K _ _ _ g pe_le.rf)
      · exact pm_alenX hx hb (hsc j tx x1) hdg (K _ _ _ g pe_le.rf)
    · obtain ⟨a, st2, rfl, g0⟩ := pe_rf_inv hg
      obtain ⟨t, x, e1, e2, g1⟩ := pe_lenk_inv g0
      rw [pe_fi_eq] at g1
      obtain ⟨ty, _, w2⟩ := hT _ e2
      exact pm_alen hx hb hK _ e1 w2 hdg (K _ _ _ g1 pe_le.rf)
  | newarray ty =>
    obtain ⟨n, st2, rfl, g0⟩ := pe_1i_inv hg
    obtain ⟨q, g1⟩ := pe_bif_inv g0
    rw [pe_fn_eq, pe_fn_eq] at g1
    obtain ⟨x0, g2, hx0⟩ := pe_newk_inv g1
    rw [pe_pushk_eq] at g2
    rw [Bool.and_eq_true, Bool.not_eq_true', decide_eq_false_iff_not] at q
    have q2 := Nat.le_of_ble_eq_true q.2
    have hR2 := hR _ _ _ g2
    have K2 := K _ _ _ g2 pe_le.push
    rw [List.length_append] at hR2
    rw [pe_D_push, pm_sz_push] at hR2
    rw [pe_D_push, ← pe_D_length h] at K2
    have hl1 : [x0].length = 1 := rfl
    have hn1 : n0 ≤ (pe_D h).length := by rw [pe_D_length]; exact hn0
    have hc1 : (pe_D h).length - n0 + 1 ≤ R.cells := by rw [pe_D_length]; omega
    rcases hx0 with ⟨rfl, rfl⟩ | ⟨rfl, rfl⟩ | ⟨rfl, rfl⟩ | ⟨rfl, rfl⟩
    · exact pm_newa hx hb hK (ty := .int) 0 (harr _ (Or.inl rfl)) rfl rfl (hty 0 _ (by decide) rfl) q.1 rfl (by show n.toNatClampNeg * 4 ≤ _; omega) hB hn1 hz0 hc1 (by have := hR2.2; simp only [pe_d, pm_n] at this; omega) hdg K2
    · exact pm_newaL hx hb hK 1 (harr _ (Or.inr (Or.inl rfl))) rfl (hty 1 _ (by decide) rfl) q.1 rfl (by show n.toNatClampNeg * 8 ≤ _; omega) hB hn1 hz0 hc1 (by have := hR2.2; simp only [pe_d, pm_n] at this; omega) hdg K2
    · exact pm_newa hx hb hK (ty := .byte) 2 (harr _ (Or.inr (Or.inr (Or.inl rfl)))) rfl rfl (hty 2 _ (by decide) rfl) q.1 rfl (by show n.toNatClampNeg * 1 ≤ _; omega) hB hn1 hz0 hc1 (by have := hR2.2; simp only [pe_d, pm_n] at this; omega) hdg K2
    · exact pm_newa hx hb hK (ty := .boolean) 3 (harr _ (Or.inr (Or.inr (Or.inr rfl)))) rfl rfl (hty 3 _ (by decide) rfl) q.1 rfl (by show n.toNatClampNeg * 1 ≤ _; omega) hB hn1 hz0 hc1 (by have := hR2.2; simp only [pe_d, pm_n] at this; omega) hdg K2
  | _ => cases hg
end PE22
