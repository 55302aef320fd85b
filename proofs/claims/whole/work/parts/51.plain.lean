/-! PART 51: rows of the machine over slots: numbers, locals, jumps. -/
section W51
variable {G : pe_G} {Y : wY} {M : Nat → Prop} {d : Nat} {mt : pe_Mt} {is rest : List pe_I} {L L2 : wL} {st st2 : List wv} {S S2 : wS} {Q Q2 : wO → wS → Prop}
theorem w_oi (z : Int32) : Int32.ofInt z.toInt = z := Int32.ofInt_toInt z
theorem w_ol (z : Int64) : Int64.ofInt z.toInt = z := Int64.ofInt_toInt z
theorem w_ti {x : Int} (h : w_rg 0 x) : (Int32.ofInt x).toInt = x := Int32.toInt_ofInt_of_le (by have := h.1; omega) (by have := h.2; omega)
theorem w_tl {x : Int} (h : w_rg 1 x) : (Int64.ofInt x).toInt = x := Int64.toInt_ofInt_of_le (by have := h.1; omega) (by have := h.2; omega)
theorem w_isR (ad : Nat → Nat) (x : Int) : pm_isR (w_r ad x) = true := by
  unfold w_r
  split
  · rfl
  · split <;> rfl
def w_b (g : Int32 → Int32 → Int32) (x y : Int) : Int := (g (Int32.ofInt x) (Int32.ofInt y)).toInt
def w_bl (g : Int64 → Int64 → Int64) (x y : Int) : Int := (g (Int64.ofInt x) (Int64.ofInt y)).toInt
theorem w_b_rg (g : Int32 → Int32 → Int32) (x y : Int) : w_rg 0 (w_b g x y) := ⟨by have := Int32.le_toInt (g (Int32.ofInt x) (Int32.ofInt y)); unfold w_b; omega, by have := Int32.toInt_lt (g (Int32.ofInt x) (Int32.ofInt y)); unfold w_b; omega⟩
theorem w_bl_rg (g : Int64 → Int64 → Int64) (x y : Int) : w_rg 1 (w_bl g x y) := ⟨by have := Int64.le_toInt (g (Int64.ofInt x) (Int64.ofInt y)); unfold w_bl; omega, by have := Int64.toInt_lt (g (Int64.ofInt x) (Int64.ofInt y)); unfold w_bl; omega⟩
theorem wa_iadd {x y : Int} (k : wJ G Y M d mt rest L ((0, x + y) :: st) S Q) : wJ G Y M d mt (.inl .iadd :: rest) L ((0, y) :: (0, x) :: st) S Q := wJ_p (fun ad Lc h hL k => by
  show (pe_fi (Int32.ofInt x + Int32.ofInt y) fun z => k Lc (.int z :: st.map (w_u ad)) h) = k Lc (Value.int (Int32.ofInt (x + y)) :: _) h
  rw [pe_fi_eq, Int32.ofInt_add]) k
theorem wa_imul {x y : Int} (k : wJ G Y M d mt rest L ((0, x * y) :: st) S Q) : wJ G Y M d mt (.inl .imul :: rest) L ((0, y) :: (0, x) :: st) S Q := wJ_p (fun ad Lc h hL k => by
  show (pe_fi (Int32.ofInt x * Int32.ofInt y) fun z => k Lc (.int z :: st.map (w_u ad)) h) = k Lc (Value.int (Int32.ofInt (x * y)) :: _) h
  rw [pe_fi_eq, Int32.ofInt_mul]) k
theorem wa_isub {x y : Int} (k : wJ G Y M d mt rest L ((0, x - y) :: st) S Q) : wJ G Y M d mt (.inl .isub :: rest) L ((0, y) :: (0, x) :: st) S Q := wJ_p (fun ad Lc h hL k => by
  show (pe_fi (Int32.ofInt x - Int32.ofInt y) fun z => k Lc (.int z :: st.map (w_u ad)) h) = k Lc (Value.int (Int32.ofInt (x - y)) :: _) h
  rw [pe_fi_eq, Int32.ofInt_sub]) k
theorem wa_ineg {x : Int} (k : wJ G Y M d mt rest L ((0, -x) :: st) S Q) : wJ G Y M d mt (.inl .ineg :: rest) L ((0, x) :: st) S Q := wJ_p (fun ad Lc h hL k => by
  show (pe_fi (-Int32.ofInt x) fun z => k Lc (.int z :: st.map (w_u ad)) h) = k Lc (Value.int (Int32.ofInt (-x)) :: _) h
  rw [pe_fi_eq, Int32.ofInt_neg]) k
theorem wa_ladd {x y : Int} (k : wJ G Y M d mt rest L ((1, x + y) :: st) S Q) : wJ G Y M d mt (.inl .ladd :: rest) L ((1, y) :: (1, x) :: st) S Q := wJ_p (fun ad Lc h hL k => by
  show (pe_fl (Int64.ofInt x + Int64.ofInt y) fun z => k Lc (.long z :: st.map (w_u ad)) h) = k Lc (Value.long (Int64.ofInt (x + y)) :: _) h
  rw [pe_fl_eq, Int64.ofInt_add]) k
theorem wa_lsub {x y : Int} (k : wJ G Y M d mt rest L ((1, x - y) :: st) S Q) : wJ G Y M d mt (.inl .lsub :: rest) L ((1, y) :: (1, x) :: st) S Q := wJ_p (fun ad Lc h hL k => by
  show (pe_fl (Int64.ofInt x - Int64.ofInt y) fun z => k Lc (.long z :: st.map (w_u ad)) h) = k Lc (Value.long (Int64.ofInt (x - y)) :: _) h
  rw [pe_fl_eq, Int64.ofInt_sub]) k
theorem wa_lmul {x y : Int} (k : wJ G Y M d mt rest L ((1, x * y) :: st) S Q) : wJ G Y M d mt (.inl .lmul :: rest) L ((1, y) :: (1, x) :: st) S Q := wJ_p (fun ad Lc h hL k => by
  show (pe_fl (Int64.ofInt x * Int64.ofInt y) fun z => k Lc (.long z :: st.map (w_u ad)) h) = k Lc (Value.long (Int64.ofInt (x * y)) :: _) h
  rw [pe_fl_eq, Int64.ofInt_mul]) k
theorem wa_lneg {x : Int} (k : wJ G Y M d mt rest L ((1, -x) :: st) S Q) : wJ G Y M d mt (.inl .lneg :: rest) L ((1, x) :: st) S Q := wJ_p (fun ad Lc h hL k => by
  show (pe_fl (-Int64.ofInt x) fun z => k Lc (.long z :: st.map (w_u ad)) h) = k Lc (Value.long (Int64.ofInt (-x)) :: _) h
  rw [pe_fl_eq, Int64.ofInt_neg]) k
def wb_iand (x y : Int) : Int := w_b (fun x y => x &&& y) x y
theorem wa_iand {x y : Int} (k : wJ G Y M d mt rest L ((0, wb_iand x y) :: st) S Q) : wJ G Y M d mt (.inl .iand :: rest) L ((0, y) :: (0, x) :: st) S Q := wJ_p (fun ad Lc h hL k => by
  show (pe_fi ((fun x y => x &&& y) (Int32.ofInt x) (Int32.ofInt y)) fun z => k Lc (.int z :: st.map (w_u ad)) h) = k Lc (Value.int (Int32.ofInt (((fun x y => x &&& y) (Int32.ofInt x) (Int32.ofInt y)).toInt)) :: _) h
  rw [pe_fi_eq, w_oi]) k
def wb_ior (x y : Int) : Int := w_b (fun x y => x ||| y) x y
theorem wa_ior {x y : Int} (k : wJ G Y M d mt rest L ((0, wb_ior x y) :: st) S Q) : wJ G Y M d mt (.inl .ior :: rest) L ((0, y) :: (0, x) :: st) S Q := wJ_p (fun ad Lc h hL k => by
  show (pe_fi ((fun x y => x ||| y) (Int32.ofInt x) (Int32.ofInt y)) fun z => k Lc (.int z :: st.map (w_u ad)) h) = k Lc (Value.int (Int32.ofInt (((fun x y => x ||| y) (Int32.ofInt x) (Int32.ofInt y)).toInt)) :: _) h
  rw [pe_fi_eq, w_oi]) k
def wb_ixor (x y : Int) : Int := w_b (fun x y => x ^^^ y) x y
theorem wa_ixor {x y : Int} (k : wJ G Y M d mt rest L ((0, wb_ixor x y) :: st) S Q) : wJ G Y M d mt (.inl .ixor :: rest) L ((0, y) :: (0, x) :: st) S Q := wJ_p (fun ad Lc h hL k => by
  show (pe_fi ((fun x y => x ^^^ y) (Int32.ofInt x) (Int32.ofInt y)) fun z => k Lc (.int z :: st.map (w_u ad)) h) = k Lc (Value.int (Int32.ofInt (((fun x y => x ^^^ y) (Int32.ofInt x) (Int32.ofInt y)).toInt)) :: _) h
  rw [pe_fi_eq, w_oi]) k
def wb_ishl (x y : Int) : Int := w_b (fun (x y : Int32) => x <<< (y &&& 31)) x y
theorem wa_ishl {x y : Int} (k : wJ G Y M d mt rest L ((0, wb_ishl x y) :: st) S Q) : wJ G Y M d mt (.inl .ishl :: rest) L ((0, y) :: (0, x) :: st) S Q := wJ_p (fun ad Lc h hL k => by
  show (pe_fi ((fun (x y : Int32) => x <<< (y &&& 31)) (Int32.ofInt x) (Int32.ofInt y)) fun z => k Lc (.int z :: st.map (w_u ad)) h) = k Lc (Value.int (Int32.ofInt (((fun (x y : Int32) => x <<< (y &&& 31)) (Int32.ofInt x) (Int32.ofInt y)).toInt)) :: _) h
  rw [pe_fi_eq, w_oi]) k
def wb_ishr (x y : Int) : Int := w_b (fun (x y : Int32) => x >>> (y &&& 31)) x y
theorem wa_ishr {x y : Int} (k : wJ G Y M d mt rest L ((0, wb_ishr x y) :: st) S Q) : wJ G Y M d mt (.inl .ishr :: rest) L ((0, y) :: (0, x) :: st) S Q := wJ_p (fun ad Lc h hL k => by
  show (pe_fi ((fun (x y : Int32) => x >>> (y &&& 31)) (Int32.ofInt x) (Int32.ofInt y)) fun z => k Lc (.int z :: st.map (w_u ad)) h) = k Lc (Value.int (Int32.ofInt (((fun (x y : Int32) => x >>> (y &&& 31)) (Int32.ofInt x) (Int32.ofInt y)).toInt)) :: _) h
  rw [pe_fi_eq, w_oi]) k
def wb_iushr (x y : Int) : Int := w_b (fun x y => (x.toUInt32 >>> (y.toUInt32 &&& Int32.toUInt32 31)).toInt32) x y
theorem wa_iushr {x y : Int} (k : wJ G Y M d mt rest L ((0, wb_iushr x y) :: st) S Q) : wJ G Y M d mt (.inl .iushr :: rest) L ((0, y) :: (0, x) :: st) S Q := wJ_p (fun ad Lc h hL k => by
  show (pe_fi ((fun x y => (x.toUInt32 >>> (y.toUInt32 &&& Int32.toUInt32 31)).toInt32) (Int32.ofInt x) (Int32.ofInt y)) fun z => k Lc (.int z :: st.map (w_u ad)) h) = k Lc (Value.int (Int32.ofInt (((fun x y => (x.toUInt32 >>> (y.toUInt32 &&& Int32.toUInt32 31)).toInt32) (Int32.ofInt x) (Int32.ofInt y)).toInt)) :: _) h
  rw [pe_fi_eq, w_oi]) k
def wb_land (x y : Int) : Int := w_bl (fun x y => x &&& y) x y
theorem wa_land {x y : Int} (k : wJ G Y M d mt rest L ((1, wb_land x y) :: st) S Q) : wJ G Y M d mt (.inl .land :: rest) L ((1, y) :: (1, x) :: st) S Q := wJ_p (fun ad Lc h hL k => by
  show (pe_fl ((fun x y => x &&& y) (Int64.ofInt x) (Int64.ofInt y)) fun z => k Lc (.long z :: st.map (w_u ad)) h) = k Lc (Value.long (Int64.ofInt (((fun x y => x &&& y) (Int64.ofInt x) (Int64.ofInt y)).toInt)) :: _) h
  rw [pe_fl_eq, w_ol]) k
def wb_lor (x y : Int) : Int := w_bl (fun x y => x ||| y) x y
theorem wa_lor {x y : Int} (k : wJ G Y M d mt rest L ((1, wb_lor x y) :: st) S Q) : wJ G Y M d mt (.inl .lor :: rest) L ((1, y) :: (1, x) :: st) S Q := wJ_p (fun ad Lc h hL k => by
  show (pe_fl ((fun x y => x ||| y) (Int64.ofInt x) (Int64.ofInt y)) fun z => k Lc (.long z :: st.map (w_u ad)) h) = k Lc (Value.long (Int64.ofInt (((fun x y => x ||| y) (Int64.ofInt x) (Int64.ofInt y)).toInt)) :: _) h
  rw [pe_fl_eq, w_ol]) k
def wb_lxor (x y : Int) : Int := w_bl (fun x y => x ^^^ y) x y
theorem wa_lxor {x y : Int} (k : wJ G Y M d mt rest L ((1, wb_lxor x y) :: st) S Q) : wJ G Y M d mt (.inl .lxor :: rest) L ((1, y) :: (1, x) :: st) S Q := wJ_p (fun ad Lc h hL k => by
  show (pe_fl ((fun x y => x ^^^ y) (Int64.ofInt x) (Int64.ofInt y)) fun z => k Lc (.long z :: st.map (w_u ad)) h) = k Lc (Value.long (Int64.ofInt (((fun x y => x ^^^ y) (Int64.ofInt x) (Int64.ofInt y)).toInt)) :: _) h
  rw [pe_fl_eq, w_ol]) k
def wb_lushr (x y : Int) : Int := ((((Int64.ofInt x).toUInt64 >>> ((Int32.ofInt y).toInt64.toUInt64 &&& Int64.toUInt64 63)).toInt64)).toInt
theorem wa_lushr {x y : Int} (k : wJ G Y M d mt rest L ((1, wb_lushr x y) :: st) S Q) : wJ G Y M d mt (.inl .lushr :: rest) L ((0, y) :: (1, x) :: st) S Q := wJ_p (fun ad Lc h hL k => by
  show (pe_fl (((Int64.ofInt x).toUInt64 >>> ((Int32.ofInt y).toInt64.toUInt64 &&& Int64.toUInt64 63)).toInt64) fun z => k Lc (.long z :: st.map (w_u ad)) h) = k Lc (Value.long (Int64.ofInt ((((Int64.ofInt x).toUInt64 >>> ((Int32.ofInt y).toInt64.toUInt64 &&& Int64.toUInt64 63)).toInt64)).toInt) :: _) h
  rw [pe_fl_eq, w_ol]) k
def wb_lshl (x y : Int) : Int := (((Int64.ofInt x) <<< ((Int32.ofInt y).toInt64 &&& 63))).toInt
theorem wa_lshl {x y : Int} (k : wJ G Y M d mt rest L ((1, wb_lshl x y) :: st) S Q) : wJ G Y M d mt (.inl .lshl :: rest) L ((0, y) :: (1, x) :: st) S Q := wJ_p (fun ad Lc h hL k => by
  show (pe_fl ((Int64.ofInt x) <<< ((Int32.ofInt y).toInt64 &&& 63)) fun z => k Lc (.long z :: st.map (w_u ad)) h) = k Lc (Value.long (Int64.ofInt (((Int64.ofInt x) <<< ((Int32.ofInt y).toInt64 &&& 63))).toInt) :: _) h
  rw [pe_fl_eq, w_ol]) k
def wb_lshr (x y : Int) : Int := (((Int64.ofInt x) >>> ((Int32.ofInt y).toInt64 &&& 63))).toInt
theorem wa_lshr {x y : Int} (k : wJ G Y M d mt rest L ((1, wb_lshr x y) :: st) S Q) : wJ G Y M d mt (.inl .lshr :: rest) L ((0, y) :: (1, x) :: st) S Q := wJ_p (fun ad Lc h hL k => by
  show (pe_fl ((Int64.ofInt x) >>> ((Int32.ofInt y).toInt64 &&& 63)) fun z => k Lc (.long z :: st.map (w_u ad)) h) = k Lc (Value.long (Int64.ofInt (((Int64.ofInt x) >>> ((Int32.ofInt y).toInt64 &&& 63))).toInt) :: _) h
  rw [pe_fl_eq, w_ol]) k
def wb_idiv (x y : Int) : Int := w_b (fun x y => x / y) x y
theorem wa_idiv {x y : Int} (hy : w_rg 0 y) (hn : y ≠ 0) (k : wJ G Y M d mt rest L ((0, wb_idiv x y) :: st) S Q) : wJ G Y M d mt (.inl .idiv :: rest) L ((0, y) :: (0, x) :: st) S Q := wJ_p (fun ad Lc h hL k => by
  have h0 : decide (Int32.ofInt y = 0) = false := decide_eq_false (fun q => hn (by rw [← w_ti hy, q]; rfl))
  show (bif decide (Int32.ofInt y = 0) then none else pe_fi ((fun x y => x / y) (Int32.ofInt x) (Int32.ofInt y)) fun z => k Lc (.int z :: st.map (w_u ad)) h) = k Lc (Value.int (Int32.ofInt (((fun x y => x / y) (Int32.ofInt x) (Int32.ofInt y)).toInt)) :: _) h
  rw [h0, cond_false, pe_fi_eq, w_oi]) k
def wb_irem (x y : Int) : Int := w_b (fun x y => x - x / y * y) x y
theorem wa_irem {x y : Int} (hy : w_rg 0 y) (hn : y ≠ 0) (k : wJ G Y M d mt rest L ((0, wb_irem x y) :: st) S Q) : wJ G Y M d mt (.inl .irem :: rest) L ((0, y) :: (0, x) :: st) S Q := wJ_p (fun ad Lc h hL k => by
  have h0 : decide (Int32.ofInt y = 0) = false := decide_eq_false (fun q => hn (by rw [← w_ti hy, q]; rfl))
  show (bif decide (Int32.ofInt y = 0) then none else pe_fi ((fun x y => x - x / y * y) (Int32.ofInt x) (Int32.ofInt y)) fun z => k Lc (.int z :: st.map (w_u ad)) h) = k Lc (Value.int (Int32.ofInt (((fun x y => x - x / y * y) (Int32.ofInt x) (Int32.ofInt y)).toInt)) :: _) h
  rw [h0, cond_false, pe_fi_eq, w_oi]) k
def wb_ldiv (x y : Int) : Int := w_bl (fun x y => x / y) x y
theorem wa_ldiv {x y : Int} (hy : w_rg 1 y) (hn : y ≠ 0) (k : wJ G Y M d mt rest L ((1, wb_ldiv x y) :: st) S Q) : wJ G Y M d mt (.inl .ldiv :: rest) L ((1, y) :: (1, x) :: st) S Q := wJ_p (fun ad Lc h hL k => by
  have h0 : decide (Int64.ofInt y = 0) = false := decide_eq_false (fun q => hn (by rw [← w_tl hy, q]; rfl))
  show (bif decide (Int64.ofInt y = 0) then none else pe_fl ((fun x y => x / y) (Int64.ofInt x) (Int64.ofInt y)) fun z => k Lc (.long z :: st.map (w_u ad)) h) = k Lc (Value.long (Int64.ofInt (((fun x y => x / y) (Int64.ofInt x) (Int64.ofInt y)).toInt)) :: _) h
  rw [h0, cond_false, pe_fl_eq, w_ol]) k
def wb_lrem (x y : Int) : Int := w_bl (fun x y => x - x / y * y) x y
theorem wa_lrem {x y : Int} (hy : w_rg 1 y) (hn : y ≠ 0) (k : wJ G Y M d mt rest L ((1, wb_lrem x y) :: st) S Q) : wJ G Y M d mt (.inl .lrem :: rest) L ((1, y) :: (1, x) :: st) S Q := wJ_p (fun ad Lc h hL k => by
  have h0 : decide (Int64.ofInt y = 0) = false := decide_eq_false (fun q => hn (by rw [← w_tl hy, q]; rfl))
  show (bif decide (Int64.ofInt y = 0) then none else pe_fl ((fun x y => x - x / y * y) (Int64.ofInt x) (Int64.ofInt y)) fun z => k Lc (.long z :: st.map (w_u ad)) h) = k Lc (Value.long (Int64.ofInt (((fun x y => x - x / y * y) (Int64.ofInt x) (Int64.ofInt y)).toInt)) :: _) h
  rw [h0, cond_false, pe_fl_eq, w_ol]) k
theorem wa_i2l {x : Int} (hx : w_rg 0 x) (k : wJ G Y M d mt rest L ((1, x) :: st) S Q) : wJ G Y M d mt (.inl .i2l :: rest) L ((0, x) :: st) S Q := wJ_p (fun ad Lc h hL k => by
  show (pe_fl (Int32.ofInt x).toInt64 fun z => k Lc (.long z :: st.map (w_u ad)) h) = k Lc (Value.long (Int64.ofInt x) :: _) h
  rw [pe_fl_eq]
  have h1 : (Int32.ofInt x).toInt64 = Int64.ofInt x := by
    apply Int64.toInt_inj.mp
    rw [Int32.toInt_toInt64, w_ti hx, w_tl ⟨by have := hx.1; omega, by have := hx.2; omega⟩]
  rw [h1]) k
def wb_l2i (x : Int) : Int := (Int64.ofInt x).toInt32.toInt
def wb_i2b (x : Int) : Int := (Int32.ofInt x).toInt8.toInt32.toInt
def wb_i2c (x : Int) : Int := ((Int32.ofInt x).toUInt32 % 65536).toInt32.toInt
theorem wa_l2i {x : Int} (k : wJ G Y M d mt rest L ((0, wb_l2i x) :: st) S Q) : wJ G Y M d mt (.inl .l2i :: rest) L ((1, x) :: st) S Q := wJ_p (fun ad Lc h hL k => by
  show (pe_fi (Int64.ofInt x).toInt32 fun z => k Lc (.int z :: st.map (w_u ad)) h) = k Lc (Value.int (Int32.ofInt ((Int64.ofInt x).toInt32).toInt) :: _) h
  rw [pe_fi_eq, w_oi]) k
theorem wa_i2b {x : Int} (k : wJ G Y M d mt rest L ((0, wb_i2b x) :: st) S Q) : wJ G Y M d mt (.inl .i2b :: rest) L ((0, x) :: st) S Q := wJ_p (fun ad Lc h hL k => by
  show (pe_fi (Int32.ofInt x).toInt8.toInt32 fun z => k Lc (.int z :: st.map (w_u ad)) h) = k Lc (Value.int (Int32.ofInt ((Int32.ofInt x).toInt8.toInt32).toInt) :: _) h
  rw [pe_fi_eq, w_oi]) k
theorem wa_i2c {x : Int} (k : wJ G Y M d mt rest L ((0, wb_i2c x) :: st) S Q) : wJ G Y M d mt (.inl .i2c :: rest) L ((0, x) :: st) S Q := wJ_p (fun ad Lc h hL k => by
  show (pe_fi ((Int32.ofInt x).toUInt32 % 65536).toInt32 fun z => k Lc (.int z :: st.map (w_u ad)) h) = k Lc (Value.int (Int32.ofInt (((Int32.ofInt x).toUInt32 % 65536).toInt32).toInt) :: _) h
  rw [pe_fi_eq, w_oi]) k
def wb_lcmp (x y : Int) : Int := if y < x then 1 else if x = y then 0 else -1
theorem wa_lcmp {x y : Int} (hx : w_rg 1 x) (hy : w_rg 1 y) (k : wJ G Y M d mt rest L ((0, wb_lcmp x y) :: st) S Q) : wJ G Y M d mt (.inl .lcmp :: rest) L ((1, y) :: (1, x) :: st) S Q := wJ_p (fun ad Lc h hL k => by
  show (pe_fi (lg_cmp (Int64.ofInt x) (Int64.ofInt y)) fun z => k Lc (.int z :: st.map (w_u ad)) h) = k Lc (Value.int (Int32.ofInt (wb_lcmp x y)) :: _) h
  rw [pe_fi_eq]
  have h1 : lg_cmp (Int64.ofInt x) (Int64.ofInt y) = Int32.ofInt (wb_lcmp x y) := by
    unfold lg_cmp wb_lcmp
    have e1 : (Int64.ofInt y < Int64.ofInt x) ↔ y < x := by rw [Int64.lt_iff_toInt_lt, w_tl hx, w_tl hy]
    have e2 : (Int64.ofInt x = Int64.ofInt y) ↔ x = y := by rw [← Int64.toInt_inj, w_tl hx, w_tl hy]
    by_cases q1 : y < x
    · rw [if_pos (e1.mpr q1), if_pos q1]; rfl
    · rw [if_neg (fun q => q1 (e1.mp q)), if_neg q1]
      by_cases q2 : x = y
      · rw [if_pos (e2.mpr q2), if_pos q2]; rfl
      · rw [if_neg (fun q => q2 (e2.mp q)), if_neg q2]; rfl
  rw [h1]) k
theorem wa_iconst {n : Int} (k : wJ G Y M d mt rest L ((0, n) :: st) S Q) : wJ G Y M d mt (.inl (.iconst n) :: rest) L st S Q := wJ_p (fun ad Lc h hL k => by
  show (pe_fi (Int32.ofInt n) fun z => k Lc (.int z :: st.map (w_u ad)) h) = _
  rw [pe_fi_eq]
  rfl) k
theorem wa_bipush {n : Int} (hn : w_rg 2 n) (k : wJ G Y M d mt rest L ((0, n) :: st) S Q) : wJ G Y M d mt (.inl (.bipush n) :: rest) L st S Q := wJ_p (fun ad Lc h hL k => by
  show (pe_fi (Int8.ofInt n).toInt32 fun z => k Lc (.int z :: st.map (w_u ad)) h) = k Lc (Value.int (Int32.ofInt n) :: _) h
  rw [pe_fi_eq]
  have h1 : (Int8.ofInt n).toInt32 = Int32.ofInt n := by
    apply Int32.toInt_inj.mp
    rw [Int8.toInt_toInt32, Int8.toInt_ofInt_of_le (by have := hn.1; omega) (by have := hn.2; omega), w_ti ⟨by have := hn.1; omega, by have := hn.2; omega⟩]
  rw [h1]) k
theorem wa_sipush {n : Int} (hn : -32768 ≤ n ∧ n ≤ 32767) (k : wJ G Y M d mt rest L ((0, n) :: st) S Q) : wJ G Y M d mt (.inl (.sipush n) :: rest) L st S Q := wJ_p (fun ad Lc h hL k => by
  show (pe_fi (Int16.ofInt n).toInt32 fun z => k Lc (.int z :: st.map (w_u ad)) h) = k Lc (Value.int (Int32.ofInt n) :: _) h
  rw [pe_fi_eq]
  have h1 : (Int16.ofInt n).toInt32 = Int32.ofInt n := by
    apply Int32.toInt_inj.mp
    rw [Int16.toInt_toInt32, Int16.toInt_ofInt_of_le (by have := hn.1; omega) (by have := hn.2; omega), w_ti ⟨by have := hn.1; omega, by have := hn.2; omega⟩]
  rw [h1]) k
theorem wa_lconst {n : Fin 2} (k : wJ G Y M d mt rest L ((1, (n.val : Int)) :: st) S Q) : wJ G Y M d mt (.inl (.lconst n) :: rest) L st S Q := wJ_p (fun ad Lc h hL k => by
  show (pe_fl (Int64.ofNat n.val) fun z => k Lc (.long z :: st.map (w_u ad)) h) = k Lc (Value.long (Int64.ofInt (n.val : Int)) :: _) h
  rw [pe_fl_eq]
  have h1 : Int64.ofNat n.val = Int64.ofInt (n.val : Int) := by
    match n with
    | 0 => rfl
    | 1 => rfl
  rw [h1]) k
theorem wa_null  (k : wJ G Y M d mt rest L ((2, -1) :: st) S Q) : wJ G Y M d mt (.inl .aconst_null :: rest) L st S Q := wJ_p (fun ad Lc h hL k => by
  rfl) k
theorem w_cat1 (ad : Nat → Nat) (a : Nat) (x : Int) (h : a ≠ 1) : (w_u ad (a, x)).category = 1 := by
  unfold w_u
  split
  · rfl
  · rename_i q; cases q; exact absurd rfl h
  · unfold w_r; split
    · rfl
    · split <;> rfl
theorem wa_dup {a : Nat} {x : Int} (ha : a ≠ 1) (k : wJ G Y M d mt rest L ((a, x) :: (a, x) :: st) S Q) : wJ G Y M d mt (.inl .dup :: rest) L ((a, x) :: st) S Q := wJ_p (fun ad Lc h hL k => by
  show (bif Nat.beq (w_u ad (a, x)).category 1 then _ else _) = _
  rw [w_cat1 ad a x ha]
  rfl) k
theorem wa_pop {a : Nat} {x : Int} (ha : a ≠ 1) (k : wJ G Y M d mt rest L st S Q) : wJ G Y M d mt (.inl .pop :: rest) L ((a, x) :: st) S Q := wJ_p (fun ad Lc h hL k => by
  show (bif Nat.beq (w_u ad (a, x)).category 1 then _ else _) = _
  rw [w_cat1 ad a x ha]
  rfl) k
theorem wa_dup2l {x : Int} (k : wJ G Y M d mt rest L ((1, x) :: (1, x) :: st) S Q) : wJ G Y M d mt (.inl .dup2 :: rest) L ((1, x) :: st) S Q := wJ_p (fun ad Lc h hL k => by
  rfl) k
theorem wa_dup2 {a b : Nat} {x y : Int} (ha : a ≠ 1) (hb : b ≠ 1) (k : wJ G Y M d mt rest L ((a, x) :: (b, y) :: (a, x) :: (b, y) :: st) S Q) : wJ G Y M d mt (.inl .dup2 :: rest) L ((a, x) :: (b, y) :: st) S Q := wJ_p (fun ad Lc h hL k => by
  show (bif Nat.beq (w_u ad (a, x)).category 2 then _ else (bif Nat.beq (w_u ad (a, x)).category 1 && Nat.beq (w_u ad (b, y)).category 1 then _ else _)) = _
  rw [w_cat1 ad a x ha, w_cat1 ad b y hb]
  rfl) k
theorem wa_dup_x1 {a b : Nat} {x y : Int} (ha : a ≠ 1) (hb : b ≠ 1) (k : wJ G Y M d mt rest L ((a, x) :: (b, y) :: (a, x) :: st) S Q) : wJ G Y M d mt (.inl .dup_x1 :: rest) L ((a, x) :: (b, y) :: st) S Q := wJ_p (fun ad Lc h hL k => by
  show (bif Nat.beq (w_u ad (a, x)).category 1 && Nat.beq (w_u ad (b, y)).category 1 then _ else _) = _
  rw [w_cat1 ad a x ha, w_cat1 ad b y hb]
  rfl) k
theorem wa_iload_n {n : Fin 4} {x : Int} (hl : w_lk n.val L = some (0, x)) (k : wJ G Y M d mt rest L ((0, x) :: st) S Q) : wJ G Y M d mt (.inl (.iload_n n) :: rest) L st S Q := wJ_p (fun ad Lc h hL k => by
  show (match pe_gl n.val Lc with | some v => _ | _ => none) = _
  rw [hL _ _ hl]
  rfl) k
theorem wa_lload_n {n : Fin 4} {x : Int} (hl : w_lk n.val L = some (1, x)) (k : wJ G Y M d mt rest L ((1, x) :: st) S Q) : wJ G Y M d mt (.inl (.lload_n n) :: rest) L st S Q := wJ_p (fun ad Lc h hL k => by
  show (match pe_gl n.val Lc with | some v => _ | _ => none) = _
  rw [hL _ _ hl]
  rfl) k
theorem wa_aload_n {n : Fin 4} {x : Int} (hl : w_lk n.val L = some (2, x)) (k : wJ G Y M d mt rest L ((2, x) :: st) S Q) : wJ G Y M d mt (.inl (.aload_n n) :: rest) L st S Q := wJ_p (fun ad Lc h hL k => by
  show (match pe_gl n.val Lc with | some v => (bif pm_isR v then _ else none) | _ => none) = _
  rw [hL _ _ hl]
  show (bif pm_isR (w_r ad x) then _ else none) = _
  rw [w_isR]
  rfl) k
theorem wa_iload {n : Nat} {x : Int} (hl : w_lk n L = some (0, x)) (k : wJ G Y M d mt rest L ((0, x) :: st) S Q) : wJ G Y M d mt (.inl (.iload n) :: rest) L st S Q := wJ_p (fun ad Lc h hL k => by
  show (match pe_gl n Lc with | some v => _ | _ => none) = _
  rw [hL _ _ hl]
  rfl) k
theorem wa_lload {n : Nat} {x : Int} (hl : w_lk n L = some (1, x)) (k : wJ G Y M d mt rest L ((1, x) :: st) S Q) : wJ G Y M d mt (.inl (.lload n) :: rest) L st S Q := wJ_p (fun ad Lc h hL k => by
  show (match pe_gl n Lc with | some v => _ | _ => none) = _
  rw [hL _ _ hl]
  rfl) k
theorem wa_aload {n : Nat} {x : Int} (hl : w_lk n L = some (2, x)) (k : wJ G Y M d mt rest L ((2, x) :: st) S Q) : wJ G Y M d mt (.inl (.aload n) :: rest) L st S Q := wJ_p (fun ad Lc h hL k => by
  show (match pe_gl n Lc with | some v => (bif pm_isR v then _ else none) | _ => none) = _
  rw [hL _ _ hl]
  show (bif pm_isR (w_r ad x) then _ else none) = _
  rw [w_isR]
  rfl) k
def w_ky (p : Nat → Bool) (L : wL) : wL := L.filter (fun q => p q.1)
theorem w_lk_ky (p : Nat → Bool) (j : Nat) (L : wL) : w_lk j (w_ky p L) = if p j = true then w_lk j L else none := by
  induction L with
  | nil => show none = _; split <;> rfl
  | cons a r ih =>
    obtain ⟨a, v⟩ := a
    unfold w_ky at ih ⊢
    by_cases hp : p a = true
    · rw [List.filter_cons_of_pos (by exact hp)]
      show (bif Nat.beq a j then some v else w_lk j _) = _
      rw [ih]
      cases hb : Nat.beq a j
      · show (if _ then _ else _) = if _ then (bif Nat.beq a j then some v else w_lk j r) else none
        rw [hb]; rfl
      · have := Nat.eq_of_beq_eq_true hb
        subst this
        rw [show (if p a = true then w_lk a ((a, v) :: r) else none) = w_lk a ((a, v) :: r) from if_pos hp]
        rw [show w_lk a ((a, v) :: r) = (bif Nat.beq a a then some v else w_lk a r) from rfl, Nat.beq_refl]
        rfl
    · rw [List.filter_cons_of_neg (by exact hp), ih]
      by_cases hj : p j = true
      · rw [if_pos hj, if_pos hj]
        show _ = (bif Nat.beq a j then some v else w_lk j r)
        cases hb : Nat.beq a j
        · rfl
        · have := Nat.eq_of_beq_eq_true hb
          subst this
          exact absurd hj hp
      · rw [if_neg hj, if_neg hj]
theorem w_gl_keep {p : Nat × Value → Bool} {j : Nat} {u : Value} {L : pm_L} (h : pe_gl j L = some u) (hp : p (j, u) = true) : pe_gl j (L.filter p) = some u := by
  induction L with
  | nil => cases h
  | cons a r ih =>
    obtain ⟨a, v⟩ := a
    unfold pe_gl at h
    cases hb : Nat.beq a j
    · rw [hb] at h
      by_cases hq : p (a, v) = true
      · rw [List.filter_cons_of_pos hq]
        unfold pe_gl
        rw [hb]
        exact ih h
      · rw [List.filter_cons_of_neg hq]
        exact ih h
    · rw [hb] at h
      have := Nat.eq_of_beq_eq_true hb
      subst this
      cases h
      rw [List.filter_cons_of_pos hp]
      unfold pe_gl
      rw [Nat.beq_refl]
      rfl
def w_is2 (o : Option wv) : Bool := match o with
  | some (1, _) => true
  | _ => false
def w_st1 (i : Nat) (v : wv) (L : wL) : wL := (i, v) :: w_ky (fun q => !(Nat.beq q i) && !(Nat.beq (q + 1) i && w_is2 (w_lk q L))) L
def w_st2 (i : Nat) (v : wv) (L : wL) : wL := (i, v) :: w_ky (fun q => !(Nat.beq q i) && (!(Nat.beq q (i + 1)) && !(Nat.beq (q + 1) i && w_is2 (w_lk q L)))) L
theorem w_cat2 {ad : Nat → Nat} {u : wv} (h : w_is2 (some u) = false) : ((w_u ad u).category == 2) = false := by
  obtain ⟨a, x⟩ := u
  rw [w_cat1 ad a x (fun q => by subst q; cases h)]
  rfl
theorem w_LL_st1 {ad : Nat → Nat} {Lc : pm_L} {i : Nat} {v : wv} (hL : w_LL ad L Lc) : w_LL ad (w_st1 i v L) (pm_st1 i (w_u ad v) Lc) := by
  intro j u hj
  unfold w_st1 w_lk at hj
  show (bif Nat.beq i j then some (w_u ad v) else pe_gl j _) = _
  cases hb : Nat.beq i j
  · rw [hb] at hj
    have hj : w_lk j (w_ky _ L) = some u := hj
    rw [w_lk_ky] at hj
    split at hj
    · rename_i hp
      refine w_gl_keep (hL j u hj) ?_
      rw [Bool.and_eq_true, hj] at hp
      have h1 : (j == i) = false := by
        cases q : (j == i)
        · rfl
        · have := eq_of_beq q
          subst this
          rw [Nat.beq_refl] at hb; cases hb
      show (!(j == i) && !(j + 1 == i && (w_u ad u).category == 2)) = true
      rw [h1]
      cases q : (j + 1 == i)
      · rfl
      · have q2 := eq_of_beq q
        have h2 := hp.2
        rw [show Nat.beq (j + 1) i = true by rw [q2]; exact Nat.beq_refl i] at h2
        have h3 : w_is2 (some u) = false := by
          cases e : w_is2 (some u)
          · rfl
          · rw [e] at h2; cases h2
        rw [w_cat2 h3]; rfl
    · cases hj
  · rw [hb] at hj
    cases hj
    rfl
theorem w_LL_st2 {ad : Nat → Nat} {Lc : pm_L} {i : Nat} {v : wv} (hL : w_LL ad L Lc) : w_LL ad (w_st2 i v L) (pm_st2 i (w_u ad v) Lc) := by
  intro j u hj
  unfold w_st2 w_lk at hj
  show (bif Nat.beq i j then some (w_u ad v) else pe_gl j _) = _
  cases hb : Nat.beq i j
  · rw [hb] at hj
    have hj : w_lk j (w_ky _ L) = some u := hj
    rw [w_lk_ky] at hj
    split at hj
    · rename_i hp
      refine w_gl_keep (hL j u hj) ?_
      rw [Bool.and_eq_true, Bool.and_eq_true, hj] at hp
      have h1 : (j == i) = false := by
        cases q : (j == i)
        · rfl
        · have := eq_of_beq q
          subst this
          rw [Nat.beq_refl] at hb; cases hb
      have h4 : (j == i + 1) = false := by
        cases q : (j == i + 1)
        · rfl
        · have := eq_of_beq q
          have h5 := hp.2.1
          rw [show Nat.beq j (i + 1) = true by rw [this]; exact Nat.beq_refl _] at h5
          cases h5
      show (!(j == i) && (!(j == i + 1) && !(j + 1 == i && (w_u ad u).category == 2))) = true
      rw [h1, h4]
      cases q : (j + 1 == i)
      · rfl
      · have q2 := eq_of_beq q
        have h2 := hp.2.2
        rw [show Nat.beq (j + 1) i = true by rw [q2]; exact Nat.beq_refl i] at h2
        have h3 : w_is2 (some u) = false := by
          cases e : w_is2 (some u)
          · rfl
          · rw [e] at h2; cases h2
        rw [w_cat2 h3]; rfl
    · cases hj
  · rw [hb] at hj
    cases hj
    rfl
theorem wa_istore_n {n : Fin 4} {x : Int} (hm : Nat.blt n.val mt.mx = true) (k : wJ G Y M d mt rest (w_st1 n.val (0, x) L) st S Q) : wJ G Y M d mt (.inl (.istore_n n) :: rest) L ((0, x) :: st) S Q := wJ_o (fun ad Lc h hE hL => ⟨pm_st1 n.val (w_u ad (0, x)) Lc, h, fun k => by
  show (bif true && Nat.blt n.val mt.mx then _ else none) = _
  rw [hm, Bool.and_self, cond_true]
  exact (pe_st1k_eq _ _ _ (fun L => k L (st.map (w_u ad)) h)), hE, w_LL_st1 hL, fun _ q => q⟩) k
theorem wa_astore_n {n : Fin 4} {x : Int} (hm : Nat.blt n.val mt.mx = true) (k : wJ G Y M d mt rest (w_st1 n.val (2, x) L) st S Q) : wJ G Y M d mt (.inl (.astore_n n) :: rest) L ((2, x) :: st) S Q := wJ_o (fun ad Lc h hE hL => ⟨pm_st1 n.val (w_u ad (2, x)) Lc, h, fun k => by
  show (bif pm_isR (w_r ad x) && Nat.blt n.val mt.mx then _ else none) = _
  rw [hm, w_isR, Bool.and_self, cond_true]
  exact (pe_st1k_eq _ _ _ (fun L => k L (st.map (w_u ad)) h)), hE, w_LL_st1 hL, fun _ q => q⟩) k
theorem wa_lstore_n {n : Fin 4} {x : Int} (hm : Nat.blt (n.val + 1) mt.mx = true) (k : wJ G Y M d mt rest (w_st2 n.val (1, x) L) st S Q) : wJ G Y M d mt (.inl (.lstore_n n) :: rest) L ((1, x) :: st) S Q := wJ_o (fun ad Lc h hE hL => ⟨pm_st2 n.val (w_u ad (1, x)) Lc, h, fun k => by
  show (bif Nat.blt (n.val + 1) mt.mx then _ else none) = _
  rw [hm, cond_true]
  exact (pe_st2k_eq _ _ _ (fun L => k L (st.map (w_u ad)) h)), hE, w_LL_st2 hL, fun _ q => q⟩) k
theorem wa_istore {n : Nat} {x : Int} (hm : Nat.blt n mt.mx = true) (k : wJ G Y M d mt rest (w_st1 n (0, x) L) st S Q) : wJ G Y M d mt (.inl (.istore n) :: rest) L ((0, x) :: st) S Q := wJ_o (fun ad Lc h hE hL => ⟨pm_st1 n (w_u ad (0, x)) Lc, h, fun k => by
  show (bif true && Nat.blt n mt.mx then _ else none) = _
  rw [hm, Bool.and_self, cond_true]
  exact (pe_st1k_eq _ _ _ (fun L => k L (st.map (w_u ad)) h)), hE, w_LL_st1 hL, fun _ q => q⟩) k
theorem wa_astore {n : Nat} {x : Int} (hm : Nat.blt n mt.mx = true) (k : wJ G Y M d mt rest (w_st1 n (2, x) L) st S Q) : wJ G Y M d mt (.inl (.astore n) :: rest) L ((2, x) :: st) S Q := wJ_o (fun ad Lc h hE hL => ⟨pm_st1 n (w_u ad (2, x)) Lc, h, fun k => by
  show (bif pm_isR (w_r ad x) && Nat.blt n mt.mx then _ else none) = _
  rw [hm, w_isR, Bool.and_self, cond_true]
  exact (pe_st1k_eq _ _ _ (fun L => k L (st.map (w_u ad)) h)), hE, w_LL_st1 hL, fun _ q => q⟩) k
theorem wa_lstore {n : Nat} {x : Int} (hm : Nat.blt (n + 1) mt.mx = true) (k : wJ G Y M d mt rest (w_st2 n (1, x) L) st S Q) : wJ G Y M d mt (.inl (.lstore n) :: rest) L ((1, x) :: st) S Q := wJ_o (fun ad Lc h hE hL => ⟨pm_st2 n (w_u ad (1, x)) Lc, h, fun k => by
  show (bif Nat.blt (n + 1) mt.mx then _ else none) = _
  rw [hm, cond_true]
  exact (pe_st2k_eq _ _ _ (fun L => k L (st.map (w_u ad)) h)), hE, w_LL_st2 hL, fun _ q => q⟩) k
theorem wa_iinc {i : Nat} {n x : Int} (hl : w_lk i L = some (0, x)) (hm : Nat.blt i mt.mx = true) (k : wJ G Y M d mt rest (w_st1 i (0, x + n) L) st S Q) : wJ G Y M d mt (.inl (.iinc i n) :: rest) L st S Q := wJ_o (fun ad Lc h hE hL => ⟨pm_st1 i (w_u ad (0, x + n)) Lc, h, fun k => by
  show (match pe_gl i Lc with | some (.int x) => _ | _ => none) = _
  rw [hL _ _ hl]
  show (bif Nat.blt i mt.mx then _ else none) = _
  rw [hm, cond_true, pe_fi_eq, pe_st1k_eq, ← Int32.ofInt_add]
  rfl, hE, w_LL_st1 hL, fun _ q => q⟩) k
theorem wJ_s {i : pe_I} {is2 : List pe_I} (hs : ∀ ad Lc h f, w_E Y ad S h → pe_go G (f + 1) d mt (i :: rest) Lc (st.map (w_u ad)) h = pe_go G f d mt is2 Lc (st2.map (w_u ad)) h) (hk : wJ G Y M d mt is2 L st2 S Q) : wJ G Y M d mt (i :: rest) L st S Q := by
  intro ad Lc h hE hL
  obtain ⟨o, ad2, S3, h3, f0, hg, hE3, hM, hQ⟩ := hk ad Lc h hE hL
  refine ⟨o, ad2, S3, h3, f0 + 1, fun f hf => ?_, hE3, hM, hQ⟩
  obtain ⟨f, rfl⟩ : ∃ g, f = g + 1 := ⟨f - 1, by omega⟩
  rw [hs ad Lc h f hE]
  exact hg f (by omega)
def w_k (mt : pe_Mt) (tb : Nat) (is : List pe_I) : Prop := ∃ p, pe_at mt.bl tb = some (p, is)
theorem w_jmp {α : Type} {tb : Nat} {is : List pe_I} (h : w_k mt tb is) (k : List pe_I → Option α) : pe_jmp mt tb k = k is := by
  obtain ⟨p, h⟩ := h
  unfold pe_jmp
  rw [h]
theorem wa_goto {o : Int} {tb : Nat} {is : List pe_I} (hb : w_k mt tb is) (k : wJ G Y M d mt is L st S Q) : wJ G Y M d mt (.inr (.inr (.inl ((.goto o), tb))) :: rest) L st S Q := wJ_s (fun ad Lc h f _ => w_jmp hb _) k
theorem wa_fall {tb : Nat} {is : List pe_I} (hb : w_k mt tb is) (k : wJ G Y M d mt is L st S Q) : wJ G Y M d mt (.inr (.inr (.inr (.inr (.inr (.inr (.inr (.inr (.inl tb)))))))) :: rest) L st S Q := wJ_s (fun ad Lc h f _ => w_jmp hb _) k
theorem w_eq0 {x y : Int} (hx : w_rg 0 x) (hy : w_rg 0 y) : (Int32.ofInt x = Int32.ofInt y) ↔ x = y := ⟨fun q => by rw [← w_ti hx, ← w_ti hy, q], fun q => by rw [q]⟩
theorem w_lt0 {x y : Int} (hx : w_rg 0 x) (hy : w_rg 0 y) : (Int32.ofInt x < Int32.ofInt y) ↔ x < y := by rw [Int32.lt_iff_toInt_lt, w_ti hx, w_ti hy]
theorem w_le0 {x y : Int} (hx : w_rg 0 x) (hy : w_rg 0 y) : (Int32.ofInt x ≤ Int32.ofInt y) ↔ x ≤ y := by rw [Int32.le_iff_toInt_le, w_ti hx, w_ti hy]
theorem w_0 : (0 : Int32) = Int32.ofInt 0 := rfl
theorem w_r0 : w_rg 0 0 := ⟨by omega, by omega⟩
theorem wa_icmpeq {x y o : Int} {tb : Nat} {is : List pe_I} (hx : w_rg 0 x) (hy : w_rg 0 y) (hb : w_k mt tb is) (k1 : x = y → wJ G Y M d mt is L st S Q) (k2 : ¬ (x = y) → wJ G Y M d mt rest L st S Q) : wJ G Y M d mt (.inr (.inr (.inl ((.if_icmp .eq o), tb))) :: rest) L ((0, y) :: (0, x) :: st) S Q := by
  by_cases q : x = y
  · refine wJ_s (is2 := is) (st2 := st) (fun ad Lc h f _ => ?_) (k1 q)
    show (bif pe_c2 .eq (Int32.ofInt x) (Int32.ofInt y) then pe_jmp mt tb _ else _) = _
    rw [show (pe_c2 .eq (Int32.ofInt x) (Int32.ofInt y)) = true from decide_eq_true ((w_eq0 hx hy).mpr q)]
    exact w_jmp hb _
  · refine wJ_s (is2 := rest) (st2 := st) (fun ad Lc h f _ => ?_) (k2 q)
    show (bif pe_c2 .eq (Int32.ofInt x) (Int32.ofInt y) then pe_jmp mt tb _ else _) = _
    rw [show (pe_c2 .eq (Int32.ofInt x) (Int32.ofInt y)) = false from decide_eq_false (fun e => q ((w_eq0 hx hy).mp e))]
    rfl
theorem wa_ifeq {x o : Int} {tb : Nat} {is : List pe_I} (hx : w_rg 0 x) (hb : w_k mt tb is) (k1 : x = 0 → wJ G Y M d mt is L st S Q) (k2 : ¬ (x = 0) → wJ G Y M d mt rest L st S Q) : wJ G Y M d mt (.inr (.inr (.inl ((.ifCond .eq o), tb))) :: rest) L ((0, x) :: st) S Q := by
  by_cases q : x = 0
  · refine wJ_s (is2 := is) (st2 := st) (fun ad Lc h f _ => ?_) (k1 q)
    show (bif pe_c1 .eq (Int32.ofInt x) then pe_jmp mt tb _ else _) = _
    rw [show (pe_c1 .eq (Int32.ofInt x)) = true from decide_eq_true ((w_eq0 hx w_r0).mpr q)]
    exact w_jmp hb _
  · refine wJ_s (is2 := rest) (st2 := st) (fun ad Lc h f _ => ?_) (k2 q)
    show (bif pe_c1 .eq (Int32.ofInt x) then pe_jmp mt tb _ else _) = _
    rw [show (pe_c1 .eq (Int32.ofInt x)) = false from decide_eq_false (fun e => q ((w_eq0 hx w_r0).mp e))]
    rfl
theorem wa_icmpne {x y o : Int} {tb : Nat} {is : List pe_I} (hx : w_rg 0 x) (hy : w_rg 0 y) (hb : w_k mt tb is) (k1 : x ≠ y → wJ G Y M d mt is L st S Q) (k2 : ¬ (x ≠ y) → wJ G Y M d mt rest L st S Q) : wJ G Y M d mt (.inr (.inr (.inl ((.if_icmp .ne o), tb))) :: rest) L ((0, y) :: (0, x) :: st) S Q := by
  by_cases q : x ≠ y
  · refine wJ_s (is2 := is) (st2 := st) (fun ad Lc h f _ => ?_) (k1 q)
    show (bif pe_c2 .ne (Int32.ofInt x) (Int32.ofInt y) then pe_jmp mt tb _ else _) = _
    rw [show (pe_c2 .ne (Int32.ofInt x) (Int32.ofInt y)) = true from by
    show (!(decide (Int32.ofInt x = Int32.ofInt y))) = true
    rw [show decide (Int32.ofInt x = Int32.ofInt y) = false from decide_eq_false (fun e => q ((w_eq0 hx hy).mp e))]; rfl]
    exact w_jmp hb _
  · refine wJ_s (is2 := rest) (st2 := st) (fun ad Lc h f _ => ?_) (k2 q)
    show (bif pe_c2 .ne (Int32.ofInt x) (Int32.ofInt y) then pe_jmp mt tb _ else _) = _
    rw [show (pe_c2 .ne (Int32.ofInt x) (Int32.ofInt y)) = false from by
    show (!(decide (Int32.ofInt x = Int32.ofInt y))) = false
    rw [show decide (Int32.ofInt x = Int32.ofInt y) = true from decide_eq_true ((w_eq0 hx hy).mpr (Decidable.not_not.mp q))]; rfl]
    rfl
theorem wa_ifne {x o : Int} {tb : Nat} {is : List pe_I} (hx : w_rg 0 x) (hb : w_k mt tb is) (k1 : x ≠ 0 → wJ G Y M d mt is L st S Q) (k2 : ¬ (x ≠ 0) → wJ G Y M d mt rest L st S Q) : wJ G Y M d mt (.inr (.inr (.inl ((.ifCond .ne o), tb))) :: rest) L ((0, x) :: st) S Q := by
  by_cases q : x ≠ 0
  · refine wJ_s (is2 := is) (st2 := st) (fun ad Lc h f _ => ?_) (k1 q)
    show (bif pe_c1 .ne (Int32.ofInt x) then pe_jmp mt tb _ else _) = _
    rw [show (pe_c1 .ne (Int32.ofInt x)) = true from by
    show (!(decide (Int32.ofInt x = (0 : Int32)))) = true
    rw [show decide (Int32.ofInt x = (0 : Int32)) = false from decide_eq_false (fun e => q ((w_eq0 hx w_r0).mp e))]; rfl]
    exact w_jmp hb _
  · refine wJ_s (is2 := rest) (st2 := st) (fun ad Lc h f _ => ?_) (k2 q)
    show (bif pe_c1 .ne (Int32.ofInt x) then pe_jmp mt tb _ else _) = _
    rw [show (pe_c1 .ne (Int32.ofInt x)) = false from by
    show (!(decide (Int32.ofInt x = (0 : Int32)))) = false
    rw [show decide (Int32.ofInt x = (0 : Int32)) = true from decide_eq_true ((w_eq0 hx w_r0).mpr (Decidable.not_not.mp q))]; rfl]
    rfl
theorem wa_icmplt {x y o : Int} {tb : Nat} {is : List pe_I} (hx : w_rg 0 x) (hy : w_rg 0 y) (hb : w_k mt tb is) (k1 : x < y → wJ G Y M d mt is L st S Q) (k2 : ¬ (x < y) → wJ G Y M d mt rest L st S Q) : wJ G Y M d mt (.inr (.inr (.inl ((.if_icmp .lt o), tb))) :: rest) L ((0, y) :: (0, x) :: st) S Q := by
  by_cases q : x < y
  · refine wJ_s (is2 := is) (st2 := st) (fun ad Lc h f _ => ?_) (k1 q)
    show (bif pe_c2 .lt (Int32.ofInt x) (Int32.ofInt y) then pe_jmp mt tb _ else _) = _
    rw [show (pe_c2 .lt (Int32.ofInt x) (Int32.ofInt y)) = true from decide_eq_true ((w_lt0 hx hy).mpr q)]
    exact w_jmp hb _
  · refine wJ_s (is2 := rest) (st2 := st) (fun ad Lc h f _ => ?_) (k2 q)
    show (bif pe_c2 .lt (Int32.ofInt x) (Int32.ofInt y) then pe_jmp mt tb _ else _) = _
    rw [show (pe_c2 .lt (Int32.ofInt x) (Int32.ofInt y)) = false from decide_eq_false (fun e => q ((w_lt0 hx hy).mp e))]
    rfl
theorem wa_iflt {x o : Int} {tb : Nat} {is : List pe_I} (hx : w_rg 0 x) (hb : w_k mt tb is) (k1 : x < 0 → wJ G Y M d mt is L st S Q) (k2 : ¬ (x < 0) → wJ G Y M d mt rest L st S Q) : wJ G Y M d mt (.inr (.inr (.inl ((.ifCond .lt o), tb))) :: rest) L ((0, x) :: st) S Q := by
  by_cases q : x < 0
  · refine wJ_s (is2 := is) (st2 := st) (fun ad Lc h f _ => ?_) (k1 q)
    show (bif pe_c1 .lt (Int32.ofInt x) then pe_jmp mt tb _ else _) = _
    rw [show (pe_c1 .lt (Int32.ofInt x)) = true from decide_eq_true ((w_lt0 hx w_r0).mpr q)]
    exact w_jmp hb _
  · refine wJ_s (is2 := rest) (st2 := st) (fun ad Lc h f _ => ?_) (k2 q)
    show (bif pe_c1 .lt (Int32.ofInt x) then pe_jmp mt tb _ else _) = _
    rw [show (pe_c1 .lt (Int32.ofInt x)) = false from decide_eq_false (fun e => q ((w_lt0 hx w_r0).mp e))]
    rfl
theorem wa_icmpge {x y o : Int} {tb : Nat} {is : List pe_I} (hx : w_rg 0 x) (hy : w_rg 0 y) (hb : w_k mt tb is) (k1 : y ≤ x → wJ G Y M d mt is L st S Q) (k2 : ¬ (y ≤ x) → wJ G Y M d mt rest L st S Q) : wJ G Y M d mt (.inr (.inr (.inl ((.if_icmp .ge o), tb))) :: rest) L ((0, y) :: (0, x) :: st) S Q := by
  by_cases q : y ≤ x
  · refine wJ_s (is2 := is) (st2 := st) (fun ad Lc h f _ => ?_) (k1 q)
    show (bif pe_c2 .ge (Int32.ofInt x) (Int32.ofInt y) then pe_jmp mt tb _ else _) = _
    rw [show (pe_c2 .ge (Int32.ofInt x) (Int32.ofInt y)) = true from decide_eq_true ((w_le0 hy hx).mpr q)]
    exact w_jmp hb _
  · refine wJ_s (is2 := rest) (st2 := st) (fun ad Lc h f _ => ?_) (k2 q)
    show (bif pe_c2 .ge (Int32.ofInt x) (Int32.ofInt y) then pe_jmp mt tb _ else _) = _
    rw [show (pe_c2 .ge (Int32.ofInt x) (Int32.ofInt y)) = false from decide_eq_false (fun e => q ((w_le0 hy hx).mp e))]
    rfl
theorem wa_ifge {x o : Int} {tb : Nat} {is : List pe_I} (hx : w_rg 0 x) (hb : w_k mt tb is) (k1 : 0 ≤ x → wJ G Y M d mt is L st S Q) (k2 : ¬ (0 ≤ x) → wJ G Y M d mt rest L st S Q) : wJ G Y M d mt (.inr (.inr (.inl ((.ifCond .ge o), tb))) :: rest) L ((0, x) :: st) S Q := by
  by_cases q : 0 ≤ x
  · refine wJ_s (is2 := is) (st2 := st) (fun ad Lc h f _ => ?_) (k1 q)
    show (bif pe_c1 .ge (Int32.ofInt x) then pe_jmp mt tb _ else _) = _
    rw [show (pe_c1 .ge (Int32.ofInt x)) = true from decide_eq_true ((w_le0 w_r0 hx).mpr q)]
    exact w_jmp hb _
  · refine wJ_s (is2 := rest) (st2 := st) (fun ad Lc h f _ => ?_) (k2 q)
    show (bif pe_c1 .ge (Int32.ofInt x) then pe_jmp mt tb _ else _) = _
    rw [show (pe_c1 .ge (Int32.ofInt x)) = false from decide_eq_false (fun e => q ((w_le0 w_r0 hx).mp e))]
    rfl
theorem wa_icmpgt {x y o : Int} {tb : Nat} {is : List pe_I} (hx : w_rg 0 x) (hy : w_rg 0 y) (hb : w_k mt tb is) (k1 : y < x → wJ G Y M d mt is L st S Q) (k2 : ¬ (y < x) → wJ G Y M d mt rest L st S Q) : wJ G Y M d mt (.inr (.inr (.inl ((.if_icmp .gt o), tb))) :: rest) L ((0, y) :: (0, x) :: st) S Q := by
  by_cases q : y < x
  · refine wJ_s (is2 := is) (st2 := st) (fun ad Lc h f _ => ?_) (k1 q)
    show (bif pe_c2 .gt (Int32.ofInt x) (Int32.ofInt y) then pe_jmp mt tb _ else _) = _
    rw [show (pe_c2 .gt (Int32.ofInt x) (Int32.ofInt y)) = true from decide_eq_true ((w_lt0 hy hx).mpr q)]
    exact w_jmp hb _
  · refine wJ_s (is2 := rest) (st2 := st) (fun ad Lc h f _ => ?_) (k2 q)
    show (bif pe_c2 .gt (Int32.ofInt x) (Int32.ofInt y) then pe_jmp mt tb _ else _) = _
    rw [show (pe_c2 .gt (Int32.ofInt x) (Int32.ofInt y)) = false from decide_eq_false (fun e => q ((w_lt0 hy hx).mp e))]
    rfl
theorem wa_ifgt {x o : Int} {tb : Nat} {is : List pe_I} (hx : w_rg 0 x) (hb : w_k mt tb is) (k1 : 0 < x → wJ G Y M d mt is L st S Q) (k2 : ¬ (0 < x) → wJ G Y M d mt rest L st S Q) : wJ G Y M d mt (.inr (.inr (.inl ((.ifCond .gt o), tb))) :: rest) L ((0, x) :: st) S Q := by
  by_cases q : 0 < x
  · refine wJ_s (is2 := is) (st2 := st) (fun ad Lc h f _ => ?_) (k1 q)
    show (bif pe_c1 .gt (Int32.ofInt x) then pe_jmp mt tb _ else _) = _
    rw [show (pe_c1 .gt (Int32.ofInt x)) = true from decide_eq_true ((w_lt0 w_r0 hx).mpr q)]
    exact w_jmp hb _
  · refine wJ_s (is2 := rest) (st2 := st) (fun ad Lc h f _ => ?_) (k2 q)
    show (bif pe_c1 .gt (Int32.ofInt x) then pe_jmp mt tb _ else _) = _
    rw [show (pe_c1 .gt (Int32.ofInt x)) = false from decide_eq_false (fun e => q ((w_lt0 w_r0 hx).mp e))]
    rfl
theorem wa_icmple {x y o : Int} {tb : Nat} {is : List pe_I} (hx : w_rg 0 x) (hy : w_rg 0 y) (hb : w_k mt tb is) (k1 : x ≤ y → wJ G Y M d mt is L st S Q) (k2 : ¬ (x ≤ y) → wJ G Y M d mt rest L st S Q) : wJ G Y M d mt (.inr (.inr (.inl ((.if_icmp .le o), tb))) :: rest) L ((0, y) :: (0, x) :: st) S Q := by
  by_cases q : x ≤ y
  · refine wJ_s (is2 := is) (st2 := st) (fun ad Lc h f _ => ?_) (k1 q)
    show (bif pe_c2 .le (Int32.ofInt x) (Int32.ofInt y) then pe_jmp mt tb _ else _) = _
    rw [show (pe_c2 .le (Int32.ofInt x) (Int32.ofInt y)) = true from decide_eq_true ((w_le0 hx hy).mpr q)]
    exact w_jmp hb _
  · refine wJ_s (is2 := rest) (st2 := st) (fun ad Lc h f _ => ?_) (k2 q)
    show (bif pe_c2 .le (Int32.ofInt x) (Int32.ofInt y) then pe_jmp mt tb _ else _) = _
    rw [show (pe_c2 .le (Int32.ofInt x) (Int32.ofInt y)) = false from decide_eq_false (fun e => q ((w_le0 hx hy).mp e))]
    rfl
theorem wa_ifle {x o : Int} {tb : Nat} {is : List pe_I} (hx : w_rg 0 x) (hb : w_k mt tb is) (k1 : x ≤ 0 → wJ G Y M d mt is L st S Q) (k2 : ¬ (x ≤ 0) → wJ G Y M d mt rest L st S Q) : wJ G Y M d mt (.inr (.inr (.inl ((.ifCond .le o), tb))) :: rest) L ((0, x) :: st) S Q := by
  by_cases q : x ≤ 0
  · refine wJ_s (is2 := is) (st2 := st) (fun ad Lc h f _ => ?_) (k1 q)
    show (bif pe_c1 .le (Int32.ofInt x) then pe_jmp mt tb _ else _) = _
    rw [show (pe_c1 .le (Int32.ofInt x)) = true from decide_eq_true ((w_le0 hx w_r0).mpr q)]
    exact w_jmp hb _
  · refine wJ_s (is2 := rest) (st2 := st) (fun ad Lc h f _ => ?_) (k2 q)
    show (bif pe_c1 .le (Int32.ofInt x) then pe_jmp mt tb _ else _) = _
    rw [show (pe_c1 .le (Int32.ofInt x)) = false from decide_eq_false (fun e => q ((w_le0 hx w_r0).mp e))]
    rfl
theorem wa_ifnull {x o : Int} {tb : Nat} {is : List pe_I} (hb : w_k mt tb is) (k1 : x = -1 → wJ G Y M d mt is L st S Q) (k2 : ¬ (x = -1) → wJ G Y M d mt rest L st S Q) : wJ G Y M d mt (.inr (.inr (.inl ((.ifnull o), tb))) :: rest) L ((2, x) :: st) S Q := by
  have hn : ∀ ad, decide (w_r ad x = .null) = decide (x = -1) := by
    intro ad
    unfold w_r
    by_cases h0 : 0 ≤ x
    · rw [if_pos h0, decide_eq_false (fun e => by cases e), decide_eq_false (by omega)]
    · rw [if_neg h0]
      by_cases h1 : x = -1
      · rw [if_pos h1, decide_eq_true h1, decide_eq_true rfl]
      · rw [if_neg h1, decide_eq_false h1, decide_eq_false (fun e => by cases e)]
  by_cases q : x = -1
  · refine wJ_s (is2 := is) (st2 := st) (fun ad Lc h f _ => ?_) (k1 q)
    show (bif pm_isR (w_r ad x) then (bif (decide (w_r ad x = .null)) then pe_jmp mt tb _ else _) else none) = _
    rw [w_isR, hn, decide_eq_true q]
    exact w_jmp hb _
  · refine wJ_s (is2 := rest) (st2 := st) (fun ad Lc h f _ => ?_) (k2 q)
    show (bif pm_isR (w_r ad x) then (bif (decide (w_r ad x = .null)) then pe_jmp mt tb _ else _) else none) = _
    rw [w_isR, hn, decide_eq_false q]
    rfl
theorem wa_ifnonnull {x o : Int} {tb : Nat} {is : List pe_I} (hb : w_k mt tb is) (k1 : x ≠ -1 → wJ G Y M d mt is L st S Q) (k2 : ¬ (x ≠ -1) → wJ G Y M d mt rest L st S Q) : wJ G Y M d mt (.inr (.inr (.inl ((.ifnonnull o), tb))) :: rest) L ((2, x) :: st) S Q := by
  have hn : ∀ ad, decide (w_r ad x = .null) = decide (x = -1) := by
    intro ad
    unfold w_r
    by_cases h0 : 0 ≤ x
    · rw [if_pos h0, decide_eq_false (fun e => by cases e), decide_eq_false (by omega)]
    · rw [if_neg h0]
      by_cases h1 : x = -1
      · rw [if_pos h1, decide_eq_true h1, decide_eq_true rfl]
      · rw [if_neg h1, decide_eq_false h1, decide_eq_false (fun e => by cases e)]
  by_cases q : x ≠ -1
  · refine wJ_s (is2 := is) (st2 := st) (fun ad Lc h f _ => ?_) (k1 q)
    show (bif pm_isR (w_r ad x) then (bif !(decide (w_r ad x = .null)) then pe_jmp mt tb _ else _) else none) = _
    rw [w_isR, hn, decide_eq_false q]
    exact w_jmp hb _
  · refine wJ_s (is2 := rest) (st2 := st) (fun ad Lc h f _ => ?_) (k2 q)
    show (bif pm_isR (w_r ad x) then (bif !(decide (w_r ad x = .null)) then pe_jmp mt tb _ else _) else none) = _
    rw [w_isR, hn, decide_eq_true (Decidable.not_not.mp q)]
    rfl
theorem wa_ki {wide : Bool} {ix wd : Nat} {v : Int32} (k : wJ G Y M d mt rest L ((0, v.toInt) :: st) S Q) : wJ G Y M d mt (.inr (.inr (.inr (.inl (wide, ix, v, wd)))) :: rest) L st S Q := wJ_s (st2 := (0, v.toInt) :: st) (fun ad Lc h f _ => by
  show pe_go G f d mt rest Lc (.int v :: _) h = pe_go G f d mt rest Lc (.int (Int32.ofInt v.toInt) :: _) h
  rw [w_oi]) k
theorem wa_kl {ix wd : Nat} {v : Int64} (k : wJ G Y M d mt rest L ((1, v.toInt) :: st) S Q) : wJ G Y M d mt (.inr (.inr (.inr (.inr (.inr (.inr (.inr (.inr (.inr (.inr (.inl (ix, v, wd))))))))))) :: rest) L st S Q := wJ_s (st2 := (1, v.toInt) :: st) (fun ad Lc h f _ => by
  show pe_go G f d mt rest Lc (.long v :: _) h = pe_go G f d mt rest Lc (.long (Int64.ofInt v.toInt) :: _) h
  rw [w_ol]) k
theorem wJ_end {i : pe_I} {o : wO} (hs : ∀ ad Lc h f, w_E Y ad S h → pe_go G (f + 1) d mt (i :: rest) Lc (st.map (w_u ad)) h = some (w_oc ad o, h)) (hq : Q o S) : wJ G Y M d mt (i :: rest) L st S Q := by
  intro ad Lc h hE hL
  refine ⟨o, ad, S, h, 1, fun f hf => ?_, hE, fun _ q => ⟨q, fun _ => rfl⟩, hq⟩
  obtain ⟨f, rfl⟩ : ∃ g, f = g + 1 := ⟨f - 1, by omega⟩
  exact hs ad Lc h f hE
theorem wa_return (hr : mt.ret = none) (hq : Q (.inl none) S) : wJ G Y M d mt (.inr (.inr (.inr (.inr (.inr (.inr (.inr (.inr (.inr (.inl .return_))))))))) :: rest) L [] S Q := wJ_end (o := .inl none) (fun ad Lc h f _ => by
  show pe_rt mt.ret .return_ [] h = _
  rw [hr]; rfl) hq
theorem wa_ireturn {x : Int} (hr : mt.ret = some .int) (hq : Q (.inl (some (0, x))) S) : wJ G Y M d mt (.inr (.inr (.inr (.inr (.inr (.inr (.inr (.inr (.inr (.inl .ireturn))))))))) :: rest) L [(0, x)] S Q := wJ_end (o := .inl (some (0, x))) (fun ad Lc h f _ => by
  show pe_rt mt.ret .ireturn [.int (Int32.ofInt x)] h = _
  rw [hr]; rfl) hq
theorem wa_zreturn {x : Int} (hr : mt.ret = some .boolean) (hx : x = 0 ∨ x = 1) (hq : Q (.inl (some (0, x))) S) : wJ G Y M d mt (.inr (.inr (.inr (.inr (.inr (.inr (.inr (.inr (.inr (.inl .ireturn))))))))) :: rest) L [(0, x)] S Q := wJ_end (o := .inl (some (0, x))) (fun ad Lc h f _ => by
  show pe_rt mt.ret .ireturn [.int (Int32.ofInt x)] h = _
  rw [hr]
  rcases hx with q | q <;> subst q <;> rfl) hq
theorem wa_lreturn {x : Int} (hr : mt.ret = some .long) (hq : Q (.inl (some (1, x))) S) : wJ G Y M d mt (.inr (.inr (.inr (.inr (.inr (.inr (.inr (.inr (.inr (.inl .lreturn))))))))) :: rest) L [(1, x)] S Q := wJ_end (o := .inl (some (1, x))) (fun ad Lc h f _ => by
  show pe_rt mt.ret .lreturn [.long (Int64.ofInt x)] h = _
  rw [hr]; rfl) hq
theorem wa_areturn {x : Int} {t : FieldType} (hr : mt.ret = some (.array t)) (hq : Q (.inl (some (2, x))) S) : wJ G Y M d mt (.inr (.inr (.inr (.inr (.inr (.inr (.inr (.inr (.inr (.inl .areturn))))))))) :: rest) L [(2, x)] S Q := wJ_end (o := .inl (some (2, x))) (fun ad Lc h f _ => by
  show pe_rt mt.ret .areturn [w_r ad x] h = _
  rw [hr]
  show (bif pm_isR (w_r ad x) then _ else none) = _
  rw [w_isR]; rfl) hq
theorem wa_oreturn {x : Int} {t : String} (hr : mt.ret = some (.object t)) (hq : Q (.inl (some (2, x))) S) : wJ G Y M d mt (.inr (.inr (.inr (.inr (.inr (.inr (.inr (.inr (.inr (.inl .areturn))))))))) :: rest) L [(2, x)] S Q := wJ_end (o := .inl (some (2, x))) (fun ad Lc h f _ => by
  show pe_rt mt.ret .areturn [w_r ad x] h = _
  rw [hr]
  show (bif pm_isR (w_r ad x) then _ else none) = _
  rw [w_isR]; rfl) hq
theorem wa_th {j : Nat} (hq : Q (.inr j) S) : wJ G Y M d mt (.inr (.inr (.inr (.inr (.inr (.inr (.inr (.inr (.inr (.inr (.inr (.inr (.inr (.inr (.inr (.inr (.inr (.inl ()))))))))))))))))) :: rest) L ((2, (j : Int)) :: st) S Q := wJ_end (o := .inr j) (fun ad Lc h f _ => by
  show pe_thk (w_r ad (j : Int) :: st.map (w_u ad)) h = _
  unfold w_r
  rw [if_pos (Int.natCast_nonneg j)]
  rfl) hq
end W51
