/-! PART gf: classOf; the classes of the ES as one number; aim of the class's linker. -/
section Wgf
variable {xs : List (Nat × List Int32)} {M : Nat → Prop} {d : Nat} {S S0 Z A : wS} {T : List aO} {u : aV} {k b s : Int} {cl l : List Int} {Q : wO → wS → Prop}
theorem lshl_0 {c : Int} (hc : 0 ≤ c ∧ c < 128) : (Int64.ofInt c <<< (0 : Int64)).toBitVec.toNat = c.toNat * 1 := by
  show ((Int64.ofInt c).toBitVec <<< ((0 : Int64).toBitVec.smod 64)).toNat = _
  rw [show ((0 : Int64).toBitVec.smod 64) = 0#64 from by decide]
  show ((Int64.ofInt c).toBitVec <<< 0).toNat = _
  rw [BitVec.toNat_shiftLeft, nat64 (by omega), Nat.shiftLeft_eq]
  omega
theorem lor_0 {a c : Int} (ha : 0 ≤ a ∧ a < 1) (hc : 0 ≤ c ∧ c < 128) : wb_lor a (wb_lshl c 0) = a + c * 1 := by
  have a1 : Int64.ofInt (wb_lshl c 0) = Int64.ofInt c <<< (0 : Int64) := by
    unfold wb_lshl
    rw [Int64.ofInt_toInt, show ((Int32.ofInt 0).toInt64 &&& 63) = (0 : Int64) from by decide]
  have a2 : (Int64.ofInt a ||| Int64.ofInt (wb_lshl c 0)).toBitVec.toNat = c.toNat * 1 + a.toNat := by
    rw [Int64.toBitVec_or, BitVec.toNat_or, a1, lshl_0 hc, nat64 (x := a) (by omega), Nat.or_comm, show c.toNat * 1 = c.toNat <<< 0 by rw [Nat.shiftLeft_eq], Nat.shiftLeft_add_eq_or_of_lt (by omega)]
  show (Int64.ofInt a ||| Int64.ofInt (wb_lshl c 0)).toBitVec.toInt = _
  rw [BitVec.toInt_eq_toNat_of_lt (by rw [a2]; omega), a2]
  omega
theorem lshl_7 {c : Int} (hc : 0 ≤ c ∧ c < 128) : (Int64.ofInt c <<< (7 : Int64)).toBitVec.toNat = c.toNat * 128 := by
  show ((Int64.ofInt c).toBitVec <<< ((7 : Int64).toBitVec.smod 64)).toNat = _
  rw [show ((7 : Int64).toBitVec.smod 64) = 7#64 from by decide]
  show ((Int64.ofInt c).toBitVec <<< 7).toNat = _
  rw [BitVec.toNat_shiftLeft, nat64 (by omega), Nat.shiftLeft_eq]
  omega
theorem lor_7 {a c : Int} (ha : 0 ≤ a ∧ a < 128) (hc : 0 ≤ c ∧ c < 128) : wb_lor a (wb_lshl c 7) = a + c * 128 := by
  have a1 : Int64.ofInt (wb_lshl c 7) = Int64.ofInt c <<< (7 : Int64) := by
    unfold wb_lshl
    rw [Int64.ofInt_toInt, show ((Int32.ofInt 7).toInt64 &&& 63) = (7 : Int64) from by decide]
  have a2 : (Int64.ofInt a ||| Int64.ofInt (wb_lshl c 7)).toBitVec.toNat = c.toNat * 128 + a.toNat := by
    rw [Int64.toBitVec_or, BitVec.toNat_or, a1, lshl_7 hc, nat64 (x := a) (by omega), Nat.or_comm, show c.toNat * 128 = c.toNat <<< 7 by rw [Nat.shiftLeft_eq], Nat.shiftLeft_add_eq_or_of_lt (by omega)]
  show (Int64.ofInt a ||| Int64.ofInt (wb_lshl c 7)).toBitVec.toInt = _
  rw [BitVec.toInt_eq_toNat_of_lt (by rw [a2]; omega), a2]
  omega
theorem lshl_14 {c : Int} (hc : 0 ≤ c ∧ c < 128) : (Int64.ofInt c <<< (14 : Int64)).toBitVec.toNat = c.toNat * 16384 := by
  show ((Int64.ofInt c).toBitVec <<< ((14 : Int64).toBitVec.smod 64)).toNat = _
  rw [show ((14 : Int64).toBitVec.smod 64) = 14#64 from by decide]
  show ((Int64.ofInt c).toBitVec <<< 14).toNat = _
  rw [BitVec.toNat_shiftLeft, nat64 (by omega), Nat.shiftLeft_eq]
  omega
theorem lor_14 {a c : Int} (ha : 0 ≤ a ∧ a < 16384) (hc : 0 ≤ c ∧ c < 128) : wb_lor a (wb_lshl c 14) = a + c * 16384 := by
  have a1 : Int64.ofInt (wb_lshl c 14) = Int64.ofInt c <<< (14 : Int64) := by
    unfold wb_lshl
    rw [Int64.ofInt_toInt, show ((Int32.ofInt 14).toInt64 &&& 63) = (14 : Int64) from by decide]
  have a2 : (Int64.ofInt a ||| Int64.ofInt (wb_lshl c 14)).toBitVec.toNat = c.toNat * 16384 + a.toNat := by
    rw [Int64.toBitVec_or, BitVec.toNat_or, a1, lshl_14 hc, nat64 (x := a) (by omega), Nat.or_comm, show c.toNat * 16384 = c.toNat <<< 14 by rw [Nat.shiftLeft_eq], Nat.shiftLeft_add_eq_or_of_lt (by omega)]
  show (Int64.ofInt a ||| Int64.ofInt (wb_lshl c 14)).toBitVec.toInt = _
  rw [BitVec.toInt_eq_toNat_of_lt (by rw [a2]; omega), a2]
  omega
theorem lshl_21 {c : Int} (hc : 0 ≤ c ∧ c < 128) : (Int64.ofInt c <<< (21 : Int64)).toBitVec.toNat = c.toNat * 2097152 := by
  show ((Int64.ofInt c).toBitVec <<< ((21 : Int64).toBitVec.smod 64)).toNat = _
  rw [show ((21 : Int64).toBitVec.smod 64) = 21#64 from by decide]
  show ((Int64.ofInt c).toBitVec <<< 21).toNat = _
  rw [BitVec.toNat_shiftLeft, nat64 (by omega), Nat.shiftLeft_eq]
  omega
theorem lor_21 {a c : Int} (ha : 0 ≤ a ∧ a < 2097152) (hc : 0 ≤ c ∧ c < 128) : wb_lor a (wb_lshl c 21) = a + c * 2097152 := by
  have a1 : Int64.ofInt (wb_lshl c 21) = Int64.ofInt c <<< (21 : Int64) := by
    unfold wb_lshl
    rw [Int64.ofInt_toInt, show ((Int32.ofInt 21).toInt64 &&& 63) = (21 : Int64) from by decide]
  have a2 : (Int64.ofInt a ||| Int64.ofInt (wb_lshl c 21)).toBitVec.toNat = c.toNat * 2097152 + a.toNat := by
    rw [Int64.toBitVec_or, BitVec.toNat_or, a1, lshl_21 hc, nat64 (x := a) (by omega), Nat.or_comm, show c.toNat * 2097152 = c.toNat <<< 21 by rw [Nat.shiftLeft_eq], Nat.shiftLeft_add_eq_or_of_lt (by omega)]
  show (Int64.ofInt a ||| Int64.ofInt (wb_lshl c 21)).toBitVec.toInt = _
  rw [BitVec.toInt_eq_toNat_of_lt (by rw [a2]; omega), a2]
  omega
theorem lshl_28 {c : Int} (hc : 0 ≤ c ∧ c < 128) : (Int64.ofInt c <<< (28 : Int64)).toBitVec.toNat = c.toNat * 268435456 := by
  show ((Int64.ofInt c).toBitVec <<< ((28 : Int64).toBitVec.smod 64)).toNat = _
  rw [show ((28 : Int64).toBitVec.smod 64) = 28#64 from by decide]
  show ((Int64.ofInt c).toBitVec <<< 28).toNat = _
  rw [BitVec.toNat_shiftLeft, nat64 (by omega), Nat.shiftLeft_eq]
  omega
theorem lor_28 {a c : Int} (ha : 0 ≤ a ∧ a < 268435456) (hc : 0 ≤ c ∧ c < 128) : wb_lor a (wb_lshl c 28) = a + c * 268435456 := by
  have a1 : Int64.ofInt (wb_lshl c 28) = Int64.ofInt c <<< (28 : Int64) := by
    unfold wb_lshl
    rw [Int64.ofInt_toInt, show ((Int32.ofInt 28).toInt64 &&& 63) = (28 : Int64) from by decide]
  have a2 : (Int64.ofInt a ||| Int64.ofInt (wb_lshl c 28)).toBitVec.toNat = c.toNat * 268435456 + a.toNat := by
    rw [Int64.toBitVec_or, BitVec.toNat_or, a1, lshl_28 hc, nat64 (x := a) (by omega), Nat.or_comm, show c.toNat * 268435456 = c.toNat <<< 28 by rw [Nat.shiftLeft_eq], Nat.shiftLeft_add_eq_or_of_lt (by omega)]
  show (Int64.ofInt a ||| Int64.ofInt (wb_lshl c 28)).toBitVec.toInt = _
  rw [BitVec.toInt_eq_toNat_of_lt (by rw [a2]; omega), a2]
  omega
theorem lshl_35 {c : Int} (hc : 0 ≤ c ∧ c < 128) : (Int64.ofInt c <<< (35 : Int64)).toBitVec.toNat = c.toNat * 34359738368 := by
  show ((Int64.ofInt c).toBitVec <<< ((35 : Int64).toBitVec.smod 64)).toNat = _
  rw [show ((35 : Int64).toBitVec.smod 64) = 35#64 from by decide]
  show ((Int64.ofInt c).toBitVec <<< 35).toNat = _
  rw [BitVec.toNat_shiftLeft, nat64 (by omega), Nat.shiftLeft_eq]
  omega
theorem lor_35 {a c : Int} (ha : 0 ≤ a ∧ a < 34359738368) (hc : 0 ≤ c ∧ c < 128) : wb_lor a (wb_lshl c 35) = a + c * 34359738368 := by
  have a1 : Int64.ofInt (wb_lshl c 35) = Int64.ofInt c <<< (35 : Int64) := by
    unfold wb_lshl
    rw [Int64.ofInt_toInt, show ((Int32.ofInt 35).toInt64 &&& 63) = (35 : Int64) from by decide]
  have a2 : (Int64.ofInt a ||| Int64.ofInt (wb_lshl c 35)).toBitVec.toNat = c.toNat * 34359738368 + a.toNat := by
    rw [Int64.toBitVec_or, BitVec.toNat_or, a1, lshl_35 hc, nat64 (x := a) (by omega), Nat.or_comm, show c.toNat * 34359738368 = c.toNat <<< 35 by rw [Nat.shiftLeft_eq], Nat.shiftLeft_add_eq_or_of_lt (by omega)]
  show (Int64.ofInt a ||| Int64.ofInt (wb_lshl c 35)).toBitVec.toInt = _
  rw [BitVec.toInt_eq_toNat_of_lt (by rw [a2]; omega), a2]
  omega
theorem lshl_42 {c : Int} (hc : 0 ≤ c ∧ c < 128) : (Int64.ofInt c <<< (42 : Int64)).toBitVec.toNat = c.toNat * 4398046511104 := by
  show ((Int64.ofInt c).toBitVec <<< ((42 : Int64).toBitVec.smod 64)).toNat = _
  rw [show ((42 : Int64).toBitVec.smod 64) = 42#64 from by decide]
  show ((Int64.ofInt c).toBitVec <<< 42).toNat = _
  rw [BitVec.toNat_shiftLeft, nat64 (by omega), Nat.shiftLeft_eq]
  omega
theorem lor_42 {a c : Int} (ha : 0 ≤ a ∧ a < 4398046511104) (hc : 0 ≤ c ∧ c < 128) : wb_lor a (wb_lshl c 42) = a + c * 4398046511104 := by
  have a1 : Int64.ofInt (wb_lshl c 42) = Int64.ofInt c <<< (42 : Int64) := by
    unfold wb_lshl
    rw [Int64.ofInt_toInt, show ((Int32.ofInt 42).toInt64 &&& 63) = (42 : Int64) from by decide]
  have a2 : (Int64.ofInt a ||| Int64.ofInt (wb_lshl c 42)).toBitVec.toNat = c.toNat * 4398046511104 + a.toNat := by
    rw [Int64.toBitVec_or, BitVec.toNat_or, a1, lshl_42 hc, nat64 (x := a) (by omega), Nat.or_comm, show c.toNat * 4398046511104 = c.toNat <<< 42 by rw [Nat.shiftLeft_eq], Nat.shiftLeft_add_eq_or_of_lt (by omega)]
  show (Int64.ofInt a ||| Int64.ofInt (wb_lshl c 42)).toBitVec.toInt = _
  rw [BitVec.toInt_eq_toNat_of_lt (by rw [a2]; omega), a2]
  omega
theorem lshl_49 {c : Int} (hc : 0 ≤ c ∧ c < 128) : (Int64.ofInt c <<< (49 : Int64)).toBitVec.toNat = c.toNat * 562949953421312 := by
  show ((Int64.ofInt c).toBitVec <<< ((49 : Int64).toBitVec.smod 64)).toNat = _
  rw [show ((49 : Int64).toBitVec.smod 64) = 49#64 from by decide]
  show ((Int64.ofInt c).toBitVec <<< 49).toNat = _
  rw [BitVec.toNat_shiftLeft, nat64 (by omega), Nat.shiftLeft_eq]
  omega
theorem lor_49 {a c : Int} (ha : 0 ≤ a ∧ a < 562949953421312) (hc : 0 ≤ c ∧ c < 128) : wb_lor a (wb_lshl c 49) = a + c * 562949953421312 := by
  have a1 : Int64.ofInt (wb_lshl c 49) = Int64.ofInt c <<< (49 : Int64) := by
    unfold wb_lshl
    rw [Int64.ofInt_toInt, show ((Int32.ofInt 49).toInt64 &&& 63) = (49 : Int64) from by decide]
  have a2 : (Int64.ofInt a ||| Int64.ofInt (wb_lshl c 49)).toBitVec.toNat = c.toNat * 562949953421312 + a.toNat := by
    rw [Int64.toBitVec_or, BitVec.toNat_or, a1, lshl_49 hc, nat64 (x := a) (by omega), Nat.or_comm, show c.toNat * 562949953421312 = c.toNat <<< 49 by rw [Nat.shiftLeft_eq], Nat.shiftLeft_add_eq_or_of_lt (by omega)]
  show (Int64.ofInt a ||| Int64.ofInt (wb_lshl c 49)).toBitVec.toInt = _
  rw [BitVec.toInt_eq_toNat_of_lt (by rw [a2]; omega), a2]
  omega
theorem lsr_0 {v : Int} (hv : 0 ≤ v ∧ v < 72057594037927936) : wb_lushr v 0 = v / 1 := by
  have hsh : ((Int32.ofInt 0).toInt64.toUInt64 &&& Int64.toUInt64 63) = UInt64.ofNat 0 := by decide
  unfold wb_lushr
  rw [hsh]
  have h2 : (((Int64.ofInt v).toUInt64 >>> UInt64.ofNat 0).toInt64).toBitVec.toNat = v.toNat / 1 := by
    show ((Int64.ofInt v).toUInt64 >>> UInt64.ofNat 0).toNat = _
    rw [UInt64.toNat_shiftRight, show (UInt64.ofNat 0).toNat % 64 = 0 from by decide]
    show (Int64.ofInt v).toBitVec.toNat >>> 0 = _
    rw [nat64 (by omega), Nat.shiftRight_eq_div_pow]
  show (((Int64.ofInt v).toUInt64 >>> UInt64.ofNat 0).toInt64).toBitVec.toInt = _
  rw [BitVec.toInt_eq_toNat_of_lt (by rw [h2]; omega), h2]
  omega
theorem lsr_7 {v : Int} (hv : 0 ≤ v ∧ v < 72057594037927936) : wb_lushr v 7 = v / 128 := by
  have hsh : ((Int32.ofInt 7).toInt64.toUInt64 &&& Int64.toUInt64 63) = UInt64.ofNat 7 := by decide
  unfold wb_lushr
  rw [hsh]
  have h2 : (((Int64.ofInt v).toUInt64 >>> UInt64.ofNat 7).toInt64).toBitVec.toNat = v.toNat / 128 := by
    show ((Int64.ofInt v).toUInt64 >>> UInt64.ofNat 7).toNat = _
    rw [UInt64.toNat_shiftRight, show (UInt64.ofNat 7).toNat % 64 = 7 from by decide]
    show (Int64.ofInt v).toBitVec.toNat >>> 7 = _
    rw [nat64 (by omega), Nat.shiftRight_eq_div_pow]
  show (((Int64.ofInt v).toUInt64 >>> UInt64.ofNat 7).toInt64).toBitVec.toInt = _
  rw [BitVec.toInt_eq_toNat_of_lt (by rw [h2]; omega), h2]
  omega
theorem lsr_14 {v : Int} (hv : 0 ≤ v ∧ v < 72057594037927936) : wb_lushr v 14 = v / 16384 := by
  have hsh : ((Int32.ofInt 14).toInt64.toUInt64 &&& Int64.toUInt64 63) = UInt64.ofNat 14 := by decide
  unfold wb_lushr
  rw [hsh]
  have h2 : (((Int64.ofInt v).toUInt64 >>> UInt64.ofNat 14).toInt64).toBitVec.toNat = v.toNat / 16384 := by
    show ((Int64.ofInt v).toUInt64 >>> UInt64.ofNat 14).toNat = _
    rw [UInt64.toNat_shiftRight, show (UInt64.ofNat 14).toNat % 64 = 14 from by decide]
    show (Int64.ofInt v).toBitVec.toNat >>> 14 = _
    rw [nat64 (by omega), Nat.shiftRight_eq_div_pow]
  show (((Int64.ofInt v).toUInt64 >>> UInt64.ofNat 14).toInt64).toBitVec.toInt = _
  rw [BitVec.toInt_eq_toNat_of_lt (by rw [h2]; omega), h2]
  omega
theorem lsr_21 {v : Int} (hv : 0 ≤ v ∧ v < 72057594037927936) : wb_lushr v 21 = v / 2097152 := by
  have hsh : ((Int32.ofInt 21).toInt64.toUInt64 &&& Int64.toUInt64 63) = UInt64.ofNat 21 := by decide
  unfold wb_lushr
  rw [hsh]
  have h2 : (((Int64.ofInt v).toUInt64 >>> UInt64.ofNat 21).toInt64).toBitVec.toNat = v.toNat / 2097152 := by
    show ((Int64.ofInt v).toUInt64 >>> UInt64.ofNat 21).toNat = _
    rw [UInt64.toNat_shiftRight, show (UInt64.ofNat 21).toNat % 64 = 21 from by decide]
    show (Int64.ofInt v).toBitVec.toNat >>> 21 = _
    rw [nat64 (by omega), Nat.shiftRight_eq_div_pow]
  show (((Int64.ofInt v).toUInt64 >>> UInt64.ofNat 21).toInt64).toBitVec.toInt = _
  rw [BitVec.toInt_eq_toNat_of_lt (by rw [h2]; omega), h2]
  omega
theorem lsr_28 {v : Int} (hv : 0 ≤ v ∧ v < 72057594037927936) : wb_lushr v 28 = v / 268435456 := by
  have hsh : ((Int32.ofInt 28).toInt64.toUInt64 &&& Int64.toUInt64 63) = UInt64.ofNat 28 := by decide
  unfold wb_lushr
  rw [hsh]
  have h2 : (((Int64.ofInt v).toUInt64 >>> UInt64.ofNat 28).toInt64).toBitVec.toNat = v.toNat / 268435456 := by
    show ((Int64.ofInt v).toUInt64 >>> UInt64.ofNat 28).toNat = _
    rw [UInt64.toNat_shiftRight, show (UInt64.ofNat 28).toNat % 64 = 28 from by decide]
    show (Int64.ofInt v).toBitVec.toNat >>> 28 = _
    rw [nat64 (by omega), Nat.shiftRight_eq_div_pow]
  show (((Int64.ofInt v).toUInt64 >>> UInt64.ofNat 28).toInt64).toBitVec.toInt = _
  rw [BitVec.toInt_eq_toNat_of_lt (by rw [h2]; omega), h2]
  omega
theorem lsr_35 {v : Int} (hv : 0 ≤ v ∧ v < 72057594037927936) : wb_lushr v 35 = v / 34359738368 := by
  have hsh : ((Int32.ofInt 35).toInt64.toUInt64 &&& Int64.toUInt64 63) = UInt64.ofNat 35 := by decide
  unfold wb_lushr
  rw [hsh]
  have h2 : (((Int64.ofInt v).toUInt64 >>> UInt64.ofNat 35).toInt64).toBitVec.toNat = v.toNat / 34359738368 := by
    show ((Int64.ofInt v).toUInt64 >>> UInt64.ofNat 35).toNat = _
    rw [UInt64.toNat_shiftRight, show (UInt64.ofNat 35).toNat % 64 = 35 from by decide]
    show (Int64.ofInt v).toBitVec.toNat >>> 35 = _
    rw [nat64 (by omega), Nat.shiftRight_eq_div_pow]
  show (((Int64.ofInt v).toUInt64 >>> UInt64.ofNat 35).toInt64).toBitVec.toInt = _
  rw [BitVec.toInt_eq_toNat_of_lt (by rw [h2]; omega), h2]
  omega
theorem lsr_42 {v : Int} (hv : 0 ≤ v ∧ v < 72057594037927936) : wb_lushr v 42 = v / 4398046511104 := by
  have hsh : ((Int32.ofInt 42).toInt64.toUInt64 &&& Int64.toUInt64 63) = UInt64.ofNat 42 := by decide
  unfold wb_lushr
  rw [hsh]
  have h2 : (((Int64.ofInt v).toUInt64 >>> UInt64.ofNat 42).toInt64).toBitVec.toNat = v.toNat / 4398046511104 := by
    show ((Int64.ofInt v).toUInt64 >>> UInt64.ofNat 42).toNat = _
    rw [UInt64.toNat_shiftRight, show (UInt64.ofNat 42).toNat % 64 = 42 from by decide]
    show (Int64.ofInt v).toBitVec.toNat >>> 42 = _
    rw [nat64 (by omega), Nat.shiftRight_eq_div_pow]
  show (((Int64.ofInt v).toUInt64 >>> UInt64.ofNat 42).toInt64).toBitVec.toInt = _
  rw [BitVec.toInt_eq_toNat_of_lt (by rw [h2]; omega), h2]
  omega
theorem lsr_49 {v : Int} (hv : 0 ≤ v ∧ v < 72057594037927936) : wb_lushr v 49 = v / 562949953421312 := by
  have hsh : ((Int32.ofInt 49).toInt64.toUInt64 &&& Int64.toUInt64 63) = UInt64.ofNat 49 := by decide
  unfold wb_lushr
  rw [hsh]
  have h2 : (((Int64.ofInt v).toUInt64 >>> UInt64.ofNat 49).toInt64).toBitVec.toNat = v.toNat / 562949953421312 := by
    show ((Int64.ofInt v).toUInt64 >>> UInt64.ofNat 49).toNat = _
    rw [UInt64.toNat_shiftRight, show (UInt64.ofNat 49).toNat % 64 = 49 from by decide]
    show (Int64.ofInt v).toBitVec.toNat >>> 49 = _
    rw [nat64 (by omega), Nat.shiftRight_eq_div_pow]
  show (((Int64.ofInt v).toUInt64 >>> UInt64.ofNat 49).toInt64).toBitVec.toInt = _
  rw [BitVec.toInt_eq_toNat_of_lt (by rw [h2]; omega), h2]
  omega
theorem lsr_32 {v : Int} (hv : 0 ≤ v ∧ v < 72057594037927936) : wb_lushr v 32 = v / 4294967296 := by
  have hsh : ((Int32.ofInt 32).toInt64.toUInt64 &&& Int64.toUInt64 63) = UInt64.ofNat 32 := by decide
  unfold wb_lushr
  rw [hsh]
  have h2 : (((Int64.ofInt v).toUInt64 >>> UInt64.ofNat 32).toInt64).toBitVec.toNat = v.toNat / 4294967296 := by
    show ((Int64.ofInt v).toUInt64 >>> UInt64.ofNat 32).toNat = _
    rw [UInt64.toNat_shiftRight, show (UInt64.ofNat 32).toNat % 64 = 32 from by decide]
    show (Int64.ofInt v).toBitVec.toNat >>> 32 = _
    rw [nat64 (by omega), Nat.shiftRight_eq_div_pow]
  show (((Int64.ofInt v).toUInt64 >>> UInt64.ofNat 32).toInt64).toBitVec.toInt = _
  rw [BitVec.toInt_eq_toNat_of_lt (by rw [h2]; omega), h2]
  omega
/-- 128 ^ i -/
def p7 : Nat → Int
  | 0 => 1
  | n + 1 => 128 * p7 n
theorem p7_pos : ∀ n : Nat, 0 < p7 n
  | 0 => by decide
  | n + 1 => by
    have := p7_pos n
    show 0 < 128 * p7 n
    omega
/-- the classes of the ES as one number -/
def esV : List Int → Int
  | [] => 0
  | c :: l => c + 128 * esV l
def esOk (l : List Int) : Prop := ∀ c ∈ l, 0 ≤ c ∧ c < 128
theorem esV_rg : ∀ l : List Int, esOk l → 0 ≤ esV l ∧ esV l < p7 l.length
  | [], _ => ⟨Int.le_refl _, by decide⟩
  | c :: l, h => by
    have h1 := h c (List.mem_cons.mpr (Or.inl rfl))
    have h2 := esV_rg l (fun x hx => h x (List.mem_cons.mpr (Or.inr hx)))
    show 0 ≤ c + 128 * esV l ∧ c + 128 * esV l < 128 * p7 l.length
    omega
theorem esV_ap {c : Int} : ∀ l : List Int, esV (l ++ [c]) = esV l + c * p7 l.length
  | [] => by
    show c + 128 * 0 = 0 + c * 1
    omega
  | a :: l => by
    show a + 128 * esV (l ++ [c]) = a + 128 * esV l + c * (128 * p7 l.length)
    rw [esV_ap l, Int.mul_add, show c * (128 * p7 l.length) = 128 * (c * p7 l.length) by rw [Int.mul_left_comm]]
    omega
theorem p7_le {n : Nat} (h : n ≤ 8) : p7 n ≤ 72057594037927936 := by
  match n, h with
  | 0, _ => decide
  | 1, _ => decide
  | 2, _ => decide
  | 3, _ => decide
  | 4, _ => decide
  | 5, _ => decide
  | 6, _ => decide
  | 7, _ => decide
  | 8, _ => decide
/-- one class more -/
theorem es_add {n : Nat} {a c : Int} (hn : n < 8) (ha : 0 ≤ a ∧ a < p7 n) (hc : 0 ≤ c ∧ c < 128) : wb_lor a (wb_lshl c (7 * (n : Int))) = a + c * p7 n := by
  match n, hn with
  | 0, _ =>
    have e : p7 0 = 1 := by decide
    rw [e] at ha ⊢
    exact lor_0 ha hc
  | 1, _ =>
    have e : p7 1 = 128 := by decide
    rw [e] at ha ⊢
    exact lor_7 ha hc
  | 2, _ =>
    have e : p7 2 = 16384 := by decide
    rw [e] at ha ⊢
    exact lor_14 ha hc
  | 3, _ =>
    have e : p7 3 = 2097152 := by decide
    rw [e] at ha ⊢
    exact lor_21 ha hc
  | 4, _ =>
    have e : p7 4 = 268435456 := by decide
    rw [e] at ha ⊢
    exact lor_28 ha hc
  | 5, _ =>
    have e : p7 5 = 34359738368 := by decide
    rw [e] at ha ⊢
    exact lor_35 ha hc
  | 6, _ =>
    have e : p7 6 = 4398046511104 := by decide
    rw [e] at ha ⊢
    exact lor_42 ha hc
  | 7, _ =>
    have e : p7 7 = 562949953421312 := by decide
    rw [e] at ha ⊢
    exact lor_49 ha hc
/-- one of the classes -/
theorem es_sh {n : Nat} {v : Int} (hn : n < 8) (hv : 0 ≤ v ∧ v < 72057594037927936) : wb_lushr v (7 * (n : Int)) = v / p7 n := by
  match n, hn with
  | 0, _ =>
    have e : p7 0 = 1 := by decide
    rw [e]
    exact lsr_0 hv
  | 1, _ =>
    have e : p7 1 = 128 := by decide
    rw [e]
    exact lsr_7 hv
  | 2, _ =>
    have e : p7 2 = 16384 := by decide
    rw [e]
    exact lsr_14 hv
  | 3, _ =>
    have e : p7 3 = 2097152 := by decide
    rw [e]
    exact lsr_21 hv
  | 4, _ =>
    have e : p7 4 = 268435456 := by decide
    rw [e]
    exact lsr_28 hv
  | 5, _ =>
    have e : p7 5 = 34359738368 := by decide
    rw [e]
    exact lsr_35 hv
  | 6, _ =>
    have e : p7 6 = 4398046511104 := by decide
    rw [e]
    exact lsr_42 hv
  | 7, _ =>
    have e : p7 7 = 562949953421312 := by decide
    rw [e]
    exact lsr_49 hv
theorem esV_dg : ∀ (l : List Int) (i : Nat), esOk l → i < l.length → esV l / p7 i % 128 = l.getD i 0
  | [], i, _, hi => absurd hi (Nat.not_lt_zero _)
  | c :: l, 0, h, _ => by
    have h1 := h c (List.mem_cons.mpr (Or.inl rfl))
    show (c + 128 * esV l) / 1 % 128 = c
    rw [Int.ediv_one]
    omega
  | c :: l, i + 1, h, hi => by
    have h1 := h c (List.mem_cons.mpr (Or.inl rfl))
    have h2 := esV_dg l i (fun x hx => h x (List.mem_cons.mpr (Or.inr hx))) (Nat.lt_of_succ_lt_succ hi)
    have hp := p7_pos i
    show (c + 128 * esV l) / (128 * p7 i) % 128 = l.getD i 0
    rw [← h2, ← Int.ediv_ediv_of_nonneg (by first | decide | omega), show (c + 128 * esV l) / 128 = esV l by omega]
theorem esV_inj : ∀ (l m : List Int), esOk l → esOk m → l.length = m.length → esV l = esV m → l = m
  | [], [], _, _, _, _ => rfl
  | [], _ :: _, _, _, h, _ => absurd h (by rw [List.length_cons]; exact fun z => by cases z)
  | _ :: _, [], _, _, h, _ => absurd h (by rw [List.length_cons]; exact fun z => by cases z)
  | a :: l, b :: m, h1, h2, h3, h4 => by
    have a1 := h1 a (List.mem_cons.mpr (Or.inl rfl))
    have a2 := h2 b (List.mem_cons.mpr (Or.inl rfl))
    have h5 : a + 128 * esV l = b + 128 * esV m := h4
    rw [esV_inj l m (fun x hx => h1 x (List.mem_cons.mpr (Or.inr hx))) (fun x hx => h2 x (List.mem_cons.mpr (Or.inr hx))) (Nat.succ.inj h3) (by omega), show a = b by omega]
/-- the number is told by its two halves -/
theorem es_half {v w : Int} (hv : 0 ≤ v ∧ v < 72057594037927936) (hw : 0 ≤ w ∧ w < 72057594037927936) : (wb_l2i (wb_lushr v 32) = wb_l2i (wb_lushr w 32) ∧ wb_l2i v = wb_l2i w) ↔ v = w := by
  refine ⟨fun h => ?_, fun h => by rw [h]; exact ⟨rfl, rfl⟩⟩
  obtain ⟨h1, h2⟩ := h
  rw [lsr_32 hv, lsr_32 hw, wb_l2i_id ⟨by omega, by omega⟩, wb_l2i_id ⟨by omega, by omega⟩] at h1
  have e : ∀ x : Int, (0 ≤ x ∧ x < 72057594037927936) → ∃ q : Int, wb_l2i x = x + 4294967296 * q := fun x hx => by
    have h1 : (Int64.ofInt x).toInt = x := Int64.toInt_ofInt_of_le (by omega) (by omega)
    refine ⟨-(x.bdiv 4294967296), ?_⟩
    unfold wb_l2i
    rw [Int64.toInt_toInt32, h1]
    have h3 := Int.bmod_add_bdiv x 4294967296
    show x.bmod 4294967296 = _
    omega
  obtain ⟨q1, e1⟩ := e v hv
  obtain ⟨q2, e2⟩ := e w hw
  omega
/-- the class of a value, for a host -/
def clS (S : wS) (k b : Int) : Int := if k = 0 then 0 else if k = 1 then 6 else if k = 2 then (if b = wb_l2i b then 4 else 5) else if k = 3 then 7 else if k = 7 then 9 + S 129 b else 8
def clO (T : List aO) (u : aV) : Int := if u.1 = 0 then 0 else if u.1 = 1 then 6 else if u.1 = 2 then (if u.2.1 = wb_l2i u.2.1 then 4 else 5) else if u.1 = 3 then 7 else if u.1 = 7 then 9 + (tO T u.2.1).2.2.1 else 8
/-- a value's kind is that of its thing -/
def vOk (T : List aO) (u : aV) : Prop := (0 ≤ u.1 ∧ u.1 ≤ 8) ∧ (4 ≤ u.1 → u.1 ≤ 7 → (0 ≤ u.2.1 ∧ u.2.1 < (T.length : Int)) ∧ (tO T u.2.1).1 = u.1) ∧ (u.1 = 8 → 0 ≤ u.2.1 ∧ u.2.1 < 60) ∧ (u.1 = 7 → 0 ≤ (tO T u.2.1).2.2.1 ∧ (tO T u.2.1).2.2.1 < 60) ∧ (u.1 = 0 → u.2.1 = 0) ∧ (u.1 = 1 → u.2.1 = 0 ∨ u.2.1 = 1)
theorem clO_rg (h : vOk T u) : 0 ≤ clO T u ∧ clO T u < 128 := by
  obtain ⟨-, -, -, h4, -⟩ := h
  unfold clO
  by_cases c : u.1 = 7
  · have := h4 c
    rw [if_neg (by omega), if_neg (by omega), if_neg (by omega), if_neg (by omega), if_pos c]
    omega
  · rw [if_neg c]
    repeat (first | (constructor <;> decide) | split)
theorem clS_e (hv : cVl S k b u) (ht : cTh S T) (ho : vOk T u) : clS S k b = clO T u := by
  unfold clS clO
  rw [hv.1]
  by_cases c3 : u.1 = 3
  · rw [c3]; exact ((if_neg (by first | decide | omega)).trans ((if_neg (by first | decide | omega)).trans ((if_neg (by first | decide | omega)).trans (if_pos rfl)))).trans ((if_neg (by first | decide | omega)).trans ((if_neg (by first | decide | omega)).trans ((if_neg (by first | decide | omega)).trans (if_pos rfl)))).symm
  · rw [(hv.2.1 c3).1]
    by_cases c7 : u.1 = 7
    · have y := (ho.2.1 (by omega) (by omega)).1
      rw [(c_th ht y.1 y.2).1.2.2.1]
    · rw [if_neg c7, if_neg c7]
/-- the linker is aimed -/
def amQ (w : Nat) (s kd ec ba gk gb nm es : Int) (S Z : wS) : Prop := (Z 158 4 = (w : Int) ∧ Z 158 5 = ((w + 1 : Nat) : Int) ∧ Z 158 6 = s ∧ Z 158 7 = kd ∧ Z 158 8 = ba ∧ Z 158 9 = gk ∧ Z 158 10 = gb ∧ Z 158 11 = nm ∧ Z 158 12 = ec ∧ Z 158 13 = es) ∧ ∀ (j : Nat) (x : Int), (j ≠ 158 ∨ x < 4 ∨ 13 < x) → Z j x = S j x
def amI (w : Nat) (s kd ec ba gk gb es : Int) (S Z : wS) : Prop := (Z 158 4 = (w : Int) ∧ Z 158 5 = ((w + 1 : Nat) : Int) ∧ Z 158 6 = s ∧ Z 158 7 = kd ∧ Z 158 8 = ba ∧ Z 158 9 = gk ∧ Z 158 10 = gb ∧ Z 158 12 = ec ∧ Z 158 13 = es) ∧ ∀ (j : Nat) (x : Int), (j ≠ 158 ∨ x < 4 ∨ 13 < x) → Z j x = S j x
theorem amI_13 {w : Nat} {kd ec ba gk gb es v : Int} (h : amI w s kd ec ba gk gb es S Z) : amI w s kd ec ba gk gb v S (w_up Z 158 13 v) := by
  obtain ⟨⟨h1, h2, h3, h4, h5, h6, h7, h8, -⟩, h9⟩ := h
  exact ⟨⟨(w_up_at (by first | decide | omega)).trans h1, (w_up_at (by first | decide | omega)).trans h2, (w_up_at (by first | decide | omega)).trans h3, (w_up_at (by first | decide | omega)).trans h4, (w_up_at (by first | decide | omega)).trans h5, (w_up_at (by first | decide | omega)).trans h6, (w_up_at (by first | decide | omega)).trans h7, (w_up_at (by first | decide | omega)).trans h8, w_up_same _ _ _ _⟩, fun j x hj => (w_up_no (by omega)).trans (h9 j x hj)⟩
theorem amI_n {w : Nat} {kd ec ba gk gb es v : Int} (h : amI w s kd ec ba gk gb es S Z) : amQ w s kd ec ba gk gb v es S (w_up Z 158 11 v) := by
  obtain ⟨⟨h1, h2, h3, h4, h5, h6, h7, h8, h10⟩, h9⟩ := h
  exact ⟨⟨(w_up_at (by first | decide | omega)).trans h1, (w_up_at (by first | decide | omega)).trans h2, (w_up_at (by first | decide | omega)).trans h3, (w_up_at (by first | decide | omega)).trans h4, (w_up_at (by first | decide | omega)).trans h5, (w_up_at (by first | decide | omega)).trans h6, (w_up_at (by first | decide | omega)).trans h7, w_up_same _ _ _ _, (w_up_at (by first | decide | omega)).trans h8, (w_up_at (by first | decide | omega)).trans h10⟩, fun j x hj => (w_up_no (by omega)).trans (h9 j x hj)⟩
theorem co_ok (hC : w_CL S) (hlt : cLt S T) (hT : (T.length : Int) ≤ 8000) (hk : 0 ≤ k ∧ k ≤ 8) (h7 : k = 7 → 0 ≤ b ∧ b < (T.length : Int) ∧ 0 ≤ S 129 b ∧ S 129 b < 60) (hb : -9223372036854775808 ≤ b ∧ b ≤ 9223372036854775807) : wJ (pe_GA xs) wY0 M d t_XH_classOf ((pe_at t_XH_classOf.bl 0).getD (0, [])).2 [(0, (2, 72)), (1, (0, k)), (2, (1, b))] [] S (fun o Z => S = Z ∧ o = .inl (some (0, clS S k b))) := by
  have t2 := hlt.2
  have hbr := wb_l2i_rg b
  refine wa_iload_n (n := 1) rfl ?_
  by_cases c1 : k = 0
  · refine wb_sw (w_rg0 (by omega) (by omega)) (tb := 1) (by rw [c1]; rfl) ⟨_, rfl⟩ ?_
    refine wa_iconst ?_
    refine wa_ireturn rfl ?_
    refine ⟨rfl, congrArg (fun z => Sum.inl (some (0, z))) ?_⟩
    unfold clS
    repeat first | rw [if_pos (by omega)] | rw [if_neg (by omega)]
  by_cases c2 : k = 1
  · refine wb_sw (w_rg0 (by omega) (by omega)) (tb := 2) (by rw [c2]; rfl) ⟨_, rfl⟩ ?_
    refine wa_bipush (w_rg2 (by omega) (by omega)) ?_
    refine wa_ireturn rfl ?_
    refine ⟨rfl, congrArg (fun z => Sum.inl (some (0, z))) ?_⟩
    unfold clS
    repeat first | rw [if_pos (by omega)] | rw [if_neg (by omega)]
  by_cases c3 : k = 2
  · refine wb_sw (w_rg0 (by omega) (by omega)) (tb := 3) (by rw [c3]; rfl) ⟨_, rfl⟩ ?_
    refine wa_lload_n (n := 2) rfl ?_
    refine wa_lload_n (n := 2) rfl ?_
    refine wa_l2i ?_
    refine wa_i2l (w_rg0 (by omega) (by omega)) ?_
    refine wa_lcmp (w_rg1 (by omega) (by omega)) (w_rg1 (by omega) (by omega)) ?_
    refine wa_ifne (by have := @wb_lcmp_cases; exact w_lcmp_rg) ⟨_, rfl⟩ (fun c4 => ?_) (fun c4 => ?_)
    · skip
      have c4x := @wb_lcmp_cases b (wb_l2i b)
      refine wa_iconst ?_
      refine wa_fall ⟨_, rfl⟩ ?_
      refine wa_ireturn rfl ?_
      refine ⟨rfl, congrArg (fun z => Sum.inl (some (0, z))) ?_⟩
      unfold clS
      repeat first | rw [if_pos (by omega)] | rw [if_neg (by omega)]
    · skip
      have c4x := @wb_lcmp_cases b (wb_l2i b)
      refine wa_iconst ?_
      refine wa_goto ⟨_, rfl⟩ ?_
      refine wa_ireturn rfl ?_
      refine ⟨rfl, congrArg (fun z => Sum.inl (some (0, z))) ?_⟩
      unfold clS
      repeat first | rw [if_pos (by omega)] | rw [if_neg (by omega)]
  by_cases c5 : k = 3
  · refine wb_sw (w_rg0 (by omega) (by omega)) (tb := 6) (by rw [c5]; rfl) ⟨_, rfl⟩ ?_
    refine wa_bipush (w_rg2 (by omega) (by omega)) ?_
    refine wa_ireturn rfl ?_
    refine ⟨rfl, congrArg (fun z => Sum.inl (some (0, z))) ?_⟩
    unfold clS
    repeat first | rw [if_pos (by omega)] | rw [if_neg (by omega)]
  by_cases c6 : k = 4
  · refine wb_sw (w_rg0 (by omega) (by omega)) (tb := 8) (by rw [c6]; rfl) ⟨_, rfl⟩ ?_
    refine wa_bipush (w_rg2 (by omega) (by omega)) ?_
    refine wa_ireturn rfl ?_
    refine ⟨rfl, congrArg (fun z => Sum.inl (some (0, z))) ?_⟩
    unfold clS
    repeat first | rw [if_pos (by omega)] | rw [if_neg (by omega)]
  by_cases c7 : k = 5
  · refine wb_sw (w_rg0 (by omega) (by omega)) (tb := 8) (by rw [c7]; rfl) ⟨_, rfl⟩ ?_
    refine wa_bipush (w_rg2 (by omega) (by omega)) ?_
    refine wa_ireturn rfl ?_
    refine ⟨rfl, congrArg (fun z => Sum.inl (some (0, z))) ?_⟩
    unfold clS
    repeat first | rw [if_pos (by omega)] | rw [if_neg (by omega)]
  by_cases c8 : k = 6
  · refine wb_sw (w_rg0 (by omega) (by omega)) (tb := 8) (by rw [c8]; rfl) ⟨_, rfl⟩ ?_
    refine wa_bipush (w_rg2 (by omega) (by omega)) ?_
    refine wa_ireturn rfl ?_
    refine ⟨rfl, congrArg (fun z => Sum.inl (some (0, z))) ?_⟩
    unfold clS
    repeat first | rw [if_pos (by omega)] | rw [if_neg (by omega)]
  by_cases c9 : k = 7
  · refine wb_sw (w_rg0 (by omega) (by omega)) (tb := 7) (by rw [c9]; rfl) ⟨_, rfl⟩ ?_
    refine wa_bipush (w_rg2 (by omega) (by omega)) ?_
    refine wa_aload_n (n := 0) rfl ?_
    refine wb_gf4 72 rfl (wy_pr rfl) wt_72 wf_2_2 (v := 126) wl_72_2 ?_
    refine wa_iconst ?_
    refine wb_aald5 126 2 rfl rfl (wy_pr rfl) wt_126 (by rw [show _ = _ from ((cl_126 hC))]; omega) wl_126_2 ?_
    refine wa_lload_n (n := 2) rfl ?_
    refine wb_l2i_r (wb_l2i_id ⟨(by omega), (by omega)⟩) ?_
    refine wb_iald 129 rfl (wy_pr rfl) wt_129 (n := (S 127 (-1))) ((hlt.1 2 (by decide))) (by omega) (by omega) (v := (S 129 b)) rfl (fun r10 => ?_)
    refine wa_iadd ?_
    refine wa_ireturn rfl ?_
    refine ⟨rfl, congrArg (fun z => Sum.inl (some (0, z))) ?_⟩
    unfold clS
    repeat first | rw [if_pos (by omega)] | rw [if_neg (by omega)]
  refine wb_sw (w_rg0 (by omega) (by omega)) (tb := 8) (w_tb_df (by simp only [List.length_cons, List.length_nil]; omega)) ⟨_, rfl⟩ ?_
  refine wa_bipush (w_rg2 (by omega) (by omega)) ?_
  refine wa_ireturn rfl ?_
  refine ⟨rfl, congrArg (fun z => Sum.inl (some (0, z))) ?_⟩
  unfold clS
  repeat first | rw [if_pos (by omega)] | rw [if_neg (by omega)]
set_option maxHeartbeats 4000000 in
theorem aml_215 {kd ec ba gk gb oe bh : Int} (hP : w_CL S0) (hlt : cLt S0 T) (hT : (T.length : Int) ≤ 8000) (hb2 : S0 218 (-1) = S0 217 (-1)) (hln : S0 217 (-1) ≤ 4095) (hba : 0 ≤ ba ∧ ba + 1 + ec ≤ S0 217 (-1)) (hec : ec = (cl.length : Int) ∧ cl.length ≤ 8) (hcl : esOk cl) (hcv : ∀ i : Nat, i < cl.length → clS S0 (S0 217 (ba + 1 + (i : Int))) (S0 218 (ba + 1 + (i : Int))) = cl.getD i 0 ∧ (0 ≤ S0 217 (ba + 1 + (i : Int)) ∧ S0 217 (ba + 1 + (i : Int)) ≤ 8) ∧ (S0 217 (ba + 1 + (i : Int)) = 7 → 0 ≤ S0 218 (ba + 1 + (i : Int)) ∧ S0 218 (ba + 1 + (i : Int)) < (T.length : Int) ∧ 0 ≤ S0 129 (S0 218 (ba + 1 + (i : Int))) ∧ S0 129 (S0 218 (ba + 1 + (i : Int))) < 60)) (hk : ∀ Z : wS, amI 215 s kd ec ba gk gb (esV cl) S0 Z → wJ (pe_GA xs) wY0 M (d + 4) t_XL_aim ((pe_at t_XL_aim.bl 10).getD (0, [])).2 [(0, (2, 158)), (1, (2, 215)), (2, (0, s)), (3, (0, oe))] [] Z Q) : ∀ (f i : Nat) (S : wS), i + f = cl.length → amI 215 s kd ec ba gk gb (esV (cl.take i)) S0 S → wJ (pe_GA xs) wY0 M (d + 4) t_XL_aim ((pe_at t_XL_aim.bl 9).getD (0, [])).2 [(0, (2, 158)), (1, (2, 215)), (2, (0, s)), (3, (0, oe)), (4, (0, bh)), (5, (0, (i : Int)))] [] S Q := by
  intro f
  induction f with
  | zero =>
    intro i S hi hs
    have ei : i = cl.length := by omega
    subst ei
    obtain ⟨⟨h1, h2, h3, h4, h5, h6, h7, h8, h10⟩, h9⟩ := id hs
    rw [List.take_length] at hs
    refine wa_iload (n := 5) rfl ?_
    refine wa_aload_n (n := 0) rfl ?_
    refine wb_gfi 158 rfl (wy_pr rfl) wt_158 wf_5_12 (v := ec) (h8) (fun r1 => ?_)
    refine wa_icmpge (w_rg0 (by omega) (by omega)) (w_rg0 (by omega) (by omega)) ⟨_, rfl⟩ (fun c2 => ?_) (fun c2 => ?_)
    · skip
      exact wJ_S (hk S hs) ⟨rfl, rfl, rfl, rfl, trivial⟩
    · skip
      exfalso; omega
  | succ f ih =>
    intro i S hi hs
    obtain ⟨⟨h1, h2, h3, h4, h5, h6, h7, h8, h10⟩, h9⟩ := id hs
    have ef : ∀ (j : Nat) (x : Int), j ≠ 158 → S j x = S0 j x := fun j x hj => h9 j x (Or.inl hj)
    obtain ⟨q1, q2, q3⟩ := hcv i (by omega)
    rw [← ef 217 _ (by first | decide | omega)] at q1 q2 q3
    rw [← ef 218 _ (by first | decide | omega)] at q1 q3
    have hC : w_CL S := fun q hq => (ef q.1 (-1) (by have h1 : ∀ q ∈ wz_n, q.1 ≠ 158 := (by first | decide | omega); exact h1 q hq)).trans (hP q hq)
    have hlt2 : cLt S T := by
      obtain ⟨q4, q5⟩ := hlt
      refine ⟨fun x hx => ?_, ?_⟩
      · rw [ef (127 + x) _ (by omega), ef 127 _ (by first | decide | omega)]; exact q4 x hx
      · rw [ef 127 _ (by first | decide | omega)]; exact q5
    have lt : (cl.take i).length = i := by rw [List.length_take]; omega
    have hesr := esV_rg (cl.take i) (fun x hx => hcl x (List.mem_of_mem_take hx))
    rw [lt] at hesr
    have hp8 := p7_le (n := i) (by omega)
    have hci : 0 ≤ cl.getD i 0 ∧ cl.getD i 0 < 128 := hcl _ (by rw [List.getD_eq_getElem?_getD, List.getElem?_eq_getElem (by omega)]; exact List.getElem_mem _)
    obtain ⟨ci, hcie⟩ : ∃ c : Int, c = cl.getD i 0 := ⟨_, rfl⟩
    obtain ⟨ev, heve⟩ : ∃ c : Int, c = esV (cl.take i) := ⟨_, rfl⟩
    have hadd := es_add (n := i) (by omega) hesr hci
    have hap : esV (cl.take (i + 1)) = esV (cl.take i) + cl.getD i 0 * p7 i := by
      have e : cl.take (i + 1) = cl.take i ++ [cl.getD i 0] := by
        rw [List.take_succ, List.getD_eq_getElem?_getD, List.getElem?_eq_getElem (by omega)]
        rfl
      rw [e, esV_ap, lt]
    have hesr2 := esV_rg (cl.take (i + 1)) (fun x hx => hcl x (List.mem_of_mem_take hx))
    rw [show (cl.take (i + 1)).length = i + 1 by rw [List.length_take]; omega] at hesr2
    have hp9 := p7_le (n := i + 1) (by omega)
    rw [← hap] at hadd
    rw [← heve, ← hcie] at hadd
    rw [← heve] at h10 hesr
    rw [← hcie] at q1 hci
    obtain ⟨en, hen⟩ : ∃ c : Int, c = esV (cl.take (i + 1)) := ⟨_, rfl⟩
    rw [← hen] at hadd hesr2
    have lk2 : S 217 (-1) = S0 217 (-1) := ef 217 _ (by first | decide | omega)
    have lk3 : S 218 (-1) = S0 217 (-1) := (ef 218 _ (by first | decide | omega)).trans hb2
    have q1c : clS S (S 217 (ba + 1 + (i : Int))) (S 218 (ba + 1 + (i : Int))) = ci := by
      rw [← q1]
      unfold clS
      rw [ef 129 _ (by first | decide | omega)]
    refine wa_iload (n := 5) rfl ?_
    refine wa_aload_n (n := 0) rfl ?_
    refine wb_gfi 158 rfl (wy_pr rfl) wt_158 wf_5_12 (v := ec) (h8) (fun r201 => ?_)
    refine wa_icmpge (w_rg0 (by omega) (by omega)) (w_rg0 (by omega) (by omega)) ⟨_, rfl⟩ (fun c202 => ?_) (fun c202 => ?_)
    · skip
      exfalso; omega
    · skip
      refine wa_aload_n (n := 0) rfl ?_
      refine wa_dup (by decide) ?_
      refine wb_gfl 158 rfl (wy_pr rfl) wt_158 wf_5_13 (v := ev) (h10) (fun r203 => ?_)
      refine wa_aload_n (n := 0) rfl ?_
      refine wb_gf4 158 rfl (wy_pr rfl) wt_158 wf_5_0 (v := 72) wl_158_0 ?_
      refine wa_aload_n (n := 0) rfl ?_
      refine wb_gf5 158 rfl (wy_pr rfl) wt_158 wf_5_5 (v := 216) (h2) (fun r204 => ?_)
      refine wb_gf4 216 rfl (wy_pr rfl) wt_216 wf_7_0 (v := 217) wl_216_0 ?_
      refine wa_aload_n (n := 0) rfl ?_
      refine wb_gfi 158 rfl (wy_pr rfl) wt_158 wf_5_8 (v := ba) (h5) (fun r205 => ?_)
      refine wa_iconst ?_
      refine wa_iadd ?_
      refine wa_iload (n := 5) rfl ?_
      refine wa_iadd ?_
      refine wb_bald 217 rfl (wy_pr rfl) wt_217 (n := (S0 217 (-1))) (lk2) (by omega) (by omega) (v := (S 217 ((ba + 1) + (i : Int)))) rfl (fun r206 => ?_)
      refine wa_aload_n (n := 0) rfl ?_
      refine wb_gf5 158 rfl (wy_pr rfl) wt_158 wf_5_5 (v := 216) (h2) (fun r207 => ?_)
      refine wb_gf4 216 rfl (wy_pr rfl) wt_216 wf_7_1 (v := 218) wl_216_1 ?_
      refine wa_aload_n (n := 0) rfl ?_
      refine wb_gfi 158 rfl (wy_pr rfl) wt_158 wf_5_8 (v := ba) (h5) (fun r208 => ?_)
      refine wa_iconst ?_
      refine wa_iadd ?_
      refine wa_iload (n := 5) rfl ?_
      refine wa_iadd ?_
      refine wb_lald 218 rfl (wy_pr rfl) wt_218 (n := (S0 217 (-1))) (lk3) (by omega) (by omega) (v := (S 218 ((ba + 1) + (i : Int)))) rfl (fun r209 => ?_)
      refine wa_cv 72 rfl (wy_pr rfl) wt_72 (M2 := fun _ => False) rfl at_XH_classOf ⟨_, rfl⟩ rfl rfl ⟨(Or.inr ⟨wy_pr rfl, fun q => q⟩), (Or.inr ⟨wy_pr rfl, fun q => q⟩), trivial, trivial, trivial, trivial, trivial⟩ ⟨trivial, (Or.inr ⟨wy_pr rfl, fun q => q⟩), trivial⟩ (fun _ _ q => False.elim q) (wJ_mono (co_ok (T := T) hC hlt2 hT q2 (fun z => by have y := q3 z; rw [← ef 129 _ (by decide)] at y; exact y) ⟨by omega, by omega⟩) (fun o Z hz => (⟨hz.1, by rw [← q1c]; exact hz.2⟩ : S = Z ∧ o = .inl (some (0, ci))))) (fun oq210 Sq210 hp211 q210 => ?_)
      rcases q210 with ⟨rfl, rfl⟩
      show wJ _ _ _ _ _ _ _ _ _ _
      refine wa_i2l (w_rg0 (by omega) (by omega)) ?_
      refine wa_bipush (w_rg2 (by omega) (by omega)) ?_
      refine wa_iload (n := 5) rfl ?_
      refine wa_imul ?_
      refine wa_lshl ?_
      refine wa_lor ?_
      rw [hadd]
      refine wb_pfl 158 rfl (wy_pr rfl) wt_158 wf_5_13 (n := 13) rfl ⟨(by omega), (by omega)⟩ ?_
      refine wa_iinc rfl rfl ?_
      refine wa_goto ⟨_, rfl⟩ ?_
      exact wJ_S (ih (i + 1) _ (by omega) (by rw [← hen]; exact amI_13 hs)) ⟨rfl, rfl, rfl, rfl, rfl, rfl, trivial⟩
set_option maxHeartbeats 4000000 in
theorem am_215 {kd ec ba gk gb bh ne h : Int} (hP : w_CL S0) (hlt : cLt S0 T) (hT : (T.length : Int) ≤ 8000) (hb2 : S0 218 (-1) = S0 217 (-1)) (hln : S0 217 (-1) ≤ 4095) (hba : 0 ≤ ba ∧ ba + 1 + ec ≤ S0 217 (-1)) (hec : ec = (cl.length : Int) ∧ cl.length ≤ 8) (hcl : esOk cl) (hcv : ∀ i : Nat, i < cl.length → clS S0 (S0 217 (ba + 1 + (i : Int))) (S0 218 (ba + 1 + (i : Int))) = cl.getD i 0 ∧ (0 ≤ S0 217 (ba + 1 + (i : Int)) ∧ S0 217 (ba + 1 + (i : Int)) ≤ 8) ∧ (S0 217 (ba + 1 + (i : Int)) = 7 → 0 ≤ S0 218 (ba + 1 + (i : Int)) ∧ S0 218 (ba + 1 + (i : Int)) < (T.length : Int) ∧ 0 ≤ S0 129 (S0 218 (ba + 1 + (i : Int))) ∧ S0 129 (S0 218 (ba + 1 + (i : Int))) < 60)) (hl : cSl S0) (hs : 0 ≤ s ∧ s < S0 35 (-1)) (hkd : S0 35 s = kd) (hkr : 0 ≤ kd ∧ kd ≤ 6) (hne : S0 37 s = ne) (hner : 0 ≤ ne ∧ ne ≤ 8) (hece : ec = if kd = 1 then 1 else ne) (hbhe : bh = if kd = 2 then 1 else if kd = 3 then 2 else ec) (hh : S0 216 2 = h) (hbae : ba = h - 1 - bh) (hhr : 0 ≤ h ∧ h ≤ S0 217 (-1)) (hgk : S0 217 ba = gk) (hgb : S0 218 ba = gb) (hk : ∀ Z : wS, amI 215 s kd ec ba gk gb (esV cl) S0 Z → wJ (pe_GA xs) wY0 M (d + 4) t_XL_aim ((pe_at t_XL_aim.bl 10).getD (0, [])).2 [(0, (2, 158)), (1, (2, 215)), (2, (0, s)), (3, (0, if kd = 2 ∨ kd = 3 then 1 else 0))] [] Z Q) : wJ (pe_GA xs) wY0 M (d + 4) t_XL_aim ((pe_at t_XL_aim.bl 0).getD (0, [])).2 [(0, (2, 158)), (1, (2, 215)), (2, (0, s))] [] S0 Q := by
  have hC := hP
  have h35 := hl.2.1
  refine wa_aload_n (n := 0) rfl ?_
  refine wa_aload_n (n := 1) rfl ?_
  refine wb_pfr 158 rfl (wy_pr rfl) wt_158 wf_5_4 (n := 4) rfl (Or.inr ⟨wy_pr rfl, by decide⟩) ?_
  refine wa_aload_n (n := 0) rfl ?_
  refine wa_aload_n (n := 1) rfl ?_
  refine wb_gf4 215 rfl (wy_pr rfl) wt_215 wf_8_3 (v := 216) wl_215_3 ?_
  refine wb_pfr 158 rfl (wy_pr rfl) wt_158 wf_5_5 (n := 5) rfl (Or.inr ⟨wy_pr rfl, by decide⟩) ?_
  refine wa_aload_n (n := 0) rfl ?_
  refine wa_iload_n (n := 2) rfl ?_
  refine wb_pfi 158 rfl (wy_pr rfl) wt_158 wf_5_6 (n := 6) rfl ⟨(by omega), (by omega)⟩ ?_
  refine wa_aload_n (n := 0) rfl ?_
  refine wa_aload_n (n := 0) rfl ?_
  refine wb_gf4 158 rfl (wy_pr rfl) wt_158 wf_5_2 (v := 34) wl_158_2 ?_
  refine wa_iconst ?_
  refine wb_aald5 34 0 rfl rfl (wy_pr rfl) wt_34 (by rw [show _ = _ from ((w_up_slot (by decide)).trans ((w_up_slot (by decide)).trans ((w_up_slot (by decide)).trans ((cl_34 hC)))))]; omega) wl_34_0 ?_
  refine wa_iload_n (n := 2) rfl ?_
  refine wb_iald 35 rfl (wy_pr rfl) wt_35 (n := (S0 35 (-1))) ((w_up_slot (by decide)).trans ((w_up_slot (by decide)).trans ((w_up_slot (by decide)).trans (rfl)))) (by omega) (by omega) (v := kd) ((w_up_slot (by decide)).trans ((w_up_slot (by decide)).trans ((w_up_slot (by decide)).trans (hkd)))) (fun r501 => ?_)
  refine wb_pfi 158 rfl (wy_pr rfl) wt_158 wf_5_7 (n := 7) rfl ⟨(by omega), (by omega)⟩ ?_
  refine wa_aload_n (n := 0) rfl ?_
  refine wa_aload_n (n := 0) rfl ?_
  refine wb_gfi 158 rfl (wy_pr rfl) wt_158 wf_5_7 (v := kd) (w_up_same _ _ _ _) (fun r502 => ?_)
  refine wa_iconst ?_
  refine wa_icmpne (w_rg0 (by omega) (by omega)) (w_rg0 (by omega) (by omega)) ⟨_, rfl⟩ (fun c503 => ?_) (fun c503 => ?_)
  · skip
    refine wa_aload_n (n := 0) rfl ?_
    refine wb_gf4 158 rfl (wy_pr rfl) wt_158 wf_5_2 (v := 34) wl_158_2 ?_
    refine wa_iconst ?_
    refine wb_aald5 34 2 rfl rfl (wy_pr rfl) wt_34 (by rw [show _ = _ from ((w_up_slot (by decide)).trans ((w_up_slot (by decide)).trans ((w_up_slot (by decide)).trans ((w_up_slot (by decide)).trans ((cl_34 hC))))))]; omega) wl_34_2 ?_
    refine wa_iload_n (n := 2) rfl ?_
    refine wb_iald 37 rfl (wy_pr rfl) wt_37 (n := (S0 35 (-1))) ((w_up_slot (by decide)).trans ((w_up_slot (by decide)).trans ((w_up_slot (by decide)).trans ((w_up_slot (by decide)).trans ((hl.1 2 (by decide))))))) (by omega) (by omega) (v := ne) ((w_up_slot (by decide)).trans ((w_up_slot (by decide)).trans ((w_up_slot (by decide)).trans ((w_up_slot (by decide)).trans (hne))))) (fun r504 => ?_)
    refine wa_fall ⟨_, rfl⟩ ?_
    refine wb_pfi 158 rfl (wy_pr rfl) wt_158 wf_5_12 (n := 12) rfl ⟨(by omega), (by omega)⟩ ?_
    refine wa_aload_n (n := 0) rfl ?_
    refine wb_gfi 158 rfl (wy_pr rfl) wt_158 wf_5_7 (v := kd) ((w_up_at (by decide)).trans (w_up_same _ _ _ _)) (fun r505 => ?_)
    refine wa_iconst ?_
    refine wa_icmpeq (w_rg0 (by omega) (by omega)) (w_rg0 (by omega) (by omega)) ⟨_, rfl⟩ (fun c506 => ?_) (fun c506 => ?_)
    · skip
      refine wa_iconst ?_
      refine wa_goto ⟨_, rfl⟩ ?_
      refine wa_istore_n (n := 3) rfl ?_
      refine wa_aload_n (n := 0) rfl ?_
      refine wb_gfi 158 rfl (wy_pr rfl) wt_158 wf_5_12 (v := ne) (w_up_same _ _ _ _) (fun r507 => ?_)
      refine wa_istore (n := 4) rfl ?_
      refine wa_iload_n (n := 3) rfl ?_
      refine wa_ifeq (w_rg0 (by omega) (by omega)) ⟨_, rfl⟩ (fun c508 => ?_) (fun c508 => ?_)
      · skip
        exact absurd c508 (by omega)
      · skip
        refine wa_aload_n (n := 0) rfl ?_
        refine wb_gfi 158 rfl (wy_pr rfl) wt_158 wf_5_7 (v := kd) ((w_up_at (by decide)).trans (w_up_same _ _ _ _)) (fun r509 => ?_)
        refine wa_iconst ?_
        refine wa_icmpne (w_rg0 (by omega) (by omega)) (w_rg0 (by omega) (by omega)) ⟨_, rfl⟩ (fun c510 => ?_) (fun c510 => ?_)
        · skip
          exact absurd c510 (by omega)
        · skip
          refine wa_iconst ?_
          refine wa_goto ⟨_, rfl⟩ ?_
          refine wa_istore (n := 4) rfl ?_
          refine wa_fall ⟨_, rfl⟩ ?_
          refine wa_aload_n (n := 0) rfl ?_
          refine wa_aload_n (n := 0) rfl ?_
          refine wb_gf5 158 rfl (wy_pr rfl) wt_158 wf_5_5 (v := 216) ((w_up_at (by decide)).trans ((w_up_at (by decide)).trans ((w_up_at (by decide)).trans (w_up_same _ _ _ _)))) (fun r511 => ?_)
          refine wb_gfi 216 rfl (wy_pr rfl) wt_216 wf_7_2 (v := h) ((w_up_slot (by decide)).trans ((w_up_slot (by decide)).trans ((w_up_slot (by decide)).trans ((w_up_slot (by decide)).trans ((w_up_slot (by decide)).trans (hh)))))) (fun r512 => ?_)
          refine wa_iconst ?_
          refine wa_isub ?_
          refine wa_iload (n := 4) rfl ?_
          refine wa_isub ?_
          rw [show (((h - 1) - 1) : Int) = ba by rw [hbae, hbhe, hece]; repeat first | rw [if_pos (by omega)] | rw [if_neg (by omega)]]
          refine wb_pfi 158 rfl (wy_pr rfl) wt_158 wf_5_8 (n := 8) rfl ⟨(by omega), (by omega)⟩ ?_
          refine wa_aload_n (n := 0) rfl ?_
          refine wa_aload_n (n := 0) rfl ?_
          refine wb_gf5 158 rfl (wy_pr rfl) wt_158 wf_5_5 (v := 216) ((w_up_at (by decide)).trans ((w_up_at (by decide)).trans ((w_up_at (by decide)).trans ((w_up_at (by decide)).trans (w_up_same _ _ _ _))))) (fun r513 => ?_)
          refine wb_gf4 216 rfl (wy_pr rfl) wt_216 wf_7_0 (v := 217) wl_216_0 ?_
          refine wa_aload_n (n := 0) rfl ?_
          refine wb_gfi 158 rfl (wy_pr rfl) wt_158 wf_5_8 (v := ba) (w_up_same _ _ _ _) (fun r514 => ?_)
          refine wb_bald 217 rfl (wy_pr rfl) wt_217 (n := (S0 217 (-1))) ((w_up_slot (by decide)).trans ((w_up_slot (by decide)).trans ((w_up_slot (by decide)).trans ((w_up_slot (by decide)).trans ((w_up_slot (by decide)).trans ((w_up_slot (by decide)).trans (rfl))))))) (by omega) (by omega) (v := gk) ((w_up_slot (by decide)).trans ((w_up_slot (by decide)).trans ((w_up_slot (by decide)).trans ((w_up_slot (by decide)).trans ((w_up_slot (by decide)).trans ((w_up_slot (by decide)).trans (hgk))))))) (fun r515 => ?_)
          refine wb_pfi 158 rfl (wy_pr rfl) wt_158 wf_5_9 (n := 9) rfl ⟨(by omega), (by omega)⟩ ?_
          refine wa_aload_n (n := 0) rfl ?_
          refine wa_aload_n (n := 0) rfl ?_
          refine wb_gf5 158 rfl (wy_pr rfl) wt_158 wf_5_5 (v := 216) ((w_up_at (by decide)).trans ((w_up_at (by decide)).trans ((w_up_at (by decide)).trans ((w_up_at (by decide)).trans ((w_up_at (by decide)).trans (w_up_same _ _ _ _)))))) (fun r516 => ?_)
          refine wb_gf4 216 rfl (wy_pr rfl) wt_216 wf_7_1 (v := 218) wl_216_1 ?_
          refine wa_aload_n (n := 0) rfl ?_
          refine wb_gfi 158 rfl (wy_pr rfl) wt_158 wf_5_8 (v := ba) ((w_up_at (by decide)).trans (w_up_same _ _ _ _)) (fun r517 => ?_)
          refine wb_lald 218 rfl (wy_pr rfl) wt_218 (n := (S0 217 (-1))) ((w_up_slot (by decide)).trans ((w_up_slot (by decide)).trans ((w_up_slot (by decide)).trans ((w_up_slot (by decide)).trans ((w_up_slot (by decide)).trans ((w_up_slot (by decide)).trans ((w_up_slot (by decide)).trans (hb2)))))))) (by omega) (by omega) (v := gb) ((w_up_slot (by decide)).trans ((w_up_slot (by decide)).trans ((w_up_slot (by decide)).trans ((w_up_slot (by decide)).trans ((w_up_slot (by decide)).trans ((w_up_slot (by decide)).trans ((w_up_slot (by decide)).trans (hgb)))))))) (fun r518 => ?_)
          refine wb_pfl 158 rfl (wy_pr rfl) wt_158 wf_5_10 (n := 10) rfl ⟨(by omega), (by omega)⟩ ?_
          refine wa_aload_n (n := 0) rfl ?_
          refine wb_lconst (m := 0) rfl ?_
          refine wb_pfl 158 rfl (wy_pr rfl) wt_158 wf_5_13 (n := 13) rfl ⟨(by omega), (by omega)⟩ ?_
          refine wa_iconst ?_
          refine wa_istore (n := 5) rfl ?_
          refine wa_fall ⟨_, rfl⟩ ?_
          have eoe : (if kd = 2 ∨ kd = 3 then 1 else 0 : Int) = 1 := by first | exact if_pos (by omega) | exact if_neg (by omega)
          rw [eoe] at hk
          have hst : amI 215 s kd ec ba gk gb (esV (cl.take 0)) S0 (w_up (w_up (w_up (w_up (w_up (w_up (w_up (w_up (w_up S0 158 4 215) 158 5 216) 158 6 s) 158 7 kd) 158 12 ne) 158 8 ba) 158 9 gk) 158 10 gb) 158 13 0) := by
            have e12 : ∀ x y : Int, x = y → ec = x → ec = y := fun x y q z => z.trans q
            have c12 : ne = ec := by first | (rw [hece, if_pos (by omega)]) | (rw [hece, if_neg (by omega)])
            have cbh : 1 = bh := by rw [hbhe]; first | (rw [if_pos (by omega)]) | (rw [if_neg (by omega), if_pos (by omega)]) | (rw [if_neg (by omega), if_neg (by omega)]; exact c12)
            have r4 := (((w_up_at (by first | decide | omega)).trans ((w_up_at (by first | decide | omega)).trans ((w_up_at (by first | decide | omega)).trans ((w_up_at (by first | decide | omega)).trans ((w_up_at (by first | decide | omega)).trans ((w_up_at (by first | decide | omega)).trans ((w_up_at (by first | decide | omega)).trans ((w_up_at (by first | decide | omega)).trans (w_up_same _ _ _ _))))))))) : (w_up (w_up (w_up (w_up (w_up (w_up (w_up (w_up (w_up S0 158 4 215) 158 5 216) 158 6 s) 158 7 kd) 158 12 ne) 158 8 ba) 158 9 gk) 158 10 gb) 158 13 0) 158 4 = 215)
            have r5 := (((w_up_at (by first | decide | omega)).trans ((w_up_at (by first | decide | omega)).trans ((w_up_at (by first | decide | omega)).trans ((w_up_at (by first | decide | omega)).trans ((w_up_at (by first | decide | omega)).trans ((w_up_at (by first | decide | omega)).trans ((w_up_at (by first | decide | omega)).trans (w_up_same _ _ _ _)))))))) : (w_up (w_up (w_up (w_up (w_up (w_up (w_up (w_up (w_up S0 158 4 215) 158 5 216) 158 6 s) 158 7 kd) 158 12 ne) 158 8 ba) 158 9 gk) 158 10 gb) 158 13 0) 158 5 = 216)
            have r6 := (((w_up_at (by first | decide | omega)).trans ((w_up_at (by first | decide | omega)).trans ((w_up_at (by first | decide | omega)).trans ((w_up_at (by first | decide | omega)).trans ((w_up_at (by first | decide | omega)).trans ((w_up_at (by first | decide | omega)).trans (w_up_same _ _ _ _))))))) : (w_up (w_up (w_up (w_up (w_up (w_up (w_up (w_up (w_up S0 158 4 215) 158 5 216) 158 6 s) 158 7 kd) 158 12 ne) 158 8 ba) 158 9 gk) 158 10 gb) 158 13 0) 158 6 = s)
            have r7 := (((w_up_at (by first | decide | omega)).trans ((w_up_at (by first | decide | omega)).trans ((w_up_at (by first | decide | omega)).trans ((w_up_at (by first | decide | omega)).trans ((w_up_at (by first | decide | omega)).trans (w_up_same _ _ _ _)))))) : (w_up (w_up (w_up (w_up (w_up (w_up (w_up (w_up (w_up S0 158 4 215) 158 5 216) 158 6 s) 158 7 kd) 158 12 ne) 158 8 ba) 158 9 gk) 158 10 gb) 158 13 0) 158 7 = kd)
            have r8 := (((w_up_at (by first | decide | omega)).trans ((w_up_at (by first | decide | omega)).trans ((w_up_at (by first | decide | omega)).trans (w_up_same _ _ _ _)))) : (w_up (w_up (w_up (w_up (w_up (w_up (w_up (w_up (w_up S0 158 4 215) 158 5 216) 158 6 s) 158 7 kd) 158 12 ne) 158 8 ba) 158 9 gk) 158 10 gb) 158 13 0) 158 8 = ba)
            have r9 := (((w_up_at (by first | decide | omega)).trans ((w_up_at (by first | decide | omega)).trans (w_up_same _ _ _ _))) : (w_up (w_up (w_up (w_up (w_up (w_up (w_up (w_up (w_up S0 158 4 215) 158 5 216) 158 6 s) 158 7 kd) 158 12 ne) 158 8 ba) 158 9 gk) 158 10 gb) 158 13 0) 158 9 = gk)
            have r10 := (((w_up_at (by first | decide | omega)).trans (w_up_same _ _ _ _)) : (w_up (w_up (w_up (w_up (w_up (w_up (w_up (w_up (w_up S0 158 4 215) 158 5 216) 158 6 s) 158 7 kd) 158 12 ne) 158 8 ba) 158 9 gk) 158 10 gb) 158 13 0) 158 10 = gb)
            have r12 := (((w_up_at (by first | decide | omega)).trans ((w_up_at (by first | decide | omega)).trans ((w_up_at (by first | decide | omega)).trans ((w_up_at (by first | decide | omega)).trans (w_up_same _ _ _ _))))) : (w_up (w_up (w_up (w_up (w_up (w_up (w_up (w_up (w_up S0 158 4 215) 158 5 216) 158 6 s) 158 7 kd) 158 12 ne) 158 8 ba) 158 9 gk) 158 10 gb) 158 13 0) 158 12 = ne)
            have r13 := ((w_up_same _ _ _ _) : (w_up (w_up (w_up (w_up (w_up (w_up (w_up (w_up (w_up S0 158 4 215) 158 5 216) 158 6 s) 158 7 kd) 158 12 ne) 158 8 ba) 158 9 gk) 158 10 gb) 158 13 0) 158 13 = 0)
            refine ⟨⟨r4, r5, r6, r7, r8, r9, r10, r12.trans c12, r13⟩, fun j x hj => ?_⟩
            exact ((w_up_no (by omega)).trans ((w_up_no (by omega)).trans ((w_up_no (by omega)).trans ((w_up_no (by omega)).trans ((w_up_no (by omega)).trans ((w_up_no (by omega)).trans ((w_up_no (by omega)).trans ((w_up_no (by omega)).trans (w_up_no (by omega))))))))))
          exact wJ_S (aml_215 (bh := 1) (oe := 1) hP hlt hT hb2 hln hba hec hcl hcv hk cl.length 0 _ (by omega) hst) ⟨rfl, rfl, rfl, rfl, rfl, rfl, trivial⟩
    · skip
      refine wa_aload_n (n := 0) rfl ?_
      refine wb_gfi 158 rfl (wy_pr rfl) wt_158 wf_5_7 (v := kd) ((w_up_at (by decide)).trans (w_up_same _ _ _ _)) (fun r519 => ?_)
      refine wa_iconst ?_
      refine wa_icmpne (w_rg0 (by omega) (by omega)) (w_rg0 (by omega) (by omega)) ⟨_, rfl⟩ (fun c520 => ?_) (fun c520 => ?_)
      · skip
        refine wa_iconst ?_
        refine wa_fall ⟨_, rfl⟩ ?_
        refine wa_istore_n (n := 3) rfl ?_
        refine wa_aload_n (n := 0) rfl ?_
        refine wb_gfi 158 rfl (wy_pr rfl) wt_158 wf_5_12 (v := ne) (w_up_same _ _ _ _) (fun r521 => ?_)
        refine wa_istore (n := 4) rfl ?_
        refine wa_iload_n (n := 3) rfl ?_
        refine wa_ifeq (w_rg0 (by omega) (by omega)) ⟨_, rfl⟩ (fun c522 => ?_) (fun c522 => ?_)
        · skip
          refine wa_aload_n (n := 0) rfl ?_
          refine wa_aload_n (n := 0) rfl ?_
          refine wb_gf5 158 rfl (wy_pr rfl) wt_158 wf_5_5 (v := 216) ((w_up_at (by decide)).trans ((w_up_at (by decide)).trans ((w_up_at (by decide)).trans (w_up_same _ _ _ _)))) (fun r523 => ?_)
          refine wb_gfi 216 rfl (wy_pr rfl) wt_216 wf_7_2 (v := h) ((w_up_slot (by decide)).trans ((w_up_slot (by decide)).trans ((w_up_slot (by decide)).trans ((w_up_slot (by decide)).trans ((w_up_slot (by decide)).trans (hh)))))) (fun r524 => ?_)
          refine wa_iconst ?_
          refine wa_isub ?_
          refine wa_iload (n := 4) rfl ?_
          refine wa_isub ?_
          rw [show (((h - 1) - ne) : Int) = ba by rw [hbae, hbhe, hece]; repeat first | rw [if_pos (by omega)] | rw [if_neg (by omega)]]
          refine wb_pfi 158 rfl (wy_pr rfl) wt_158 wf_5_8 (n := 8) rfl ⟨(by omega), (by omega)⟩ ?_
          refine wa_aload_n (n := 0) rfl ?_
          refine wa_aload_n (n := 0) rfl ?_
          refine wb_gf5 158 rfl (wy_pr rfl) wt_158 wf_5_5 (v := 216) ((w_up_at (by decide)).trans ((w_up_at (by decide)).trans ((w_up_at (by decide)).trans ((w_up_at (by decide)).trans (w_up_same _ _ _ _))))) (fun r525 => ?_)
          refine wb_gf4 216 rfl (wy_pr rfl) wt_216 wf_7_0 (v := 217) wl_216_0 ?_
          refine wa_aload_n (n := 0) rfl ?_
          refine wb_gfi 158 rfl (wy_pr rfl) wt_158 wf_5_8 (v := ba) (w_up_same _ _ _ _) (fun r526 => ?_)
          refine wb_bald 217 rfl (wy_pr rfl) wt_217 (n := (S0 217 (-1))) ((w_up_slot (by decide)).trans ((w_up_slot (by decide)).trans ((w_up_slot (by decide)).trans ((w_up_slot (by decide)).trans ((w_up_slot (by decide)).trans ((w_up_slot (by decide)).trans (rfl))))))) (by omega) (by omega) (v := gk) ((w_up_slot (by decide)).trans ((w_up_slot (by decide)).trans ((w_up_slot (by decide)).trans ((w_up_slot (by decide)).trans ((w_up_slot (by decide)).trans ((w_up_slot (by decide)).trans (hgk))))))) (fun r527 => ?_)
          refine wb_pfi 158 rfl (wy_pr rfl) wt_158 wf_5_9 (n := 9) rfl ⟨(by omega), (by omega)⟩ ?_
          refine wa_aload_n (n := 0) rfl ?_
          refine wa_aload_n (n := 0) rfl ?_
          refine wb_gf5 158 rfl (wy_pr rfl) wt_158 wf_5_5 (v := 216) ((w_up_at (by decide)).trans ((w_up_at (by decide)).trans ((w_up_at (by decide)).trans ((w_up_at (by decide)).trans ((w_up_at (by decide)).trans (w_up_same _ _ _ _)))))) (fun r528 => ?_)
          refine wb_gf4 216 rfl (wy_pr rfl) wt_216 wf_7_1 (v := 218) wl_216_1 ?_
          refine wa_aload_n (n := 0) rfl ?_
          refine wb_gfi 158 rfl (wy_pr rfl) wt_158 wf_5_8 (v := ba) ((w_up_at (by decide)).trans (w_up_same _ _ _ _)) (fun r529 => ?_)
          refine wb_lald 218 rfl (wy_pr rfl) wt_218 (n := (S0 217 (-1))) ((w_up_slot (by decide)).trans ((w_up_slot (by decide)).trans ((w_up_slot (by decide)).trans ((w_up_slot (by decide)).trans ((w_up_slot (by decide)).trans ((w_up_slot (by decide)).trans ((w_up_slot (by decide)).trans (hb2)))))))) (by omega) (by omega) (v := gb) ((w_up_slot (by decide)).trans ((w_up_slot (by decide)).trans ((w_up_slot (by decide)).trans ((w_up_slot (by decide)).trans ((w_up_slot (by decide)).trans ((w_up_slot (by decide)).trans ((w_up_slot (by decide)).trans (hgb)))))))) (fun r530 => ?_)
          refine wb_pfl 158 rfl (wy_pr rfl) wt_158 wf_5_10 (n := 10) rfl ⟨(by omega), (by omega)⟩ ?_
          refine wa_aload_n (n := 0) rfl ?_
          refine wb_lconst (m := 0) rfl ?_
          refine wb_pfl 158 rfl (wy_pr rfl) wt_158 wf_5_13 (n := 13) rfl ⟨(by omega), (by omega)⟩ ?_
          refine wa_iconst ?_
          refine wa_istore (n := 5) rfl ?_
          refine wa_fall ⟨_, rfl⟩ ?_
          have eoe : (if kd = 2 ∨ kd = 3 then 1 else 0 : Int) = 0 := by first | exact if_pos (by omega) | exact if_neg (by omega)
          rw [eoe] at hk
          have hst : amI 215 s kd ec ba gk gb (esV (cl.take 0)) S0 (w_up (w_up (w_up (w_up (w_up (w_up (w_up (w_up (w_up S0 158 4 215) 158 5 216) 158 6 s) 158 7 kd) 158 12 ne) 158 8 ba) 158 9 gk) 158 10 gb) 158 13 0) := by
            have e12 : ∀ x y : Int, x = y → ec = x → ec = y := fun x y q z => z.trans q
            have c12 : ne = ec := by first | (rw [hece, if_pos (by omega)]) | (rw [hece, if_neg (by omega)])
            have cbh : ne = bh := by rw [hbhe]; first | (rw [if_pos (by omega)]) | (rw [if_neg (by omega), if_pos (by omega)]) | (rw [if_neg (by omega), if_neg (by omega)]; exact c12)
            have r4 := (((w_up_at (by first | decide | omega)).trans ((w_up_at (by first | decide | omega)).trans ((w_up_at (by first | decide | omega)).trans ((w_up_at (by first | decide | omega)).trans ((w_up_at (by first | decide | omega)).trans ((w_up_at (by first | decide | omega)).trans ((w_up_at (by first | decide | omega)).trans ((w_up_at (by first | decide | omega)).trans (w_up_same _ _ _ _))))))))) : (w_up (w_up (w_up (w_up (w_up (w_up (w_up (w_up (w_up S0 158 4 215) 158 5 216) 158 6 s) 158 7 kd) 158 12 ne) 158 8 ba) 158 9 gk) 158 10 gb) 158 13 0) 158 4 = 215)
            have r5 := (((w_up_at (by first | decide | omega)).trans ((w_up_at (by first | decide | omega)).trans ((w_up_at (by first | decide | omega)).trans ((w_up_at (by first | decide | omega)).trans ((w_up_at (by first | decide | omega)).trans ((w_up_at (by first | decide | omega)).trans ((w_up_at (by first | decide | omega)).trans (w_up_same _ _ _ _)))))))) : (w_up (w_up (w_up (w_up (w_up (w_up (w_up (w_up (w_up S0 158 4 215) 158 5 216) 158 6 s) 158 7 kd) 158 12 ne) 158 8 ba) 158 9 gk) 158 10 gb) 158 13 0) 158 5 = 216)
            have r6 := (((w_up_at (by first | decide | omega)).trans ((w_up_at (by first | decide | omega)).trans ((w_up_at (by first | decide | omega)).trans ((w_up_at (by first | decide | omega)).trans ((w_up_at (by first | decide | omega)).trans ((w_up_at (by first | decide | omega)).trans (w_up_same _ _ _ _))))))) : (w_up (w_up (w_up (w_up (w_up (w_up (w_up (w_up (w_up S0 158 4 215) 158 5 216) 158 6 s) 158 7 kd) 158 12 ne) 158 8 ba) 158 9 gk) 158 10 gb) 158 13 0) 158 6 = s)
            have r7 := (((w_up_at (by first | decide | omega)).trans ((w_up_at (by first | decide | omega)).trans ((w_up_at (by first | decide | omega)).trans ((w_up_at (by first | decide | omega)).trans ((w_up_at (by first | decide | omega)).trans (w_up_same _ _ _ _)))))) : (w_up (w_up (w_up (w_up (w_up (w_up (w_up (w_up (w_up S0 158 4 215) 158 5 216) 158 6 s) 158 7 kd) 158 12 ne) 158 8 ba) 158 9 gk) 158 10 gb) 158 13 0) 158 7 = kd)
            have r8 := (((w_up_at (by first | decide | omega)).trans ((w_up_at (by first | decide | omega)).trans ((w_up_at (by first | decide | omega)).trans (w_up_same _ _ _ _)))) : (w_up (w_up (w_up (w_up (w_up (w_up (w_up (w_up (w_up S0 158 4 215) 158 5 216) 158 6 s) 158 7 kd) 158 12 ne) 158 8 ba) 158 9 gk) 158 10 gb) 158 13 0) 158 8 = ba)
            have r9 := (((w_up_at (by first | decide | omega)).trans ((w_up_at (by first | decide | omega)).trans (w_up_same _ _ _ _))) : (w_up (w_up (w_up (w_up (w_up (w_up (w_up (w_up (w_up S0 158 4 215) 158 5 216) 158 6 s) 158 7 kd) 158 12 ne) 158 8 ba) 158 9 gk) 158 10 gb) 158 13 0) 158 9 = gk)
            have r10 := (((w_up_at (by first | decide | omega)).trans (w_up_same _ _ _ _)) : (w_up (w_up (w_up (w_up (w_up (w_up (w_up (w_up (w_up S0 158 4 215) 158 5 216) 158 6 s) 158 7 kd) 158 12 ne) 158 8 ba) 158 9 gk) 158 10 gb) 158 13 0) 158 10 = gb)
            have r12 := (((w_up_at (by first | decide | omega)).trans ((w_up_at (by first | decide | omega)).trans ((w_up_at (by first | decide | omega)).trans ((w_up_at (by first | decide | omega)).trans (w_up_same _ _ _ _))))) : (w_up (w_up (w_up (w_up (w_up (w_up (w_up (w_up (w_up S0 158 4 215) 158 5 216) 158 6 s) 158 7 kd) 158 12 ne) 158 8 ba) 158 9 gk) 158 10 gb) 158 13 0) 158 12 = ne)
            have r13 := ((w_up_same _ _ _ _) : (w_up (w_up (w_up (w_up (w_up (w_up (w_up (w_up (w_up S0 158 4 215) 158 5 216) 158 6 s) 158 7 kd) 158 12 ne) 158 8 ba) 158 9 gk) 158 10 gb) 158 13 0) 158 13 = 0)
            refine ⟨⟨r4, r5, r6, r7, r8, r9, r10, r12.trans c12, r13⟩, fun j x hj => ?_⟩
            exact ((w_up_no (by omega)).trans ((w_up_no (by omega)).trans ((w_up_no (by omega)).trans ((w_up_no (by omega)).trans ((w_up_no (by omega)).trans ((w_up_no (by omega)).trans ((w_up_no (by omega)).trans ((w_up_no (by omega)).trans (w_up_no (by omega))))))))))
          exact wJ_S (aml_215 (bh := ne) (oe := 0) hP hlt hT hb2 hln hba hec hcl hcv hk cl.length 0 _ (by omega) hst) ⟨rfl, rfl, rfl, rfl, rfl, rfl, trivial⟩
        · skip
          exact absurd c522 (by omega)
      · skip
        refine wa_fall ⟨_, rfl⟩ ?_
        refine wa_iconst ?_
        refine wa_goto ⟨_, rfl⟩ ?_
        refine wa_istore_n (n := 3) rfl ?_
        refine wa_aload_n (n := 0) rfl ?_
        refine wb_gfi 158 rfl (wy_pr rfl) wt_158 wf_5_12 (v := ne) (w_up_same _ _ _ _) (fun r531 => ?_)
        refine wa_istore (n := 4) rfl ?_
        refine wa_iload_n (n := 3) rfl ?_
        refine wa_ifeq (w_rg0 (by omega) (by omega)) ⟨_, rfl⟩ (fun c532 => ?_) (fun c532 => ?_)
        · skip
          exact absurd c532 (by omega)
        · skip
          refine wa_aload_n (n := 0) rfl ?_
          refine wb_gfi 158 rfl (wy_pr rfl) wt_158 wf_5_7 (v := kd) ((w_up_at (by decide)).trans (w_up_same _ _ _ _)) (fun r533 => ?_)
          refine wa_iconst ?_
          refine wa_icmpne (w_rg0 (by omega) (by omega)) (w_rg0 (by omega) (by omega)) ⟨_, rfl⟩ (fun c534 => ?_) (fun c534 => ?_)
          · skip
            refine wa_iconst ?_
            refine wa_fall ⟨_, rfl⟩ ?_
            refine wa_istore (n := 4) rfl ?_
            refine wa_fall ⟨_, rfl⟩ ?_
            refine wa_aload_n (n := 0) rfl ?_
            refine wa_aload_n (n := 0) rfl ?_
            refine wb_gf5 158 rfl (wy_pr rfl) wt_158 wf_5_5 (v := 216) ((w_up_at (by decide)).trans ((w_up_at (by decide)).trans ((w_up_at (by decide)).trans (w_up_same _ _ _ _)))) (fun r535 => ?_)
            refine wb_gfi 216 rfl (wy_pr rfl) wt_216 wf_7_2 (v := h) ((w_up_slot (by decide)).trans ((w_up_slot (by decide)).trans ((w_up_slot (by decide)).trans ((w_up_slot (by decide)).trans ((w_up_slot (by decide)).trans (hh)))))) (fun r536 => ?_)
            refine wa_iconst ?_
            refine wa_isub ?_
            refine wa_iload (n := 4) rfl ?_
            refine wa_isub ?_
            rw [show (((h - 1) - 2) : Int) = ba by rw [hbae, hbhe, hece]; repeat first | rw [if_pos (by omega)] | rw [if_neg (by omega)]]
            refine wb_pfi 158 rfl (wy_pr rfl) wt_158 wf_5_8 (n := 8) rfl ⟨(by omega), (by omega)⟩ ?_
            refine wa_aload_n (n := 0) rfl ?_
            refine wa_aload_n (n := 0) rfl ?_
            refine wb_gf5 158 rfl (wy_pr rfl) wt_158 wf_5_5 (v := 216) ((w_up_at (by decide)).trans ((w_up_at (by decide)).trans ((w_up_at (by decide)).trans ((w_up_at (by decide)).trans (w_up_same _ _ _ _))))) (fun r537 => ?_)
            refine wb_gf4 216 rfl (wy_pr rfl) wt_216 wf_7_0 (v := 217) wl_216_0 ?_
            refine wa_aload_n (n := 0) rfl ?_
            refine wb_gfi 158 rfl (wy_pr rfl) wt_158 wf_5_8 (v := ba) (w_up_same _ _ _ _) (fun r538 => ?_)
            refine wb_bald 217 rfl (wy_pr rfl) wt_217 (n := (S0 217 (-1))) ((w_up_slot (by decide)).trans ((w_up_slot (by decide)).trans ((w_up_slot (by decide)).trans ((w_up_slot (by decide)).trans ((w_up_slot (by decide)).trans ((w_up_slot (by decide)).trans (rfl))))))) (by omega) (by omega) (v := gk) ((w_up_slot (by decide)).trans ((w_up_slot (by decide)).trans ((w_up_slot (by decide)).trans ((w_up_slot (by decide)).trans ((w_up_slot (by decide)).trans ((w_up_slot (by decide)).trans (hgk))))))) (fun r539 => ?_)
            refine wb_pfi 158 rfl (wy_pr rfl) wt_158 wf_5_9 (n := 9) rfl ⟨(by omega), (by omega)⟩ ?_
            refine wa_aload_n (n := 0) rfl ?_
            refine wa_aload_n (n := 0) rfl ?_
            refine wb_gf5 158 rfl (wy_pr rfl) wt_158 wf_5_5 (v := 216) ((w_up_at (by decide)).trans ((w_up_at (by decide)).trans ((w_up_at (by decide)).trans ((w_up_at (by decide)).trans ((w_up_at (by decide)).trans (w_up_same _ _ _ _)))))) (fun r540 => ?_)
            refine wb_gf4 216 rfl (wy_pr rfl) wt_216 wf_7_1 (v := 218) wl_216_1 ?_
            refine wa_aload_n (n := 0) rfl ?_
            refine wb_gfi 158 rfl (wy_pr rfl) wt_158 wf_5_8 (v := ba) ((w_up_at (by decide)).trans (w_up_same _ _ _ _)) (fun r541 => ?_)
            refine wb_lald 218 rfl (wy_pr rfl) wt_218 (n := (S0 217 (-1))) ((w_up_slot (by decide)).trans ((w_up_slot (by decide)).trans ((w_up_slot (by decide)).trans ((w_up_slot (by decide)).trans ((w_up_slot (by decide)).trans ((w_up_slot (by decide)).trans ((w_up_slot (by decide)).trans (hb2)))))))) (by omega) (by omega) (v := gb) ((w_up_slot (by decide)).trans ((w_up_slot (by decide)).trans ((w_up_slot (by decide)).trans ((w_up_slot (by decide)).trans ((w_up_slot (by decide)).trans ((w_up_slot (by decide)).trans ((w_up_slot (by decide)).trans (hgb)))))))) (fun r542 => ?_)
            refine wb_pfl 158 rfl (wy_pr rfl) wt_158 wf_5_10 (n := 10) rfl ⟨(by omega), (by omega)⟩ ?_
            refine wa_aload_n (n := 0) rfl ?_
            refine wb_lconst (m := 0) rfl ?_
            refine wb_pfl 158 rfl (wy_pr rfl) wt_158 wf_5_13 (n := 13) rfl ⟨(by omega), (by omega)⟩ ?_
            refine wa_iconst ?_
            refine wa_istore (n := 5) rfl ?_
            refine wa_fall ⟨_, rfl⟩ ?_
            have eoe : (if kd = 2 ∨ kd = 3 then 1 else 0 : Int) = 1 := by first | exact if_pos (by omega) | exact if_neg (by omega)
            rw [eoe] at hk
            have hst : amI 215 s kd ec ba gk gb (esV (cl.take 0)) S0 (w_up (w_up (w_up (w_up (w_up (w_up (w_up (w_up (w_up S0 158 4 215) 158 5 216) 158 6 s) 158 7 kd) 158 12 ne) 158 8 ba) 158 9 gk) 158 10 gb) 158 13 0) := by
              have e12 : ∀ x y : Int, x = y → ec = x → ec = y := fun x y q z => z.trans q
              have c12 : ne = ec := by first | (rw [hece, if_pos (by omega)]) | (rw [hece, if_neg (by omega)])
              have cbh : 2 = bh := by rw [hbhe]; first | (rw [if_pos (by omega)]) | (rw [if_neg (by omega), if_pos (by omega)]) | (rw [if_neg (by omega), if_neg (by omega)]; exact c12)
              have r4 := (((w_up_at (by first | decide | omega)).trans ((w_up_at (by first | decide | omega)).trans ((w_up_at (by first | decide | omega)).trans ((w_up_at (by first | decide | omega)).trans ((w_up_at (by first | decide | omega)).trans ((w_up_at (by first | decide | omega)).trans ((w_up_at (by first | decide | omega)).trans ((w_up_at (by first | decide | omega)).trans (w_up_same _ _ _ _))))))))) : (w_up (w_up (w_up (w_up (w_up (w_up (w_up (w_up (w_up S0 158 4 215) 158 5 216) 158 6 s) 158 7 kd) 158 12 ne) 158 8 ba) 158 9 gk) 158 10 gb) 158 13 0) 158 4 = 215)
              have r5 := (((w_up_at (by first | decide | omega)).trans ((w_up_at (by first | decide | omega)).trans ((w_up_at (by first | decide | omega)).trans ((w_up_at (by first | decide | omega)).trans ((w_up_at (by first | decide | omega)).trans ((w_up_at (by first | decide | omega)).trans ((w_up_at (by first | decide | omega)).trans (w_up_same _ _ _ _)))))))) : (w_up (w_up (w_up (w_up (w_up (w_up (w_up (w_up (w_up S0 158 4 215) 158 5 216) 158 6 s) 158 7 kd) 158 12 ne) 158 8 ba) 158 9 gk) 158 10 gb) 158 13 0) 158 5 = 216)
              have r6 := (((w_up_at (by first | decide | omega)).trans ((w_up_at (by first | decide | omega)).trans ((w_up_at (by first | decide | omega)).trans ((w_up_at (by first | decide | omega)).trans ((w_up_at (by first | decide | omega)).trans ((w_up_at (by first | decide | omega)).trans (w_up_same _ _ _ _))))))) : (w_up (w_up (w_up (w_up (w_up (w_up (w_up (w_up (w_up S0 158 4 215) 158 5 216) 158 6 s) 158 7 kd) 158 12 ne) 158 8 ba) 158 9 gk) 158 10 gb) 158 13 0) 158 6 = s)
              have r7 := (((w_up_at (by first | decide | omega)).trans ((w_up_at (by first | decide | omega)).trans ((w_up_at (by first | decide | omega)).trans ((w_up_at (by first | decide | omega)).trans ((w_up_at (by first | decide | omega)).trans (w_up_same _ _ _ _)))))) : (w_up (w_up (w_up (w_up (w_up (w_up (w_up (w_up (w_up S0 158 4 215) 158 5 216) 158 6 s) 158 7 kd) 158 12 ne) 158 8 ba) 158 9 gk) 158 10 gb) 158 13 0) 158 7 = kd)
              have r8 := (((w_up_at (by first | decide | omega)).trans ((w_up_at (by first | decide | omega)).trans ((w_up_at (by first | decide | omega)).trans (w_up_same _ _ _ _)))) : (w_up (w_up (w_up (w_up (w_up (w_up (w_up (w_up (w_up S0 158 4 215) 158 5 216) 158 6 s) 158 7 kd) 158 12 ne) 158 8 ba) 158 9 gk) 158 10 gb) 158 13 0) 158 8 = ba)
              have r9 := (((w_up_at (by first | decide | omega)).trans ((w_up_at (by first | decide | omega)).trans (w_up_same _ _ _ _))) : (w_up (w_up (w_up (w_up (w_up (w_up (w_up (w_up (w_up S0 158 4 215) 158 5 216) 158 6 s) 158 7 kd) 158 12 ne) 158 8 ba) 158 9 gk) 158 10 gb) 158 13 0) 158 9 = gk)
              have r10 := (((w_up_at (by first | decide | omega)).trans (w_up_same _ _ _ _)) : (w_up (w_up (w_up (w_up (w_up (w_up (w_up (w_up (w_up S0 158 4 215) 158 5 216) 158 6 s) 158 7 kd) 158 12 ne) 158 8 ba) 158 9 gk) 158 10 gb) 158 13 0) 158 10 = gb)
              have r12 := (((w_up_at (by first | decide | omega)).trans ((w_up_at (by first | decide | omega)).trans ((w_up_at (by first | decide | omega)).trans ((w_up_at (by first | decide | omega)).trans (w_up_same _ _ _ _))))) : (w_up (w_up (w_up (w_up (w_up (w_up (w_up (w_up (w_up S0 158 4 215) 158 5 216) 158 6 s) 158 7 kd) 158 12 ne) 158 8 ba) 158 9 gk) 158 10 gb) 158 13 0) 158 12 = ne)
              have r13 := ((w_up_same _ _ _ _) : (w_up (w_up (w_up (w_up (w_up (w_up (w_up (w_up (w_up S0 158 4 215) 158 5 216) 158 6 s) 158 7 kd) 158 12 ne) 158 8 ba) 158 9 gk) 158 10 gb) 158 13 0) 158 13 = 0)
              refine ⟨⟨r4, r5, r6, r7, r8, r9, r10, r12.trans c12, r13⟩, fun j x hj => ?_⟩
              exact ((w_up_no (by omega)).trans ((w_up_no (by omega)).trans ((w_up_no (by omega)).trans ((w_up_no (by omega)).trans ((w_up_no (by omega)).trans ((w_up_no (by omega)).trans ((w_up_no (by omega)).trans ((w_up_no (by omega)).trans (w_up_no (by omega))))))))))
            exact wJ_S (aml_215 (bh := 2) (oe := 1) hP hlt hT hb2 hln hba hec hcl hcv hk cl.length 0 _ (by omega) hst) ⟨rfl, rfl, rfl, rfl, rfl, rfl, trivial⟩
          · skip
            exact absurd c534 (by omega)
  · skip
    refine wa_iconst ?_
    refine wa_goto ⟨_, rfl⟩ ?_
    refine wb_pfi 158 rfl (wy_pr rfl) wt_158 wf_5_12 (n := 12) rfl ⟨(by omega), (by omega)⟩ ?_
    refine wa_aload_n (n := 0) rfl ?_
    refine wb_gfi 158 rfl (wy_pr rfl) wt_158 wf_5_7 (v := kd) ((w_up_at (by decide)).trans (w_up_same _ _ _ _)) (fun r543 => ?_)
    refine wa_iconst ?_
    refine wa_icmpeq (w_rg0 (by omega) (by omega)) (w_rg0 (by omega) (by omega)) ⟨_, rfl⟩ (fun c544 => ?_) (fun c544 => ?_)
    · skip
      exact absurd c544 (by omega)
    · skip
      refine wa_aload_n (n := 0) rfl ?_
      refine wb_gfi 158 rfl (wy_pr rfl) wt_158 wf_5_7 (v := kd) ((w_up_at (by decide)).trans (w_up_same _ _ _ _)) (fun r545 => ?_)
      refine wa_iconst ?_
      refine wa_icmpne (w_rg0 (by omega) (by omega)) (w_rg0 (by omega) (by omega)) ⟨_, rfl⟩ (fun c546 => ?_) (fun c546 => ?_)
      · skip
        refine wa_iconst ?_
        refine wa_fall ⟨_, rfl⟩ ?_
        refine wa_istore_n (n := 3) rfl ?_
        refine wa_aload_n (n := 0) rfl ?_
        refine wb_gfi 158 rfl (wy_pr rfl) wt_158 wf_5_12 (v := 1) (w_up_same _ _ _ _) (fun r547 => ?_)
        refine wa_istore (n := 4) rfl ?_
        refine wa_iload_n (n := 3) rfl ?_
        refine wa_ifeq (w_rg0 (by omega) (by omega)) ⟨_, rfl⟩ (fun c548 => ?_) (fun c548 => ?_)
        · skip
          refine wa_aload_n (n := 0) rfl ?_
          refine wa_aload_n (n := 0) rfl ?_
          refine wb_gf5 158 rfl (wy_pr rfl) wt_158 wf_5_5 (v := 216) ((w_up_at (by decide)).trans ((w_up_at (by decide)).trans ((w_up_at (by decide)).trans (w_up_same _ _ _ _)))) (fun r549 => ?_)
          refine wb_gfi 216 rfl (wy_pr rfl) wt_216 wf_7_2 (v := h) ((w_up_slot (by decide)).trans ((w_up_slot (by decide)).trans ((w_up_slot (by decide)).trans ((w_up_slot (by decide)).trans ((w_up_slot (by decide)).trans (hh)))))) (fun r550 => ?_)
          refine wa_iconst ?_
          refine wa_isub ?_
          refine wa_iload (n := 4) rfl ?_
          refine wa_isub ?_
          rw [show (((h - 1) - 1) : Int) = ba by rw [hbae, hbhe, hece]; repeat first | rw [if_pos (by omega)] | rw [if_neg (by omega)]]
          refine wb_pfi 158 rfl (wy_pr rfl) wt_158 wf_5_8 (n := 8) rfl ⟨(by omega), (by omega)⟩ ?_
          refine wa_aload_n (n := 0) rfl ?_
          refine wa_aload_n (n := 0) rfl ?_
          refine wb_gf5 158 rfl (wy_pr rfl) wt_158 wf_5_5 (v := 216) ((w_up_at (by decide)).trans ((w_up_at (by decide)).trans ((w_up_at (by decide)).trans ((w_up_at (by decide)).trans (w_up_same _ _ _ _))))) (fun r551 => ?_)
          refine wb_gf4 216 rfl (wy_pr rfl) wt_216 wf_7_0 (v := 217) wl_216_0 ?_
          refine wa_aload_n (n := 0) rfl ?_
          refine wb_gfi 158 rfl (wy_pr rfl) wt_158 wf_5_8 (v := ba) (w_up_same _ _ _ _) (fun r552 => ?_)
          refine wb_bald 217 rfl (wy_pr rfl) wt_217 (n := (S0 217 (-1))) ((w_up_slot (by decide)).trans ((w_up_slot (by decide)).trans ((w_up_slot (by decide)).trans ((w_up_slot (by decide)).trans ((w_up_slot (by decide)).trans ((w_up_slot (by decide)).trans (rfl))))))) (by omega) (by omega) (v := gk) ((w_up_slot (by decide)).trans ((w_up_slot (by decide)).trans ((w_up_slot (by decide)).trans ((w_up_slot (by decide)).trans ((w_up_slot (by decide)).trans ((w_up_slot (by decide)).trans (hgk))))))) (fun r553 => ?_)
          refine wb_pfi 158 rfl (wy_pr rfl) wt_158 wf_5_9 (n := 9) rfl ⟨(by omega), (by omega)⟩ ?_
          refine wa_aload_n (n := 0) rfl ?_
          refine wa_aload_n (n := 0) rfl ?_
          refine wb_gf5 158 rfl (wy_pr rfl) wt_158 wf_5_5 (v := 216) ((w_up_at (by decide)).trans ((w_up_at (by decide)).trans ((w_up_at (by decide)).trans ((w_up_at (by decide)).trans ((w_up_at (by decide)).trans (w_up_same _ _ _ _)))))) (fun r554 => ?_)
          refine wb_gf4 216 rfl (wy_pr rfl) wt_216 wf_7_1 (v := 218) wl_216_1 ?_
          refine wa_aload_n (n := 0) rfl ?_
          refine wb_gfi 158 rfl (wy_pr rfl) wt_158 wf_5_8 (v := ba) ((w_up_at (by decide)).trans (w_up_same _ _ _ _)) (fun r555 => ?_)
          refine wb_lald 218 rfl (wy_pr rfl) wt_218 (n := (S0 217 (-1))) ((w_up_slot (by decide)).trans ((w_up_slot (by decide)).trans ((w_up_slot (by decide)).trans ((w_up_slot (by decide)).trans ((w_up_slot (by decide)).trans ((w_up_slot (by decide)).trans ((w_up_slot (by decide)).trans (hb2)))))))) (by omega) (by omega) (v := gb) ((w_up_slot (by decide)).trans ((w_up_slot (by decide)).trans ((w_up_slot (by decide)).trans ((w_up_slot (by decide)).trans ((w_up_slot (by decide)).trans ((w_up_slot (by decide)).trans ((w_up_slot (by decide)).trans (hgb)))))))) (fun r556 => ?_)
          refine wb_pfl 158 rfl (wy_pr rfl) wt_158 wf_5_10 (n := 10) rfl ⟨(by omega), (by omega)⟩ ?_
          refine wa_aload_n (n := 0) rfl ?_
          refine wb_lconst (m := 0) rfl ?_
          refine wb_pfl 158 rfl (wy_pr rfl) wt_158 wf_5_13 (n := 13) rfl ⟨(by omega), (by omega)⟩ ?_
          refine wa_iconst ?_
          refine wa_istore (n := 5) rfl ?_
          refine wa_fall ⟨_, rfl⟩ ?_
          have eoe : (if kd = 2 ∨ kd = 3 then 1 else 0 : Int) = 0 := by first | exact if_pos (by omega) | exact if_neg (by omega)
          rw [eoe] at hk
          have hst : amI 215 s kd ec ba gk gb (esV (cl.take 0)) S0 (w_up (w_up (w_up (w_up (w_up (w_up (w_up (w_up (w_up S0 158 4 215) 158 5 216) 158 6 s) 158 7 kd) 158 12 1) 158 8 ba) 158 9 gk) 158 10 gb) 158 13 0) := by
            have e12 : ∀ x y : Int, x = y → ec = x → ec = y := fun x y q z => z.trans q
            have c12 : 1 = ec := by first | (rw [hece, if_pos (by omega)]) | (rw [hece, if_neg (by omega)])
            have cbh : 1 = bh := by rw [hbhe]; first | (rw [if_pos (by omega)]) | (rw [if_neg (by omega), if_pos (by omega)]) | (rw [if_neg (by omega), if_neg (by omega)]; exact c12)
            have r4 := (((w_up_at (by first | decide | omega)).trans ((w_up_at (by first | decide | omega)).trans ((w_up_at (by first | decide | omega)).trans ((w_up_at (by first | decide | omega)).trans ((w_up_at (by first | decide | omega)).trans ((w_up_at (by first | decide | omega)).trans ((w_up_at (by first | decide | omega)).trans ((w_up_at (by first | decide | omega)).trans (w_up_same _ _ _ _))))))))) : (w_up (w_up (w_up (w_up (w_up (w_up (w_up (w_up (w_up S0 158 4 215) 158 5 216) 158 6 s) 158 7 kd) 158 12 1) 158 8 ba) 158 9 gk) 158 10 gb) 158 13 0) 158 4 = 215)
            have r5 := (((w_up_at (by first | decide | omega)).trans ((w_up_at (by first | decide | omega)).trans ((w_up_at (by first | decide | omega)).trans ((w_up_at (by first | decide | omega)).trans ((w_up_at (by first | decide | omega)).trans ((w_up_at (by first | decide | omega)).trans ((w_up_at (by first | decide | omega)).trans (w_up_same _ _ _ _)))))))) : (w_up (w_up (w_up (w_up (w_up (w_up (w_up (w_up (w_up S0 158 4 215) 158 5 216) 158 6 s) 158 7 kd) 158 12 1) 158 8 ba) 158 9 gk) 158 10 gb) 158 13 0) 158 5 = 216)
            have r6 := (((w_up_at (by first | decide | omega)).trans ((w_up_at (by first | decide | omega)).trans ((w_up_at (by first | decide | omega)).trans ((w_up_at (by first | decide | omega)).trans ((w_up_at (by first | decide | omega)).trans ((w_up_at (by first | decide | omega)).trans (w_up_same _ _ _ _))))))) : (w_up (w_up (w_up (w_up (w_up (w_up (w_up (w_up (w_up S0 158 4 215) 158 5 216) 158 6 s) 158 7 kd) 158 12 1) 158 8 ba) 158 9 gk) 158 10 gb) 158 13 0) 158 6 = s)
            have r7 := (((w_up_at (by first | decide | omega)).trans ((w_up_at (by first | decide | omega)).trans ((w_up_at (by first | decide | omega)).trans ((w_up_at (by first | decide | omega)).trans ((w_up_at (by first | decide | omega)).trans (w_up_same _ _ _ _)))))) : (w_up (w_up (w_up (w_up (w_up (w_up (w_up (w_up (w_up S0 158 4 215) 158 5 216) 158 6 s) 158 7 kd) 158 12 1) 158 8 ba) 158 9 gk) 158 10 gb) 158 13 0) 158 7 = kd)
            have r8 := (((w_up_at (by first | decide | omega)).trans ((w_up_at (by first | decide | omega)).trans ((w_up_at (by first | decide | omega)).trans (w_up_same _ _ _ _)))) : (w_up (w_up (w_up (w_up (w_up (w_up (w_up (w_up (w_up S0 158 4 215) 158 5 216) 158 6 s) 158 7 kd) 158 12 1) 158 8 ba) 158 9 gk) 158 10 gb) 158 13 0) 158 8 = ba)
            have r9 := (((w_up_at (by first | decide | omega)).trans ((w_up_at (by first | decide | omega)).trans (w_up_same _ _ _ _))) : (w_up (w_up (w_up (w_up (w_up (w_up (w_up (w_up (w_up S0 158 4 215) 158 5 216) 158 6 s) 158 7 kd) 158 12 1) 158 8 ba) 158 9 gk) 158 10 gb) 158 13 0) 158 9 = gk)
            have r10 := (((w_up_at (by first | decide | omega)).trans (w_up_same _ _ _ _)) : (w_up (w_up (w_up (w_up (w_up (w_up (w_up (w_up (w_up S0 158 4 215) 158 5 216) 158 6 s) 158 7 kd) 158 12 1) 158 8 ba) 158 9 gk) 158 10 gb) 158 13 0) 158 10 = gb)
            have r12 := (((w_up_at (by first | decide | omega)).trans ((w_up_at (by first | decide | omega)).trans ((w_up_at (by first | decide | omega)).trans ((w_up_at (by first | decide | omega)).trans (w_up_same _ _ _ _))))) : (w_up (w_up (w_up (w_up (w_up (w_up (w_up (w_up (w_up S0 158 4 215) 158 5 216) 158 6 s) 158 7 kd) 158 12 1) 158 8 ba) 158 9 gk) 158 10 gb) 158 13 0) 158 12 = 1)
            have r13 := ((w_up_same _ _ _ _) : (w_up (w_up (w_up (w_up (w_up (w_up (w_up (w_up (w_up S0 158 4 215) 158 5 216) 158 6 s) 158 7 kd) 158 12 1) 158 8 ba) 158 9 gk) 158 10 gb) 158 13 0) 158 13 = 0)
            refine ⟨⟨r4, r5, r6, r7, r8, r9, r10, r12.trans c12, r13⟩, fun j x hj => ?_⟩
            exact ((w_up_no (by omega)).trans ((w_up_no (by omega)).trans ((w_up_no (by omega)).trans ((w_up_no (by omega)).trans ((w_up_no (by omega)).trans ((w_up_no (by omega)).trans ((w_up_no (by omega)).trans ((w_up_no (by omega)).trans (w_up_no (by omega))))))))))
          exact wJ_S (aml_215 (bh := 1) (oe := 0) hP hlt hT hb2 hln hba hec hcl hcv hk cl.length 0 _ (by omega) hst) ⟨rfl, rfl, rfl, rfl, rfl, rfl, trivial⟩
        · skip
          exact absurd c548 (by omega)
      · skip
        exact absurd c546 (by omega)
set_option maxHeartbeats 4000000 in
theorem aml_226 {kd ec ba gk gb oe bh : Int} (hP : w_CL S0) (hlt : cLt S0 T) (hT : (T.length : Int) ≤ 8000) (hb2 : S0 229 (-1) = S0 228 (-1)) (hln : S0 228 (-1) ≤ 4095) (hba : 0 ≤ ba ∧ ba + 1 + ec ≤ S0 228 (-1)) (hec : ec = (cl.length : Int) ∧ cl.length ≤ 8) (hcl : esOk cl) (hcv : ∀ i : Nat, i < cl.length → clS S0 (S0 228 (ba + 1 + (i : Int))) (S0 229 (ba + 1 + (i : Int))) = cl.getD i 0 ∧ (0 ≤ S0 228 (ba + 1 + (i : Int)) ∧ S0 228 (ba + 1 + (i : Int)) ≤ 8) ∧ (S0 228 (ba + 1 + (i : Int)) = 7 → 0 ≤ S0 229 (ba + 1 + (i : Int)) ∧ S0 229 (ba + 1 + (i : Int)) < (T.length : Int) ∧ 0 ≤ S0 129 (S0 229 (ba + 1 + (i : Int))) ∧ S0 129 (S0 229 (ba + 1 + (i : Int))) < 60)) (hk : ∀ Z : wS, amI 226 s kd ec ba gk gb (esV cl) S0 Z → wJ (pe_GA xs) wY0 M (d + 4) t_XL_aim ((pe_at t_XL_aim.bl 10).getD (0, [])).2 [(0, (2, 158)), (1, (2, 226)), (2, (0, s)), (3, (0, oe))] [] Z Q) : ∀ (f i : Nat) (S : wS), i + f = cl.length → amI 226 s kd ec ba gk gb (esV (cl.take i)) S0 S → wJ (pe_GA xs) wY0 M (d + 4) t_XL_aim ((pe_at t_XL_aim.bl 9).getD (0, [])).2 [(0, (2, 158)), (1, (2, 226)), (2, (0, s)), (3, (0, oe)), (4, (0, bh)), (5, (0, (i : Int)))] [] S Q := by
  intro f
  induction f with
  | zero =>
    intro i S hi hs
    have ei : i = cl.length := by omega
    subst ei
    obtain ⟨⟨h1, h2, h3, h4, h5, h6, h7, h8, h10⟩, h9⟩ := id hs
    rw [List.take_length] at hs
    refine wa_iload (n := 5) rfl ?_
    refine wa_aload_n (n := 0) rfl ?_
    refine wb_gfi 158 rfl (wy_pr rfl) wt_158 wf_5_12 (v := ec) (h8) (fun r1 => ?_)
    refine wa_icmpge (w_rg0 (by omega) (by omega)) (w_rg0 (by omega) (by omega)) ⟨_, rfl⟩ (fun c2 => ?_) (fun c2 => ?_)
    · skip
      exact wJ_S (hk S hs) ⟨rfl, rfl, rfl, rfl, trivial⟩
    · skip
      exfalso; omega
  | succ f ih =>
    intro i S hi hs
    obtain ⟨⟨h1, h2, h3, h4, h5, h6, h7, h8, h10⟩, h9⟩ := id hs
    have ef : ∀ (j : Nat) (x : Int), j ≠ 158 → S j x = S0 j x := fun j x hj => h9 j x (Or.inl hj)
    obtain ⟨q1, q2, q3⟩ := hcv i (by omega)
    rw [← ef 228 _ (by first | decide | omega)] at q1 q2 q3
    rw [← ef 229 _ (by first | decide | omega)] at q1 q3
    have hC : w_CL S := fun q hq => (ef q.1 (-1) (by have h1 : ∀ q ∈ wz_n, q.1 ≠ 158 := (by first | decide | omega); exact h1 q hq)).trans (hP q hq)
    have hlt2 : cLt S T := by
      obtain ⟨q4, q5⟩ := hlt
      refine ⟨fun x hx => ?_, ?_⟩
      · rw [ef (127 + x) _ (by omega), ef 127 _ (by first | decide | omega)]; exact q4 x hx
      · rw [ef 127 _ (by first | decide | omega)]; exact q5
    have lt : (cl.take i).length = i := by rw [List.length_take]; omega
    have hesr := esV_rg (cl.take i) (fun x hx => hcl x (List.mem_of_mem_take hx))
    rw [lt] at hesr
    have hp8 := p7_le (n := i) (by omega)
    have hci : 0 ≤ cl.getD i 0 ∧ cl.getD i 0 < 128 := hcl _ (by rw [List.getD_eq_getElem?_getD, List.getElem?_eq_getElem (by omega)]; exact List.getElem_mem _)
    obtain ⟨ci, hcie⟩ : ∃ c : Int, c = cl.getD i 0 := ⟨_, rfl⟩
    obtain ⟨ev, heve⟩ : ∃ c : Int, c = esV (cl.take i) := ⟨_, rfl⟩
    have hadd := es_add (n := i) (by omega) hesr hci
    have hap : esV (cl.take (i + 1)) = esV (cl.take i) + cl.getD i 0 * p7 i := by
      have e : cl.take (i + 1) = cl.take i ++ [cl.getD i 0] := by
        rw [List.take_succ, List.getD_eq_getElem?_getD, List.getElem?_eq_getElem (by omega)]
        rfl
      rw [e, esV_ap, lt]
    have hesr2 := esV_rg (cl.take (i + 1)) (fun x hx => hcl x (List.mem_of_mem_take hx))
    rw [show (cl.take (i + 1)).length = i + 1 by rw [List.length_take]; omega] at hesr2
    have hp9 := p7_le (n := i + 1) (by omega)
    rw [← hap] at hadd
    rw [← heve, ← hcie] at hadd
    rw [← heve] at h10 hesr
    rw [← hcie] at q1 hci
    obtain ⟨en, hen⟩ : ∃ c : Int, c = esV (cl.take (i + 1)) := ⟨_, rfl⟩
    rw [← hen] at hadd hesr2
    have lk2 : S 228 (-1) = S0 228 (-1) := ef 228 _ (by first | decide | omega)
    have lk3 : S 229 (-1) = S0 228 (-1) := (ef 229 _ (by first | decide | omega)).trans hb2
    have q1c : clS S (S 228 (ba + 1 + (i : Int))) (S 229 (ba + 1 + (i : Int))) = ci := by
      rw [← q1]
      unfold clS
      rw [ef 129 _ (by first | decide | omega)]
    refine wa_iload (n := 5) rfl ?_
    refine wa_aload_n (n := 0) rfl ?_
    refine wb_gfi 158 rfl (wy_pr rfl) wt_158 wf_5_12 (v := ec) (h8) (fun r201 => ?_)
    refine wa_icmpge (w_rg0 (by omega) (by omega)) (w_rg0 (by omega) (by omega)) ⟨_, rfl⟩ (fun c202 => ?_) (fun c202 => ?_)
    · skip
      exfalso; omega
    · skip
      refine wa_aload_n (n := 0) rfl ?_
      refine wa_dup (by decide) ?_
      refine wb_gfl 158 rfl (wy_pr rfl) wt_158 wf_5_13 (v := ev) (h10) (fun r203 => ?_)
      refine wa_aload_n (n := 0) rfl ?_
      refine wb_gf4 158 rfl (wy_pr rfl) wt_158 wf_5_0 (v := 72) wl_158_0 ?_
      refine wa_aload_n (n := 0) rfl ?_
      refine wb_gf5 158 rfl (wy_pr rfl) wt_158 wf_5_5 (v := 227) (h2) (fun r204 => ?_)
      refine wb_gf4 227 rfl (wy_pr rfl) wt_227 wf_7_0 (v := 228) wl_227_0 ?_
      refine wa_aload_n (n := 0) rfl ?_
      refine wb_gfi 158 rfl (wy_pr rfl) wt_158 wf_5_8 (v := ba) (h5) (fun r205 => ?_)
      refine wa_iconst ?_
      refine wa_iadd ?_
      refine wa_iload (n := 5) rfl ?_
      refine wa_iadd ?_
      refine wb_bald 228 rfl (wy_pr rfl) wt_228 (n := (S0 228 (-1))) (lk2) (by omega) (by omega) (v := (S 228 ((ba + 1) + (i : Int)))) rfl (fun r206 => ?_)
      refine wa_aload_n (n := 0) rfl ?_
      refine wb_gf5 158 rfl (wy_pr rfl) wt_158 wf_5_5 (v := 227) (h2) (fun r207 => ?_)
      refine wb_gf4 227 rfl (wy_pr rfl) wt_227 wf_7_1 (v := 229) wl_227_1 ?_
      refine wa_aload_n (n := 0) rfl ?_
      refine wb_gfi 158 rfl (wy_pr rfl) wt_158 wf_5_8 (v := ba) (h5) (fun r208 => ?_)
      refine wa_iconst ?_
      refine wa_iadd ?_
      refine wa_iload (n := 5) rfl ?_
      refine wa_iadd ?_
      refine wb_lald 229 rfl (wy_pr rfl) wt_229 (n := (S0 228 (-1))) (lk3) (by omega) (by omega) (v := (S 229 ((ba + 1) + (i : Int)))) rfl (fun r209 => ?_)
      refine wa_cv 72 rfl (wy_pr rfl) wt_72 (M2 := fun _ => False) rfl at_XH_classOf ⟨_, rfl⟩ rfl rfl ⟨(Or.inr ⟨wy_pr rfl, fun q => q⟩), (Or.inr ⟨wy_pr rfl, fun q => q⟩), trivial, trivial, trivial, trivial, trivial⟩ ⟨trivial, (Or.inr ⟨wy_pr rfl, fun q => q⟩), trivial⟩ (fun _ _ q => False.elim q) (wJ_mono (co_ok (T := T) hC hlt2 hT q2 (fun z => by have y := q3 z; rw [← ef 129 _ (by decide)] at y; exact y) ⟨by omega, by omega⟩) (fun o Z hz => (⟨hz.1, by rw [← q1c]; exact hz.2⟩ : S = Z ∧ o = .inl (some (0, ci))))) (fun oq210 Sq210 hp211 q210 => ?_)
      rcases q210 with ⟨rfl, rfl⟩
      show wJ _ _ _ _ _ _ _ _ _ _
      refine wa_i2l (w_rg0 (by omega) (by omega)) ?_
      refine wa_bipush (w_rg2 (by omega) (by omega)) ?_
      refine wa_iload (n := 5) rfl ?_
      refine wa_imul ?_
      refine wa_lshl ?_
      refine wa_lor ?_
      rw [hadd]
      refine wb_pfl 158 rfl (wy_pr rfl) wt_158 wf_5_13 (n := 13) rfl ⟨(by omega), (by omega)⟩ ?_
      refine wa_iinc rfl rfl ?_
      refine wa_goto ⟨_, rfl⟩ ?_
      exact wJ_S (ih (i + 1) _ (by omega) (by rw [← hen]; exact amI_13 hs)) ⟨rfl, rfl, rfl, rfl, rfl, rfl, trivial⟩
set_option maxHeartbeats 4000000 in
theorem am_226 {kd ec ba gk gb bh ne h : Int} (hP : w_CL S0) (hlt : cLt S0 T) (hT : (T.length : Int) ≤ 8000) (hb2 : S0 229 (-1) = S0 228 (-1)) (hln : S0 228 (-1) ≤ 4095) (hba : 0 ≤ ba ∧ ba + 1 + ec ≤ S0 228 (-1)) (hec : ec = (cl.length : Int) ∧ cl.length ≤ 8) (hcl : esOk cl) (hcv : ∀ i : Nat, i < cl.length → clS S0 (S0 228 (ba + 1 + (i : Int))) (S0 229 (ba + 1 + (i : Int))) = cl.getD i 0 ∧ (0 ≤ S0 228 (ba + 1 + (i : Int)) ∧ S0 228 (ba + 1 + (i : Int)) ≤ 8) ∧ (S0 228 (ba + 1 + (i : Int)) = 7 → 0 ≤ S0 229 (ba + 1 + (i : Int)) ∧ S0 229 (ba + 1 + (i : Int)) < (T.length : Int) ∧ 0 ≤ S0 129 (S0 229 (ba + 1 + (i : Int))) ∧ S0 129 (S0 229 (ba + 1 + (i : Int))) < 60)) (hl : cSl S0) (hs : 0 ≤ s ∧ s < S0 35 (-1)) (hkd : S0 35 s = kd) (hkr : 0 ≤ kd ∧ kd ≤ 6) (hne : S0 37 s = ne) (hner : 0 ≤ ne ∧ ne ≤ 8) (hece : ec = if kd = 1 then 1 else ne) (hbhe : bh = if kd = 2 then 1 else if kd = 3 then 2 else ec) (hh : S0 227 2 = h) (hbae : ba = h - 1 - bh) (hhr : 0 ≤ h ∧ h ≤ S0 228 (-1)) (hgk : S0 228 ba = gk) (hgb : S0 229 ba = gb) (hk : ∀ Z : wS, amI 226 s kd ec ba gk gb (esV cl) S0 Z → wJ (pe_GA xs) wY0 M (d + 4) t_XL_aim ((pe_at t_XL_aim.bl 10).getD (0, [])).2 [(0, (2, 158)), (1, (2, 226)), (2, (0, s)), (3, (0, if kd = 2 ∨ kd = 3 then 1 else 0))] [] Z Q) : wJ (pe_GA xs) wY0 M (d + 4) t_XL_aim ((pe_at t_XL_aim.bl 0).getD (0, [])).2 [(0, (2, 158)), (1, (2, 226)), (2, (0, s))] [] S0 Q := by
  have hC := hP
  have h35 := hl.2.1
  refine wa_aload_n (n := 0) rfl ?_
  refine wa_aload_n (n := 1) rfl ?_
  refine wb_pfr 158 rfl (wy_pr rfl) wt_158 wf_5_4 (n := 4) rfl (Or.inr ⟨wy_pr rfl, by decide⟩) ?_
  refine wa_aload_n (n := 0) rfl ?_
  refine wa_aload_n (n := 1) rfl ?_
  refine wb_gf4 226 rfl (wy_pr rfl) wt_226 wf_8_3 (v := 227) wl_226_3 ?_
  refine wb_pfr 158 rfl (wy_pr rfl) wt_158 wf_5_5 (n := 5) rfl (Or.inr ⟨wy_pr rfl, by decide⟩) ?_
  refine wa_aload_n (n := 0) rfl ?_
  refine wa_iload_n (n := 2) rfl ?_
  refine wb_pfi 158 rfl (wy_pr rfl) wt_158 wf_5_6 (n := 6) rfl ⟨(by omega), (by omega)⟩ ?_
  refine wa_aload_n (n := 0) rfl ?_
  refine wa_aload_n (n := 0) rfl ?_
  refine wb_gf4 158 rfl (wy_pr rfl) wt_158 wf_5_2 (v := 34) wl_158_2 ?_
  refine wa_iconst ?_
  refine wb_aald5 34 0 rfl rfl (wy_pr rfl) wt_34 (by rw [show _ = _ from ((w_up_slot (by decide)).trans ((w_up_slot (by decide)).trans ((w_up_slot (by decide)).trans ((cl_34 hC)))))]; omega) wl_34_0 ?_
  refine wa_iload_n (n := 2) rfl ?_
  refine wb_iald 35 rfl (wy_pr rfl) wt_35 (n := (S0 35 (-1))) ((w_up_slot (by decide)).trans ((w_up_slot (by decide)).trans ((w_up_slot (by decide)).trans (rfl)))) (by omega) (by omega) (v := kd) ((w_up_slot (by decide)).trans ((w_up_slot (by decide)).trans ((w_up_slot (by decide)).trans (hkd)))) (fun r501 => ?_)
  refine wb_pfi 158 rfl (wy_pr rfl) wt_158 wf_5_7 (n := 7) rfl ⟨(by omega), (by omega)⟩ ?_
  refine wa_aload_n (n := 0) rfl ?_
  refine wa_aload_n (n := 0) rfl ?_
  refine wb_gfi 158 rfl (wy_pr rfl) wt_158 wf_5_7 (v := kd) (w_up_same _ _ _ _) (fun r502 => ?_)
  refine wa_iconst ?_
  refine wa_icmpne (w_rg0 (by omega) (by omega)) (w_rg0 (by omega) (by omega)) ⟨_, rfl⟩ (fun c503 => ?_) (fun c503 => ?_)
  · skip
    refine wa_aload_n (n := 0) rfl ?_
    refine wb_gf4 158 rfl (wy_pr rfl) wt_158 wf_5_2 (v := 34) wl_158_2 ?_
    refine wa_iconst ?_
    refine wb_aald5 34 2 rfl rfl (wy_pr rfl) wt_34 (by rw [show _ = _ from ((w_up_slot (by decide)).trans ((w_up_slot (by decide)).trans ((w_up_slot (by decide)).trans ((w_up_slot (by decide)).trans ((cl_34 hC))))))]; omega) wl_34_2 ?_
    refine wa_iload_n (n := 2) rfl ?_
    refine wb_iald 37 rfl (wy_pr rfl) wt_37 (n := (S0 35 (-1))) ((w_up_slot (by decide)).trans ((w_up_slot (by decide)).trans ((w_up_slot (by decide)).trans ((w_up_slot (by decide)).trans ((hl.1 2 (by decide))))))) (by omega) (by omega) (v := ne) ((w_up_slot (by decide)).trans ((w_up_slot (by decide)).trans ((w_up_slot (by decide)).trans ((w_up_slot (by decide)).trans (hne))))) (fun r504 => ?_)
    refine wa_fall ⟨_, rfl⟩ ?_
    refine wb_pfi 158 rfl (wy_pr rfl) wt_158 wf_5_12 (n := 12) rfl ⟨(by omega), (by omega)⟩ ?_
    refine wa_aload_n (n := 0) rfl ?_
    refine wb_gfi 158 rfl (wy_pr rfl) wt_158 wf_5_7 (v := kd) ((w_up_at (by decide)).trans (w_up_same _ _ _ _)) (fun r505 => ?_)
    refine wa_iconst ?_
    refine wa_icmpeq (w_rg0 (by omega) (by omega)) (w_rg0 (by omega) (by omega)) ⟨_, rfl⟩ (fun c506 => ?_) (fun c506 => ?_)
    · skip
      refine wa_iconst ?_
      refine wa_goto ⟨_, rfl⟩ ?_
      refine wa_istore_n (n := 3) rfl ?_
      refine wa_aload_n (n := 0) rfl ?_
      refine wb_gfi 158 rfl (wy_pr rfl) wt_158 wf_5_12 (v := ne) (w_up_same _ _ _ _) (fun r507 => ?_)
      refine wa_istore (n := 4) rfl ?_
      refine wa_iload_n (n := 3) rfl ?_
      refine wa_ifeq (w_rg0 (by omega) (by omega)) ⟨_, rfl⟩ (fun c508 => ?_) (fun c508 => ?_)
      · skip
        exact absurd c508 (by omega)
      · skip
        refine wa_aload_n (n := 0) rfl ?_
        refine wb_gfi 158 rfl (wy_pr rfl) wt_158 wf_5_7 (v := kd) ((w_up_at (by decide)).trans (w_up_same _ _ _ _)) (fun r509 => ?_)
        refine wa_iconst ?_
        refine wa_icmpne (w_rg0 (by omega) (by omega)) (w_rg0 (by omega) (by omega)) ⟨_, rfl⟩ (fun c510 => ?_) (fun c510 => ?_)
        · skip
          exact absurd c510 (by omega)
        · skip
          refine wa_iconst ?_
          refine wa_goto ⟨_, rfl⟩ ?_
          refine wa_istore (n := 4) rfl ?_
          refine wa_fall ⟨_, rfl⟩ ?_
          refine wa_aload_n (n := 0) rfl ?_
          refine wa_aload_n (n := 0) rfl ?_
          refine wb_gf5 158 rfl (wy_pr rfl) wt_158 wf_5_5 (v := 227) ((w_up_at (by decide)).trans ((w_up_at (by decide)).trans ((w_up_at (by decide)).trans (w_up_same _ _ _ _)))) (fun r511 => ?_)
          refine wb_gfi 227 rfl (wy_pr rfl) wt_227 wf_7_2 (v := h) ((w_up_slot (by decide)).trans ((w_up_slot (by decide)).trans ((w_up_slot (by decide)).trans ((w_up_slot (by decide)).trans ((w_up_slot (by decide)).trans (hh)))))) (fun r512 => ?_)
          refine wa_iconst ?_
          refine wa_isub ?_
          refine wa_iload (n := 4) rfl ?_
          refine wa_isub ?_
          rw [show (((h - 1) - 1) : Int) = ba by rw [hbae, hbhe, hece]; repeat first | rw [if_pos (by omega)] | rw [if_neg (by omega)]]
          refine wb_pfi 158 rfl (wy_pr rfl) wt_158 wf_5_8 (n := 8) rfl ⟨(by omega), (by omega)⟩ ?_
          refine wa_aload_n (n := 0) rfl ?_
          refine wa_aload_n (n := 0) rfl ?_
          refine wb_gf5 158 rfl (wy_pr rfl) wt_158 wf_5_5 (v := 227) ((w_up_at (by decide)).trans ((w_up_at (by decide)).trans ((w_up_at (by decide)).trans ((w_up_at (by decide)).trans (w_up_same _ _ _ _))))) (fun r513 => ?_)
          refine wb_gf4 227 rfl (wy_pr rfl) wt_227 wf_7_0 (v := 228) wl_227_0 ?_
          refine wa_aload_n (n := 0) rfl ?_
          refine wb_gfi 158 rfl (wy_pr rfl) wt_158 wf_5_8 (v := ba) (w_up_same _ _ _ _) (fun r514 => ?_)
          refine wb_bald 228 rfl (wy_pr rfl) wt_228 (n := (S0 228 (-1))) ((w_up_slot (by decide)).trans ((w_up_slot (by decide)).trans ((w_up_slot (by decide)).trans ((w_up_slot (by decide)).trans ((w_up_slot (by decide)).trans ((w_up_slot (by decide)).trans (rfl))))))) (by omega) (by omega) (v := gk) ((w_up_slot (by decide)).trans ((w_up_slot (by decide)).trans ((w_up_slot (by decide)).trans ((w_up_slot (by decide)).trans ((w_up_slot (by decide)).trans ((w_up_slot (by decide)).trans (hgk))))))) (fun r515 => ?_)
          refine wb_pfi 158 rfl (wy_pr rfl) wt_158 wf_5_9 (n := 9) rfl ⟨(by omega), (by omega)⟩ ?_
          refine wa_aload_n (n := 0) rfl ?_
          refine wa_aload_n (n := 0) rfl ?_
          refine wb_gf5 158 rfl (wy_pr rfl) wt_158 wf_5_5 (v := 227) ((w_up_at (by decide)).trans ((w_up_at (by decide)).trans ((w_up_at (by decide)).trans ((w_up_at (by decide)).trans ((w_up_at (by decide)).trans (w_up_same _ _ _ _)))))) (fun r516 => ?_)
          refine wb_gf4 227 rfl (wy_pr rfl) wt_227 wf_7_1 (v := 229) wl_227_1 ?_
          refine wa_aload_n (n := 0) rfl ?_
          refine wb_gfi 158 rfl (wy_pr rfl) wt_158 wf_5_8 (v := ba) ((w_up_at (by decide)).trans (w_up_same _ _ _ _)) (fun r517 => ?_)
          refine wb_lald 229 rfl (wy_pr rfl) wt_229 (n := (S0 228 (-1))) ((w_up_slot (by decide)).trans ((w_up_slot (by decide)).trans ((w_up_slot (by decide)).trans ((w_up_slot (by decide)).trans ((w_up_slot (by decide)).trans ((w_up_slot (by decide)).trans ((w_up_slot (by decide)).trans (hb2)))))))) (by omega) (by omega) (v := gb) ((w_up_slot (by decide)).trans ((w_up_slot (by decide)).trans ((w_up_slot (by decide)).trans ((w_up_slot (by decide)).trans ((w_up_slot (by decide)).trans ((w_up_slot (by decide)).trans ((w_up_slot (by decide)).trans (hgb)))))))) (fun r518 => ?_)
          refine wb_pfl 158 rfl (wy_pr rfl) wt_158 wf_5_10 (n := 10) rfl ⟨(by omega), (by omega)⟩ ?_
          refine wa_aload_n (n := 0) rfl ?_
          refine wb_lconst (m := 0) rfl ?_
          refine wb_pfl 158 rfl (wy_pr rfl) wt_158 wf_5_13 (n := 13) rfl ⟨(by omega), (by omega)⟩ ?_
          refine wa_iconst ?_
          refine wa_istore (n := 5) rfl ?_
          refine wa_fall ⟨_, rfl⟩ ?_
          have eoe : (if kd = 2 ∨ kd = 3 then 1 else 0 : Int) = 1 := by first | exact if_pos (by omega) | exact if_neg (by omega)
          rw [eoe] at hk
          have hst : amI 226 s kd ec ba gk gb (esV (cl.take 0)) S0 (w_up (w_up (w_up (w_up (w_up (w_up (w_up (w_up (w_up S0 158 4 226) 158 5 227) 158 6 s) 158 7 kd) 158 12 ne) 158 8 ba) 158 9 gk) 158 10 gb) 158 13 0) := by
            have e12 : ∀ x y : Int, x = y → ec = x → ec = y := fun x y q z => z.trans q
            have c12 : ne = ec := by first | (rw [hece, if_pos (by omega)]) | (rw [hece, if_neg (by omega)])
            have cbh : 1 = bh := by rw [hbhe]; first | (rw [if_pos (by omega)]) | (rw [if_neg (by omega), if_pos (by omega)]) | (rw [if_neg (by omega), if_neg (by omega)]; exact c12)
            have r4 := (((w_up_at (by first | decide | omega)).trans ((w_up_at (by first | decide | omega)).trans ((w_up_at (by first | decide | omega)).trans ((w_up_at (by first | decide | omega)).trans ((w_up_at (by first | decide | omega)).trans ((w_up_at (by first | decide | omega)).trans ((w_up_at (by first | decide | omega)).trans ((w_up_at (by first | decide | omega)).trans (w_up_same _ _ _ _))))))))) : (w_up (w_up (w_up (w_up (w_up (w_up (w_up (w_up (w_up S0 158 4 226) 158 5 227) 158 6 s) 158 7 kd) 158 12 ne) 158 8 ba) 158 9 gk) 158 10 gb) 158 13 0) 158 4 = 226)
            have r5 := (((w_up_at (by first | decide | omega)).trans ((w_up_at (by first | decide | omega)).trans ((w_up_at (by first | decide | omega)).trans ((w_up_at (by first | decide | omega)).trans ((w_up_at (by first | decide | omega)).trans ((w_up_at (by first | decide | omega)).trans ((w_up_at (by first | decide | omega)).trans (w_up_same _ _ _ _)))))))) : (w_up (w_up (w_up (w_up (w_up (w_up (w_up (w_up (w_up S0 158 4 226) 158 5 227) 158 6 s) 158 7 kd) 158 12 ne) 158 8 ba) 158 9 gk) 158 10 gb) 158 13 0) 158 5 = 227)
            have r6 := (((w_up_at (by first | decide | omega)).trans ((w_up_at (by first | decide | omega)).trans ((w_up_at (by first | decide | omega)).trans ((w_up_at (by first | decide | omega)).trans ((w_up_at (by first | decide | omega)).trans ((w_up_at (by first | decide | omega)).trans (w_up_same _ _ _ _))))))) : (w_up (w_up (w_up (w_up (w_up (w_up (w_up (w_up (w_up S0 158 4 226) 158 5 227) 158 6 s) 158 7 kd) 158 12 ne) 158 8 ba) 158 9 gk) 158 10 gb) 158 13 0) 158 6 = s)
            have r7 := (((w_up_at (by first | decide | omega)).trans ((w_up_at (by first | decide | omega)).trans ((w_up_at (by first | decide | omega)).trans ((w_up_at (by first | decide | omega)).trans ((w_up_at (by first | decide | omega)).trans (w_up_same _ _ _ _)))))) : (w_up (w_up (w_up (w_up (w_up (w_up (w_up (w_up (w_up S0 158 4 226) 158 5 227) 158 6 s) 158 7 kd) 158 12 ne) 158 8 ba) 158 9 gk) 158 10 gb) 158 13 0) 158 7 = kd)
            have r8 := (((w_up_at (by first | decide | omega)).trans ((w_up_at (by first | decide | omega)).trans ((w_up_at (by first | decide | omega)).trans (w_up_same _ _ _ _)))) : (w_up (w_up (w_up (w_up (w_up (w_up (w_up (w_up (w_up S0 158 4 226) 158 5 227) 158 6 s) 158 7 kd) 158 12 ne) 158 8 ba) 158 9 gk) 158 10 gb) 158 13 0) 158 8 = ba)
            have r9 := (((w_up_at (by first | decide | omega)).trans ((w_up_at (by first | decide | omega)).trans (w_up_same _ _ _ _))) : (w_up (w_up (w_up (w_up (w_up (w_up (w_up (w_up (w_up S0 158 4 226) 158 5 227) 158 6 s) 158 7 kd) 158 12 ne) 158 8 ba) 158 9 gk) 158 10 gb) 158 13 0) 158 9 = gk)
            have r10 := (((w_up_at (by first | decide | omega)).trans (w_up_same _ _ _ _)) : (w_up (w_up (w_up (w_up (w_up (w_up (w_up (w_up (w_up S0 158 4 226) 158 5 227) 158 6 s) 158 7 kd) 158 12 ne) 158 8 ba) 158 9 gk) 158 10 gb) 158 13 0) 158 10 = gb)
            have r12 := (((w_up_at (by first | decide | omega)).trans ((w_up_at (by first | decide | omega)).trans ((w_up_at (by first | decide | omega)).trans ((w_up_at (by first | decide | omega)).trans (w_up_same _ _ _ _))))) : (w_up (w_up (w_up (w_up (w_up (w_up (w_up (w_up (w_up S0 158 4 226) 158 5 227) 158 6 s) 158 7 kd) 158 12 ne) 158 8 ba) 158 9 gk) 158 10 gb) 158 13 0) 158 12 = ne)
            have r13 := ((w_up_same _ _ _ _) : (w_up (w_up (w_up (w_up (w_up (w_up (w_up (w_up (w_up S0 158 4 226) 158 5 227) 158 6 s) 158 7 kd) 158 12 ne) 158 8 ba) 158 9 gk) 158 10 gb) 158 13 0) 158 13 = 0)
            refine ⟨⟨r4, r5, r6, r7, r8, r9, r10, r12.trans c12, r13⟩, fun j x hj => ?_⟩
            exact ((w_up_no (by omega)).trans ((w_up_no (by omega)).trans ((w_up_no (by omega)).trans ((w_up_no (by omega)).trans ((w_up_no (by omega)).trans ((w_up_no (by omega)).trans ((w_up_no (by omega)).trans ((w_up_no (by omega)).trans (w_up_no (by omega))))))))))
          exact wJ_S (aml_226 (bh := 1) (oe := 1) hP hlt hT hb2 hln hba hec hcl hcv hk cl.length 0 _ (by omega) hst) ⟨rfl, rfl, rfl, rfl, rfl, rfl, trivial⟩
    · skip
      refine wa_aload_n (n := 0) rfl ?_
      refine wb_gfi 158 rfl (wy_pr rfl) wt_158 wf_5_7 (v := kd) ((w_up_at (by decide)).trans (w_up_same _ _ _ _)) (fun r519 => ?_)
      refine wa_iconst ?_
      refine wa_icmpne (w_rg0 (by omega) (by omega)) (w_rg0 (by omega) (by omega)) ⟨_, rfl⟩ (fun c520 => ?_) (fun c520 => ?_)
      · skip
        refine wa_iconst ?_
        refine wa_fall ⟨_, rfl⟩ ?_
        refine wa_istore_n (n := 3) rfl ?_
        refine wa_aload_n (n := 0) rfl ?_
        refine wb_gfi 158 rfl (wy_pr rfl) wt_158 wf_5_12 (v := ne) (w_up_same _ _ _ _) (fun r521 => ?_)
        refine wa_istore (n := 4) rfl ?_
        refine wa_iload_n (n := 3) rfl ?_
        refine wa_ifeq (w_rg0 (by omega) (by omega)) ⟨_, rfl⟩ (fun c522 => ?_) (fun c522 => ?_)
        · skip
          refine wa_aload_n (n := 0) rfl ?_
          refine wa_aload_n (n := 0) rfl ?_
          refine wb_gf5 158 rfl (wy_pr rfl) wt_158 wf_5_5 (v := 227) ((w_up_at (by decide)).trans ((w_up_at (by decide)).trans ((w_up_at (by decide)).trans (w_up_same _ _ _ _)))) (fun r523 => ?_)
          refine wb_gfi 227 rfl (wy_pr rfl) wt_227 wf_7_2 (v := h) ((w_up_slot (by decide)).trans ((w_up_slot (by decide)).trans ((w_up_slot (by decide)).trans ((w_up_slot (by decide)).trans ((w_up_slot (by decide)).trans (hh)))))) (fun r524 => ?_)
          refine wa_iconst ?_
          refine wa_isub ?_
          refine wa_iload (n := 4) rfl ?_
          refine wa_isub ?_
          rw [show (((h - 1) - ne) : Int) = ba by rw [hbae, hbhe, hece]; repeat first | rw [if_pos (by omega)] | rw [if_neg (by omega)]]
          refine wb_pfi 158 rfl (wy_pr rfl) wt_158 wf_5_8 (n := 8) rfl ⟨(by omega), (by omega)⟩ ?_
          refine wa_aload_n (n := 0) rfl ?_
          refine wa_aload_n (n := 0) rfl ?_
          refine wb_gf5 158 rfl (wy_pr rfl) wt_158 wf_5_5 (v := 227) ((w_up_at (by decide)).trans ((w_up_at (by decide)).trans ((w_up_at (by decide)).trans ((w_up_at (by decide)).trans (w_up_same _ _ _ _))))) (fun r525 => ?_)
          refine wb_gf4 227 rfl (wy_pr rfl) wt_227 wf_7_0 (v := 228) wl_227_0 ?_
          refine wa_aload_n (n := 0) rfl ?_
          refine wb_gfi 158 rfl (wy_pr rfl) wt_158 wf_5_8 (v := ba) (w_up_same _ _ _ _) (fun r526 => ?_)
          refine wb_bald 228 rfl (wy_pr rfl) wt_228 (n := (S0 228 (-1))) ((w_up_slot (by decide)).trans ((w_up_slot (by decide)).trans ((w_up_slot (by decide)).trans ((w_up_slot (by decide)).trans ((w_up_slot (by decide)).trans ((w_up_slot (by decide)).trans (rfl))))))) (by omega) (by omega) (v := gk) ((w_up_slot (by decide)).trans ((w_up_slot (by decide)).trans ((w_up_slot (by decide)).trans ((w_up_slot (by decide)).trans ((w_up_slot (by decide)).trans ((w_up_slot (by decide)).trans (hgk))))))) (fun r527 => ?_)
          refine wb_pfi 158 rfl (wy_pr rfl) wt_158 wf_5_9 (n := 9) rfl ⟨(by omega), (by omega)⟩ ?_
          refine wa_aload_n (n := 0) rfl ?_
          refine wa_aload_n (n := 0) rfl ?_
          refine wb_gf5 158 rfl (wy_pr rfl) wt_158 wf_5_5 (v := 227) ((w_up_at (by decide)).trans ((w_up_at (by decide)).trans ((w_up_at (by decide)).trans ((w_up_at (by decide)).trans ((w_up_at (by decide)).trans (w_up_same _ _ _ _)))))) (fun r528 => ?_)
          refine wb_gf4 227 rfl (wy_pr rfl) wt_227 wf_7_1 (v := 229) wl_227_1 ?_
          refine wa_aload_n (n := 0) rfl ?_
          refine wb_gfi 158 rfl (wy_pr rfl) wt_158 wf_5_8 (v := ba) ((w_up_at (by decide)).trans (w_up_same _ _ _ _)) (fun r529 => ?_)
          refine wb_lald 229 rfl (wy_pr rfl) wt_229 (n := (S0 228 (-1))) ((w_up_slot (by decide)).trans ((w_up_slot (by decide)).trans ((w_up_slot (by decide)).trans ((w_up_slot (by decide)).trans ((w_up_slot (by decide)).trans ((w_up_slot (by decide)).trans ((w_up_slot (by decide)).trans (hb2)))))))) (by omega) (by omega) (v := gb) ((w_up_slot (by decide)).trans ((w_up_slot (by decide)).trans ((w_up_slot (by decide)).trans ((w_up_slot (by decide)).trans ((w_up_slot (by decide)).trans ((w_up_slot (by decide)).trans ((w_up_slot (by decide)).trans (hgb)))))))) (fun r530 => ?_)
          refine wb_pfl 158 rfl (wy_pr rfl) wt_158 wf_5_10 (n := 10) rfl ⟨(by omega), (by omega)⟩ ?_
          refine wa_aload_n (n := 0) rfl ?_
          refine wb_lconst (m := 0) rfl ?_
          refine wb_pfl 158 rfl (wy_pr rfl) wt_158 wf_5_13 (n := 13) rfl ⟨(by omega), (by omega)⟩ ?_
          refine wa_iconst ?_
          refine wa_istore (n := 5) rfl ?_
          refine wa_fall ⟨_, rfl⟩ ?_
          have eoe : (if kd = 2 ∨ kd = 3 then 1 else 0 : Int) = 0 := by first | exact if_pos (by omega) | exact if_neg (by omega)
          rw [eoe] at hk
          have hst : amI 226 s kd ec ba gk gb (esV (cl.take 0)) S0 (w_up (w_up (w_up (w_up (w_up (w_up (w_up (w_up (w_up S0 158 4 226) 158 5 227) 158 6 s) 158 7 kd) 158 12 ne) 158 8 ba) 158 9 gk) 158 10 gb) 158 13 0) := by
            have e12 : ∀ x y : Int, x = y → ec = x → ec = y := fun x y q z => z.trans q
            have c12 : ne = ec := by first | (rw [hece, if_pos (by omega)]) | (rw [hece, if_neg (by omega)])
            have cbh : ne = bh := by rw [hbhe]; first | (rw [if_pos (by omega)]) | (rw [if_neg (by omega), if_pos (by omega)]) | (rw [if_neg (by omega), if_neg (by omega)]; exact c12)
            have r4 := (((w_up_at (by first | decide | omega)).trans ((w_up_at (by first | decide | omega)).trans ((w_up_at (by first | decide | omega)).trans ((w_up_at (by first | decide | omega)).trans ((w_up_at (by first | decide | omega)).trans ((w_up_at (by first | decide | omega)).trans ((w_up_at (by first | decide | omega)).trans ((w_up_at (by first | decide | omega)).trans (w_up_same _ _ _ _))))))))) : (w_up (w_up (w_up (w_up (w_up (w_up (w_up (w_up (w_up S0 158 4 226) 158 5 227) 158 6 s) 158 7 kd) 158 12 ne) 158 8 ba) 158 9 gk) 158 10 gb) 158 13 0) 158 4 = 226)
            have r5 := (((w_up_at (by first | decide | omega)).trans ((w_up_at (by first | decide | omega)).trans ((w_up_at (by first | decide | omega)).trans ((w_up_at (by first | decide | omega)).trans ((w_up_at (by first | decide | omega)).trans ((w_up_at (by first | decide | omega)).trans ((w_up_at (by first | decide | omega)).trans (w_up_same _ _ _ _)))))))) : (w_up (w_up (w_up (w_up (w_up (w_up (w_up (w_up (w_up S0 158 4 226) 158 5 227) 158 6 s) 158 7 kd) 158 12 ne) 158 8 ba) 158 9 gk) 158 10 gb) 158 13 0) 158 5 = 227)
            have r6 := (((w_up_at (by first | decide | omega)).trans ((w_up_at (by first | decide | omega)).trans ((w_up_at (by first | decide | omega)).trans ((w_up_at (by first | decide | omega)).trans ((w_up_at (by first | decide | omega)).trans ((w_up_at (by first | decide | omega)).trans (w_up_same _ _ _ _))))))) : (w_up (w_up (w_up (w_up (w_up (w_up (w_up (w_up (w_up S0 158 4 226) 158 5 227) 158 6 s) 158 7 kd) 158 12 ne) 158 8 ba) 158 9 gk) 158 10 gb) 158 13 0) 158 6 = s)
            have r7 := (((w_up_at (by first | decide | omega)).trans ((w_up_at (by first | decide | omega)).trans ((w_up_at (by first | decide | omega)).trans ((w_up_at (by first | decide | omega)).trans ((w_up_at (by first | decide | omega)).trans (w_up_same _ _ _ _)))))) : (w_up (w_up (w_up (w_up (w_up (w_up (w_up (w_up (w_up S0 158 4 226) 158 5 227) 158 6 s) 158 7 kd) 158 12 ne) 158 8 ba) 158 9 gk) 158 10 gb) 158 13 0) 158 7 = kd)
            have r8 := (((w_up_at (by first | decide | omega)).trans ((w_up_at (by first | decide | omega)).trans ((w_up_at (by first | decide | omega)).trans (w_up_same _ _ _ _)))) : (w_up (w_up (w_up (w_up (w_up (w_up (w_up (w_up (w_up S0 158 4 226) 158 5 227) 158 6 s) 158 7 kd) 158 12 ne) 158 8 ba) 158 9 gk) 158 10 gb) 158 13 0) 158 8 = ba)
            have r9 := (((w_up_at (by first | decide | omega)).trans ((w_up_at (by first | decide | omega)).trans (w_up_same _ _ _ _))) : (w_up (w_up (w_up (w_up (w_up (w_up (w_up (w_up (w_up S0 158 4 226) 158 5 227) 158 6 s) 158 7 kd) 158 12 ne) 158 8 ba) 158 9 gk) 158 10 gb) 158 13 0) 158 9 = gk)
            have r10 := (((w_up_at (by first | decide | omega)).trans (w_up_same _ _ _ _)) : (w_up (w_up (w_up (w_up (w_up (w_up (w_up (w_up (w_up S0 158 4 226) 158 5 227) 158 6 s) 158 7 kd) 158 12 ne) 158 8 ba) 158 9 gk) 158 10 gb) 158 13 0) 158 10 = gb)
            have r12 := (((w_up_at (by first | decide | omega)).trans ((w_up_at (by first | decide | omega)).trans ((w_up_at (by first | decide | omega)).trans ((w_up_at (by first | decide | omega)).trans (w_up_same _ _ _ _))))) : (w_up (w_up (w_up (w_up (w_up (w_up (w_up (w_up (w_up S0 158 4 226) 158 5 227) 158 6 s) 158 7 kd) 158 12 ne) 158 8 ba) 158 9 gk) 158 10 gb) 158 13 0) 158 12 = ne)
            have r13 := ((w_up_same _ _ _ _) : (w_up (w_up (w_up (w_up (w_up (w_up (w_up (w_up (w_up S0 158 4 226) 158 5 227) 158 6 s) 158 7 kd) 158 12 ne) 158 8 ba) 158 9 gk) 158 10 gb) 158 13 0) 158 13 = 0)
            refine ⟨⟨r4, r5, r6, r7, r8, r9, r10, r12.trans c12, r13⟩, fun j x hj => ?_⟩
            exact ((w_up_no (by omega)).trans ((w_up_no (by omega)).trans ((w_up_no (by omega)).trans ((w_up_no (by omega)).trans ((w_up_no (by omega)).trans ((w_up_no (by omega)).trans ((w_up_no (by omega)).trans ((w_up_no (by omega)).trans (w_up_no (by omega))))))))))
          exact wJ_S (aml_226 (bh := ne) (oe := 0) hP hlt hT hb2 hln hba hec hcl hcv hk cl.length 0 _ (by omega) hst) ⟨rfl, rfl, rfl, rfl, rfl, rfl, trivial⟩
        · skip
          exact absurd c522 (by omega)
      · skip
        refine wa_fall ⟨_, rfl⟩ ?_
        refine wa_iconst ?_
        refine wa_goto ⟨_, rfl⟩ ?_
        refine wa_istore_n (n := 3) rfl ?_
        refine wa_aload_n (n := 0) rfl ?_
        refine wb_gfi 158 rfl (wy_pr rfl) wt_158 wf_5_12 (v := ne) (w_up_same _ _ _ _) (fun r531 => ?_)
        refine wa_istore (n := 4) rfl ?_
        refine wa_iload_n (n := 3) rfl ?_
        refine wa_ifeq (w_rg0 (by omega) (by omega)) ⟨_, rfl⟩ (fun c532 => ?_) (fun c532 => ?_)
        · skip
          exact absurd c532 (by omega)
        · skip
          refine wa_aload_n (n := 0) rfl ?_
          refine wb_gfi 158 rfl (wy_pr rfl) wt_158 wf_5_7 (v := kd) ((w_up_at (by decide)).trans (w_up_same _ _ _ _)) (fun r533 => ?_)
          refine wa_iconst ?_
          refine wa_icmpne (w_rg0 (by omega) (by omega)) (w_rg0 (by omega) (by omega)) ⟨_, rfl⟩ (fun c534 => ?_) (fun c534 => ?_)
          · skip
            refine wa_iconst ?_
            refine wa_fall ⟨_, rfl⟩ ?_
            refine wa_istore (n := 4) rfl ?_
            refine wa_fall ⟨_, rfl⟩ ?_
            refine wa_aload_n (n := 0) rfl ?_
            refine wa_aload_n (n := 0) rfl ?_
            refine wb_gf5 158 rfl (wy_pr rfl) wt_158 wf_5_5 (v := 227) ((w_up_at (by decide)).trans ((w_up_at (by decide)).trans ((w_up_at (by decide)).trans (w_up_same _ _ _ _)))) (fun r535 => ?_)
            refine wb_gfi 227 rfl (wy_pr rfl) wt_227 wf_7_2 (v := h) ((w_up_slot (by decide)).trans ((w_up_slot (by decide)).trans ((w_up_slot (by decide)).trans ((w_up_slot (by decide)).trans ((w_up_slot (by decide)).trans (hh)))))) (fun r536 => ?_)
            refine wa_iconst ?_
            refine wa_isub ?_
            refine wa_iload (n := 4) rfl ?_
            refine wa_isub ?_
            rw [show (((h - 1) - 2) : Int) = ba by rw [hbae, hbhe, hece]; repeat first | rw [if_pos (by omega)] | rw [if_neg (by omega)]]
            refine wb_pfi 158 rfl (wy_pr rfl) wt_158 wf_5_8 (n := 8) rfl ⟨(by omega), (by omega)⟩ ?_
            refine wa_aload_n (n := 0) rfl ?_
            refine wa_aload_n (n := 0) rfl ?_
            refine wb_gf5 158 rfl (wy_pr rfl) wt_158 wf_5_5 (v := 227) ((w_up_at (by decide)).trans ((w_up_at (by decide)).trans ((w_up_at (by decide)).trans ((w_up_at (by decide)).trans (w_up_same _ _ _ _))))) (fun r537 => ?_)
            refine wb_gf4 227 rfl (wy_pr rfl) wt_227 wf_7_0 (v := 228) wl_227_0 ?_
            refine wa_aload_n (n := 0) rfl ?_
            refine wb_gfi 158 rfl (wy_pr rfl) wt_158 wf_5_8 (v := ba) (w_up_same _ _ _ _) (fun r538 => ?_)
            refine wb_bald 228 rfl (wy_pr rfl) wt_228 (n := (S0 228 (-1))) ((w_up_slot (by decide)).trans ((w_up_slot (by decide)).trans ((w_up_slot (by decide)).trans ((w_up_slot (by decide)).trans ((w_up_slot (by decide)).trans ((w_up_slot (by decide)).trans (rfl))))))) (by omega) (by omega) (v := gk) ((w_up_slot (by decide)).trans ((w_up_slot (by decide)).trans ((w_up_slot (by decide)).trans ((w_up_slot (by decide)).trans ((w_up_slot (by decide)).trans ((w_up_slot (by decide)).trans (hgk))))))) (fun r539 => ?_)
            refine wb_pfi 158 rfl (wy_pr rfl) wt_158 wf_5_9 (n := 9) rfl ⟨(by omega), (by omega)⟩ ?_
            refine wa_aload_n (n := 0) rfl ?_
            refine wa_aload_n (n := 0) rfl ?_
            refine wb_gf5 158 rfl (wy_pr rfl) wt_158 wf_5_5 (v := 227) ((w_up_at (by decide)).trans ((w_up_at (by decide)).trans ((w_up_at (by decide)).trans ((w_up_at (by decide)).trans ((w_up_at (by decide)).trans (w_up_same _ _ _ _)))))) (fun r540 => ?_)
            refine wb_gf4 227 rfl (wy_pr rfl) wt_227 wf_7_1 (v := 229) wl_227_1 ?_
            refine wa_aload_n (n := 0) rfl ?_
            refine wb_gfi 158 rfl (wy_pr rfl) wt_158 wf_5_8 (v := ba) ((w_up_at (by decide)).trans (w_up_same _ _ _ _)) (fun r541 => ?_)
            refine wb_lald 229 rfl (wy_pr rfl) wt_229 (n := (S0 228 (-1))) ((w_up_slot (by decide)).trans ((w_up_slot (by decide)).trans ((w_up_slot (by decide)).trans ((w_up_slot (by decide)).trans ((w_up_slot (by decide)).trans ((w_up_slot (by decide)).trans ((w_up_slot (by decide)).trans (hb2)))))))) (by omega) (by omega) (v := gb) ((w_up_slot (by decide)).trans ((w_up_slot (by decide)).trans ((w_up_slot (by decide)).trans ((w_up_slot (by decide)).trans ((w_up_slot (by decide)).trans ((w_up_slot (by decide)).trans ((w_up_slot (by decide)).trans (hgb)))))))) (fun r542 => ?_)
            refine wb_pfl 158 rfl (wy_pr rfl) wt_158 wf_5_10 (n := 10) rfl ⟨(by omega), (by omega)⟩ ?_
            refine wa_aload_n (n := 0) rfl ?_
            refine wb_lconst (m := 0) rfl ?_
            refine wb_pfl 158 rfl (wy_pr rfl) wt_158 wf_5_13 (n := 13) rfl ⟨(by omega), (by omega)⟩ ?_
            refine wa_iconst ?_
            refine wa_istore (n := 5) rfl ?_
            refine wa_fall ⟨_, rfl⟩ ?_
            have eoe : (if kd = 2 ∨ kd = 3 then 1 else 0 : Int) = 1 := by first | exact if_pos (by omega) | exact if_neg (by omega)
            rw [eoe] at hk
            have hst : amI 226 s kd ec ba gk gb (esV (cl.take 0)) S0 (w_up (w_up (w_up (w_up (w_up (w_up (w_up (w_up (w_up S0 158 4 226) 158 5 227) 158 6 s) 158 7 kd) 158 12 ne) 158 8 ba) 158 9 gk) 158 10 gb) 158 13 0) := by
              have e12 : ∀ x y : Int, x = y → ec = x → ec = y := fun x y q z => z.trans q
              have c12 : ne = ec := by first | (rw [hece, if_pos (by omega)]) | (rw [hece, if_neg (by omega)])
              have cbh : 2 = bh := by rw [hbhe]; first | (rw [if_pos (by omega)]) | (rw [if_neg (by omega), if_pos (by omega)]) | (rw [if_neg (by omega), if_neg (by omega)]; exact c12)
              have r4 := (((w_up_at (by first | decide | omega)).trans ((w_up_at (by first | decide | omega)).trans ((w_up_at (by first | decide | omega)).trans ((w_up_at (by first | decide | omega)).trans ((w_up_at (by first | decide | omega)).trans ((w_up_at (by first | decide | omega)).trans ((w_up_at (by first | decide | omega)).trans ((w_up_at (by first | decide | omega)).trans (w_up_same _ _ _ _))))))))) : (w_up (w_up (w_up (w_up (w_up (w_up (w_up (w_up (w_up S0 158 4 226) 158 5 227) 158 6 s) 158 7 kd) 158 12 ne) 158 8 ba) 158 9 gk) 158 10 gb) 158 13 0) 158 4 = 226)
              have r5 := (((w_up_at (by first | decide | omega)).trans ((w_up_at (by first | decide | omega)).trans ((w_up_at (by first | decide | omega)).trans ((w_up_at (by first | decide | omega)).trans ((w_up_at (by first | decide | omega)).trans ((w_up_at (by first | decide | omega)).trans ((w_up_at (by first | decide | omega)).trans (w_up_same _ _ _ _)))))))) : (w_up (w_up (w_up (w_up (w_up (w_up (w_up (w_up (w_up S0 158 4 226) 158 5 227) 158 6 s) 158 7 kd) 158 12 ne) 158 8 ba) 158 9 gk) 158 10 gb) 158 13 0) 158 5 = 227)
              have r6 := (((w_up_at (by first | decide | omega)).trans ((w_up_at (by first | decide | omega)).trans ((w_up_at (by first | decide | omega)).trans ((w_up_at (by first | decide | omega)).trans ((w_up_at (by first | decide | omega)).trans ((w_up_at (by first | decide | omega)).trans (w_up_same _ _ _ _))))))) : (w_up (w_up (w_up (w_up (w_up (w_up (w_up (w_up (w_up S0 158 4 226) 158 5 227) 158 6 s) 158 7 kd) 158 12 ne) 158 8 ba) 158 9 gk) 158 10 gb) 158 13 0) 158 6 = s)
              have r7 := (((w_up_at (by first | decide | omega)).trans ((w_up_at (by first | decide | omega)).trans ((w_up_at (by first | decide | omega)).trans ((w_up_at (by first | decide | omega)).trans ((w_up_at (by first | decide | omega)).trans (w_up_same _ _ _ _)))))) : (w_up (w_up (w_up (w_up (w_up (w_up (w_up (w_up (w_up S0 158 4 226) 158 5 227) 158 6 s) 158 7 kd) 158 12 ne) 158 8 ba) 158 9 gk) 158 10 gb) 158 13 0) 158 7 = kd)
              have r8 := (((w_up_at (by first | decide | omega)).trans ((w_up_at (by first | decide | omega)).trans ((w_up_at (by first | decide | omega)).trans (w_up_same _ _ _ _)))) : (w_up (w_up (w_up (w_up (w_up (w_up (w_up (w_up (w_up S0 158 4 226) 158 5 227) 158 6 s) 158 7 kd) 158 12 ne) 158 8 ba) 158 9 gk) 158 10 gb) 158 13 0) 158 8 = ba)
              have r9 := (((w_up_at (by first | decide | omega)).trans ((w_up_at (by first | decide | omega)).trans (w_up_same _ _ _ _))) : (w_up (w_up (w_up (w_up (w_up (w_up (w_up (w_up (w_up S0 158 4 226) 158 5 227) 158 6 s) 158 7 kd) 158 12 ne) 158 8 ba) 158 9 gk) 158 10 gb) 158 13 0) 158 9 = gk)
              have r10 := (((w_up_at (by first | decide | omega)).trans (w_up_same _ _ _ _)) : (w_up (w_up (w_up (w_up (w_up (w_up (w_up (w_up (w_up S0 158 4 226) 158 5 227) 158 6 s) 158 7 kd) 158 12 ne) 158 8 ba) 158 9 gk) 158 10 gb) 158 13 0) 158 10 = gb)
              have r12 := (((w_up_at (by first | decide | omega)).trans ((w_up_at (by first | decide | omega)).trans ((w_up_at (by first | decide | omega)).trans ((w_up_at (by first | decide | omega)).trans (w_up_same _ _ _ _))))) : (w_up (w_up (w_up (w_up (w_up (w_up (w_up (w_up (w_up S0 158 4 226) 158 5 227) 158 6 s) 158 7 kd) 158 12 ne) 158 8 ba) 158 9 gk) 158 10 gb) 158 13 0) 158 12 = ne)
              have r13 := ((w_up_same _ _ _ _) : (w_up (w_up (w_up (w_up (w_up (w_up (w_up (w_up (w_up S0 158 4 226) 158 5 227) 158 6 s) 158 7 kd) 158 12 ne) 158 8 ba) 158 9 gk) 158 10 gb) 158 13 0) 158 13 = 0)
              refine ⟨⟨r4, r5, r6, r7, r8, r9, r10, r12.trans c12, r13⟩, fun j x hj => ?_⟩
              exact ((w_up_no (by omega)).trans ((w_up_no (by omega)).trans ((w_up_no (by omega)).trans ((w_up_no (by omega)).trans ((w_up_no (by omega)).trans ((w_up_no (by omega)).trans ((w_up_no (by omega)).trans ((w_up_no (by omega)).trans (w_up_no (by omega))))))))))
            exact wJ_S (aml_226 (bh := 2) (oe := 1) hP hlt hT hb2 hln hba hec hcl hcv hk cl.length 0 _ (by omega) hst) ⟨rfl, rfl, rfl, rfl, rfl, rfl, trivial⟩
          · skip
            exact absurd c534 (by omega)
  · skip
    refine wa_iconst ?_
    refine wa_goto ⟨_, rfl⟩ ?_
    refine wb_pfi 158 rfl (wy_pr rfl) wt_158 wf_5_12 (n := 12) rfl ⟨(by omega), (by omega)⟩ ?_
    refine wa_aload_n (n := 0) rfl ?_
    refine wb_gfi 158 rfl (wy_pr rfl) wt_158 wf_5_7 (v := kd) ((w_up_at (by decide)).trans (w_up_same _ _ _ _)) (fun r543 => ?_)
    refine wa_iconst ?_
    refine wa_icmpeq (w_rg0 (by omega) (by omega)) (w_rg0 (by omega) (by omega)) ⟨_, rfl⟩ (fun c544 => ?_) (fun c544 => ?_)
    · skip
      exact absurd c544 (by omega)
    · skip
      refine wa_aload_n (n := 0) rfl ?_
      refine wb_gfi 158 rfl (wy_pr rfl) wt_158 wf_5_7 (v := kd) ((w_up_at (by decide)).trans (w_up_same _ _ _ _)) (fun r545 => ?_)
      refine wa_iconst ?_
      refine wa_icmpne (w_rg0 (by omega) (by omega)) (w_rg0 (by omega) (by omega)) ⟨_, rfl⟩ (fun c546 => ?_) (fun c546 => ?_)
      · skip
        refine wa_iconst ?_
        refine wa_fall ⟨_, rfl⟩ ?_
        refine wa_istore_n (n := 3) rfl ?_
        refine wa_aload_n (n := 0) rfl ?_
        refine wb_gfi 158 rfl (wy_pr rfl) wt_158 wf_5_12 (v := 1) (w_up_same _ _ _ _) (fun r547 => ?_)
        refine wa_istore (n := 4) rfl ?_
        refine wa_iload_n (n := 3) rfl ?_
        refine wa_ifeq (w_rg0 (by omega) (by omega)) ⟨_, rfl⟩ (fun c548 => ?_) (fun c548 => ?_)
        · skip
          refine wa_aload_n (n := 0) rfl ?_
          refine wa_aload_n (n := 0) rfl ?_
          refine wb_gf5 158 rfl (wy_pr rfl) wt_158 wf_5_5 (v := 227) ((w_up_at (by decide)).trans ((w_up_at (by decide)).trans ((w_up_at (by decide)).trans (w_up_same _ _ _ _)))) (fun r549 => ?_)
          refine wb_gfi 227 rfl (wy_pr rfl) wt_227 wf_7_2 (v := h) ((w_up_slot (by decide)).trans ((w_up_slot (by decide)).trans ((w_up_slot (by decide)).trans ((w_up_slot (by decide)).trans ((w_up_slot (by decide)).trans (hh)))))) (fun r550 => ?_)
          refine wa_iconst ?_
          refine wa_isub ?_
          refine wa_iload (n := 4) rfl ?_
          refine wa_isub ?_
          rw [show (((h - 1) - 1) : Int) = ba by rw [hbae, hbhe, hece]; repeat first | rw [if_pos (by omega)] | rw [if_neg (by omega)]]
          refine wb_pfi 158 rfl (wy_pr rfl) wt_158 wf_5_8 (n := 8) rfl ⟨(by omega), (by omega)⟩ ?_
          refine wa_aload_n (n := 0) rfl ?_
          refine wa_aload_n (n := 0) rfl ?_
          refine wb_gf5 158 rfl (wy_pr rfl) wt_158 wf_5_5 (v := 227) ((w_up_at (by decide)).trans ((w_up_at (by decide)).trans ((w_up_at (by decide)).trans ((w_up_at (by decide)).trans (w_up_same _ _ _ _))))) (fun r551 => ?_)
          refine wb_gf4 227 rfl (wy_pr rfl) wt_227 wf_7_0 (v := 228) wl_227_0 ?_
          refine wa_aload_n (n := 0) rfl ?_
          refine wb_gfi 158 rfl (wy_pr rfl) wt_158 wf_5_8 (v := ba) (w_up_same _ _ _ _) (fun r552 => ?_)
          refine wb_bald 228 rfl (wy_pr rfl) wt_228 (n := (S0 228 (-1))) ((w_up_slot (by decide)).trans ((w_up_slot (by decide)).trans ((w_up_slot (by decide)).trans ((w_up_slot (by decide)).trans ((w_up_slot (by decide)).trans ((w_up_slot (by decide)).trans (rfl))))))) (by omega) (by omega) (v := gk) ((w_up_slot (by decide)).trans ((w_up_slot (by decide)).trans ((w_up_slot (by decide)).trans ((w_up_slot (by decide)).trans ((w_up_slot (by decide)).trans ((w_up_slot (by decide)).trans (hgk))))))) (fun r553 => ?_)
          refine wb_pfi 158 rfl (wy_pr rfl) wt_158 wf_5_9 (n := 9) rfl ⟨(by omega), (by omega)⟩ ?_
          refine wa_aload_n (n := 0) rfl ?_
          refine wa_aload_n (n := 0) rfl ?_
          refine wb_gf5 158 rfl (wy_pr rfl) wt_158 wf_5_5 (v := 227) ((w_up_at (by decide)).trans ((w_up_at (by decide)).trans ((w_up_at (by decide)).trans ((w_up_at (by decide)).trans ((w_up_at (by decide)).trans (w_up_same _ _ _ _)))))) (fun r554 => ?_)
          refine wb_gf4 227 rfl (wy_pr rfl) wt_227 wf_7_1 (v := 229) wl_227_1 ?_
          refine wa_aload_n (n := 0) rfl ?_
          refine wb_gfi 158 rfl (wy_pr rfl) wt_158 wf_5_8 (v := ba) ((w_up_at (by decide)).trans (w_up_same _ _ _ _)) (fun r555 => ?_)
          refine wb_lald 229 rfl (wy_pr rfl) wt_229 (n := (S0 228 (-1))) ((w_up_slot (by decide)).trans ((w_up_slot (by decide)).trans ((w_up_slot (by decide)).trans ((w_up_slot (by decide)).trans ((w_up_slot (by decide)).trans ((w_up_slot (by decide)).trans ((w_up_slot (by decide)).trans (hb2)))))))) (by omega) (by omega) (v := gb) ((w_up_slot (by decide)).trans ((w_up_slot (by decide)).trans ((w_up_slot (by decide)).trans ((w_up_slot (by decide)).trans ((w_up_slot (by decide)).trans ((w_up_slot (by decide)).trans ((w_up_slot (by decide)).trans (hgb)))))))) (fun r556 => ?_)
          refine wb_pfl 158 rfl (wy_pr rfl) wt_158 wf_5_10 (n := 10) rfl ⟨(by omega), (by omega)⟩ ?_
          refine wa_aload_n (n := 0) rfl ?_
          refine wb_lconst (m := 0) rfl ?_
          refine wb_pfl 158 rfl (wy_pr rfl) wt_158 wf_5_13 (n := 13) rfl ⟨(by omega), (by omega)⟩ ?_
          refine wa_iconst ?_
          refine wa_istore (n := 5) rfl ?_
          refine wa_fall ⟨_, rfl⟩ ?_
          have eoe : (if kd = 2 ∨ kd = 3 then 1 else 0 : Int) = 0 := by first | exact if_pos (by omega) | exact if_neg (by omega)
          rw [eoe] at hk
          have hst : amI 226 s kd ec ba gk gb (esV (cl.take 0)) S0 (w_up (w_up (w_up (w_up (w_up (w_up (w_up (w_up (w_up S0 158 4 226) 158 5 227) 158 6 s) 158 7 kd) 158 12 1) 158 8 ba) 158 9 gk) 158 10 gb) 158 13 0) := by
            have e12 : ∀ x y : Int, x = y → ec = x → ec = y := fun x y q z => z.trans q
            have c12 : 1 = ec := by first | (rw [hece, if_pos (by omega)]) | (rw [hece, if_neg (by omega)])
            have cbh : 1 = bh := by rw [hbhe]; first | (rw [if_pos (by omega)]) | (rw [if_neg (by omega), if_pos (by omega)]) | (rw [if_neg (by omega), if_neg (by omega)]; exact c12)
            have r4 := (((w_up_at (by first | decide | omega)).trans ((w_up_at (by first | decide | omega)).trans ((w_up_at (by first | decide | omega)).trans ((w_up_at (by first | decide | omega)).trans ((w_up_at (by first | decide | omega)).trans ((w_up_at (by first | decide | omega)).trans ((w_up_at (by first | decide | omega)).trans ((w_up_at (by first | decide | omega)).trans (w_up_same _ _ _ _))))))))) : (w_up (w_up (w_up (w_up (w_up (w_up (w_up (w_up (w_up S0 158 4 226) 158 5 227) 158 6 s) 158 7 kd) 158 12 1) 158 8 ba) 158 9 gk) 158 10 gb) 158 13 0) 158 4 = 226)
            have r5 := (((w_up_at (by first | decide | omega)).trans ((w_up_at (by first | decide | omega)).trans ((w_up_at (by first | decide | omega)).trans ((w_up_at (by first | decide | omega)).trans ((w_up_at (by first | decide | omega)).trans ((w_up_at (by first | decide | omega)).trans ((w_up_at (by first | decide | omega)).trans (w_up_same _ _ _ _)))))))) : (w_up (w_up (w_up (w_up (w_up (w_up (w_up (w_up (w_up S0 158 4 226) 158 5 227) 158 6 s) 158 7 kd) 158 12 1) 158 8 ba) 158 9 gk) 158 10 gb) 158 13 0) 158 5 = 227)
            have r6 := (((w_up_at (by first | decide | omega)).trans ((w_up_at (by first | decide | omega)).trans ((w_up_at (by first | decide | omega)).trans ((w_up_at (by first | decide | omega)).trans ((w_up_at (by first | decide | omega)).trans ((w_up_at (by first | decide | omega)).trans (w_up_same _ _ _ _))))))) : (w_up (w_up (w_up (w_up (w_up (w_up (w_up (w_up (w_up S0 158 4 226) 158 5 227) 158 6 s) 158 7 kd) 158 12 1) 158 8 ba) 158 9 gk) 158 10 gb) 158 13 0) 158 6 = s)
            have r7 := (((w_up_at (by first | decide | omega)).trans ((w_up_at (by first | decide | omega)).trans ((w_up_at (by first | decide | omega)).trans ((w_up_at (by first | decide | omega)).trans ((w_up_at (by first | decide | omega)).trans (w_up_same _ _ _ _)))))) : (w_up (w_up (w_up (w_up (w_up (w_up (w_up (w_up (w_up S0 158 4 226) 158 5 227) 158 6 s) 158 7 kd) 158 12 1) 158 8 ba) 158 9 gk) 158 10 gb) 158 13 0) 158 7 = kd)
            have r8 := (((w_up_at (by first | decide | omega)).trans ((w_up_at (by first | decide | omega)).trans ((w_up_at (by first | decide | omega)).trans (w_up_same _ _ _ _)))) : (w_up (w_up (w_up (w_up (w_up (w_up (w_up (w_up (w_up S0 158 4 226) 158 5 227) 158 6 s) 158 7 kd) 158 12 1) 158 8 ba) 158 9 gk) 158 10 gb) 158 13 0) 158 8 = ba)
            have r9 := (((w_up_at (by first | decide | omega)).trans ((w_up_at (by first | decide | omega)).trans (w_up_same _ _ _ _))) : (w_up (w_up (w_up (w_up (w_up (w_up (w_up (w_up (w_up S0 158 4 226) 158 5 227) 158 6 s) 158 7 kd) 158 12 1) 158 8 ba) 158 9 gk) 158 10 gb) 158 13 0) 158 9 = gk)
            have r10 := (((w_up_at (by first | decide | omega)).trans (w_up_same _ _ _ _)) : (w_up (w_up (w_up (w_up (w_up (w_up (w_up (w_up (w_up S0 158 4 226) 158 5 227) 158 6 s) 158 7 kd) 158 12 1) 158 8 ba) 158 9 gk) 158 10 gb) 158 13 0) 158 10 = gb)
            have r12 := (((w_up_at (by first | decide | omega)).trans ((w_up_at (by first | decide | omega)).trans ((w_up_at (by first | decide | omega)).trans ((w_up_at (by first | decide | omega)).trans (w_up_same _ _ _ _))))) : (w_up (w_up (w_up (w_up (w_up (w_up (w_up (w_up (w_up S0 158 4 226) 158 5 227) 158 6 s) 158 7 kd) 158 12 1) 158 8 ba) 158 9 gk) 158 10 gb) 158 13 0) 158 12 = 1)
            have r13 := ((w_up_same _ _ _ _) : (w_up (w_up (w_up (w_up (w_up (w_up (w_up (w_up (w_up S0 158 4 226) 158 5 227) 158 6 s) 158 7 kd) 158 12 1) 158 8 ba) 158 9 gk) 158 10 gb) 158 13 0) 158 13 = 0)
            refine ⟨⟨r4, r5, r6, r7, r8, r9, r10, r12.trans c12, r13⟩, fun j x hj => ?_⟩
            exact ((w_up_no (by omega)).trans ((w_up_no (by omega)).trans ((w_up_no (by omega)).trans ((w_up_no (by omega)).trans ((w_up_no (by omega)).trans ((w_up_no (by omega)).trans ((w_up_no (by omega)).trans ((w_up_no (by omega)).trans (w_up_no (by omega))))))))))
          exact wJ_S (aml_226 (bh := 1) (oe := 0) hP hlt hT hb2 hln hba hec hcl hcv hk cl.length 0 _ (by omega) hst) ⟨rfl, rfl, rfl, rfl, rfl, rfl, trivial⟩
        · skip
          exact absurd c548 (by omega)
      · skip
        exact absurd c546 (by omega)
end Wgf
