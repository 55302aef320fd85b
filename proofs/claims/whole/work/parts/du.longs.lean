/-! PART du: longs that go round; slices. -/
section Wdu
variable {G : pe_G} {Y : wY} {M : Nat → Prop} {d : Nat} {mt : pe_Mt} {is : List pe_I} {L : wL} {st : List wv} {S : wS} {Q : wO → wS → Prop} {x y s n : Int}
def w64 (x : Int) : Int := (Int64.ofInt x).toInt
theorem i64_rg (a : Int64) : -9223372036854775808 ≤ a.toInt ∧ a.toInt ≤ 9223372036854775807 := by
  have h1 := Int64.le_toInt a
  have h2 := Int64.toInt_lt a
  omega
theorem w64_rg (x : Int) : -9223372036854775808 ≤ w64 x ∧ w64 x ≤ 9223372036854775807 := i64_rg _
theorem w64_o (x : Int) : Int64.ofInt x = Int64.ofInt (w64 x) := (Int64.ofInt_toInt _).symm
theorem w64_id (h : -9223372036854775808 ≤ x ∧ x ≤ 9223372036854775807) : w64 x = x := Int64.toInt_ofInt_of_le (by omega) (by omega)
theorem wJ_n1 (h : Int64.ofInt x = Int64.ofInt y) (k : wJ G Y M d mt is L ((1, y) :: st) S Q) : wJ G Y M d mt is L ((1, x) :: st) S Q := by
  intro ad Lc hp hE hL
  have e : List.map (w_u ad) ((1, x) :: st) = List.map (w_u ad) ((1, y) :: st) := congrArg (fun z => Value.long z :: List.map (w_u ad) st) h
  rw [e]
  exact k ad Lc hp hE hL
theorem wb_ldiv_rg (x y : Int) : -9223372036854775808 ≤ wb_ldiv x y ∧ wb_ldiv x y ≤ 9223372036854775807 := i64_rg _
theorem wb_lrem_rg (x y : Int) : -9223372036854775808 ≤ wb_lrem x y ∧ wb_lrem x y ≤ 9223372036854775807 := i64_rg _
theorem wb_land_rg (x y : Int) : -9223372036854775808 ≤ wb_land x y ∧ wb_land x y ≤ 9223372036854775807 := i64_rg _
theorem ld_m1 (h : -9223372036854775808 ≤ x ∧ x ≤ 9223372036854775807) : wb_ldiv x (-1) = w64 (-x) := by
  show (Int64.ofInt x / Int64.ofInt (-1)).toInt = (Int64.ofInt (-x)).toInt
  rw [Int64.toInt_div, Int64.toInt_ofInt_of_le (n := x) (by omega) (by omega), Int64.toInt_ofInt_of_le (n := -1) (by decide) (by decide), Int64.toInt_ofInt, Int.tdiv_neg, Int.tdiv_one] <;> rfl
theorem lr_m1 (h : -9223372036854775808 ≤ x ∧ x ≤ 9223372036854775807) : wb_lrem x (-1) = 0 := by
  have h1 : Int64.ofInt x / Int64.ofInt (-1) = Int64.ofInt (-x) := Int64.toInt_inj.1 (ld_m1 h)
  show (Int64.ofInt x - Int64.ofInt x / Int64.ofInt (-1) * Int64.ofInt (-1)).toInt = 0
  rw [h1, ← Int64.ofInt_mul, ← Int64.ofInt_sub, show x - -x * -1 = 0 by omega]
  rfl
theorem nat64 (h : 0 ≤ x ∧ x < 9223372036854775808) : (Int64.ofInt x).toBitVec.toNat = x.toNat := by
  rw [Int64.toBitVec_ofInt, BitVec.toNat_ofInt]
  omega
theorem lshl32 (hs : 0 ≤ s ∧ s < 2147483648) : (Int64.ofInt s <<< (32 : Int64)).toBitVec.toNat = s.toNat * 4294967296 := by
  show ((Int64.ofInt s).toBitVec <<< ((32 : Int64).toBitVec.smod 64)).toNat = _
  rw [show ((32 : Int64).toBitVec.smod 64) = 32#64 from by decide]
  show ((Int64.ofInt s).toBitVec <<< 32).toNat = _
  rw [BitVec.toNat_shiftLeft, nat64 (by omega), Nat.shiftLeft_eq]
  omega
/-- a slice of the pool -/
theorem sl_mk (hs : 0 ≤ s ∧ s < 2147483648) (hn : 0 ≤ n ∧ n < 2147483648) : wb_lor (wb_lshl s 32) n = s * 4294967296 + n := by
  have a1 : Int64.ofInt (wb_lshl s 32) = Int64.ofInt s <<< (32 : Int64) := by
    unfold wb_lshl
    rw [Int64.ofInt_toInt, show ((Int32.ofInt 32).toInt64 &&& 63) = (32 : Int64) from by decide]
  have a2 : (Int64.ofInt (wb_lshl s 32) ||| Int64.ofInt n).toBitVec.toNat = s.toNat * 4294967296 + n.toNat := by
    rw [Int64.toBitVec_or, BitVec.toNat_or, a1, lshl32 hs, nat64 (x := n) (by omega), show s.toNat * 4294967296 = s.toNat <<< 32 by rw [Nat.shiftLeft_eq], Nat.shiftLeft_add_eq_or_of_lt (by omega)]
  show (Int64.ofInt (wb_lshl s 32) ||| Int64.ofInt n).toBitVec.toInt = _
  rw [BitVec.toInt_eq_toNat_of_lt (by rw [a2]; omega), a2]
  omega
theorem sl_u (hs : 0 ≤ s ∧ s < 2147483648) (hn : 0 ≤ n ∧ n < 2147483648) : wb_lushr (s * 4294967296 + n) 32 = s := by
  have hsh : ((Int32.ofInt 32).toInt64.toUInt64 &&& Int64.toUInt64 63) = UInt64.ofNat 32 := by decide
  unfold wb_lushr
  rw [hsh]
  have h2 : (((Int64.ofInt (s * 4294967296 + n)).toUInt64 >>> UInt64.ofNat 32).toInt64).toBitVec.toNat = s.toNat := by
    show ((Int64.ofInt (s * 4294967296 + n)).toUInt64 >>> UInt64.ofNat 32).toNat = _
    rw [UInt64.toNat_shiftRight, show (UInt64.ofNat 32).toNat % 64 = 32 from by decide]
    show (Int64.ofInt (s * 4294967296 + n)).toBitVec.toNat >>> 32 = _
    rw [nat64 (by omega), Nat.shiftRight_eq_div_pow]
    omega
  show (((Int64.ofInt (s * 4294967296 + n)).toUInt64 >>> UInt64.ofNat 32).toInt64).toBitVec.toInt = s
  rw [BitVec.toInt_eq_toNat_of_lt (by rw [h2]; omega), h2]
  omega
theorem sl_s (hs : 0 ≤ s ∧ s < 2147483648) (hn : 0 ≤ n ∧ n < 2147483648) : wb_l2i (wb_lushr (s * 4294967296 + n) 32) = s := by
  rw [sl_u hs hn]
  exact wb_l2i_id (by omega)
theorem sl_z (hs : 0 ≤ s ∧ s < 2147483648) (hn : 0 ≤ n ∧ n < 2147483648) : wb_l2i (s * 4294967296 + n) = n := by
  unfold wb_l2i
  rw [Int64.toInt_toInt32, Int64.toInt_ofInt_of_le (n := s * 4294967296 + n) (by omega) (by omega), Int.bmod_def, show ((2 ^ 32 : Nat) : Int) = 4294967296 from by decide]
  rw [if_pos (by omega)]
  omega
theorem sl_rg (hs : 0 ≤ s ∧ s < 2147483648) (hn : 0 ≤ n ∧ n < 2147483648) : -9223372036854775808 ≤ s * 4294967296 + n ∧ s * 4294967296 + n ≤ 9223372036854775807 := by omega
/-- a slice is one in one way -/
theorem sl_i {s2 n2 : Int} (hn : 0 ≤ n ∧ n < 2147483648) (hn2 : 0 ≤ n2 ∧ n2 < 2147483648) (h : s * 4294967296 + n = s2 * 4294967296 + n2) : s = s2 ∧ n = n2 := by omega
/-- texts compared sign by sign -/
def cmpL : List Int → List Int → Int
  | a :: l, b :: m => if a = b then cmpL l m else a - b
  | [], m => -(m.length : Int)
  | l, [] => (l.length : Int)
theorem cmpL_rfl : ∀ l : List Int, cmpL l l = 0
  | [] => rfl
  | a :: l => (if_pos rfl).trans (cmpL_rfl l)
theorem cmpL_nil (l : List Int) : cmpL l [] = (l.length : Int) := by cases l <;> rfl
end Wdu
