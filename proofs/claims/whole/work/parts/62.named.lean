/-! PART 62: rows whose values are named by the writer. -/
section W62
variable {G : pe_G} {Y : wY} {M M2 : Nat → Prop} {d : Nat} {mt : pe_Mt} {is rest : List pe_I} {L L2 : wL} {st st2 : List wv} {S S2 : wS} {Q Q2 : wO → wS → Prop}
theorem wb_gfi {x v : Int} {ix ci k0 wd : Nat} {host : Option String} (j : Nat) (hx : x = j) (hp : w_pr Y S j) (ht : Y.ty j = 100 + ci) (hf : (Y.fk ci)[k0]? = some 0) (hv : S j k0 = v) (k : -2147483648 ≤ v ∧ v ≤ 2147483647 → wJ G Y M d mt rest L ((0, v) :: st) S Q) : wJ G Y M d mt (.inr (.inl (ix, ci, k0, host, wd)) :: rest) L ((2, x) :: st) S Q := by
  subst hv
  exact wa_gf j hx hp ht hf (fun q => absurd q (by decide)) rfl (fun r _ => k r)
theorem wb_gfz {x v : Int} {ix ci k0 wd : Nat} {host : Option String} (j : Nat) (hx : x = j) (hp : w_pr Y S j) (ht : Y.ty j = 100 + ci) (hf : (Y.fk ci)[k0]? = some 3) (hv : S j k0 = v) (k : 0 ≤ v ∧ v ≤ 1 → wJ G Y M d mt rest L ((0, v) :: st) S Q) : wJ G Y M d mt (.inr (.inl (ix, ci, k0, host, wd)) :: rest) L ((2, x) :: st) S Q := by
  subst hv
  exact wa_gf j hx hp ht hf (fun q => absurd q (by decide)) rfl (fun r _ => k r)
theorem wb_gfl {x v : Int} {ix ci k0 wd : Nat} {host : Option String} (j : Nat) (hx : x = j) (hp : w_pr Y S j) (ht : Y.ty j = 100 + ci) (hf : (Y.fk ci)[k0]? = some 1) (hv : S j k0 = v) (k : -9223372036854775808 ≤ v ∧ v ≤ 9223372036854775807 → wJ G Y M d mt rest L ((1, v) :: st) S Q) : wJ G Y M d mt (.inr (.inl (ix, ci, k0, host, wd)) :: rest) L ((2, x) :: st) S Q := by
  subst hv
  exact wa_gf j hx hp ht hf (fun q => absurd q (by decide)) rfl (fun r _ => k r)
theorem wb_gf4 {x v : Int} {ix ci k0 wd : Nat} {host : Option String} (j : Nat) (hx : x = j) (hp : w_pr Y S j) (ht : Y.ty j = 100 + ci) (hf : (Y.fk ci)[k0]? = some 4) (hv : Y.ln j k0 = v) (k : wJ G Y M d mt rest L ((2, v) :: st) S Q) : wJ G Y M d mt (.inr (.inl (ix, ci, k0, host, wd)) :: rest) L ((2, x) :: st) S Q := by
  subst hv
  exact wa_gf j hx hp ht hf (fun q => absurd q (by decide)) rfl (fun _ _ => k)
theorem wb_gf5 {x v : Int} {ix ci k0 wd : Nat} {host : Option String} (j : Nat) (hx : x = j) (hp : w_pr Y S j) (ht : Y.ty j = 100 + ci) (hf : (Y.fk ci)[k0]? = some 5) (hv : S j k0 = v) (k : (v < 0 ∨ (w_pr Y S v.toNat ∧ 100 ≤ Y.ty v.toNat)) → wJ G Y M d mt rest L ((2, v) :: st) S Q) : wJ G Y M d mt (.inr (.inl (ix, ci, k0, host, wd)) :: rest) L ((2, x) :: st) S Q := by
  subst hv
  exact wa_gf j hx hp ht hf (fun q => absurd q (by decide)) rfl (fun _ r => k r)
theorem wb_pfi {x v n : Int} {ix ci k0 wd : Nat} {host : Option String} (j : Nat) (hx : x = j) (hp : w_pr Y S j) (ht : Y.ty j = 100 + ci) (hf : (Y.fk ci)[k0]? = some 0) (hn : (k0 : Int) = n) (hv : -2147483648 ≤ v ∧ v ≤ 2147483647) (k : wJ G Y M d mt rest L st (w_up S j n v) Q) : wJ G Y M d mt (.inr (.inr (.inr (.inr (.inl (ix, ci, k0, 0, host, wd))))) :: rest) L ((0, v) :: (2, x) :: st) S Q := by
  subst hn
  exact wa_pfi j hx hp ht hf hv k
theorem wb_pfz {x v n : Int} {ix ci k0 wd : Nat} {host : Option String} (j : Nat) (hx : x = j) (hp : w_pr Y S j) (ht : Y.ty j = 100 + ci) (hf : (Y.fk ci)[k0]? = some 3) (hn : (k0 : Int) = n) (hv : 0 ≤ v ∧ v ≤ 1) (k : wJ G Y M d mt rest L st (w_up S j n v) Q) : wJ G Y M d mt (.inr (.inr (.inr (.inr (.inl (ix, ci, k0, 3, host, wd))))) :: rest) L ((0, v) :: (2, x) :: st) S Q := by
  subst hn
  exact wa_pfz j hx hp ht hf hv k
theorem wb_pfl {x v n : Int} {ix ci k0 wd : Nat} {host : Option String} (j : Nat) (hx : x = j) (hp : w_pr Y S j) (ht : Y.ty j = 100 + ci) (hf : (Y.fk ci)[k0]? = some 1) (hn : (k0 : Int) = n) (hv : -9223372036854775808 ≤ v ∧ v ≤ 9223372036854775807) (k : wJ G Y M d mt rest L st (w_up S j n v) Q) : wJ G Y M d mt (.inr (.inr (.inr (.inr (.inl (ix, ci, k0, 1, host, wd))))) :: rest) L ((1, v) :: (2, x) :: st) S Q := by
  subst hn
  exact wa_pfl j hx hp ht hf hv k
theorem wb_pfr {x v n : Int} {ix ci k0 wd : Nat} {host : Option String} (j : Nat) (hx : x = j) (hp : w_pr Y S j) (ht : Y.ty j = 100 + ci) (hf : (Y.fk ci)[k0]? = some 5) (hn : (k0 : Int) = n) (hv : v < 0 ∨ (w_pr Y S v.toNat ∧ 100 ≤ Y.ty v.toNat)) (k : wJ G Y M d mt rest L st (w_up S j n v) Q) : wJ G Y M d mt (.inr (.inr (.inr (.inr (.inl (ix, ci, k0, 2, host, wd))))) :: rest) L ((2, v) :: (2, x) :: st) S Q := by
  subst hn
  exact wa_pfr j hx hp ht hf hv k
theorem wb_iald {x i v n : Int} (j : Nat) (hx : x = j) (hp : w_pr Y S j) (ht : Y.ty j = 0) (hn : S j (-1) = n) (h0 : 0 ≤ i) (h1 : i < n) (hv : S j i = v) (k : -2147483648 ≤ v ∧ v ≤ 2147483647 → wJ G Y M d mt rest L ((0, v) :: st) S Q) : wJ G Y M d mt (.inl .iaload :: rest) L ((0, i) :: (2, x) :: st) S Q := by
  subst hv
  subst hn
  exact wa_iald j hx hp ht h0 h1 (fun r => k r)
theorem wb_bald {x i v n : Int} (j : Nat) (hx : x = j) (hp : w_pr Y S j) (ht : Y.ty j = 2) (hn : S j (-1) = n) (h0 : 0 ≤ i) (h1 : i < n) (hv : S j i = v) (k : -128 ≤ v ∧ v ≤ 127 → wJ G Y M d mt rest L ((0, v) :: st) S Q) : wJ G Y M d mt (.inl .baload :: rest) L ((0, i) :: (2, x) :: st) S Q := by
  subst hv
  subst hn
  exact wa_bald j hx hp ht h0 h1 (fun r => k r)
theorem wb_zald {x i v n : Int} (j : Nat) (hx : x = j) (hp : w_pr Y S j) (ht : Y.ty j = 3) (hn : S j (-1) = n) (h0 : 0 ≤ i) (h1 : i < n) (hv : S j i = v) (k : 0 ≤ v ∧ v ≤ 1 → wJ G Y M d mt rest L ((0, v) :: st) S Q) : wJ G Y M d mt (.inl .baload :: rest) L ((0, i) :: (2, x) :: st) S Q := by
  subst hv
  subst hn
  exact wa_zald j hx hp ht h0 h1 (fun r => k r)
theorem wb_lald {x i v n : Int} (j : Nat) (hx : x = j) (hp : w_pr Y S j) (ht : Y.ty j = 1) (hn : S j (-1) = n) (h0 : 0 ≤ i) (h1 : i < n) (hv : S j i = v) (k : -9223372036854775808 ≤ v ∧ v ≤ 9223372036854775807 → wJ G Y M d mt rest L ((1, v) :: st) S Q) : wJ G Y M d mt (.inl .laload :: rest) L ((0, i) :: (2, x) :: st) S Q := by
  subst hv
  subst hn
  exact wa_lald j hx hp ht h0 h1 (fun r => k r)
theorem wb_iast {x i v n : Int} (j : Nat) (hx : x = j) (hp : w_pr Y S j) (ht : Y.ty j = 0) (hn : S j (-1) = n) (h0 : 0 ≤ i) (h1 : i < n) (hv : -2147483648 ≤ v ∧ v ≤ 2147483647) (k : wJ G Y M d mt rest L st (w_up S j i v) Q) : wJ G Y M d mt (.inl .iastore :: rest) L ((0, v) :: (0, i) :: (2, x) :: st) S Q := by
  subst hn
  exact wa_iast j hx hp ht h0 h1 hv k
theorem wb_bast {x i v n : Int} (j : Nat) (hx : x = j) (hp : w_pr Y S j) (ht : Y.ty j = 2) (hn : S j (-1) = n) (h0 : 0 ≤ i) (h1 : i < n) (hv : -128 ≤ v ∧ v ≤ 127) (k : wJ G Y M d mt rest L st (w_up S j i v) Q) : wJ G Y M d mt (.inl .bastore :: rest) L ((0, v) :: (0, i) :: (2, x) :: st) S Q := by
  subst hn
  exact wa_bast j hx hp ht h0 h1 hv k
theorem wb_zast {x i v n : Int} (j : Nat) (hx : x = j) (hp : w_pr Y S j) (ht : Y.ty j = 3) (hn : S j (-1) = n) (h0 : 0 ≤ i) (h1 : i < n) (hv : 0 ≤ v ∧ v ≤ 1) (k : wJ G Y M d mt rest L st (w_up S j i v) Q) : wJ G Y M d mt (.inl .bastore :: rest) L ((0, v) :: (0, i) :: (2, x) :: st) S Q := by
  subst hn
  exact wa_zast j hx hp ht h0 h1 hv k
theorem wb_last {x i v n : Int} (j : Nat) (hx : x = j) (hp : w_pr Y S j) (ht : Y.ty j = 1) (hn : S j (-1) = n) (h0 : 0 ≤ i) (h1 : i < n) (hv : -9223372036854775808 ≤ v ∧ v ≤ 9223372036854775807) (k : wJ G Y M d mt rest L st (w_up S j i v) Q) : wJ G Y M d mt (.inl .lastore :: rest) L ((1, v) :: (0, i) :: (2, x) :: st) S Q := by
  subst hn
  exact wa_last j hx hp ht h0 h1 hv k
theorem wb_alen {x v : Int} (j : Nat) (hx : x = j) (hp : w_pr Y S j) (ht : pe_tOK (Y.ty j) = true) (hv : S j (-1) = v) (k : 0 ≤ v ∧ v ≤ 2147483647 → wJ G Y M d mt rest L ((0, v) :: st) S Q) : wJ G Y M d mt (.inl .arraylength :: rest) L ((2, x) :: st) S Q := by
  subst hv
  exact wa_alen j hx hp ht k
theorem wb_aald5 {x i v : Int} (j m : Nat) (hx : x = j) (hi : i = (m : Int)) (hp : w_pr Y S j) (ht : Y.ty j = 5) (h1 : (m : Int) < S j (-1)) (hv : Y.ln j m = v) (k : wJ G Y M d mt rest L ((2, v) :: st) S Q) : wJ G Y M d mt (.inl .aaload :: rest) L ((0, i) :: (2, x) :: st) S Q := by
  subst hi
  subst hv
  exact wa_aald j hx hp ht ⟨rfl, rfl, by decide⟩ (by omega) h1 (if_pos rfl) (fun _ => k)
theorem wb_sw {x lo : Int} {i : Instr} {n df tb : Nat} {ts : List Nat} {is2 : List pe_I} (hx : w_rg 0 x) (ht : w_tb lo ts df x = tb) (hb : w_k mt tb is2) (k : wJ G Y M d mt is2 L st S Q) : wJ G Y M d mt (.inr (.inr (.inr (.inr (.inr (.inr (.inr (.inr (.inr (.inr (.inr (.inl (i, n, lo, ts, df)))))))))))) :: rest) L ((0, x) :: st) S Q := by
  subst ht
  exact wa_sw hx hb k
theorem wb_l2i_id {x : Int} (h : -2147483648 ≤ x ∧ x ≤ 2147483647) : wb_l2i x = x := by
  unfold wb_l2i
  have h1 : (Int64.ofInt x).toInt = x := Int64.toInt_ofInt_of_le (by omega) (by omega)
  rw [Int64.toInt_toInt32, h1, Int.bmod_eq_of_le (by omega) (by omega)]
theorem wb_i2b_id {x : Int} (h : -128 ≤ x ∧ x ≤ 127) : wb_i2b x = x := by
  unfold wb_i2b
  rw [Int8.toInt_toInt32, Int32.toInt_toInt8, Int32.toInt_ofInt_of_le (by omega) (by omega), Int.bmod_eq_of_le (by omega) (by omega)]
theorem wb_l2i_r {x y : Int} (h : wb_l2i x = y) (k : wJ G Y M d mt rest L ((0, y) :: st) S Q) : wJ G Y M d mt (.inl .l2i :: rest) L ((1, x) :: st) S Q := by
  subst h
  exact wa_l2i k
theorem wb_i2b_r {x y : Int} (h : wb_i2b x = y) (k : wJ G Y M d mt rest L ((0, y) :: st) S Q) : wJ G Y M d mt (.inl .i2b :: rest) L ((0, x) :: st) S Q := by
  subst h
  exact wa_i2b k
theorem wb_ki {wide : Bool} {ix wd : Nat} {v : Int32} {n : Int} (h : v.toInt = n) (k : wJ G Y M d mt rest L ((0, n) :: st) S Q) : wJ G Y M d mt (.inr (.inr (.inr (.inl (wide, ix, v, wd)))) :: rest) L st S Q := by
  subst h
  exact wa_ki k
theorem wb_kl {ix wd : Nat} {v : Int64} {n : Int} (h : v.toInt = n) (k : wJ G Y M d mt rest L ((1, n) :: st) S Q) : wJ G Y M d mt (.inr (.inr (.inr (.inr (.inr (.inr (.inr (.inr (.inr (.inr (.inl (ix, v, wd))))))))))) :: rest) L st S Q := by
  subst h
  exact wa_kl k
theorem wb_lcmp_cases {x y : Int} : (x < y ∧ wb_lcmp x y = -1) ∨ (x = y ∧ wb_lcmp x y = 0) ∨ (y < x ∧ wb_lcmp x y = 1) := by
  unfold wb_lcmp
  by_cases h : y < x
  · rw [if_pos h]; omega
  · rw [if_neg h]
    by_cases h2 : x = y
    · rw [if_pos h2]; omega
    · rw [if_neg h2]; omega
end W62
