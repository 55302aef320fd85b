/-! PART 43: every script of at most one call. -/
theorem wh_XT {b L : Nat} {xs : Nat → Int32} {s : State} (h : va_X b L xs s s.heap) (hb : b < s.heap.size) : va_T .int b L (fun k => .int (xs k)) (fun q => s.heap.size ≤ q) s s.heap := by
  obtain ⟨scr, h1, h2, h3, h4, h5⟩ := h
  exact ⟨scr, h1, h2, h3, Nat.le_of_eq h4.symm, by rw [h4], h5, by omega⟩
theorem wh_31 (x : Int32) : ∃ c : Nat, c < 32 ∧ x &&& 31 = Int32.ofNat c := by
  refine ⟨(x &&& 31).toBitVec.toNat, ?_, ?_⟩
  · rw [Int32.toBitVec_and, BitVec.toNat_and]
    have h1 : x.toBitVec.toNat &&& (31 : Int32).toBitVec.toNat ≤ (31 : Int32).toBitVec.toNat := Nat.and_le_right
    have h2 : (31 : Int32).toBitVec.toNat = 31 := by decide
    omega
  · apply Int32.toBitVec_inj.mp
    show (x &&& 31).toBitVec = BitVec.ofNat 32 (x &&& 31).toBitVec.toNat
    rw [BitVec.ofNat_toNat, BitVec.setWidth_eq]
/-- a script too short for a call -/
theorem pe_short {xs : Nat → Int32} {L : Nat} (hL : L < 5) : ∃ cs : List Int32, cs.length = L ∧ pe_runL cs = true ∧ pe_fits cs xs := by
  rcases (show L = 0 ∨ L = 1 ∨ L = 2 ∨ L = 3 ∨ L = 4 by omega) with rfl | rfl | rfl | rfl | rfl
  · refine ⟨[], rfl, List.all_eq_true.mp rn_s _ (List.mem_of_getElem? (i := 0) rfl), fun j hj => ?_⟩
    have hj2 : j < 0 := hj
    omega
  · refine ⟨[96], rfl, List.all_eq_true.mp rn_s _ (List.mem_of_getElem? (i := 1) rfl), fun j hj => ?_⟩
    have hj2 : j < 1 := hj
    rcases (show j = 0 by omega) with rfl
    · exact ⟨by decide, fun ex hx => pe_fit1 (k := 12) rfl (by decide) (pe_any _) hx⟩
  · refine ⟨[96, 97], rfl, List.all_eq_true.mp rn_s _ (List.mem_of_getElem? (i := 2) rfl), fun j hj => ?_⟩
    have hj2 : j < 2 := hj
    rcases (show j = 0 ∨ j = 1 by omega) with rfl | rfl
    · exact ⟨by decide, fun ex hx => pe_fit1 (k := 12) rfl (by decide) (pe_any _) hx⟩
    · exact ⟨by decide, fun ex hx => pe_fit1 (k := 12) rfl (by decide) (pe_any _) hx⟩
  · refine ⟨[96, 97, 98], rfl, List.all_eq_true.mp rn_s _ (List.mem_of_getElem? (i := 3) rfl), fun j hj => ?_⟩
    have hj2 : j < 3 := hj
    rcases (show j = 0 ∨ j = 1 ∨ j = 2 by omega) with rfl | rfl | rfl
    · exact ⟨by decide, fun ex hx => pe_fit1 (k := 12) rfl (by decide) (pe_any _) hx⟩
    · exact ⟨by decide, fun ex hx => pe_fit1 (k := 12) rfl (by decide) (pe_any _) hx⟩
    · exact ⟨by decide, fun ex hx => pe_fit1 (k := 12) rfl (by decide) (pe_any _) hx⟩
  · refine ⟨[96, 97, 98, 99], rfl, List.all_eq_true.mp rn_s _ (List.mem_of_getElem? (i := 4) rfl), fun j hj => ?_⟩
    have hj2 : j < 4 := hj
    rcases (show j = 0 ∨ j = 1 ∨ j = 2 ∨ j = 3 by omega) with rfl | rfl | rfl | rfl
    · exact ⟨by decide, fun ex hx => pe_fit1 (k := 12) rfl (by decide) (pe_any _) hx⟩
    · exact ⟨by decide, fun ex hx => pe_fit1 (k := 12) rfl (by decide) (pe_any _) hx⟩
    · exact ⟨by decide, fun ex hx => pe_fit1 (k := 12) rfl (by decide) (pe_any _) hx⟩
    · exact ⟨by decide, fun ex hx => pe_fit1 (k := 12) rfl (by decide) (pe_any _) hx⟩
theorem pe_EL_of {ex : Nat → Nat} {exV : Nat → Nat} {jF : Value} {s : State} {cs : List Int32} {xs : Nat → Int32} {L : Nat} (hl : cs.length = L) (hL : L ≤ 5) (hfit : pe_fits cs xs) (hpg : ∀ j, j < 6 → ex (1000 + j) = (xs j).toUInt32.toNat) (hE : pe_EF ex s.heap.size exV jF s) (hX : va_T .int (ex 6) L (fun k => .int (xs k)) (fun q => s.heap.size ≤ q) s s.heap) : pe_EL ex s.heap.size exV jF cs s := by
  refine ⟨hE, ?_⟩
  obtain ⟨cell, q1, q2, q3, q4, q5, q6, q7⟩ := hX
  refine ⟨cell, q1, q2, q3, by rw [hl]; exact q4, by rw [hl]; exact q5, fun j hj => ?_, q7⟩
  show cell.slots[j]? = some (pm_ph ex (cs.getD j 0).toNatClampNeg)
  rw [q6 j (by omega), (hfit j hj).2 ex (hpg j (by omega))]
theorem pe_gall {xs : Nat → Int32} {c : Nat} (hc : c < 32) (h0 : xs 0 &&& 31 = Int32.ofNat c) (hc0 : c ≠ 0) : pe_good xs := by
  rcases (show c = 1 ∨ c = 2 ∨ c = 3 ∨ c = 4 ∨ c = 5 ∨ c = 6 ∨ c = 7 ∨ c = 8 ∨ c = 9 ∨ c = 10 ∨ c = 11 ∨ c = 12 ∨ c = 13 ∨ c = 14 ∨ c = 15 ∨ c = 16 ∨ c = 17 ∨ c = 18 ∨ c = 19 ∨ c = 20 ∨ c = 21 ∨ c = 22 ∨ c = 23 ∨ c = 24 ∨ c = 25 ∨ c = 26 ∨ c = 27 ∨ c = 28 ∨ c = 29 ∨ c = 30 ∨ c = 31 by omega) with rfl | rfl | rfl | rfl | rfl | rfl | rfl | rfl | rfl | rfl | rfl | rfl | rfl | rfl | rfl | rfl | rfl | rfl | rfl | rfl | rfl | rfl | rfl | rfl | rfl | rfl | rfl | rfl | rfl | rfl | rfl
  · exact pe_g_1 h0
  · exact pe_g_2 h0
  · exact pe_g_3 h0
  · exact pe_g_4 h0
  · exact pe_g_5 h0
  · exact pe_g_6 h0
  · exact pe_g_7 h0
  · exact pe_g_8 h0
  · exact pe_g_9 h0
  · exact pe_g_10 h0
  · exact pe_g_11 h0
  · exact pe_g_12 h0
  · exact pe_g_13 h0
  · exact pe_g_14 h0
  · exact pe_g_15 h0
  · exact pe_g_16 h0
  · exact pe_g_17 h0
  · exact pe_g_18 h0
  · exact pe_g_19 h0
  · exact pe_g_20 h0
  · exact pe_g_21 h0
  · exact pe_g_22 h0
  · exact pe_g_23 h0
  · exact pe_g_24 h0
  · exact pe_g_25 h0
  · exact pe_g_26 h0
  · exact pe_g_27 h0
  · exact pe_g_28 h0
  · exact pe_g_29 h0
  · exact pe_g_30 h0
  · exact pe_g_31 h0
section PE43
variable {p : Program} {e : Env} {s : State} {m : MethodId} {below : List Frame} {meth : Method} {c : Code}
/-- the law comes to its end with true on every script of at most five ints -/
theorem p1_start (l : Launch) {b L : Nat} {xs : Nat → Int32} (hls : l.stackTraces = false) (hL : L ≤ 5) (hnm : s.methodNamed? x = some m) (hmt : s.vm.method? m = some meth) (hcd : meth.code = some c) (hcode : (Cond.code x code maxLocals ret).before #[Value.ref b] s = true) (C0 : lw_At p s m meth c b L xs) : W p l e room_1 s m #[Value.ref b] below meth c s.heap [] 0 0 (lw_Z below #[Value.ref b] s) (entryFrame m ([Value.ref b] : List Value).toArray 8) := by
  have C1 := C0
  obtain ⟨hx, hb, hr, hml, hown, hts, hX, hbl, hlk, hgv⟩ := C0
  refine wh_entry l hls (fun j => (xs j).toUInt32.toNat) C1 ?_
  intro ex exV jF D dA tys h6 hpg hE hK hT
  refine wh_second hls hx hb hml hown hts hK hT hE ?_
  have hXT : va_T .int (ex 6) L (fun k => .int (xs k)) (fun q => s.heap.size ≤ q) s s.heap := by rw [h6]; exact wh_XT hX hbl
  rcases Nat.lt_or_eq_of_le hL with hlt | rfl
  · obtain ⟨cs, e1, e2, e3⟩ := pe_short (xs := xs) hlt
    exact wh_go cs e2 hls hx hb hr hlk hml hnm hmt hcd hcode hts hK hT (pe_EL_of e1 hL e3 hpg hE hXT)
  · obtain ⟨cc0, hc1, hc2⟩ := wh_31 (xs 0)
    by_cases hc0 : cc0 = 0
    · subst hc0
      exact wh_feed hc2 hx hb hr hlk hml hown hts hK hT hE hXT
    · obtain ⟨cs, e1, e2, e3⟩ := pe_gall hc1 hc2 hc0
      exact wh_go cs e2 hls hx hb hr hlk hml hnm hmt hcd hcode hts hK hT (pe_EL_of e1 hL e3 hpg hE hXT)
end PE43
