/-! PART 58: rows of the machine over slots: copies. -/
section W58
variable {G : pe_G} {Y : wY} {M M2 : Nat → Prop} {d : Nat} {mt : pe_Mt} {is rest : List pe_I} {L L2 : wL} {st st2 : List wv} {S S2 : wS} {Q Q2 : wO → wS → Prop}
/-- n places of slot a from sp on are copied into slot b from dp on -/
def w_cp (S : wS) (a b : Nat) (sp dp n : Int) : wS := fun k i => if k = b ∧ dp ≤ i ∧ i < dp + n then S a (sp + (i - dp)) else S k i
theorem w_cp_of {a b k : Nat} {sp dp n : Int} (h : k ≠ b) (i : Int) : w_cp S a b sp dp n k i = S k i := if_neg (fun q => h q.1)
theorem w_cp_out {a b k : Nat} {sp dp n i : Int} (h : i < dp ∨ dp + n ≤ i) : w_cp S a b sp dp n k i = S k i := if_neg (fun q => by omega)
theorem w_cp_in {a b : Nat} {sp dp n i : Int} (h1 : dp ≤ i) (h2 : i < dp + n) : w_cp S a b sp dp n b i = S a (sp + (i - dp)) := if_pos ⟨rfl, h1, h2⟩
theorem w_fB {c : List (Nat × Int32)} {sp n : Nat} (h : ∀ i, i < n → w_rg 2 (pe_lk 0 (sp + i) c).toInt) : pe_fB c sp n = true := by
  induction n with
  | zero => rfl
  | succ n ih =>
    unfold pe_fB
    rw [ih (fun i hi => h i (by omega)), Bool.and_true]
    have q := h n (by omega)
    show (decide (-128 ≤ pe_lk 0 (sp + n) c) && decide (pe_lk 0 (sp + n) c ≤ 127)) = true
    rw [Bool.and_eq_true, decide_eq_true_eq, decide_eq_true_eq, Int32.le_iff_toInt_le, Int32.le_iff_toInt_le]
    exact ⟨q.1, q.2⟩
theorem w_cl {x : Int} (h0 : 0 ≤ x) (h1 : x ≤ 2147483647) : (Int32.ofInt x).toNatClampNeg = x.toNat ∧ decide (Int32.ofInt x < 0) = false := by
  have hr : w_rg 0 x := ⟨by omega, h1⟩
  refine ⟨?_, decide_eq_false (fun q => by rw [w_0, w_lt0 hr w_r0] at q; omega)⟩
  show (Int32.ofInt x).toInt.toNat = _
  rw [w_ti hr]
theorem w_okc {n sp dp : Int} {n1 n2 : Nat} (ad : Nat → Nat) (h1 : (n1 : Int) ≤ 2147483647) (h2 : (n2 : Int) ≤ 2147483647) (hn : 0 ≤ n) (hs : 0 ≤ sp) (hd0 : 0 ≤ dp) (hs1 : sp + n ≤ n1) (hd1 : dp + n ≤ n2) (hd : 0 < d) (hc : Nat.ble (w_cat st) 8 = true) : pe_okc d (Int32.ofInt n) (Int32.ofInt sp) (Int32.ofInt dp) n1 n2 (st.map (w_u ad)) = true := by
  unfold pe_okc
  rw [(w_cl hn (by omega)).1, (w_cl hn (by omega)).2, (w_cl hs (by omega)).1, (w_cl hs (by omega)).2, (w_cl hd0 (by omega)).1, (w_cl hd0 (by omega)).2, w_cat_eq, hc, show Nat.ble (sp.toNat + n.toNat) n1 = true from Nat.ble_eq_true_of_le (by omega), show Nat.ble (dp.toNat + n.toNat) n2 = true from Nat.ble_eq_true_of_le (by omega), show Nat.blt 0 d = true from Nat.ble_eq_true_of_le hd]
  rfl
theorem wa_acI {x y n dp sp : Int} {ix : Nat} {ws : List Nat} (a b : Nat) (hx : x = a) (hy : y = b) (ha : w_pr Y S a) (hb : w_pr Y S b) (hta : Y.ty a = 0) (htb : Y.ty b = 0) (hn : 0 ≤ n) (hs : 0 ≤ sp) (hd0 : 0 ≤ dp) (hs1 : sp + n ≤ S a (-1)) (hd1 : dp + n ≤ S b (-1)) (hd : 0 < d) (hc : Nat.ble (w_cat st) 8 = true) (k : wJ G Y M d mt rest L st (w_cp S a b sp dp n) Q) : wJ G Y M d mt (.inr (.inr (.inr (.inr (.inr (.inr (.inr (.inr (.inr (.inr (.inr (.inr (.inr (.inr (.inr (.inl (.inr (.inr (.inl (ix, ws))))))))))))))))))) :: rest) L ((0, n) :: (0, dp) :: (2, y) :: (0, sp) :: (2, x) :: st) S Q := wJ_h (fun ad Lc h hE => by
  obtain ⟨n1, c1, a1, a2, a3⟩ := w_ari hE ha hta (by omega) (by omega)
  obtain ⟨n2, c2, b1, b2, b3⟩ := w_ari hE hb htb (by omega) (by omega)
  obtain ⟨c3, v1, v2⟩ := pe_cpk_eq (β := Option (pm_O × pe_H)) c1 sp.toNat dp.toNat n.toNat c2
  have hok := w_okc (st := st) (d := d) ad (n1 := n1) (n2 := n2) (by omega) (by omega) hn hs hd0 (by omega) (by omega) hd hc
  have hcond : (Nat.beq 0 0 && ((Nat.beq 0 0 || (Nat.beq 0 2 && pe_fB c1 (Int32.ofInt sp).toNatClampNeg (Int32.ofInt n).toNatClampNeg)) && pe_okc d (Int32.ofInt n) (Int32.ofInt sp) (Int32.ofInt dp) n1 n2 (st.map (w_u ad)))) = true := by
    show (Nat.beq 0 0 && ((Nat.beq 0 0 || (Nat.beq 0 2 && pe_fB c1 (Int32.ofInt sp).toNatClampNeg (Int32.ofInt n).toNatClampNeg)) && pe_okc d (Int32.ofInt n) (Int32.ofInt sp) (Int32.ofInt dp) n1 n2 (st.map (w_u ad)))) = true
    rw [hok]; rfl
  refine ⟨h.set (ad b) (.inl (0, n2, c3)), fun f => ?_, w_E_set hE hb b1 rfl ⟨htb, ⟨by omega, by omega⟩, ?_, ?_⟩ (fun q hq i => w_cp_of hq i) (w_cp_out (by omega))⟩
  · show pe_ack d h (Value.int (Int32.ofInt n) :: .int (Int32.ofInt dp) :: w_r ad y :: .int (Int32.ofInt sp) :: w_r ad x :: st.map (w_u ad)) (fun st h => pe_go G f d mt rest Lc st h) = _
    rw [w_r_n ad hx, w_r_n ad hy]
    have e1 : pe_at h (ad a) = some (.inl (0, n1, c1)) := by rw [pe_at_eq]; exact a1
    have e2 : pe_at h (ad b) = some (.inl (0, n2, c2)) := by rw [pe_at_eq]; exact b1
    unfold pe_ack pe_isl pe_ari
    dsimp only
    rw [e1]
    dsimp only
    rw [e2]
    show (bif false then _ else (bif (Nat.beq 0 0 && ((Nat.beq 0 0 || (Nat.beq 0 2 && pe_fB c1 (Int32.ofInt sp).toNatClampNeg (Int32.ofInt n).toNatClampNeg)) && pe_okc d (Int32.ofInt n) (Int32.ofInt sp) (Int32.ofInt dp) n1 n2 (st.map (w_u ad)))) then pe_cpk c1 (Int32.ofInt sp).toNatClampNeg (Int32.ofInt dp).toNatClampNeg (Int32.ofInt n).toNatClampNeg c2 (fun c2 => pe_setk (.inl (0, n2, c2)) h (ad b) (fun h => pe_go G f d mt rest Lc (st.map (w_u ad)) h)) else none)) = _
    rw [cond_false, hcond, cond_true, (w_cl hs (by omega)).1, (w_cl hn (by omega)).1, (w_cl hd0 (by omega)).1, v1, pe_setk_eq]
  · rw [w_cp_out (by omega)]
    exact b2
  · intro m hm
    rw [v2]
    by_cases e : dp.toNat ≤ m ∧ m < dp.toNat + n.toNat
    · rw [if_pos e, w_cp_in (by omega) (by omega)]
      have q := a3 (sp.toNat + (m - dp.toNat)) (by omega)
      rw [show ((sp.toNat + (m - dp.toNat) : Nat) : Int) = sp + ((m : Int) - dp) by omega] at q
      exact q
    · rw [if_neg e, w_cp_out (by omega)]
      exact b3 m hm) k
theorem wa_acB {x y n dp sp : Int} {ix : Nat} {ws : List Nat} (a b : Nat) (hx : x = a) (hy : y = b) (ha : w_pr Y S a) (hb : w_pr Y S b) (hta : Y.ty a = 2) (htb : Y.ty b = 2) (hn : 0 ≤ n) (hs : 0 ≤ sp) (hd0 : 0 ≤ dp) (hs1 : sp + n ≤ S a (-1)) (hd1 : dp + n ≤ S b (-1)) (hd : 0 < d) (hc : Nat.ble (w_cat st) 8 = true) (k : wJ G Y M d mt rest L st (w_cp S a b sp dp n) Q) : wJ G Y M d mt (.inr (.inr (.inr (.inr (.inr (.inr (.inr (.inr (.inr (.inr (.inr (.inr (.inr (.inr (.inr (.inl (.inr (.inr (.inl (ix, ws))))))))))))))))))) :: rest) L ((0, n) :: (0, dp) :: (2, y) :: (0, sp) :: (2, x) :: st) S Q := wJ_h (fun ad Lc h hE => by
  obtain ⟨n1, c1, a1, a2, a3⟩ := w_ari hE ha hta (by omega) (by omega)
  obtain ⟨n2, c2, b1, b2, b3⟩ := w_ari hE hb htb (by omega) (by omega)
  obtain ⟨c3, v1, v2⟩ := pe_cpk_eq (β := Option (pm_O × pe_H)) c1 sp.toNat dp.toNat n.toNat c2
  have hok := w_okc (st := st) (d := d) ad (n1 := n1) (n2 := n2) (by omega) (by omega) hn hs hd0 (by omega) (by omega) hd hc
  have hfb : pe_fB c1 sp.toNat n.toNat = true := w_fB (fun i hi => by
    have := a3 (sp.toNat + i) (by omega)
    rw [this.1]
    exact this.2)
  have hcond : (Nat.beq 2 2 && ((Nat.beq 2 0 || (Nat.beq 2 2 && pe_fB c1 (Int32.ofInt sp).toNatClampNeg (Int32.ofInt n).toNatClampNeg)) && pe_okc d (Int32.ofInt n) (Int32.ofInt sp) (Int32.ofInt dp) n1 n2 (st.map (w_u ad)))) = true := by
    show (Nat.beq 2 2 && ((Nat.beq 2 0 || (Nat.beq 2 2 && pe_fB c1 (Int32.ofInt sp).toNatClampNeg (Int32.ofInt n).toNatClampNeg)) && pe_okc d (Int32.ofInt n) (Int32.ofInt sp) (Int32.ofInt dp) n1 n2 (st.map (w_u ad)))) = true
    rw [hok, (w_cl hs (by omega)).1, (w_cl hn (by omega)).1, hfb]; rfl
  refine ⟨h.set (ad b) (.inl (2, n2, c3)), fun f => ?_, w_E_set hE hb b1 rfl ⟨htb, ⟨by omega, by omega⟩, ?_, ?_⟩ (fun q hq i => w_cp_of hq i) (w_cp_out (by omega))⟩
  · show pe_ack d h (Value.int (Int32.ofInt n) :: .int (Int32.ofInt dp) :: w_r ad y :: .int (Int32.ofInt sp) :: w_r ad x :: st.map (w_u ad)) (fun st h => pe_go G f d mt rest Lc st h) = _
    rw [w_r_n ad hx, w_r_n ad hy]
    have e1 : pe_at h (ad a) = some (.inl (2, n1, c1)) := by rw [pe_at_eq]; exact a1
    have e2 : pe_at h (ad b) = some (.inl (2, n2, c2)) := by rw [pe_at_eq]; exact b1
    unfold pe_ack pe_isl pe_ari
    dsimp only
    rw [e1]
    dsimp only
    rw [e2]
    show (bif false then _ else (bif (Nat.beq 2 2 && ((Nat.beq 2 0 || (Nat.beq 2 2 && pe_fB c1 (Int32.ofInt sp).toNatClampNeg (Int32.ofInt n).toNatClampNeg)) && pe_okc d (Int32.ofInt n) (Int32.ofInt sp) (Int32.ofInt dp) n1 n2 (st.map (w_u ad)))) then pe_cpk c1 (Int32.ofInt sp).toNatClampNeg (Int32.ofInt dp).toNatClampNeg (Int32.ofInt n).toNatClampNeg c2 (fun c2 => pe_setk (.inl (2, n2, c2)) h (ad b) (fun h => pe_go G f d mt rest Lc (st.map (w_u ad)) h)) else none)) = _
    rw [cond_false, hcond, cond_true, (w_cl hs (by omega)).1, (w_cl hn (by omega)).1, (w_cl hd0 (by omega)).1, v1, pe_setk_eq]
  · rw [w_cp_out (by omega)]
    exact b2
  · intro m hm
    rw [v2]
    by_cases e : dp.toNat ≤ m ∧ m < dp.toNat + n.toNat
    · rw [if_pos e, w_cp_in (by omega) (by omega)]
      have q := a3 (sp.toNat + (m - dp.toNat)) (by omega)
      rw [show ((sp.toNat + (m - dp.toNat) : Nat) : Int) = sp + ((m : Int) - dp) by omega] at q
      exact q
    · rw [if_neg e, w_cp_out (by omega)]
      exact b3 m hm) k
theorem wa_acL {x y n dp sp : Int} {ix : Nat} {ws : List Nat} (a b : Nat) (hx : x = a) (hy : y = b) (ha : w_pr Y S a) (hb : w_pr Y S b) (hta : Y.ty a = 1) (htb : Y.ty b = 1) (hn : 0 ≤ n) (hs : 0 ≤ sp) (hd0 : 0 ≤ dp) (hs1 : sp + n ≤ S a (-1)) (hd1 : dp + n ≤ S b (-1)) (hd : 0 < d) (hc : Nat.ble (w_cat st) 8 = true) (k : wJ G Y M d mt rest L st (w_cp S a b sp dp n) Q) : wJ G Y M d mt (.inr (.inr (.inr (.inr (.inr (.inr (.inr (.inr (.inr (.inr (.inr (.inr (.inr (.inr (.inr (.inl (.inr (.inr (.inl (ix, ws))))))))))))))))))) :: rest) L ((0, n) :: (0, dp) :: (2, y) :: (0, sp) :: (2, x) :: st) S Q := wJ_h (fun ad Lc h hE => by
  obtain ⟨n1, c1, a1, a2, a3⟩ := w_arl hE ha hta
  obtain ⟨n2, c2, b1, b2, b3⟩ := w_arl hE hb htb
  obtain ⟨c3, v1, v2⟩ := pe_cplk_eq (β := Option (pm_O × pe_H)) c1 sp.toNat dp.toNat n.toNat c2
  have hok := w_okc (st := st) (d := d) ad (n1 := n1) (n2 := n2) (by omega) (by omega) hn hs hd0 (by omega) (by omega) hd hc
  refine ⟨h.set (ad b) (.inr (.inr (.inr (1, n2, c3)))), fun f => ?_, w_E_set hE hb b1 rfl ⟨htb, rfl, ?_, ?_⟩ (fun q hq i => w_cp_of hq i) (w_cp_out (by omega))⟩
  · show pe_ack d h (Value.int (Int32.ofInt n) :: .int (Int32.ofInt dp) :: w_r ad y :: .int (Int32.ofInt sp) :: w_r ad x :: st.map (w_u ad)) (fun st h => pe_go G f d mt rest Lc st h) = _
    rw [w_r_n ad hx, w_r_n ad hy]
    have e1 : pe_at h (ad a) = some (.inr (.inr (.inr (1, n1, c1)))) := by rw [pe_at_eq]; exact a1
    have e2 : pe_at h (ad b) = some (.inr (.inr (.inr (1, n2, c2)))) := by rw [pe_at_eq]; exact b1
    unfold pe_ack pe_isl pe_arl
    dsimp only
    rw [e1]
    dsimp only
    rw [e2]
    show (bif true then (bif (Nat.beq 1 1 && (Nat.beq 1 1 && pe_okc d (Int32.ofInt n) (Int32.ofInt sp) (Int32.ofInt dp) n1 n2 (st.map (w_u ad)))) then pe_cplk c1 (Int32.ofInt sp).toNatClampNeg (Int32.ofInt dp).toNatClampNeg (Int32.ofInt n).toNatClampNeg c2 (fun c2 => pe_setk (.inr (.inr (.inr (1, n2, c2)))) h (ad b) (fun h => pe_go G f d mt rest Lc (st.map (w_u ad)) h)) else none) else _) = _
    rw [cond_true, hok]
    show (bif true then _ else none) = _
    rw [cond_true, (w_cl hs (by omega)).1, (w_cl hn (by omega)).1, (w_cl hd0 (by omega)).1, v1, pe_setk_eq]
  · rw [w_cp_out (by omega)]
    exact b2
  · intro m hm
    rw [v2]
    by_cases e : dp.toNat ≤ m ∧ m < dp.toNat + n.toNat
    · rw [if_pos e, w_cp_in (by omega) (by omega)]
      have q := a3 (sp.toNat + (m - dp.toNat)) (by omega)
      rw [show ((sp.toNat + (m - dp.toNat) : Nat) : Int) = sp + ((m : Int) - dp) by omega] at q
      exact q
    · rw [if_neg e, w_cp_out (by omega)]
      exact b3 m hm) k
end W58
