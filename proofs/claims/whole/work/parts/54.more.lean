/-! PART 54: rows of the machine over slots: switches, outer things, exceptions, a fixed reference set anew. -/
section W54
variable {G : pe_G} {Y : wY} {M M2 : Nat → Prop} {d : Nat} {mt : pe_Mt} {is rest : List pe_I} {L L2 : wL} {st st2 : List wv} {S S2 : wS} {Q Q2 : wO → wS → Prop}
def w_tb (lo : Int) (ts : List Nat) (df : Nat) (x : Int) : Nat := bif decide (x < lo) then df else match pe_at ts (x - lo).toNat with
  | some b => b
  | none => df
theorem w_tb_df {lo : Int} {ts : List Nat} {df : Nat} {x : Int} (h : x < lo ∨ lo + (ts.length : Int) ≤ x) : w_tb lo ts df x = df := by
  unfold w_tb
  by_cases q : x < lo
  · rw [decide_eq_true q]; rfl
  · rw [decide_eq_false q, cond_false, pe_at_eq, List.getElem?_eq_none (by omega)]
theorem w_r_o (ad : Nat → Nat) {x : Int} {j : Nat} (h : x = -10 - (j : Int)) : w_r ad x = .retAddr j := by
  unfold w_r
  rw [if_neg (by omega), if_neg (by omega)]
  congr 1
  omega
theorem wa_sw {x lo : Int} {i : Instr} {n df : Nat} {ts : List Nat} {is2 : List pe_I} (hx : w_rg 0 x) (hb : w_k mt (w_tb lo ts df x) is2) (k : wJ G Y M d mt is2 L st S Q) : wJ G Y M d mt (.inr (.inr (.inr (.inr (.inr (.inr (.inr (.inr (.inr (.inr (.inr (.inl (i, n, lo, ts, df)))))))))))) :: rest) L ((0, x) :: st) S Q := wJ_s (fun ad Lc h f _ => by
  show pe_jmp mt (pe_tb lo ts df (Int32.ofInt x)) (fun is => pe_go G f d mt is Lc (st.map (w_u ad)) h) = _
  have e : pe_tb lo ts df (Int32.ofInt x) = w_tb lo ts df x := by
    unfold pe_tb w_tb
    rw [w_ti hx]
    rfl
  rw [e]
  exact w_jmp hb _) k
theorem wa_lw {x df : Int} {n tb : Nat} {ps : Array (Int × Int)} {ofs : List (Int × Nat)} {q : Int × Nat} {is2 : List pe_I} (hx : w_rg 0 x) (hq : ofs.find? (fun q => q.1 == Op.lookupswitch.offset ps.toList df x) = some q) (hb : w_k mt q.2 is2) (k : wJ G Y M d mt is2 L st S Q) : wJ G Y M d mt (.inr (.inr (.inr (.inr (.inr (.inr (.inr (.inr (.inr (.inr (.inr (.inr (.inr (.inr (.inr (.inr (.inl ((.lookupswitch df ps), n, ofs))))))))))))))))) :: rest) L ((0, x) :: st) S Q := wJ_s (fun ad Lc h f _ => by
  show (match ofs.find? (fun q => q.1 == Op.lookupswitch.offset ps.toList df (Int32.ofInt x).toInt) with
    | some q => pe_jmp mt q.2 (fun is => pe_go G f d mt is Lc (st.map (w_u ad)) h)
    | none => none) = _
  rw [w_ti hx, hq]
  exact w_jmp hb _) k
theorem wa_ks {wide : Bool} {ix j : Nat} (k : wJ G Y M d mt rest L ((2, -10 - (j : Int)) :: st) S Q) : wJ G Y M d mt (.inr (.inr (.inr (.inr (.inr (.inr (.inr (.inr (.inr (.inr (.inr (.inr (.inr (.inr (.inr (.inl (.inl (wide, ix, j))))))))))))))))) :: rest) L st S Q := wJ_s (st2 := (2, -10 - (j : Int)) :: st) (fun ad Lc h f _ => by
  show pe_go G f d mt rest Lc (.retAddr j :: st.map (w_u ad)) h = pe_go G f d mt rest Lc (w_r ad (-10 - (j : Int)) :: st.map (w_u ad)) h
  rw [w_r_o ad rfl]) k
theorem wa_gs {ix j wd : Nat} {host : Option String} (k : wJ G Y M d mt rest L ((2, -10 - (j : Int)) :: st) S Q) : wJ G Y M d mt (.inr (.inr (.inr (.inr (.inr (.inr (.inr (.inr (.inr (.inr (.inr (.inr (.inr (.inr (.inr (.inl (.inr (.inr (.inr (.inr (.inl (ix, j, host, wd))))))))))))))))))))) :: rest) L st S Q := wJ_s (st2 := (2, -10 - (j : Int)) :: st) (fun ad Lc h f _ => by
  show pe_go G f d mt rest Lc (.retAddr j :: st.map (w_u ad)) h = pe_go G f d mt rest Lc (w_r ad (-10 - (j : Int)) :: st.map (w_u ad)) h
  rw [w_r_o ad rfl]) k
theorem w_at {α : Type} {tx : List α} {m : Nat} (h : m < tx.length) (z : α) : pe_at tx m = some (tx.getD m z) := by
  rw [pe_at_eq, List.getD_eq_getElem?_getD, List.getElem?_eq_getElem h]
  rfl
def w_tx (tx : List Int32) (i : Int) : Int := (tx.getD i.toNat 0).toInt
theorem w_tx_rg (tx : List Int32) (i : Int) : w_rg 0 (w_tx tx i) := ⟨by have := Int32.le_toInt (tx.getD i.toNat 0); unfold w_tx; omega, by have := Int32.toInt_lt (tx.getD i.toNat 0); unfold w_tx; omega⟩
theorem wa_xald {x i : Int} (j : Nat) {tx : List Int32} (hx : x = -10 - (j : Int)) (ht : pe_at G.xs j = some (1, tx)) (hl : tx.length ≤ 2147483647) (h0 : 0 ≤ i) (h1 : i < (tx.length : Nat)) (k : wJ G Y M d mt rest L ((0, w_tx tx i) :: st) S Q) : wJ G Y M d mt (.inl .iaload :: rest) L ((0, i) :: (2, x) :: st) S Q := wJ_p (fun ad Lc h hL k => by
  obtain ⟨b1, b2, b3, b4⟩ := w_in (n := (tx.length : Nat)) ⟨rfl, hl⟩ h0 h1
  show pe_f_iaload G.xs mt.mx Lc (Value.int (Int32.ofInt i) :: w_r ad x :: st.map (w_u ad)) h k = _
  rw [w_r_o ad hx]
  unfold pe_f_iaload pe_xi
  try dsimp only
  rw [ht]
  show (bif pe_inb (Int32.ofInt i) tx.length then (match pe_at tx (Int32.ofInt i).toNatClampNeg with
    | some z => k Lc (Value.int z :: st.map (w_u ad)) h
    | none => none) else none) = _
  rw [b1, cond_true, b2, w_at b3 0]
  show k Lc (Value.int _ :: _) h = k Lc (Value.int (Int32.ofInt (tx.getD i.toNat 0).toInt) :: _) h
  rw [w_oi]) k
theorem wa_xlen {x : Int} (j : Nat) {tx : List Int32} (hx : x = -10 - (j : Int)) (ht : pe_at G.xs j = some (1, tx)) (k : wJ G Y M d mt rest L ((0, (tx.length : Int)) :: st) S Q) : wJ G Y M d mt (.inl .arraylength :: rest) L ((2, x) :: st) S Q := wJ_p (fun ad Lc h hL k => by
  show pe_f_arraylength G.xs mt.mx Lc (w_r ad x :: st.map (w_u ad)) h k = _
  rw [w_r_o ad hx]
  unfold pe_f_arraylength pe_xn
  try dsimp only
  rw [ht]
  show (pe_fi (Int32.ofNat tx.length) fun z => k Lc (Value.int z :: st.map (w_u ad)) h) = _
  rw [pe_fi_eq]
  rfl) k
theorem wa_sl {x : Int} {ix : Nat} {ws : List Nat} (j : Nat) {tx : List Int32} (hx : x = -10 - (j : Int)) (ht : pe_at G.xs j = some (0, tx)) (hd : Nat.ble 2 d = true) (hc : Nat.ble (w_cat st) 8 = true) (k : wJ G Y M d mt rest L ((0, (tx.length : Int)) :: st) S Q) : wJ G Y M d mt (.inr (.inr (.inr (.inr (.inr (.inr (.inr (.inr (.inr (.inr (.inr (.inr (.inr (.inr (.inr (.inl (.inr (.inr (.inr (.inl (ix, ws)))))))))))))))))))) :: rest) L ((2, x) :: st) S Q := wJ_s (st2 := (0, (tx.length : Int)) :: st) (fun ad Lc h f _ => by
  show (bif Nat.ble 2 d then pe_slk G.xs (w_r ad x :: st.map (w_u ad)) (fun z st => bif Nat.ble (pe_cat st) 8 then pe_go G f d mt rest Lc (.int z :: st) h else none) else none) = _
  rw [hd, cond_true, w_r_o ad hx]
  unfold pe_slk
  try dsimp only
  rw [ht]
  show (pe_fi (Int32.ofNat tx.length) fun z => bif Nat.ble (pe_cat (st.map (w_u ad))) 8 then pe_go G f d mt rest Lc (.int z :: st.map (w_u ad)) h else none) = _
  rw [pe_fi_eq, w_cat_eq, hc, cond_true]
  rfl) k
theorem wa_sc {x i : Int} {ix : Nat} {ws : List Nat} (j : Nat) {tx : List Int32} (hx : x = -10 - (j : Int)) (ht : pe_at G.xs j = some (0, tx)) (hl : tx.length ≤ 2147483647) (hd : Nat.ble 4 d = true) (hc : Nat.ble (w_cat st) 8 = true) (h0 : 0 ≤ i) (h1 : i < (tx.length : Nat)) (k : wJ G Y M d mt rest L ((0, w_tx tx i) :: st) S Q) : wJ G Y M d mt (.inr (.inr (.inr (.inr (.inr (.inr (.inr (.inr (.inr (.inr (.inr (.inr (.inr (.inr (.inr (.inl (.inr (.inl (ix, ws)))))))))))))))))) :: rest) L ((0, i) :: (2, x) :: st) S Q := wJ_s (st2 := (0, w_tx tx i) :: st) (fun ad Lc h f _ => by
  obtain ⟨b1, b2, b3, b4⟩ := w_in (n := (tx.length : Nat)) ⟨rfl, hl⟩ h0 h1
  show (bif Nat.ble 4 d then pe_sck G.xs (.int (Int32.ofInt i) :: w_r ad x :: st.map (w_u ad)) (fun z st => bif Nat.ble (pe_cat st) 8 then pe_go G f d mt rest Lc (.int z :: st) h else none) else none) = _
  rw [hd, cond_true, w_r_o ad hx]
  unfold pe_sck
  try dsimp only
  rw [ht]
  show (bif pe_inb (Int32.ofInt i) tx.length then (match pe_at tx (Int32.ofInt i).toNatClampNeg with
    | some z => (bif Nat.ble (pe_cat (st.map (w_u ad))) 8 then pe_go G f d mt rest Lc (.int z :: st.map (w_u ad)) h else none)
    | none => none) else none) = _
  rw [b1, cond_true, b2, w_at b3 0]
  try dsimp only
  rw [w_cat_eq, hc, cond_true]
  show pe_go G f d mt rest Lc (Value.int _ :: _) h = pe_go G f d mt rest Lc (Value.int (Int32.ofInt (tx.getD i.toNat 0).toInt) :: _) h
  rw [w_oi]) k
/-- a step that makes a cell -/
theorem wJ_new {i : pe_I} {g : Int → Int} {c : pe_H → pe_E} {m : Nat} (j : Nat) (hj : 4000000 + 64 * S wG 1 ≤ (j : Int) ∧ (j : Int) < 4000000 + 64 * (S wG 1 + 1)) (hg : 0 ≤ g (-1)) (hm : ∀ h, pm_n (pe_d (c h)) = m) (hc : ∀ h ad2, w_c Y ad2 (w_nw S j g m) j (c h)) (hkl : w_kl Y S (fun _ => False) L) (hks : w_ks Y S (fun _ => False) st2) (hs : ∀ ad Lc h f, w_E Y ad S h → pe_go G (f + 1) d mt (i :: rest) Lc (st.map (w_u ad)) h = pe_go G f d mt rest Lc (.ref h.length :: st2.map (w_u ad)) (h ++ [c h])) (k : wJ G Y M d mt rest L ((2, (j : Int)) :: st2) (w_nw S j g m) Q) : wJ G Y M d mt (i :: rest) L st S Q := by
  intro ad Lc h hE hL
  have W := w_E_new (j := j) (g := g) (c := c h) hE hj hg (fun ad2 => by rw [hm]; exact hc h ad2)
  rw [hm] at W
  have ha : ∀ k, w_pr Y S k → ¬ (fun _ : Nat => False) k → (if k = j then h.length else ad k) = ad k := fun k q _ => (W.2 k q).2
  obtain ⟨o, ad2, S3, h3, f0, hg, hE3, hM, hQ⟩ := k _ Lc _ W.1 (w_LL_kl ha hkl hL)
  refine ⟨o, ad2, S3, h3, f0 + 1, fun f hf => ?_, hE3, fun k q => ⟨(hM k (W.2 k q).1).1, fun r => by rw [(hM k (W.2 k q).1).2 r]; exact (W.2 k q).2⟩, hQ⟩
  obtain ⟨f, rfl⟩ : ∃ g, f = g + 1 := ⟨f - 1, by omega⟩
  have hgf := hg f (by omega)
  rw [show List.map (w_u (fun k => if k = j then h.length else ad k)) ((2, (j : Int)) :: st2) = .ref h.length :: st2.map (w_u ad) by
    rw [List.map_cons, w_st_ks ha hks]
    show w_r (fun k => if k = j then h.length else ad k) (j : Int) :: _ = _
    rw [w_r_n _ rfl]
    show Value.ref (if j = j then h.length else ad j) :: _ = _
    rw [if_pos rfl]] at hgf
  exact (hs ad Lc h f hE).trans hgf
theorem wa_nx {wide : Bool} {ix ic kx jm ci : Nat} {ws : List Nat} (j : Nat) (hj : 4000000 + 64 * S wG 1 ≤ (j : Int) ∧ (j : Int) < 4000000 + 64 * (S wG 1 + 1)) (ht : Y.ty j = 100 + ci) (hf : Y.fk ci = []) (hkl : w_kl Y S (fun _ => False) L) (hks : w_ks Y S (fun _ => False) st) (hd : (Nat.ble 6 d && Nat.ble (w_cat st + 82) (d * 60)) = true) (k : wJ G Y M d mt rest L ((2, (j : Int)) :: st) (w_nw S j (w_z 6) 6) Q) : wJ G Y M d mt (.inr (.inr (.inr (.inr (.inr (.inr (.inr (.inr (.inr (.inr (.inr (.inr (.inr (.inr (.inr (.inl (.inr (.inr (.inr (.inr (.inr (.inr (.inr (.inr (.inl (wide, ix, ic, kx, jm, ci, ws))))))))))))))))))))))))) :: rest) L st S Q :=
  wJ_new (m := 6) (g := w_z 6) (c := fun h => .inr (.inl (ci, [.ref h.length, .float 774, .float 775, .retAddr jm, .null, .int 0]))) j hj (by show (0 : Int) ≤ 6; omega) (fun _ => rfl) (fun h ad2 => ⟨ht, by rw [hf]; exact Nat.zero_le _, fun i q r => by rw [hf] at r; cases r⟩) hkl hks (fun ad Lc h f _ => by
    show (bif Nat.ble 6 d && Nat.ble (pe_cat (st.map (w_u ad)) + 82) (d * 60) then pe_fn h.length (fun a => pe_pushk (.inr (.inl (ci, [.ref a, .float 774, .float 775, .retAddr jm, .null, .int 0]))) h (fun h => pe_go G f d mt rest Lc (.ref a :: st.map (w_u ad)) h)) else none) = _
    rw [w_cat_eq, hd, cond_true, pe_fn_eq, pe_pushk_eq]) k
theorem wa_nh {ix ic : Nat} {ws : List Nat} (j : Nat) (hj : 4000000 + 64 * S wG 1 ≤ (j : Int) ∧ (j : Int) < 4000000 + 64 * (S wG 1 + 1)) (ht : Y.ty j = 100 + 11) (hf : Y.fk 11 = []) (hkl : w_kl Y S (fun _ => False) L) (hks : w_ks Y S (fun _ => False) st) (hd : (Nat.ble 6 d && Nat.ble (w_cat st + 81) (d * 60)) = true) (k : wJ G Y M d mt rest L ((2, (j : Int)) :: st) (w_nw S j (w_z 8) 8) Q) : wJ G Y M d mt (.inr (.inr (.inr (.inr (.inr (.inr (.inr (.inr (.inr (.inr (.inr (.inr (.inr (.inr (.inr (.inl (.inr (.inr (.inr (.inr (.inr (.inr (.inl (ix, ic, ws))))))))))))))))))))))) :: rest) L st S Q :=
  wJ_new (m := 8) (g := w_z 8) (c := fun h => .inr (.inl (11, [.ref h.length, .float 774, .float 775, .null, .null, .int 0, .int 0, .int 0]))) j hj (by show (0 : Int) ≤ 8; omega) (fun _ => rfl) (fun h ad2 => ⟨ht, by rw [hf]; exact Nat.zero_le _, fun i q r => by rw [hf] at r; cases r⟩) hkl hks (fun ad Lc h f _ => by
    show (bif Nat.ble 6 d && Nat.ble (pe_cat (st.map (w_u ad)) + 81) (d * 60) then pe_fn h.length (fun a => pe_pushk (.inr (.inl (11, [.ref a, .float 774, .float 775, .null, .null, .int 0, .int 0, .int 0]))) h (fun h => pe_go G f d mt rest Lc (.ref a :: st.map (w_u ad)) h)) else none) = _
    rw [w_cat_eq, hd, cond_true, pe_fn_eq, pe_pushk_eq]) k
theorem w_ctk {ad : Nat → Nat} {h : pe_H} {j ci : Nat} {hdl : pe_HS} {q : Nat × Nat × List (Nat × Bool × String × Nat × Nat)} {α : Type} (hE : w_E Y ad S h) (hp : w_pr Y S j) (ht : Y.ty j = 100 + ci) (hq : hdl.find? (fun q => Nat.beq q.1 ci) = some q) (k : Nat → Option α) : pe_ctk hdl (ad j) h k = k q.2.1 := by
  obtain ⟨vs, h1, -⟩ := w_obj hE hp ht
  unfold pe_ctk
  rw [pe_at_eq, h1]
  try dsimp only
  rw [hq]
theorem wa_tc {x : Int} {hdl : pe_HS} {ci : Nat} {q : Nat × Nat × List (Nat × Bool × String × Nat × Nat)} {is2 : List pe_I} (j : Nat) (hx : x = j) (hp : w_pr Y S j) (ht : Y.ty j = 100 + ci) (hq : hdl.find? (fun q => Nat.beq q.1 ci) = some q) (hb : w_k mt q.2.1 is2) (k : wJ G Y M d mt is2 L [(2, x)] S Q) : wJ G Y M d mt (.inr (.inr (.inr (.inr (.inr (.inr (.inr (.inr (.inr (.inr (.inr (.inr (.inr (.inr (.inr (.inr (.inr (.inr (.inr hdl)))))))))))))))))) :: rest) L ((2, x) :: st) S Q := wJ_s (st2 := [(2, x)]) (fun ad Lc h f hE => by
  show pe_rf (w_r ad x :: st.map (w_u ad)) _ = pe_go G f d mt is2 Lc [w_r ad x] h
  rw [w_r_n ad hx]
  show pe_ctk hdl (ad j) h (fun tb => pe_jmp mt tb (fun is => pe_go G f d mt is Lc [.ref (ad j)] h)) = _
  rw [w_ctk hE hp ht hq]
  exact w_jmp hb _) k
end W54
