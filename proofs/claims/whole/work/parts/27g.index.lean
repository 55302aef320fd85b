/-! PART 27g: indexOf of a text. -/
section PE27g
variable {p : Program} {l : Launch} {e : Env} {R : Room} {s : State} {m : MethodId} {args : Array Value} {below : List Frame} {meth : Method} {c : Code} {Q : State → Prop}
variable {ex : Nat → Nat} {B : Nat} {dA : Nat → ClassId} {D : va_G} {cl : List vw_C} {nL n0 z0 : Nat} {cc : ByteArray} {pc : Nat} {L : pm_L} {st : List Value} {h h2 : pm_H}
variable {tys : List (ClassId × FieldType)} {Ts : List Cond} {own : String} {E : State → Prop}
theorem ix_8 {i : Int32} (h : pe_inb i 128 = true) : i.toInt8.toInt32 = i ∧ 0 ≤ i.toInt ∧ i.toInt < 128 := by
  have hin := pe_inb_ok h
  have h1 : ¬ i < 0 := fun q => hin (Or.inl q)
  have h2 : ¬ 128 ≤ i.toNatClampNeg := fun q => hin (Or.inr q)
  have h3 : (0 : Int) ≤ i.toInt := by
    have := Int32.not_lt.mp h1
    rw [Int32.le_iff_toInt_le] at this
    exact this
  have h4 : i.toNatClampNeg = i.toInt.toNat := rfl
  have h5 : i.toInt < 128 := by omega
  refine ⟨?_, h3, h5⟩
  apply Int32.toInt_inj.mp
  rw [Int8.toInt_toInt32, Int32.toInt_toInt8]
  rw [show (2 ^ 8 : Nat) = 256 from rfl]
  show (if i.toInt % 256 < (256 + 1) / 2 then i.toInt % 256 else i.toInt % 256 - 256) = i.toInt
  rw [if_pos (by omega)]
  omega
theorem pm_mmax (hx : p.tables.exec = Jvm.exec) (hb : c.code = cc) (hml : c.maxLocals = nL) {own : String} {index : Nat} (hown : s.vm.findClass own = some m.cls) (hlink : (Cond.methodLink own index Lib.Math.max.name).before args s = true) (hstat : (Cond.static Lib.Math.max.name).before args s = true) (hini : (Cond.initialized "java/lang/Math").before args s = true) (hcode : (Cond.code Lib.Math.max.name Lib.Math.max.code 2 (some .int)).before args s = true) (hframes : 1 ≤ R.frames) (hlocals : (st.map fun v => v.category).sum + 13 ≤ R.locals) (hc : h.length - n0 ≤ R.cells) (hs : pm_sz h - z0 ≤ R.slots) {x : Int32} (hdg : decode cc pc = .ok (.invokestatic index, 3)) (k : pm_W p l e R s m args below meth c Q ex B dA D cl nL n0 z0 (pc + 3) L (.int x :: st) h) : pm_W p l e R s m args below meth c Q ex B dA D cl nL n0 z0 pc L (.int x :: .int x :: st) h := fun ls H locs hl hP hS => va_mmax (x := x) (y := x) hx hb (hml.trans hl.1.symm) hown hlink hstat hini hcode hframes (by rw [pm_catsum]; exact hlocals) hc hs hdg (by rw [ite_self]; exact k ls H locs hl hP hS)
theorem pm_mmin (hx : p.tables.exec = Jvm.exec) (hb : c.code = cc) (hml : c.maxLocals = nL) {own : String} {index : Nat} (hown : s.vm.findClass own = some m.cls) (hlink : (Cond.methodLink own index Lib.Math.min.name).before args s = true) (hstat : (Cond.static Lib.Math.min.name).before args s = true) (hini : (Cond.initialized "java/lang/Math").before args s = true) (hcode : (Cond.code Lib.Math.min.name Lib.Math.min.code 2 (some .int)).before args s = true) (hframes : 1 ≤ R.frames) (hlocals : (st.map fun v => v.category).sum + 13 ≤ R.locals) (hc : h.length - n0 ≤ R.cells) (hs : pm_sz h - z0 ≤ R.slots) {x : Int32} (hdg : decode cc pc = .ok (.invokestatic index, 3)) (k : pm_W p l e R s m args below meth c Q ex B dA D cl nL n0 z0 (pc + 3) L (.int x :: st) h) : pm_W p l e R s m args below meth c Q ex B dA D cl nL n0 z0 pc L (.int x :: .int x :: st) h := fun ls H locs hl hP hS => va_mmin (x := x) (y := x) hx hb (hml.trans hl.1.symm) hown hlink hstat hini hcode hframes (by rw [pm_catsum]; exact hlocals) hc hs hdg (by rw [ite_self]; exact k ls H locs hl hP hS)
theorem ix_loop (hx : p.tables.exec = Jvm.exec) (hb : c.code = prog_28_method_23_code) (hlocks : meth.locks = false) (hr : meth.sig.returnType = some .int) (hnL : 5 < nL) {j : Nat} {tx : List Int32} (hT : va_T .byte (ex j) tx.length (fun k => .int (tx.getD k 0)) (fun q => B ≤ q) s s.heap) (hl : tx.length < 2 ^ 31) {z u v : Int32} {o : pm_O} : ∀ (k n : Nat), n + k = tx.length → (o, h2) = (.inl (some (.int (match pe_ixf z (tx.drop n) n with
    | some q => Int32.ofNat q
    | none => -1))), h) → pm_W p l e R s m args below meth c (pm_MQ below (pm_QcO ex B dA D cl o h2) args s (h2.length - n0) (pm_sz h2 - z0) (fun q => B ≤ q)) ex B dA D cl nL n0 z0 7 [(5, .int (Int32.ofNat n)), (4, .int z), (0, .retAddr j), (1, .int u), (2, .int v), (3, .int (Int32.ofNat tx.length))] [] h := by
  have eN : ∀ n : Nat, n ≤ tx.length → (Int32.ofNat n).toInt = n := fun n hn => Int32.toInt_ofNat_of_lt (by omega)
  intro k
  induction k with
  | zero =>
    intro n hn he
    refine pm_iload (i := 5) hx hb (by decide +kernel) rfl ?_
    refine pm_iload_n (n := 3) hx hb (by decide +kernel) rfl rfl ?_
    refine pm_icmp_ge (off := 21) (tgt := 31) hx hb (by decide +kernel) (by decide) (fun _ => ?_) (fun c1 => absurd (by rw [Int32.le_iff_toInt_le, eN _ (Nat.le_refl _), eN n (by omega)]; omega) c1)
    refine pm_iconst (n := -1) hx hb (by decide +kernel) ?_
    refine pm_ret_i hx hb hlocks hr ?_ (by decide +kernel)
    rw [he, List.drop_eq_nil_of_le (by omega)]
    rfl
  | succ k ih =>
    intro n hn he
    have e1 := eN n (by omega)
    have e2 : (Int32.ofNat n).toNatClampNeg = n := by
      show (Int32.ofNat n).toInt.toNat = n
      rw [e1]; rfl
    have hd : tx.drop n = tx.getD n 0 :: tx.drop (n + 1) := by
      rw [List.drop_eq_getElem_cons (by omega), List.getD_eq_getElem?_getD, List.getElem?_eq_getElem (by omega)]; rfl
    refine pm_iload (i := 5) hx hb (by decide +kernel) rfl ?_
    refine pm_iload_n (n := 3) hx hb (by decide +kernel) rfl rfl ?_
    refine pm_icmp_ge (off := 21) (tgt := 31) hx hb (by decide +kernel) (by decide) (fun c1 => absurd c1 (by rw [Int32.le_iff_toInt_le, eN _ (Nat.le_refl _), e1]; omega)) (fun _ => ?_)
    refine pm_aload_n (n := 0) hx hb (by decide +kernel) rfl rfl rfl ?_
    refine pm_iload (i := 5) hx hb (by decide +kernel) rfl ?_
    refine pm_baldX (v := .int (tx.getD n 0)) hx hb hT (fun q => q.elim (fun q1 => by rw [Int32.lt_iff_toInt_lt, e1] at q1; have : (0 : Int32).toInt = 0 := rfl; omega) (fun q2 => by rw [e2] at q2; omega)) (by show Value.int (tx.getD (Int32.ofNat n).toNatClampNeg 0) = .int (tx.getD n 0); rw [e2]) (by decide +kernel) ?_
    refine pm_iload (i := 4) hx hb (by decide +kernel) rfl ?_
    refine pm_icmp_ne (off := 6) (tgt := 25) hx hb (by decide +kernel) (by decide) (fun c1 => ?_) (fun c1 => ?_)
    · refine pm_iinc (i := 5) (n := 1) hx hb (by decide +kernel) rfl hnL ?_
      refine pm_goto (off := -21) (tgt := 7) hx hb (by decide +kernel) (by decide) ?_
      have e3 : Int32.ofNat n + Int32.ofInt 1 = Int32.ofNat (n + 1) := by
        rw [Int32.ofNat_add]; rfl
      have g := ih (n + 1) (by omega) (by
        rw [he, hd]
        show _ = (Sum.inl (some (Value.int (match pe_ixf z (tx.drop (n + 1)) (n + 1) with
          | some q => Int32.ofNat q
          | none => -1))), h)
        rw [show pe_ixf z (tx.getD n 0 :: tx.drop (n + 1)) n = pe_ixf z (tx.drop (n + 1)) (n + 1) from by
          show (bif decide (tx.getD n 0 = z) then some n else pe_ixf z (tx.drop (n + 1)) (n + 1)) = _
          rw [decide_eq_false c1]; rfl])
      rw [← e3] at g
      exact g
    · refine pm_iload (i := 5) hx hb (by decide +kernel) rfl ?_
      refine pm_ret_i hx hb hlocks hr ?_ (by decide +kernel)
      rw [he, hd, show pe_ixf z (tx.getD n 0 :: tx.drop (n + 1)) n = some n from by
          show (bif decide (tx.getD n 0 = z) then some n else pe_ixf z (tx.drop (n + 1)) (n + 1)) = _
          rw [decide_eq_true c1]; rfl]
end PE27g
section PE27gJ
variable {l : Launch} {d : Nat} {ex : Nat → Nat} {B : Nat} {dA : Nat → ClassId} {D : va_G} {cl : List vw_C} {tys : List (ClassId × FieldType)} {E : State → Prop} {xs : List (Nat × List Int32)} {exV : Nat → Nat} {jF : Value}
def yJ_canEnc : MethodName := ⟨"java/lang/StringLatin1", "canEncode", "(I)Z"⟩
abbrev cJ_canEnc : Cond := .code yJ_canEnc prog_28_method_4_code 1 (some .boolean)
theorem mJ_canEnc : cJ_canEnc ∈ pm_tb := (pm_mem 963 (by decide +kernel) (by decide +kernel))
theorem cj_canEnc {i : Int32} (hi : pe_inb i 128 = true) (h : pm_H) : pm_Con l yJ_canEnc (cJ_canEnc :: pm_tb) d ex B dA D cl tys E [.int i] h (.inl (some (.int 1))) h := by
  refine pm_Con_ofW (cc := prog_28_method_4_code) (maxL := 1) (ret := (some .boolean)) (hh := []) (by decide) (Or.inl rfl) (Nat.le_of_ble_eq_true rfl) ?_
  intro p e s m below meth c hx hb hr hlocks hml hmt hcd hnm hts hz hK hE
  have hown : s.vm.findClass "java/lang/StringLatin1" = some m.cls := findClass_of_methodNamed hnm
  obtain ⟨-, i0, i1⟩ := ix_8 hi
  refine pm_iload_n (n := 0) hx hb (by decide +kernel) rfl rfl ?_
  refine pm_if_lt (off := 14) (tgt := 15) hx hb (by decide +kernel) (by decide) (fun c1 => absurd c1 (by rw [Int32.lt_iff_toInt_lt]; have : (0 : Int32).toInt = 0 := rfl; omega)) (fun _ => ?_)
  refine pm_iload_n (n := 0) hx hb (by decide +kernel) rfl rfl ?_
  refine pm_sipush (n := 255) hx hb (by decide +kernel) ?_
  refine pm_icmp_gt (off := 7) (tgt := 15) hx hb (by decide +kernel) (by decide) (fun c1 => absurd c1 (by
    rw [Int32.lt_iff_toInt_lt]
    have : ((Int16.ofInt 255).toInt32).toInt = 255 := by decide
    omega)) (fun _ => ?_)
  refine pm_iconst (n := 1) hx hb (by decide +kernel) ?_
  refine pm_goto (off := 4) (tgt := 16) hx hb (by decide +kernel) (by decide) ?_
  exact pm_ret_z hx hb hlocks hr rfl rfl (by decide +kernel)
def yJ_ixChar : MethodName := ⟨"java/lang/StringLatin1", "indexOfChar", "([BIII)I"⟩
abbrev cJ_ixChar : Cond := .code yJ_ixChar prog_28_method_23_code 6 (some .int)
theorem mJ_ixChar : cJ_ixChar ∈ pm_tb := (pm_mem 968 (by decide +kernel) (by decide +kernel))
theorem cj_ixChar (hEX : ∀ s, E s → pe_EX ex B xs exV jF s) {j : Nat} {tx : List Int32} (hj : pe_at xs j = some (0, tx)) {i : Int32} (hi : pe_inb i 128 = true) (h0 : 0 < tx.length) (hl : tx.length < 2 ^ 31) (h : pm_H) : pm_Con l yJ_ixChar (cJ_ixChar :: pm_tb) d ex B dA D cl tys E [.retAddr (exV j), .int i, .int 0, .int (Int32.ofNat tx.length)] h (.inl (some (.int (pe_ixo i tx)))) h := by
  refine pm_Con_ofW (cc := prog_28_method_23_code) (maxL := 6) (ret := (some .int)) (hh := []) (by decide) (Or.inl rfl) (Nat.le_of_ble_eq_true rfl) ?_
  intro p e s m below meth c hx hb hr hlocks hml hmt hcd hnm hts hz hK hE
  have hown : s.vm.findClass "java/lang/StringLatin1" = some m.cls := findClass_of_methodNamed hnm
  have X := hEX s hE
  obtain ⟨i8, -, -⟩ := ix_8 hi
  refine pm_iload_n (n := 1) hx hb (by decide +kernel) rfl rfl ?_
  refine pm_i2b hx hb (by decide +kernel) ?_
  rw [i8]
  refine pm_istore (i := 4) hx hb (by decide +kernel) (by decide) ?_
  refine pm_iload_n (n := 2) hx hb (by decide +kernel) rfl rfl ?_
  refine pm_istore (i := 5) hx hb (by decide +kernel) (by decide) ?_
  exact ix_loop (z := i) (u := i) (v := 0) hx hb hlocks hr (by decide) (X.st j tx hj).2.2.2 hl tx.length 0 (Nat.zero_add _) rfl
def yJ_ixL : MethodName := ⟨"java/lang/StringLatin1", "indexOf", "([BIII)I"⟩
abbrev cJ_ixL : Cond := .code yJ_ixL prog_28_method_22_code 4 (some .int)
theorem mJ_ixL : cJ_ixL ∈ pm_tb := (pm_mem 960 (by decide +kernel) (by decide +kernel))
theorem cj_ixL (hEok : pm_Ok B E) (hEX : ∀ s, E s → pe_EX ex B xs exV jF s) {j : Nat} {tx : List Int32} (hj : pe_at xs j = some (0, tx)) {i : Int32} (hi : pe_inb i 128 = true) (h0 : 0 < tx.length) (hl : tx.length < 2 ^ 31) (h : pm_H) : pm_Con l yJ_ixL (cJ_ixL :: pm_tb) (d + 1) ex B dA D cl tys E [.retAddr (exV j), .int i, .int 0, .int (Int32.ofNat tx.length)] h (.inl (some (.int (pe_ixo i tx)))) h := by
  refine pm_Con_ofW (cc := prog_28_method_22_code) (maxL := 4) (ret := (some .int)) (hh := []) (by decide) (Or.inl rfl) (Nat.le_of_ble_eq_true rfl) ?_
  intro p e s m below meth c hx hb hr hlocks hml hmt hcd hnm hts hz hK hE
  have hown : s.vm.findClass "java/lang/StringLatin1" = some m.cls := findClass_of_methodNamed hnm
  have X := hEX s hE
  refine pm_iload_n (n := 1) hx hb (by decide +kernel) rfl rfl ?_
  refine pm_cS (As := [_]) (own := "java/lang/StringLatin1") (index := 88) (hh := []) hx hb hml hown hK hE hEok hz (Nat.le_refl _) (Nat.le_refl _) (Nat.le_refl _) (Nat.le_refl _) (cj_canEnc (d := d) hi h) (pm_hws hts mJ_canEnc) (Or.inl List.mem_cons_self) (hts _ (List.mem_cons_of_mem _ (pm_mem 4 (by decide +kernel) (by decide +kernel)))) (Or.inl (hts _ (List.mem_cons_of_mem _ (pm_mem 961 (by decide +kernel) (by decide +kernel))))) (hts _ (List.mem_cons_of_mem _ (pm_mem 962 (by decide +kernel) (by decide +kernel)))) (Cond.code_named (hts _ (List.mem_cons_of_mem _ mJ_canEnc))) (by decide +kernel) (pm_arity (n := 1) (by decide +kernel)) (Nat.le_of_ble_eq_true rfl) (by simp [pm_room]) (by simp [pm_room]) (by simp [pm_room]) (by simp [pm_room]; omega) (by decide +kernel) ?_
  refine pm_if_ne (off := 5) (tgt := 9) hx hb (by decide +kernel) (by decide) (fun _ => ?_) (fun c1 => absurd c1 (by decide))
  refine pm_iload_n (n := 2) hx hb (by decide +kernel) rfl rfl ?_
  refine pm_iconst (n := 0) hx hb (by decide +kernel) ?_
  refine pm_mmax (own := "java/lang/StringLatin1") (index := 92) (x := 0) hx hb hml hown (hts _ (List.mem_cons_of_mem _ (pm_mem 964 (by decide +kernel) (by decide +kernel)))) (hts _ (List.mem_cons_of_mem _ (pm_mem 137 (by decide +kernel) (by decide +kernel)))) (hts _ (List.mem_cons_of_mem _ (pm_mem 8 (by decide +kernel) (by decide +kernel)))) (hts _ (List.mem_cons_of_mem _ (pm_mem 138 (by decide +kernel) (by decide +kernel)))) (by show 1 ≤ d + 1; omega) (by show 0 + 13 ≤ (d + 1) * 60; omega) (Nat.le_refl _) (Nat.le_refl _) (by decide +kernel) ?_
  refine pm_istore_n (n := 2) (i := 2) hx hb (by decide +kernel) rfl (by decide) ?_
  refine pm_iload_n (n := 3) hx hb (by decide +kernel) rfl rfl ?_
  refine pm_aload_n (n := 0) hx hb (by decide +kernel) rfl rfl rfl ?_
  refine pm_alenX hx hb (X.st j tx hj).2.2.2 (by decide +kernel) ?_
  refine pm_mmin (own := "java/lang/StringLatin1") (index := 38) (x := Int32.ofNat tx.length) hx hb hml hown (hts _ (List.mem_cons_of_mem _ (pm_mem 965 (by decide +kernel) (by decide +kernel)))) (hts _ (List.mem_cons_of_mem _ (pm_mem 127 (by decide +kernel) (by decide +kernel)))) (hts _ (List.mem_cons_of_mem _ (pm_mem 8 (by decide +kernel) (by decide +kernel)))) (hts _ (List.mem_cons_of_mem _ (pm_mem 128 (by decide +kernel) (by decide +kernel)))) (by show 1 ≤ d + 1; omega) (by show 0 + 13 ≤ (d + 1) * 60; omega) (Nat.le_refl _) (Nat.le_refl _) (by decide +kernel) ?_
  refine pm_istore_n (n := 3) (i := 3) hx hb (by decide +kernel) rfl (by decide) ?_
  refine pm_iload_n (n := 2) hx hb (by decide +kernel) rfl rfl ?_
  refine pm_iload_n (n := 3) hx hb (by decide +kernel) rfl rfl ?_
  refine pm_icmp_lt (off := 5) (tgt := 29) hx hb (by decide +kernel) (by decide) (fun _ => ?_) (fun c1 => absurd (by rw [Int32.lt_iff_toInt_lt, Int32.toInt_ofNat_of_lt hl]; have : (0 : Int32).toInt = 0 := rfl; omega) c1)
  refine pm_aload_n (n := 0) hx hb (by decide +kernel) rfl rfl rfl ?_
  refine pm_iload_n (n := 1) hx hb (by decide +kernel) rfl rfl ?_
  refine pm_iload_n (n := 2) hx hb (by decide +kernel) rfl rfl ?_
  refine pm_iload_n (n := 3) hx hb (by decide +kernel) rfl rfl ?_
  refine pm_cS (As := [_, _, _, _]) (own := "java/lang/StringLatin1") (index := 95) (hh := []) hx hb hml hown hK hE hEok hz (Nat.le_refl _) (Nat.le_refl _) (Nat.le_refl _) (Nat.le_refl _) (cj_ixChar (d := d) hEX hj hi h0 hl h) (pm_hws hts mJ_ixChar) (Or.inl List.mem_cons_self) (hts _ (List.mem_cons_of_mem _ (pm_mem 4 (by decide +kernel) (by decide +kernel)))) (Or.inl (hts _ (List.mem_cons_of_mem _ (pm_mem 966 (by decide +kernel) (by decide +kernel))))) (hts _ (List.mem_cons_of_mem _ (pm_mem 967 (by decide +kernel) (by decide +kernel)))) (Cond.code_named (hts _ (List.mem_cons_of_mem _ mJ_ixChar))) (by decide +kernel) (pm_arity (n := 4) (by decide +kernel)) (Nat.le_of_ble_eq_true rfl) (by simp [pm_room]) (by simp [pm_room]) (by simp [pm_room]) (by simp [pm_room]; omega) (by decide +kernel) ?_
  exact pm_ret_i hx hb hlocks hr rfl (by decide +kernel)
def yJ_ix2 : MethodName := ⟨"java/lang/String", "indexOf", "(II)I"⟩
abbrev cJ_ix2 : Cond := .code yJ_ix2 prog_27_method_80_code 3 (some .int)
theorem mJ_ix2 : cJ_ix2 ∈ pm_tb := (pm_mem 956 (by decide +kernel) (by decide +kernel))
theorem cj_ix2 (hEok : pm_Ok B E) (hEX : ∀ s, E s → pe_EX ex B xs exV jF s) {j : Nat} {tx : List Int32} (hj : pe_at xs j = some (0, tx)) {i : Int32} (hi : pe_inb i 128 = true) (h0 : 0 < tx.length) (hl : tx.length < 2 ^ 31) (h : pm_H) : pm_Con l yJ_ix2 (cJ_ix2 :: pm_tb) (d + 2) ex B dA D cl tys E [.retAddr j, .int i, .int 0] h (.inl (some (.int (pe_ixo i tx)))) h := by
  refine pm_Con_ofW (cc := prog_27_method_80_code) (maxL := 3) (ret := (some .int)) (hh := []) (by decide) (Or.inl rfl) (Nat.le_of_ble_eq_true rfl) ?_
  intro p e s m below meth c hx hb hr hlocks hml hmt hcd hnm hts hz hK hE
  have hown : s.vm.findClass "java/lang/String" = some m.cls := findClass_of_methodNamed hnm
  have X := hEX s hE
  refine pm_aload_n (n := 0) hx hb (by decide +kernel) rfl rfl rfl ?_
  refine pm_cVX (As := []) (own := "java/lang/String") (index := 492) (hh := []) hx hb hml hown hK hE hEok hz (Nat.le_refl _) (Nat.le_refl _) (Nat.le_refl _) (Nat.le_refl _) (cj_isLatin1 (d := d + 1) hEX hj h) (pm_hws hts mJ_isLatin1) (Or.inl List.mem_cons_self) (hts _ (List.mem_cons_of_mem _ (pm_mem 3 (by decide +kernel) (by decide +kernel)))) (Or.inl (hts _ (List.mem_cons_of_mem _ (pm_mem 66 (by decide +kernel) (by decide +kernel))))) (hts _ (List.mem_cons_of_mem _ (pm_mem 67 (by decide +kernel) (by decide +kernel)))) (hts _ (List.mem_cons_of_mem _ (pm_mem 68 (by decide +kernel) (by decide +kernel)))) (by decide +kernel) (pm_arity (n := 0) (by decide +kernel)) ((hEX s hE).st j tx hj).1 (Nat.le_of_ble_eq_true rfl) (by simp [pm_room]) (by simp [pm_room]) (by simp [pm_room]) (by simp [pm_room]; omega) (by decide +kernel) ?_
  refine pm_if_eq (off := 19) (tgt := 23) hx hb (by decide +kernel) (by decide) (fun c1 => absurd c1 (by decide)) (fun _ => ?_)
  refine pm_aload_n (n := 0) hx hb (by decide +kernel) rfl rfl rfl ?_
  refine pm_getfX (own := "java/lang/String") (index := 9) (v := .retAddr (exV j)) hx hb (X.st j tx hj).2.2.1 hown (hts _ (List.mem_cons_of_mem _ (pm_mem 3859 (by decide +kernel) (by decide +kernel)))) (fun _ q => q) (by decide +kernel) ?_
  refine pm_iload_n (n := 1) hx hb (by decide +kernel) rfl rfl ?_
  refine pm_iload_n (n := 2) hx hb (by decide +kernel) rfl rfl ?_
  refine pm_aload_n (n := 0) hx hb (by decide +kernel) rfl rfl rfl ?_
  refine pm_cVX (As := []) (own := "java/lang/String") (index := 505) (hh := []) hx hb hml hown hK hE hEok hz (Nat.le_refl _) (Nat.le_refl _) (Nat.le_refl _) (Nat.le_refl _) (cj_length (d := d) hEok hEX hj h) (pm_hws hts mJ_length) (Or.inl List.mem_cons_self) (hts _ (List.mem_cons_of_mem _ (pm_mem 3 (by decide +kernel) (by decide +kernel)))) (Or.inl (hts _ (List.mem_cons_of_mem _ (pm_mem 957 (by decide +kernel) (by decide +kernel))))) (hts _ (List.mem_cons_of_mem _ (pm_mem 53 (by decide +kernel) (by decide +kernel)))) (hts _ (List.mem_cons_of_mem _ (pm_mem 54 (by decide +kernel) (by decide +kernel)))) (by decide +kernel) (pm_arity (n := 0) (by decide +kernel)) ((hEX s hE).st j tx hj).1 (Nat.le_of_ble_eq_true rfl) (by simp [pm_room]) (by simp [pm_room]) (by simp [pm_room]) (by simp [pm_room]; omega) (by decide +kernel) ?_
  refine pm_cS (As := [_, _, _, _]) (own := "java/lang/String") (index := 637) (hh := []) hx hb hml hown hK hE hEok hz (Nat.le_refl _) (Nat.le_refl _) (Nat.le_refl _) (Nat.le_refl _) (cj_ixL (d := d) hEok hEX hj hi h0 hl h) (pm_hws hts mJ_ixL) (Or.inl List.mem_cons_self) (hts _ (List.mem_cons_of_mem _ (pm_mem 4 (by decide +kernel) (by decide +kernel)))) (Or.inl (hts _ (List.mem_cons_of_mem _ (pm_mem 958 (by decide +kernel) (by decide +kernel))))) (hts _ (List.mem_cons_of_mem _ (pm_mem 959 (by decide +kernel) (by decide +kernel)))) (Cond.code_named (hts _ (List.mem_cons_of_mem _ mJ_ixL))) (by decide +kernel) (pm_arity (n := 4) (by decide +kernel)) (Nat.le_of_ble_eq_true rfl) (by simp [pm_room]) (by simp [pm_room]) (by simp [pm_room]) (by simp [pm_room]; omega) (by decide +kernel) ?_
  refine pm_goto (off := 16) (tgt := 36) hx hb (by decide +kernel) (by decide) ?_
  exact pm_ret_i hx hb hlocks hr rfl (by decide +kernel)
def yJ_indexOf : MethodName := ⟨"java/lang/String", "indexOf", "(I)I"⟩
abbrev cJ_indexOf : Cond := .code yJ_indexOf prog_27_method_79_code 2 (some .int)
theorem mJ_indexOf : cJ_indexOf ∈ pm_tb := (pm_mem 952 (by decide +kernel) (by decide +kernel))
theorem cj_indexOf (hEok : pm_Ok B E) (hEX : ∀ s, E s → pe_EX ex B xs exV jF s) {j : Nat} {tx : List Int32} (hj : pe_at xs j = some (0, tx)) {i : Int32} (hi : pe_inb i 128 = true) (h0 : 0 < tx.length) (hl : tx.length < 2 ^ 31) (h : pm_H) : pm_Con l yJ_indexOf (cJ_indexOf :: pm_tb) (d + 3) ex B dA D cl tys E [.retAddr j, .int i] h (.inl (some (.int (pe_ixo i tx)))) h := by
  refine pm_Con_ofW (cc := prog_27_method_79_code) (maxL := 2) (ret := (some .int)) (hh := []) (by decide) (Or.inl rfl) (Nat.le_of_ble_eq_true rfl) ?_
  intro p e s m below meth c hx hb hr hlocks hml hmt hcd hnm hts hz hK hE
  have hown : s.vm.findClass "java/lang/String" = some m.cls := findClass_of_methodNamed hnm
  refine pm_aload_n (n := 0) hx hb (by decide +kernel) rfl rfl rfl ?_
  refine pm_iload_n (n := 1) hx hb (by decide +kernel) rfl rfl ?_
  refine pm_iconst (n := 0) hx hb (by decide +kernel) ?_
  refine pm_cVX (As := [_, _]) (own := "java/lang/String") (index := 633) (hh := []) hx hb hml hown hK hE hEok hz (Nat.le_refl _) (Nat.le_refl _) (Nat.le_refl _) (Nat.le_refl _) (cj_ix2 (d := d) hEok hEX hj hi h0 hl h) (pm_hws hts mJ_ix2) (Or.inl List.mem_cons_self) (hts _ (List.mem_cons_of_mem _ (pm_mem 3 (by decide +kernel) (by decide +kernel)))) (Or.inl (hts _ (List.mem_cons_of_mem _ (pm_mem 953 (by decide +kernel) (by decide +kernel))))) (hts _ (List.mem_cons_of_mem _ (pm_mem 954 (by decide +kernel) (by decide +kernel)))) (hts _ (List.mem_cons_of_mem _ (pm_mem 955 (by decide +kernel) (by decide +kernel)))) (by decide +kernel) (pm_arity (n := 2) (by decide +kernel)) ((hEX s hE).st j tx hj).1 (Nat.le_of_ble_eq_true rfl) (by simp [pm_room]) (by simp [pm_room]) (by simp [pm_room]) (by simp [pm_room]; omega) (by decide +kernel) ?_
  exact pm_ret_i hx hb hlocks hr rfl (by decide +kernel)
end PE27gJ
