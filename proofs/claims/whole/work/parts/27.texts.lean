/-! PART 27: rows over outer objects; length and charAt of a text. -/
section PE27
variable {p : Program} {l : Launch} {e : Env} {R : Room} {s : State} {m : MethodId} {args : Array Value} {below : List Frame} {meth : Method} {c : Code} {Q : State → Prop}
variable {ex : Nat → Nat} {B : Nat} {dA : Nat → ClassId} {D : va_G} {cl : List vw_C} {nL n0 z0 : Nat} {cc : ByteArray} {pc : Nat} {L : pm_L} {st : List Value} {h h2 : pm_H}
variable {tys : List (ClassId × FieldType)} {Ts : List Cond} {own : String} {E : State → Prop}
theorem pm_stkX (As : List Value) (b : Nat) (st : List Value) : (As.reverse ++ .retAddr b :: st).map (pm_v ex B) = (As.map (pm_v ex B)).reverse ++ .ref (ex b) :: st.map (pm_v ex B) := by
  rw [List.map_append, List.map_reverse]; rfl
theorem pm_cVX (hx : p.tables.exec = Jvm.exec) (hb : c.code = cc) (hml : c.maxLocals = nL) (hown : s.vm.findClass own = some m.cls) (hK : va_K D cl tys s) (hE : E s) (hEok : pm_Ok B E) (hB : s.heap.size = B + n0) (hn0 : n0 ≤ h.length) (hz0 : z0 ≤ pm_sz h) (hn2 : h.length ≤ h2.length) (hz2 : pm_sz h ≤ pm_sz h2) {y : MethodName} {bytes : ByteArray} {maxL index d : Nat} {ret : Option FieldType} {hh : List (Nat × Nat × Nat × Nat)} {ws : List Cond} {As : List Value} {o : pm_O} {C : String} {b : Nat} (hM : pm_Con l y ws d ex B dA D cl tys E (.retAddr b :: As) h o h2) (hws : ∀ w ∈ ws, ∀ (a2 : Array Value) (U : State), s.WarmedH U.vm → w.before a2 U = true) (hcw : Cond.code y bytes maxL ret ∈ ws ∨ Cond.codeWith y bytes maxL ret hh ∈ ws) (hini : (Cond.initialized y.cls).before args s = true) (hlink : (Cond.methodLink own index y).before args s = true ∨ ∃ host, (Cond.methodLinkNest own index y host).before args s = true) (hinst : (Cond.instanceMethod y).before args s = true) (hsel : (Cond.selects C y y).before args s = true) (hy : y.cls ≠ "java/lang/invoke/MethodHandle" ∧ y.cls ≠ "java/lang/invoke/VarHandle") (hlen : ∀ sig, parseMethodDescriptor y.desc = some sig → As.length = sig.parameters.length) (hbv : va_O C (ex b) (fun q => B ≤ q) s s.heap) (hst : (st.map fun v => v.category).sum ≤ 8) (hcells : h.length - n0 + (h2.length - h.length) ≤ R.cells) (hslots : pm_sz h - z0 + (pm_sz h2 - pm_sz h) ≤ R.slots) (hfr : d + 1 ≤ R.frames) (hlo : 8 + (maxL + 11) + d * 60 ≤ R.locals) (hdg : decode cc pc = .ok (.invokevirtual index, 3)) (k : pm_K p l e R s m args below meth c Q ex B dA D cl nL n0 z0 pc L st o h2) : pm_W p l e R s m args below meth c Q ex B dA D cl nL n0 z0 pc L (As.reverse ++ .retAddr b :: st) h := fun ls H locs hl hP hS T hT X => by
  have hz : H.size = B + h.length := hT ▸ pm_size X hB hn0 (by rw [hT]; exact hP) (by rw [hT]; exact hS.1)
  have hdg2 := hdg
  rw [← hb] at hdg2
  rw [pm_stkX]
  have hlen2 : ∀ sig, parseMethodDescriptor y.desc = some sig → (As.map (pm_v ex B)).length = sig.parameters.length := fun sig hs => by rw [List.length_map]; exact hlen sig hs
  obtain ⟨cellB, r1, r2, r3, -⟩ := hbv.kept hS.2.1
  obtain ⟨mk, vm1, hn, X1, hstep⟩ := pm_stepV X hx hown hlink hinst hsel (hcw.elim (fun q => Or.inl (hws _ q args s (State.WarmedH.refl s))) (fun q => Or.inr (hws _ q args s (State.WarmedH.refl s)))) hy (b := ex b) (by rw [hT]; exact r1) r2 r3 (g := F0 m pc ls ((As.map (pm_v ex B)).reverse ++ .ref (ex b) :: st.map (pm_v ex B))) rfl (argsL := As.map (pm_v ex B)) (rest := st.map (pm_v ex B)) hlen2 rfl hdg2
  obtain ⟨T2, L2, t, X2, hL2, e1, -, hq, hstp⟩ := pm_callB (bytes := bytes) (maxL := maxL) (ret := ret) (hh := hh) (pm_oc ex B o) hM hfr hlo X1 (g := F0 m pc ls (st.map (pm_v ex B))) rfl (hl.1.trans hml.symm) hdg2 (lv_room (by rw [pm_catsum]; exact hst)) (X1.named hn) (atoms_intro fun w hw => hws w hw _ _ X1.warmed) (hcw.elim (fun q => Or.inl (hws _ q _ _ X1.warmed)) (fun q => Or.inr (hws _ q _ _ X1.warmed))) (word_at X1.warmed (Or.inl (by first | rfl | simp [Cond.onTables, Cond.keeps, Cond.steady])) hini) hcells hslots (pm_blind hEok _ h _ _ _ _ (pm_pre hK hE hEok hP hz (by omega) hS.2.1 (T.setVm vm1) hT X1.warmed)) (fun _ _ q => q.1)
  obtain ⟨t2, a1, b1⟩ := pm_after o hl hS (by show (T.setVm vm1).heap = H; exact hT) X2 hL2 e1 hq hn0 hz0 hn2 hz2 k
  exact ⟨t2, hstep t2 (hstp.trans a1), b1⟩
theorem pm_getfX (hx : p.tables.exec = Jvm.exec) (hb : c.code = cc) {o n d ref : String} {index j : Nat} {v : Value} (hE : va_OF o n d (pm_v ex B v) (ex j) (fun q => B ≤ q) s s.heap) (hown : s.vm.findClass own = some m.cls) (hlink : (Cond.fieldLink own index ref n d).before args s = true) (hsame : ∀ x, s.fieldFound? o n d = some x → s.fieldFound? ref n d = some x) (hdg : decode cc pc = .ok (.getfield index, 3)) (k : pm_W p l e R s m args below meth c Q ex B dA D cl nL n0 z0 (pc + 3) L (v :: st) h) : pm_W p l e R s m args below meth c Q ex B dA D cl nL n0 z0 pc L (.retAddr j :: st) h := fun ls H locs hl hP hS => vk_getf hx hb hE hS hown hlink hsame hdg (k ls H locs hl hP hS)
theorem pm_ret_n (hx : p.tables.exec = Jvm.exec) (hb : c.code = cc) {v : Int32} {o : pm_O} {ty : FieldType} (hlocks : meth.locks = false) (hr : meth.sig.returnType = some ty) (hnr : narrow ty (.int v) = .int v) (he : (o, h2) = (.inl (some (.int v)), h)) (hdg : decode cc pc = .ok (.ireturn, 1)) : pm_W p l e R s m args below meth c (pm_MQ below (pm_QcO ex B dA D cl o h2) args s (h2.length - n0) (pm_sz h2 - z0) (fun q => B ≤ q)) ex B dA D cl nL n0 z0 pc L [.int v] h := by
  obtain ⟨rfl, rfl⟩ := Prod.mk.inj he
  exact pm_retO (fun t => pm_MQ_of) (pm_zret hx hb hlocks (Nat.le_refl _) (Nat.le_refl _) (fun _ q => q) hr hnr (fun t h1 _ h2 => ⟨rfl, h1, h2⟩) hdg)
end PE27
/-- what is known of outer things: texts (kind 0; their bytes at exV), arrays of ints (kind 1), two statics of the JDK -/
abbrev pe_EX (ex : Nat → Nat) (B : Nat) (xs : List (Nat × List Int32)) (exV : Nat → Nat) (jF : Value) (s : State) : Prop := (∀ j tx, pe_at xs j = some (0, tx) → va_O "java/lang/String" (ex j) (fun q => B ≤ q) s s.heap ∧ va_OF "java/lang/String" "coder" "B" (.int 0) (ex j) (fun q => B ≤ q) s s.heap ∧ va_OF "java/lang/String" "value" "[B" (.ref (ex (exV j))) (ex j) (fun q => B ≤ q) s s.heap ∧ va_T .byte (ex (exV j)) tx.length (fun k => .int (tx.getD k 0)) (fun q => B ≤ q) s s.heap) ∧ (∀ j tx, pe_at xs j = some (1, tx) → va_T .int (ex j) tx.length (fun k => .int (tx.getD k 0)) (fun q => B ≤ q) s s.heap) ∧ (va_Z "java/lang/String" "COMPACT_STRINGS" "Z" (.int 1) (fun q => B ≤ q) s s.heap) ∧ (va_Z "jdk/internal/util/Preconditions" "SIOOBE_FORMATTER" "Ljava/util/function/BiFunction;" (pm_v ex B jF) (fun q => B ≤ q) s s.heap) ∧ (pm_isR jF = true)
theorem pe_EX.st {ex : Nat → Nat} {B : Nat} {xs : List (Nat × List Int32)} {exV : Nat → Nat} {jF : Value} {s : State} (h : pe_EX ex B xs exV jF s) : ∀ j tx, pe_at xs j = some (0, tx) → va_O "java/lang/String" (ex j) (fun q => B ≤ q) s s.heap ∧ va_OF "java/lang/String" "coder" "B" (.int 0) (ex j) (fun q => B ≤ q) s s.heap ∧ va_OF "java/lang/String" "value" "[B" (.ref (ex (exV j))) (ex j) (fun q => B ≤ q) s s.heap ∧ va_T .byte (ex (exV j)) tx.length (fun k => .int (tx.getD k 0)) (fun q => B ≤ q) s s.heap := h.1
theorem pe_EX.ar {ex : Nat → Nat} {B : Nat} {xs : List (Nat × List Int32)} {exV : Nat → Nat} {jF : Value} {s : State} (h : pe_EX ex B xs exV jF s) : ∀ j tx, pe_at xs j = some (1, tx) → va_T .int (ex j) tx.length (fun k => .int (tx.getD k 0)) (fun q => B ≤ q) s s.heap := h.2.1
theorem pe_EX.cs {ex : Nat → Nat} {B : Nat} {xs : List (Nat × List Int32)} {exV : Nat → Nat} {jF : Value} {s : State} (h : pe_EX ex B xs exV jF s) : va_Z "java/lang/String" "COMPACT_STRINGS" "Z" (.int 1) (fun q => B ≤ q) s s.heap := h.2.2.1
theorem pe_EX.fm {ex : Nat → Nat} {B : Nat} {xs : List (Nat × List Int32)} {exV : Nat → Nat} {jF : Value} {s : State} (h : pe_EX ex B xs exV jF s) : va_Z "jdk/internal/util/Preconditions" "SIOOBE_FORMATTER" "Ljava/util/function/BiFunction;" (pm_v ex B jF) (fun q => B ≤ q) s s.heap := h.2.2.2.1
theorem pe_EX.fr {ex : Nat → Nat} {B : Nat} {xs : List (Nat × List Int32)} {exV : Nat → Nat} {jF : Value} {s : State} (h : pe_EX ex B xs exV jF s) : pm_isR jF = true := h.2.2.2.2
theorem pe_shr0 (x : Int32) : (x >>> ((0 : Int32) &&& 31)) = x := by
  rw [show ((0 : Int32) &&& 31) = 0 from by decide]
  simp
theorem pe_nar_c (x : Int32) : narrow .char (.int (x.toUInt32 % 65536).toInt32) = .int (x.toUInt32 % 65536).toInt32 := by
  show Value.int _ = Value.int _
  congr 1
  have h : ∀ y : UInt32, y.toInt32.toUInt32 = y := fun y => rfl
  rw [h]
  congr 1
  apply UInt32.toNat_inj.mp
  simp
theorem pe_lt_len {i : Int32} {n : Nat} (h : vp_in i n) (hl : n < 2 ^ 31) : i < Int32.ofNat n := by
  have h1 : ¬ i < 0 := fun q => h (Or.inl q)
  have h2 : ¬ n ≤ i.toNatClampNeg := fun q => h (Or.inr q)
  have h3 : (0 : Int) ≤ i.toInt := by
    have := Int32.not_lt.mp h1
    rw [Int32.le_iff_toInt_le] at this
    exact this
  rw [Int32.lt_iff_toInt_lt, Int32.toInt_ofNat_of_lt hl]
  have h4 : i.toNatClampNeg = i.toInt.toNat := rfl
  omega
section PE27J
variable {l : Launch} {d : Nat} {ex : Nat → Nat} {B : Nat} {dA : Nat → ClassId} {D : va_G} {cl : List vw_C} {tys : List (ClassId × FieldType)} {E : State → Prop} {xs : List (Nat × List Int32)} {exV : Nat → Nat} {jF : Value}
def yJ_isLatin1 : MethodName := ⟨"java/lang/String", "isLatin1", "()Z"⟩
abbrev cJ_isLatin1 : Cond := .code yJ_isLatin1 prog_27_method_154_code 1 (some .boolean)
theorem mJ_isLatin1 : cJ_isLatin1 ∈ pm_tb := (pm_mem 69 (by decide +kernel) (by decide +kernel))
theorem cj_isLatin1 (hEX : ∀ s, E s → pe_EX ex B xs exV jF s) {j : Nat} {tx : List Int32} (hj : pe_at xs j = some (0, tx)) (h : pm_H) : pm_Con l yJ_isLatin1 (cJ_isLatin1 :: pm_tb) d ex B dA D cl tys E [.retAddr j] h (.inl (some (.int 1))) h := by
  refine pm_Con_ofW (cc := prog_27_method_154_code) (maxL := 1) (ret := (some .boolean)) (hh := []) (by decide) (Or.inl rfl) (Nat.le_of_ble_eq_true rfl) ?_
  intro p e s m below meth c hx hb hr hlocks hml hmt hcd hnm hts hz hK hE
  have hown : s.vm.findClass "java/lang/String" = some m.cls := findClass_of_methodNamed hnm
  have X := hEX s hE
  refine pm_gets (own := "java/lang/String") (index := 38) (v := .int 1) hx hb hown X.cs (hts _ (List.mem_cons_of_mem _ (pm_mem 60 (by decide +kernel) (by decide +kernel)))) (fun _ q => q) (by decide +kernel) ?_
  refine pm_if_eq (off := 14) (tgt := 17) hx hb (by decide +kernel) (by decide) (fun c1 => absurd c1 (by decide)) (fun _ => ?_)
  refine pm_aload_n (n := 0) hx hb (by decide +kernel) rfl rfl rfl ?_
  refine pm_getfX (own := "java/lang/String") (index := 15) (v := .int 0) hx hb (X.st j tx hj).2.1 hown (hts _ (List.mem_cons_of_mem _ (pm_mem 3860 (by decide +kernel) (by decide +kernel)))) (fun _ q => q) (by decide +kernel) ?_
  refine pm_if_ne (off := 7) (tgt := 17) hx hb (by decide +kernel) (by decide) (fun c1 => absurd rfl c1) (fun _ => ?_)
  refine pm_iconst (n := 1) hx hb (by decide +kernel) ?_
  refine pm_goto (off := 4) (tgt := 18) hx hb (by decide +kernel) (by decide) ?_
  exact pm_ret_z hx hb hlocks hr rfl rfl (by decide +kernel)
def yJ_coder : MethodName := ⟨"java/lang/String", "coder", "()B"⟩
abbrev cJ_coder : Cond := .code yJ_coder prog_27_method_152_code 1 (some .byte)
theorem mJ_coder : cJ_coder ∈ pm_tb := (pm_mem 59 (by decide +kernel) (by decide +kernel))
theorem cj_coder (hEX : ∀ s, E s → pe_EX ex B xs exV jF s) {j : Nat} {tx : List Int32} (hj : pe_at xs j = some (0, tx)) (h : pm_H) : pm_Con l yJ_coder (cJ_coder :: pm_tb) d ex B dA D cl tys E [.retAddr j] h (.inl (some (.int 0))) h := by
  refine pm_Con_ofW (cc := prog_27_method_152_code) (maxL := 1) (ret := (some .byte)) (hh := []) (by decide) (Or.inl rfl) (Nat.le_of_ble_eq_true rfl) ?_
  intro p e s m below meth c hx hb hr hlocks hml hmt hcd hnm hts hz hK hE
  have hown : s.vm.findClass "java/lang/String" = some m.cls := findClass_of_methodNamed hnm
  have X := hEX s hE
  refine pm_gets (own := "java/lang/String") (index := 38) (v := .int 1) hx hb hown X.cs (hts _ (List.mem_cons_of_mem _ (pm_mem 60 (by decide +kernel) (by decide +kernel)))) (fun _ q => q) (by decide +kernel) ?_
  refine pm_if_eq (off := 10) (tgt := 13) hx hb (by decide +kernel) (by decide) (fun c1 => absurd c1 (by decide)) (fun _ => ?_)
  refine pm_aload_n (n := 0) hx hb (by decide +kernel) rfl rfl rfl ?_
  refine pm_getfX (own := "java/lang/String") (index := 15) (v := .int 0) hx hb (X.st j tx hj).2.1 hown (hts _ (List.mem_cons_of_mem _ (pm_mem 3860 (by decide +kernel) (by decide +kernel)))) (fun _ q => q) (by decide +kernel) ?_
  refine pm_goto (off := 4) (tgt := 14) hx hb (by decide +kernel) (by decide) ?_
  exact pm_ret_n hx hb hlocks hr rfl rfl (by decide +kernel)
def yJ_length : MethodName := ⟨"java/lang/String", "length", "()I"⟩
abbrev cJ_length : Cond := .code yJ_length prog_27_method_54_code 1 (some .int)
theorem mJ_length : cJ_length ∈ pm_tb := (pm_mem 55 (by decide +kernel) (by decide +kernel))
theorem cj_length (hEok : pm_Ok B E) (hEX : ∀ s, E s → pe_EX ex B xs exV jF s) {j : Nat} {tx : List Int32} (hj : pe_at xs j = some (0, tx)) (h : pm_H) : pm_Con l yJ_length (cJ_length :: pm_tb) (d + 1) ex B dA D cl tys E [.retAddr j] h (.inl (some (.int (Int32.ofNat tx.length)))) h := by
  refine pm_Con_ofW (cc := prog_27_method_54_code) (maxL := 1) (ret := (some .int)) (hh := []) (by decide) (Or.inl rfl) (Nat.le_of_ble_eq_true rfl) ?_
  intro p e s m below meth c hx hb hr hlocks hml hmt hcd hnm hts hz hK hE
  have hown : s.vm.findClass "java/lang/String" = some m.cls := findClass_of_methodNamed hnm
  have X := hEX s hE
  refine pm_aload_n (n := 0) hx hb (by decide +kernel) rfl rfl rfl ?_
  refine pm_getfX (own := "java/lang/String") (index := 9) (v := .retAddr (exV j)) hx hb (X.st j tx hj).2.2.1 hown (hts _ (List.mem_cons_of_mem _ (pm_mem 3859 (by decide +kernel) (by decide +kernel)))) (fun _ q => q) (by decide +kernel) ?_
  refine pm_alenX hx hb (X.st j tx hj).2.2.2 (by decide +kernel) ?_
  refine pm_aload_n (n := 0) hx hb (by decide +kernel) rfl rfl rfl ?_
  refine pm_cVX (As := []) (own := "java/lang/String") (index := 335) (hh := []) hx hb hml hown hK hE hEok hz (Nat.le_refl _) (Nat.le_refl _) (Nat.le_refl _) (Nat.le_refl _) (cj_coder (d := d) hEX hj h) (pm_hws hts mJ_coder) (Or.inl List.mem_cons_self) (hts _ (List.mem_cons_of_mem _ (pm_mem 3 (by decide +kernel) (by decide +kernel)))) (Or.inl (hts _ (List.mem_cons_of_mem _ (pm_mem 56 (by decide +kernel) (by decide +kernel))))) (hts _ (List.mem_cons_of_mem _ (pm_mem 57 (by decide +kernel) (by decide +kernel)))) (hts _ (List.mem_cons_of_mem _ (pm_mem 58 (by decide +kernel) (by decide +kernel)))) (by decide +kernel) (pm_arity (n := 0) (by decide +kernel)) ((hEX s hE).st j tx hj).1 (Nat.le_of_ble_eq_true rfl) (by simp [pm_room]) (by simp [pm_room]) (by simp [pm_room]) (by simp [pm_room]; omega) (by decide +kernel) ?_
  refine pm_ishr hx hb (by decide +kernel) ?_
  exact pm_ret_i hx hb hlocks hr (by rw [show (Int32.ofNat tx.length >>> ((0 : Int32) &&& 31)) = Int32.ofNat tx.length from pe_shr0 _]) (by decide +kernel)
def yJ_chk2 : MethodName := ⟨"jdk/internal/util/Preconditions", "checkIndex", "(IILjava/util/function/BiFunction;)I"⟩
abbrev cJ_chk2 : Cond := .code yJ_chk2 prog_34_method_11_code 3 (some .int)
theorem mJ_chk2 : cJ_chk2 ∈ pm_tb := (pm_mem 80 (by decide +kernel) (by decide +kernel))
theorem cj_chk2 {i n : Int32} {v : Value} (hv : pm_isR v = true) (h0 : ¬ i < 0) (h1 : i < n) (h : pm_H) : pm_Con l yJ_chk2 (cJ_chk2 :: pm_tb) d ex B dA D cl tys E [.int i, .int n, v] h (.inl (some (.int i))) h := by
  refine pm_Con_ofW (cc := prog_34_method_11_code) (maxL := 3) (ret := (some .int)) (hh := []) (by decide) (Or.inl rfl) (by rw [pe_cat_sl]; cases v <;> first | exact Nat.le_refl _ | cases hv) ?_
  intro p e s m below meth c hx hb hr hlocks hml hmt hcd hnm hts hz hK hE
  have hown : s.vm.findClass "jdk/internal/util/Preconditions" = some m.cls := findClass_of_methodNamed hnm
  refine pm_iload_n (n := 0) hx hb (by decide +kernel) rfl rfl ?_
  refine pm_if_lt (off := 8) (tgt := 9) hx hb (by decide +kernel) (by decide) (fun c1 => absurd c1 h0) (fun _ => ?_)
  refine pm_iload_n (n := 0) hx hb (by decide +kernel) rfl rfl ?_
  refine pm_iload_n (n := 1) hx hb (by decide +kernel) rfl rfl ?_
  refine pm_icmp_lt (off := 10) (tgt := 16) hx hb (by decide +kernel) (by decide) (fun _ => ?_) (fun c1 => absurd h1 c1)
  refine pm_iload_n (n := 0) hx hb (by decide +kernel) rfl rfl ?_
  exact pm_ret_i hx hb hlocks hr rfl (by decide +kernel)
def yJ_chk : MethodName := ⟨"java/lang/String", "checkIndex", "(II)V"⟩
abbrev cJ_chk : Cond := .code yJ_chk prog_27_method_155_code 2 none
theorem mJ_chk : cJ_chk ∈ pm_tb := (pm_mem 75 (by decide +kernel) (by decide +kernel))
theorem cj_chk (hEok : pm_Ok B E) (hEX : ∀ s, E s → pe_EX ex B xs exV jF s) {i n : Int32} (h0 : ¬ i < 0) (h1 : i < n) (h : pm_H) : pm_Con l yJ_chk (cJ_chk :: pm_tb) (d + 1) ex B dA D cl tys E [.int i, .int n] h (.inl none) h := by
  refine pm_Con_ofW (cc := prog_27_method_155_code) (maxL := 2) (ret := none) (hh := []) (by decide) (Or.inl rfl) (Nat.le_of_ble_eq_true rfl) ?_
  intro p e s m below meth c hx hb hr hlocks hml hmt hcd hnm hts hz hK hE
  have hown : s.vm.findClass "java/lang/String" = some m.cls := findClass_of_methodNamed hnm
  have X := hEX s hE
  refine pm_iload_n (n := 0) hx hb (by decide +kernel) rfl rfl ?_
  refine pm_iload_n (n := 1) hx hb (by decide +kernel) rfl rfl ?_
  refine pm_gets (own := "java/lang/String") (index := 1053) (v := jF) hx hb hown X.fm (hts _ (List.mem_cons_of_mem _ (pm_mem 76 (by decide +kernel) (by decide +kernel)))) (fun _ q => q) (by decide +kernel) ?_
  refine pm_cS (As := [_, _, _]) (own := "java/lang/String") (index := 1059) (hh := []) hx hb hml hown hK hE hEok hz (Nat.le_refl _) (Nat.le_refl _) (Nat.le_refl _) (Nat.le_refl _) (cj_chk2 (d := d) (v := jF) X.fr h0 h1 h) (pm_hws hts mJ_chk2) (Or.inl List.mem_cons_self) (hts _ (List.mem_cons_of_mem _ (pm_mem 5 (by decide +kernel) (by decide +kernel)))) (Or.inl (hts _ (List.mem_cons_of_mem _ (pm_mem 78 (by decide +kernel) (by decide +kernel))))) (hts _ (List.mem_cons_of_mem _ (pm_mem 79 (by decide +kernel) (by decide +kernel)))) (Cond.code_named (hts _ (List.mem_cons_of_mem _ mJ_chk2))) (by decide +kernel) (pm_arity (n := 3) (by decide +kernel)) (Nat.le_of_ble_eq_true rfl) (by simp [pm_room]) (by simp [pm_room]) (by simp [pm_room]) (by simp [pm_room]; omega) (by decide +kernel) ?_
  refine pm_pop hx hb (by decide +kernel) rfl ?_
  exact pm_ret_v hx hb hlocks hr rfl (by decide +kernel)
def yJ_latin : MethodName := ⟨"java/lang/StringLatin1", "charAt", "([BI)C"⟩
abbrev cJ_latin : Cond := .code yJ_latin prog_28_method_2_code 2 (some .char)
theorem mJ_latin : cJ_latin ∈ pm_tb := (pm_mem 72 (by decide +kernel) (by decide +kernel))
theorem cj_latin (hEok : pm_Ok B E) (hEX : ∀ s, E s → pe_EX ex B xs exV jF s) {j : Nat} {tx : List Int32} (hj : pe_at xs j = some (0, tx)) {i z : Int32} (hi : pe_inb i tx.length = true) (hz0 : pe_at tx i.toNatClampNeg = some z) (hl : tx.length < 2 ^ 31) (h : pm_H) : pm_Con l yJ_latin (cJ_latin :: pm_tb) (d + 2) ex B dA D cl tys E [.retAddr (exV j), .int i] h (.inl (some (.int (((z &&& 255).toUInt32 % 65536).toInt32)))) h := by
  refine pm_Con_ofW (cc := prog_28_method_2_code) (maxL := 2) (ret := (some .char)) (hh := []) (by decide) (Or.inl rfl) (Nat.le_of_ble_eq_true rfl) ?_
  intro p e s m below meth c hx hb hr hlocks hml hmt hcd hnm hts hz hK hE
  have hown : s.vm.findClass "java/lang/StringLatin1" = some m.cls := findClass_of_methodNamed hnm
  have X := hEX s hE
  have hin := pe_inb_ok hi
  refine pm_iload_n (n := 1) hx hb (by decide +kernel) rfl rfl ?_
  refine pm_aload_n (n := 0) hx hb (by decide +kernel) rfl rfl rfl ?_
  refine pm_alenX hx hb (X.st j tx hj).2.2.2 (by decide +kernel) ?_
  refine pm_cS (As := [_, _]) (own := "java/lang/StringLatin1") (index := 9) (hh := []) hx hb hml hown hK hE hEok hz (Nat.le_refl _) (Nat.le_refl _) (Nat.le_refl _) (Nat.le_refl _) (cj_chk (d := d) hEok hEX (fun q => hin (Or.inl q)) (pe_lt_len hin hl) h) (pm_hws hts mJ_chk) (Or.inl List.mem_cons_self) (hts _ (List.mem_cons_of_mem _ (pm_mem 3 (by decide +kernel) (by decide +kernel)))) (Or.inl (hts _ (List.mem_cons_of_mem _ (pm_mem 73 (by decide +kernel) (by decide +kernel))))) (hts _ (List.mem_cons_of_mem _ (pm_mem 74 (by decide +kernel) (by decide +kernel)))) (Cond.code_named (hts _ (List.mem_cons_of_mem _ mJ_chk))) (by decide +kernel) (pm_arity (n := 2) (by decide +kernel)) (Nat.le_of_ble_eq_true rfl) (by simp [pm_room]) (by simp [pm_room]) (by simp [pm_room]) (by simp [pm_room]; omega) (by decide +kernel) ?_
  refine pm_aload_n (n := 0) hx hb (by decide +kernel) rfl rfl rfl ?_
  refine pm_iload_n (n := 1) hx hb (by decide +kernel) rfl rfl ?_
  refine pm_baldX (v := .int z) hx hb (X.st j tx hj).2.2.2 hin (by rw [pe_at_eq] at hz0; show Value.int (tx.getD i.toNatClampNeg 0) = .int z; rw [List.getD_eq_getElem?_getD, hz0]; rfl) (by decide +kernel) ?_
  refine pm_sipush (n := 255) hx hb (by decide +kernel) ?_
  refine pm_iand hx hb (by decide +kernel) ?_
  refine pm_i2c hx hb (by decide +kernel) ?_
  exact pm_ret_n hx hb hlocks hr (pe_nar_c _) rfl (by decide +kernel)
def yJ_charAt : MethodName := ⟨"java/lang/String", "charAt", "(I)C"⟩
abbrev cJ_charAt : Cond := .code yJ_charAt prog_27_method_56_code 2 (some .char)
theorem mJ_charAt : cJ_charAt ∈ pm_tb := (pm_mem 65 (by decide +kernel) (by decide +kernel))
theorem cj_charAt (hEok : pm_Ok B E) (hEX : ∀ s, E s → pe_EX ex B xs exV jF s) {j : Nat} {tx : List Int32} (hj : pe_at xs j = some (0, tx)) {i z : Int32} (hi : pe_inb i tx.length = true) (hz0 : pe_at tx i.toNatClampNeg = some z) (hl : tx.length < 2 ^ 31) (h : pm_H) : pm_Con l yJ_charAt (cJ_charAt :: pm_tb) (d + 3) ex B dA D cl tys E [.retAddr j, .int i] h (.inl (some (.int (((z &&& 255).toUInt32 % 65536).toInt32)))) h := by
  refine pm_Con_ofW (cc := prog_27_method_56_code) (maxL := 2) (ret := (some .char)) (hh := []) (by decide) (Or.inl rfl) (Nat.le_of_ble_eq_true rfl) ?_
  intro p e s m below meth c hx hb hr hlocks hml hmt hcd hnm hts hz hK hE
  have hown : s.vm.findClass "java/lang/String" = some m.cls := findClass_of_methodNamed hnm
  have X := hEX s hE
  refine pm_aload_n (n := 0) hx hb (by decide +kernel) rfl rfl rfl ?_
  refine pm_cVX (As := []) (own := "java/lang/String") (index := 492) (hh := []) hx hb hml hown hK hE hEok hz (Nat.le_refl _) (Nat.le_refl _) (Nat.le_refl _) (Nat.le_refl _) (cj_isLatin1 (d := d + 2) hEX hj h) (pm_hws hts mJ_isLatin1) (Or.inl List.mem_cons_self) (hts _ (List.mem_cons_of_mem _ (pm_mem 3 (by decide +kernel) (by decide +kernel)))) (Or.inl (hts _ (List.mem_cons_of_mem _ (pm_mem 66 (by decide +kernel) (by decide +kernel))))) (hts _ (List.mem_cons_of_mem _ (pm_mem 67 (by decide +kernel) (by decide +kernel)))) (hts _ (List.mem_cons_of_mem _ (pm_mem 68 (by decide +kernel) (by decide +kernel)))) (by decide +kernel) (pm_arity (n := 0) (by decide +kernel)) ((hEX s hE).st j tx hj).1 (Nat.le_of_ble_eq_true rfl) (by simp [pm_room]) (by simp [pm_room]) (by simp [pm_room]) (by simp [pm_room]; omega) (by decide +kernel) ?_
  refine pm_if_eq (off := 12) (tgt := 16) hx hb (by decide +kernel) (by decide) (fun c1 => absurd c1 (by decide)) (fun _ => ?_)
  refine pm_aload_n (n := 0) hx hb (by decide +kernel) rfl rfl rfl ?_
  refine pm_getfX (own := "java/lang/String") (index := 9) (v := .retAddr (exV j)) hx hb (X.st j tx hj).2.2.1 hown (hts _ (List.mem_cons_of_mem _ (pm_mem 3859 (by decide +kernel) (by decide +kernel)))) (fun _ q => q) (by decide +kernel) ?_
  refine pm_iload_n (n := 1) hx hb (by decide +kernel) rfl rfl ?_
  refine pm_cS (As := [_, _]) (own := "java/lang/String") (index := 495) (hh := []) hx hb hml hown hK hE hEok hz (Nat.le_refl _) (Nat.le_refl _) (Nat.le_refl _) (Nat.le_refl _) (cj_latin (d := d) hEok hEX hj hi hz0 hl h) (pm_hws hts mJ_latin) (Or.inl List.mem_cons_self) (hts _ (List.mem_cons_of_mem _ (pm_mem 4 (by decide +kernel) (by decide +kernel)))) (Or.inl (hts _ (List.mem_cons_of_mem _ (pm_mem 70 (by decide +kernel) (by decide +kernel))))) (hts _ (List.mem_cons_of_mem _ (pm_mem 71 (by decide +kernel) (by decide +kernel)))) (Cond.code_named (hts _ (List.mem_cons_of_mem _ mJ_latin))) (by decide +kernel) (pm_arity (n := 2) (by decide +kernel)) (Nat.le_of_ble_eq_true rfl) (by simp [pm_room]) (by simp [pm_room]) (by simp [pm_room]) (by simp [pm_room]; omega) (by decide +kernel) ?_
  exact pm_ret_n hx hb hlocks hr (pe_nar_c _) rfl (by decide +kernel)
end PE27J
