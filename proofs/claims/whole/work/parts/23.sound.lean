/-! PART 23: the evaluator is right: a contract by computing. -/
/-- the tables' lists; a word's place: 1000 times its list's, and its own in the list -/
def pe_tl : List (List Cond) := [tables_1_1, tables_1_2, tables_1_3, tables_1_4, tables_1_5, tables_1_6, tables_1_7, tables_1_8, tables_1_9, tables_1_10, tables_1_11, tables_1_12, tables_1_13, tables_1_14, tables_1_15, tables_1_16, tables_1_17]
theorem pe_tl_eq : tables_1 = pe_tl.flatten := by
  unfold tables_1 pe_tl
  simp only [List.flatten_cons, List.flatten_nil, List.append_nil]
def pe_tw (i : Nat) : Option Cond := match pe_at pe_tl (i / 1000) with
  | some l => pe_at l (i % 1000)
  | none => none
theorem pe_tw_mem {i : Nat} {w : Cond} (h : pe_tw i = some w) : w ∈ tables_1 := by
  unfold pe_tw at h
  split at h
  · rename_i l hl
    rw [pe_at_eq] at h hl
    rw [pe_tl_eq]
    exact List.mem_flatten.mpr ⟨l, List.mem_of_getElem? hl, List.mem_of_getElem? h⟩
  · cases h
def pe_w (i : Nat) (w : Cond) : Bool := decide (pe_tw i = some w) && goodWord w
theorem pe_w_of {i : Nat} {w : Cond} (h : pe_tw i = some w) (hg : goodWord w = true) : pe_w i w = true := by
  unfold pe_w
  rw [Bool.and_eq_true]
  exact ⟨decide_eq_true h, hg⟩
theorem pe_w_mem {i : Nat} {w : Cond} (h : pe_w i w = true) : w ∈ pm_tb := by
  unfold pe_w at h
  rw [Bool.and_eq_true] at h
  exact List.mem_filter.mpr ⟨List.mem_append_right _ (pe_tw_mem (of_decide_eq_true h.1)), h.2⟩
def pe_p (i : Nat) (w : Cond) : Bool := decide (lw_tbl[i]? = some w) && goodWord w
theorem pe_p_mem {i : Nat} {w : Cond} (h : pe_p i w = true) : w ∈ pm_tb := by
  unfold pe_p at h
  rw [Bool.and_eq_true] at h
  exact pm_memP i (of_decide_eq_true h.1) h.2
/-- words that a warmed machine keeps, too: nest mates' links, arrays over a type, casts -/
def pe_nst (w : Cond) : Bool := match w with
  | .fieldLinkNest _ _ _ _ _ _ => true
  | .methodLinkNest _ _ _ _ => true
  | .arrayOver (.object _) => true
  | .arrayOver (.array _) => true
  | .castable _ _ => true
  | .declares _ => true
  | _ => false
/-- pairs of classes of which the first does not go to the second -/
def pe_ncl : List (String × String) := [("java/lang/IllegalStateException", "java/lang/IllegalArgumentException"), ("java/lang/IllegalStateException", "java/lang/IndexOutOfBoundsException"), ("java/util/NoSuchElementException", "java/lang/IndexOutOfBoundsException")]
def pe_nw (s : State) : Prop := (∀ w ∈ tables_1, pe_nst w = true → va_Nw w s) ∧ ∀ q ∈ pe_ncl, va_Nc q.1 q.2 s
def pe_n (i : Nat) (w : Cond) : Bool := decide (pe_tw i = some w) && pe_nst w
theorem pe_n_mem {w : Cond} (hm : w ∈ tables_1) (h2 : pe_nst w = true) {s : State} (hN : pe_nw s) {args : Array Value} : w.before args s = true := by
  have h1 := hN.1 w hm h2
  cases w with
  | fieldLinkNest _ _ _ _ _ _ => exact va_Nw.use rfl h1
  | methodLinkNest _ _ _ _ => exact va_Nw.use rfl h1
  | castable _ _ => exact va_Nw.use rfl h1
  | declares _ => exact va_Nw.use rfl h1
  | arrayOver ty => exact h1
  | _ => cases h2
theorem pe_n_at {i : Nat} {w : Cond} (h : pe_n i w = true) {s : State} (hN : pe_nw s) {args : Array Value} : w.before args s = true := by
  unfold pe_n at h
  rw [Bool.and_eq_true] at h
  exact pe_n_mem (pe_tw_mem (of_decide_eq_true h.1)) h.2 hN
theorem pe_AOA {t : FieldType} {u U : State} (hvm : u.vm.Alike U.vm) (h : va_Nw (.arrayOver (.array t)) u) : va_Nw (.arrayOver (.array t)) U := by
  have hs : ∃ comp c k, u.vm.findClass (FieldType.array t).toString = some comp ∧ (u.vm.classes.findIdx? fun (x : Class) => match x.kind with | .array component _ => component == comp | _ => false) = some c ∧ u.vm.classes[c]? = some k ∧ k.kind = .array comp (.array t) ∧ u.vm.findClass ("[" ++ (FieldType.array t).toString) = some c := by
    have h0 : (Cond.arrayOver (.array t)).before #[] u = true := h
    unfold Cond.before at h0
    simp only [Cond.holds, Cond.value, beq_iff_eq] at h0
    cases hc : u.vm.findClass (FieldType.array t).toString with
    | none => simp [hc] at h0
    | some comp =>
      simp only [hc, Option.bind_some, Option.bind_eq_some_iff, Option.map_eq_some_iff] at h0
      obtain ⟨c, hi, k, hk, hb⟩ := h0
      obtain ⟨hlt, hp, -⟩ := Array.findIdx?_eq_some_iff_getElem.mp hi
      have hkk : u.vm.classes[c] = k := (Array.getElem?_eq_some_iff.mp hk).2
      rw [hkk] at hp
      cases hkind : k.kind with
      | array component ty =>
        rw [hkind] at hb hp
        simp at hb hp
        exact ⟨comp, c, k, rfl, hi, hk, by rw [hkind, hp, hb.1], hb.2⟩
      | _ => rw [hkind] at hb; simp at hb
  obtain ⟨comp, c, k, h1, h2, h3, h4, h5⟩ := hs
  obtain ⟨k', hk', he⟩ := hvm.2.2 _ _ h3
  have hi : (U.vm.classes.findIdx? fun (x : Class) => match x.kind with | .array component _ => component == comp | _ => false) = some c := by
    have e1 := va_idx_bare U.vm comp
    have e2 := va_idx_bare u.vm comp
    first | rw [hvm.bare_eq] at e1 | rw [← hvm.bare_eq] at e1
    exact e1.symm.trans (e2.trans h2)
  have hkind : k'.kind = .array comp (.array t) := by rw [he]; exact h4
  have f1 : U.vm.findClass (FieldType.array t).toString = some comp := by rw [hvm.findClass]; exact h1
  have f2 : U.vm.findClass ("[" ++ (FieldType.array t).toString) = some c := by rw [hvm.findClass]; exact h5
  unfold va_Nw Cond.before Cond.holds
  simp only [Cond.value]
  rw [f1, Option.bind_some]
  refine (congrArg (fun o : Option Nat => (o.bind (fun c => (U.vm.classes[c]?).map fun (k : Class) => match k.kind with | .array _ ty => decide (ty = FieldType.array t) && decide (U.vm.findClass ("[" ++ (FieldType.array t).toString) = some c) | _ => false) == some true)) hi).trans ?_
  simp [hk', hkind, f2]
theorem pe_nw_ok {u U : State} (hW : u.WarmedH U.vm) (h : pe_nw u) : pe_nw U := by
  refine ⟨?_, fun q hq => (h.2 q hq).moved hW.alike⟩
  intro w hw h2
  have h1 := h.1 w hw h2
  cases w with
  | fieldLinkNest _ _ _ _ _ _ => exact va_Nw.warmF hW h1
  | methodLinkNest _ _ _ _ => exact va_Nw.warmM hW h1
  | castable _ _ => exact va_Nw.warmC hW h1
  | declares _ => exact va_Nw.warmD hW h1
  | arrayOver ty =>
    cases ty with
    | object C => exact va_AO.moved hW.alike h1
    | array t => exact pe_AOA hW.alike h1
    | _ => cases h2
  | _ => cases h2
def pe_wd (mt : pe_Mt) : Cond := match mt.hh with
  | [] => .code mt.y mt.cc mt.mx mt.ret
  | x :: r => .codeWith mt.y mt.cc mt.mx mt.ret (x :: r)
theorem pe_wd_or (mt : pe_Mt) : pe_wd mt = .code mt.y mt.cc mt.mx mt.ret ∨ pe_wd mt = .codeWith mt.y mt.cc mt.mx mt.ret mt.hh := by
  unfold pe_wd
  cases mt.hh with
  | nil => exact Or.inl rfl
  | cons x r => exact Or.inr rfl
def pe_tg (mt : pe_Mt) (tb : Nat) (t : Int) : Bool := match pe_at mt.bl tb with
  | some (p, _) => decide ((p : Int) = t)
  | none => false
theorem pe_tg_inv {mt : pe_Mt} {tb : Nat} {t : Int} {p : Nat} {is : List pe_I} (h : pe_tg mt tb t = true) (hb : pe_at mt.bl tb = some (p, is)) : t = (p : Int) := by
  unfold pe_tg at h
  rw [hb] at h
  exact (of_decide_eq_true h).symm
def pe_off : Instr → Int
  | .goto o => o
  | .ifCond _ o => o
  | .if_icmp _ o => o
  | .ifnull o => o
  | .ifnonnull o => o
  | _ => 0
def pe_lk1 (own : String) (ix : Nat) (y : MethodName) (i : Nat) : Bool := pe_w i (.methodLink own ix y) || (pe_n i (.methodLinkNest own ix y "LinkedTongue") || pe_n i (.methodLinkNest own ix y "LinkedTongueModel"))
def pe_arn (d : String) (n : Nat) : Bool := decide ((parseMethodDescriptor d).map (fun q => q.parameters.length) = some n)
def pe_tk (tk : Nat) (d : String) : Bool := match tk, parseFieldDescriptor d with
  | 0, some .int => true
  | 1, some .long => true
  | 3, some .boolean => true
  | 2, some (.object _) => true
  | 2, some (.array _) => true
  | _, _ => false
theorem pe_ft_ok {ex : Nat → Nat} {B tk : Nat} {d : String} {v : Value} (h1 : pe_ft tk v = true) (h2 : pe_tk tk d = true) : ∃ ty, parseFieldDescriptor d = some ty ∧ narrow ty (pm_v ex B v) = pm_v ex B v ∧ fits ty (pm_v ex B v) = true := by
  unfold pe_tk at h2
  split at h2
  · rename_i hd
    refine ⟨_, hd, ?_⟩
    cases v <;> first | exact ⟨rfl, rfl⟩ | cases h1
  · rename_i hd
    refine ⟨_, hd, ?_⟩
    cases v <;> first | exact ⟨rfl, rfl⟩ | cases h1
  · rename_i hd
    refine ⟨_, hd, ?_⟩
    cases v with
    | int x =>
      have h3 : (decide (x = 0) || decide (x = 1)) = true := h1
      rw [Bool.or_eq_true, decide_eq_true_eq, decide_eq_true_eq] at h3
      rcases h3 with rfl | rfl
      · exact ⟨rfl, rfl⟩
      · exact ⟨rfl, rfl⟩
    | _ => cases h1
  · rename_i hd
    refine ⟨_, hd, ?_⟩
    cases v <;> first | exact ⟨rfl, rfl⟩ | cases h1
  · rename_i hd
    refine ⟨_, hd, ?_⟩
    cases v <;> first | exact ⟨rfl, rfl⟩ | cases h1
  · cases h2
theorem pe_cat_eq (st : List Value) : (st.map fun v => v.category).sum = pe_cat st := by
  induction st with
  | nil => rfl
  | cons v r ih => rw [List.map_cons, List.sum_cons, ih]; rfl
theorem pe_cat_sl (av : List Value) : (lg_sl av).length = pe_cat av := by
  induction av with
  | nil => rfl
  | cons v r ih =>
    have h1 : pe_cat (v :: r) = v.category + pe_cat r := rfl
    rw [h1, ← ih]
    cases v <;> simp [lg_sl, Value.category] <;> omega
def pe_ln : pe_I → Nat
  | .inl i => pe_len i
  | .inr (.inr (.inl (_, _))) => 3
  | .inr (.inr (.inr (.inr (.inr (.inr (.inr (.inr (.inl _)))))))) => 0
  | .inr (.inr (.inr (.inr (.inr (.inr (.inr (.inr (.inr (.inr (.inr (.inl (_, n, _, _, _)))))))))))) => n
  | .inr (.inr (.inr (.inr (.inr (.inr (.inr (.inr (.inr (.inr (.inr (.inr (.inr (.inr (.inr (.inr (.inl (_, n, _))))))))))))))))) => n
  | .inr (.inr (.inr (.inl (wide, _, _, _)))) => bif wide then 3 else 2
  | .inr (.inr (.inr (.inr (.inr (.inr (.inr (.inr (.inr (.inr (.inr (.inr (.inr (.inr (.inr (.inl (.inl (wide, _, _))))))))))))))))) => bif wide then 3 else 2
  | .inr (.inr (.inr (.inr (.inr (.inr (.inr (.inr (.inr (.inr (.inr (.inr (.inr (.inr (.inr (.inl (.inr (.inr (.inr (.inr (.inr (.inl (_, _)))))))))))))))))))))) => 4
  | .inr (.inr (.inr (.inr (.inr (.inr (.inr (.inr (.inr (.inr (.inr (.inr (.inr (.inr (.inr (.inl (.inr (.inr (.inr (.inr (.inr (.inr (.inl (_, _, _))))))))))))))))))))))) => 7
  | .inr (.inr (.inr (.inr (.inr (.inr (.inr (.inr (.inr (.inr (.inr (.inr (.inr (.inr (.inr (.inl (.inr (.inr (.inr (.inr (.inr (.inr (.inr (.inl (_, _)))))))))))))))))))))))) => 22
  | .inr (.inr (.inr (.inr (.inr (.inr (.inr (.inr (.inr (.inr (.inr (.inr (.inr (.inr (.inr (.inl (.inr (.inr (.inr (.inr (.inr (.inr (.inr (.inr (.inl (wide, _, _, _, _, _, _))))))))))))))))))))))))) => bif wide then 10 else 9
  | .inr (.inr (.inr (.inr (.inr (.inr (.inr (.inr (.inr (.inl _))))))))) => 1
  | .inr (.inr (.inr (.inr (.inr (.inr (.inr (.inr (.inr (.inr (.inr (.inr (.inr (.inr (.inr (.inr (.inr (.inl ()))))))))))))))))) => 1
  | .inr (.inr (.inr (.inr (.inr (.inr (.inr (.inr (.inr (.inr (.inr (.inr (.inr (.inr (.inr (.inr (.inr (.inr (.inr _)))))))))))))))))) => 1
  | _ => 3
/-- what is looked at for a catch type, and for a class that is caught -/
def pe_ckc (own C : String) (q : Nat × Bool × String × Nat × Nat) : Bool := !(Nat.beq q.1 0) && (pe_w q.2.2.2.1 (.classLink own q.1 q.2.2.1) && (bif q.2.1 then pe_n q.2.2.2.2 (.castable C q.2.2.1) else decide ((C, q.2.2.1) ∈ pe_ncl)))
def pe_cast (cs : List (Nat × Bool × String × Nat × Nat)) (ty : Nat) : Option Bool := (cs.find? (fun q => Nat.beq q.1 ty)).map (fun q => q.2.1)
def pe_ckh (cl : List vw_C) (mt : pe_Mt) (pc : Nat) (q : Nat × Nat × List (Nat × Bool × String × Nat × Nat)) : Bool := match pe_at cl q.1, pe_at mt.bl q.2.1 with
  | some (C, _, _), some (p0, _) => q.2.2.all (pe_ckc mt.y.cls C) && decide (pm_fh (pe_cast q.2.2) pc mt.hh = some p0)
  | _, _ => false
/-- what is to be looked at once for each instruction of a method; special ones: part 24 -/
def pe_ck (G : pe_G) (cl : List vw_C) (ckS : pe_Mt → Nat → pe_S → Bool) (mt : pe_Mt) (pc : Nat) (i : pe_I) : Bool := match i with
  | .inl i => decide (decode mt.cc pc = .ok (i, pe_len i))
  | .inr (.inr (.inl (i, tb))) => decide (decode mt.cc pc = .ok (i, 3)) && pe_tg mt tb (pc + pe_off i)
  | .inr (.inr (.inr (.inr (.inr (.inr (.inr (.inr (.inl tb)))))))) => pe_tg mt tb pc
  | .inr (.inr (.inr (.inr (.inr (.inr (.inr (.inr (.inr (.inr (.inr (.inl (i, n, lo, ts, df)))))))))))) => decide (decode mt.cc pc = .ok (i, n)) && (match i with
    | .tableswitch d lo2 hi offs => decide (lo2 = lo) && (decide (hi = lo + ts.length - 1) && (pe_tg mt df (pc + d) && (List.range ts.length).all (fun k => match pe_at ts k, offs[k]? with
      | some tb, some off => pe_tg mt tb (pc + off)
      | _, _ => false)))
    | _ => false)
  | .inr (.inr (.inr (.inr (.inr (.inr (.inr (.inr (.inr (.inr (.inr (.inr (.inr (.inr (.inr (.inr (.inl (i, n, ofs))))))))))))))))) => decide (decode mt.cc pc = .ok (i, n)) && (match i with
    | .lookupswitch _ ps => (ps.toList.zip (ps.toList.drop 1)).all (fun (a, next) => a.1 < next.1) && ofs.all (fun q => pe_tg mt q.2 (pc + q.1))
    | _ => false)
  | .inr (.inl (ix, ci, k0, host, wd)) => decide (decode mt.cc pc = .ok (.getfield ix, 3)) && (match pe_at cl ci with
    | some (_, T, N) => Nat.blt k0 N && (match host with
      | none => pe_w wd (.fieldLink mt.y.cls ix (T k0).1 (T k0).2.1 (T k0).2.2.1)
      | some hn => pe_n wd (.fieldLinkNest mt.y.cls ix (T k0).1 (T k0).2.1 (T k0).2.2.1 hn))
    | none => false)
  | .inr (.inr (.inr (.inr (.inl (ix, ci, k0, tk, host, wd))))) => decide (decode mt.cc pc = .ok (.putfield ix, 3)) && (match pe_at cl ci with
    | some (_, T, N) => Nat.blt k0 N && (pe_tk tk (T k0).2.2.1 && (match host with
      | none => ((!(T k0).2.2.2) || (decide (mt.y.name = "<init>") && decide ((T k0).1 = mt.y.cls))) && pe_w wd (.fieldLink mt.y.cls ix (T k0).1 (T k0).2.1 (T k0).2.2.1)
      | some hn => (!(T k0).2.2.2) && pe_n wd (.fieldLinkNest mt.y.cls ix (T k0).1 (T k0).2.1 (T k0).2.2.1 hn)))
    | none => false)
  | .inr (.inr (.inr (.inl (wide, ix, v, wd)))) => (bif wide then decide (decode mt.cc pc = .ok (.ldc_w ix, 3)) else decide (decode mt.cc pc = .ok (.ldc ix, 2))) && pe_w wd (.constant mt.y.cls ix v)
  | .inr (.inr (.inr (.inr (.inr (.inr (.inr (.inr (.inr (.inr (.inl (ix, v, wd))))))))))) => decide (decode mt.cc pc = .ok (.ldc2_w ix, 3)) && pe_w wd (.constantLong mt.y.cls ix v)
  | .inr (.inr (.inr (.inr (.inr (.inr (.inr (.inr (.inr (.inr (.inr (.inr (.inl (ix, ci, ws))))))))))))) => decide (decode mt.cc pc = .ok (.new ix, 3)) && (match pe_at cl ci, ws with
    | some (C, _, N), [w1, w2, w3] => pe_w w1 (.classLink mt.y.cls ix C) && (pe_w w2 (.instantiable C N) && pe_w w3 (.initialized C))
    | _, _ => false)
  | .inr (.inr (.inr (.inr (.inr (.inr (.inr (.inr (.inr (.inr (.inr (.inr (.inr (.inl (ix, t, wd)))))))))))))) => decide (decode mt.cc pc = .ok (.anewarray ix, 3)) && (match t, wd with
    | t + 6, [w1, w2] => pe_tOK (t + 6) && (match pe_at cl t with
      | some (C, _, _) => pe_w w1 (.classLink mt.y.cls ix C) && pe_n w2 (.arrayOver (.object C))
      | none => false)
    | _, _ => false)
  | .inr (.inr (.inr (.inr (.inr (.inr (.inr (.inr (.inr (.inr (.inr (.inr (.inr (.inr (.inl (ix, ws))))))))))))))) => decide (decode mt.cc pc = .ok (.invokespecial ix, 3)) && (match ws with
    | [w1, w2, w3] => pe_w w1 (.methodLink mt.y.cls ix Lib.objectInit) && (pe_w w2 (.instanceMethod Lib.objectInit) && pe_w w3 (.code Lib.objectInit ⟨#[0xb1]⟩ 1 none))
    | _ => false)
  | .inr (.inr (.inr (.inr (.inr (.inr (.inl (ix, mi, n, ws))))))) => decide (decode mt.cc pc = .ok (.invokestatic ix, 3)) && (match pe_at G.ms mi, ws with
    | some m2, [w1, w2, w3] => pe_lk1 mt.y.cls ix m2.y w1 && (pe_w w2 (.static m2.y) && (pe_w w3 (.initialized m2.y.cls) && pe_arn m2.y.desc n))
    | _, _ => false)
  | .inr (.inr (.inr (.inr (.inr (.inl (ix, mi, n, rc, ws)))))) => decide (decode mt.cc pc = .ok (.invokevirtual ix, 3)) && (match pe_at G.ms mi, pe_at cl rc, ws with
    | some m2, some (C, _, _), [w1, w2, w3, w4, w5] => pe_lk1 mt.y.cls ix m2.y w1 && (pe_w w2 (.instanceMethod m2.y) && (pe_w w3 (.initialized m2.y.cls) && ((bif Nat.beq w5 0 then pe_w w4 (.selects C m2.y m2.y) else pe_p w4 (.selects C m2.y m2.y)) && pe_arn m2.y.desc n)))
    | _, _, _ => false)
  | .inr (.inr (.inr (.inr (.inr (.inr (.inr (.inr (.inr (.inr (.inr (.inr (.inr (.inr (.inr (.inr (.inr (.inr (.inl (ix, mi, n, rc, ws, hdl))))))))))))))))))) => decide (decode mt.cc pc = .ok (.invokevirtual ix, 3)) && (hdl.all (pe_ckh cl mt pc) && (match pe_at G.ms mi, pe_at cl rc, ws with
    | some m2, some (C, _, _), [w1, w2, w3, w4, w5] => pe_lk1 mt.y.cls ix m2.y w1 && (pe_w w2 (.instanceMethod m2.y) && (pe_w w3 (.initialized m2.y.cls) && ((bif Nat.beq w5 0 then pe_w w4 (.selects C m2.y m2.y) else pe_p w4 (.selects C m2.y m2.y)) && pe_arn m2.y.desc n)))
    | _, _, _ => false))
  | .inr (.inr (.inr (.inr (.inr (.inr (.inr (.inl (ix, mi, n, ws)))))))) => decide (decode mt.cc pc = .ok (.invokespecial ix, 3)) && (match pe_at G.ms mi, ws with
    | some m2, [w1, w2, w3] => pe_lk1 mt.y.cls ix m2.y w1 && (pe_w w2 (.instanceMethod m2.y) && (pe_w w3 (.initialized m2.y.cls) && (pe_arn m2.y.desc n && (decide (m2.y.name = "<init>") && (m2.hh.isEmpty && decide (m2.ret = none))))))
    | _, _ => false)
  | .inr (.inr (.inr (.inr (.inr (.inr (.inr (.inr (.inr (.inr (.inr (.inr (.inr (.inr (.inr (.inl i))))))))))))))) => ckS mt pc i
  | .inr (.inr (.inr (.inr (.inr (.inr (.inr (.inr (.inr (.inl i))))))))) => decide (decode mt.cc pc = .ok (i, 1))
  | .inr (.inr (.inr (.inr (.inr (.inr (.inr (.inr (.inr (.inr (.inr (.inr (.inr (.inr (.inr (.inr (.inr (.inl ()))))))))))))))))) => decide (decode mt.cc pc = .ok (.athrow, 1)) && mt.hh.isEmpty
  | .inr (.inr (.inr (.inr (.inr (.inr (.inr (.inr (.inr (.inr (.inr (.inr (.inr (.inr (.inr (.inr (.inr (.inr (.inr hdl)))))))))))))))))) => decide (decode mt.cc pc = .ok (.athrow, 1)) && hdl.all (pe_ckh cl mt pc)
def pe_ckB (G : pe_G) (cl : List vw_C) (ckS : pe_Mt → Nat → pe_S → Bool) (mt : pe_Mt) : Nat → List pe_I → Bool
  | _, [] => true
  | pc, i :: r => pe_ck G cl ckS mt pc i && pe_ckB G cl ckS mt (pc + pe_ln i) r
def pe_okB (G : pe_G) (cl : List vw_C) (ckS : pe_Mt → Nat → pe_S → Bool) (mt : pe_Mt) : Bool := mt.bl.all (fun b => pe_ckB G cl ckS mt b.1 b.2)
def pe_okM (G : pe_G) (cl : List vw_C) (ckS : pe_Mt → Nat → pe_S → Bool) (mt : pe_Mt) : Bool :=
  plainFor mt.y && (pe_w mt.wp (pe_wd mt) && ((match mt.bl with
    | (0, _) :: _ => true
    | _ => false) && (mt.bl.all (fun b => pe_ckB G cl ckS mt b.1 b.2) && (decide (mt.y.cls ≠ "java/lang/invoke/MethodHandle") && decide (mt.y.cls ≠ "java/lang/invoke/VarHandle")))))
def pe_clok (cl : List vw_C) (dv : List (List Value)) (ex : Nat → Nat) (B : Nat) : Prop := ∀ (ci : Nat) (C : String) (T : u_T) (N : Nat), pe_at cl ci = some (C, T, N) → (∀ w ∈ u_ws C T N, w ∈ pm_tb) ∧ ∃ ty0 : Nat → FieldType, (∀ k, k < N → parseFieldDescriptor (T k).2.2.1 = some (ty0 k)) ∧ (∀ a, a < N → ∀ b, b < N → a ≠ b → (T a).2.1 ≠ (T b).2.1) ∧ ∀ vs, pe_at dv ci = some vs → vs.length = N ∧ ∀ j, j < N → defaultValue (ty0 j) = vp_V (vs.map (pm_v ex B)) j
abbrev pe_Bd (ex : Nat → Nat) (B : Nat) (D : va_G) (cl : List vw_C) (tys : List (ClassId × FieldType)) (E : State → Prop) (mt : pe_Mt) (p : Program) (s : State) (m : MethodId) (args : Array Value) (meth : Method) (c : Code) (n0 : Nat) : Prop := (p.tables.exec = Jvm.exec) ∧ (c.code = mt.cc) ∧ (meth.sig.returnType = mt.ret) ∧ (meth.locks = false) ∧ (c.maxLocals = mt.mx) ∧ (s.methodNamed? mt.y = some m) ∧ (meth.name = mt.y.name) ∧ (∀ w ∈ pe_wd mt :: pm_tb, w.before args s = true) ∧ (s.heap.size = B + n0) ∧ (va_K D cl tys s) ∧ (E s) ∧ (s.vm.method? m = some meth) ∧ (meth.code = some c)
theorem pe_Bd.hx {ex : Nat → Nat} {B : Nat} {D : va_G} {cl : List vw_C} {tys : List (ClassId × FieldType)} {E : State → Prop} {mt : pe_Mt} {p : Program} {s : State} {m : MethodId} {args : Array Value} {meth : Method} {c : Code} {n0 : Nat} (h : pe_Bd ex B D cl tys E mt p s m args meth c n0) : p.tables.exec = Jvm.exec := h.1
theorem pe_Bd.hb {ex : Nat → Nat} {B : Nat} {D : va_G} {cl : List vw_C} {tys : List (ClassId × FieldType)} {E : State → Prop} {mt : pe_Mt} {p : Program} {s : State} {m : MethodId} {args : Array Value} {meth : Method} {c : Code} {n0 : Nat} (h : pe_Bd ex B D cl tys E mt p s m args meth c n0) : c.code = mt.cc := h.2.1
theorem pe_Bd.hr {ex : Nat → Nat} {B : Nat} {D : va_G} {cl : List vw_C} {tys : List (ClassId × FieldType)} {E : State → Prop} {mt : pe_Mt} {p : Program} {s : State} {m : MethodId} {args : Array Value} {meth : Method} {c : Code} {n0 : Nat} (h : pe_Bd ex B D cl tys E mt p s m args meth c n0) : meth.sig.returnType = mt.ret := h.2.2.1
theorem pe_Bd.hlocks {ex : Nat → Nat} {B : Nat} {D : va_G} {cl : List vw_C} {tys : List (ClassId × FieldType)} {E : State → Prop} {mt : pe_Mt} {p : Program} {s : State} {m : MethodId} {args : Array Value} {meth : Method} {c : Code} {n0 : Nat} (h : pe_Bd ex B D cl tys E mt p s m args meth c n0) : meth.locks = false := h.2.2.2.1
theorem pe_Bd.hml {ex : Nat → Nat} {B : Nat} {D : va_G} {cl : List vw_C} {tys : List (ClassId × FieldType)} {E : State → Prop} {mt : pe_Mt} {p : Program} {s : State} {m : MethodId} {args : Array Value} {meth : Method} {c : Code} {n0 : Nat} (h : pe_Bd ex B D cl tys E mt p s m args meth c n0) : c.maxLocals = mt.mx := h.2.2.2.2.1
theorem pe_Bd.hnm {ex : Nat → Nat} {B : Nat} {D : va_G} {cl : List vw_C} {tys : List (ClassId × FieldType)} {E : State → Prop} {mt : pe_Mt} {p : Program} {s : State} {m : MethodId} {args : Array Value} {meth : Method} {c : Code} {n0 : Nat} (h : pe_Bd ex B D cl tys E mt p s m args meth c n0) : s.methodNamed? mt.y = some m := h.2.2.2.2.2.1
theorem pe_Bd.hmn {ex : Nat → Nat} {B : Nat} {D : va_G} {cl : List vw_C} {tys : List (ClassId × FieldType)} {E : State → Prop} {mt : pe_Mt} {p : Program} {s : State} {m : MethodId} {args : Array Value} {meth : Method} {c : Code} {n0 : Nat} (h : pe_Bd ex B D cl tys E mt p s m args meth c n0) : meth.name = mt.y.name := h.2.2.2.2.2.2.1
theorem pe_Bd.hts {ex : Nat → Nat} {B : Nat} {D : va_G} {cl : List vw_C} {tys : List (ClassId × FieldType)} {E : State → Prop} {mt : pe_Mt} {p : Program} {s : State} {m : MethodId} {args : Array Value} {meth : Method} {c : Code} {n0 : Nat} (h : pe_Bd ex B D cl tys E mt p s m args meth c n0) : ∀ w ∈ pe_wd mt :: pm_tb, w.before args s = true := h.2.2.2.2.2.2.2.1
theorem pe_Bd.hz {ex : Nat → Nat} {B : Nat} {D : va_G} {cl : List vw_C} {tys : List (ClassId × FieldType)} {E : State → Prop} {mt : pe_Mt} {p : Program} {s : State} {m : MethodId} {args : Array Value} {meth : Method} {c : Code} {n0 : Nat} (h : pe_Bd ex B D cl tys E mt p s m args meth c n0) : s.heap.size = B + n0 := h.2.2.2.2.2.2.2.2.1
theorem pe_Bd.hK {ex : Nat → Nat} {B : Nat} {D : va_G} {cl : List vw_C} {tys : List (ClassId × FieldType)} {E : State → Prop} {mt : pe_Mt} {p : Program} {s : State} {m : MethodId} {args : Array Value} {meth : Method} {c : Code} {n0 : Nat} (h : pe_Bd ex B D cl tys E mt p s m args meth c n0) : va_K D cl tys s := h.2.2.2.2.2.2.2.2.2.1
theorem pe_Bd.hE {ex : Nat → Nat} {B : Nat} {D : va_G} {cl : List vw_C} {tys : List (ClassId × FieldType)} {E : State → Prop} {mt : pe_Mt} {p : Program} {s : State} {m : MethodId} {args : Array Value} {meth : Method} {c : Code} {n0 : Nat} (h : pe_Bd ex B D cl tys E mt p s m args meth c n0) : E s := h.2.2.2.2.2.2.2.2.2.2.1
theorem pe_Bd.hmt {ex : Nat → Nat} {B : Nat} {D : va_G} {cl : List vw_C} {tys : List (ClassId × FieldType)} {E : State → Prop} {mt : pe_Mt} {p : Program} {s : State} {m : MethodId} {args : Array Value} {meth : Method} {c : Code} {n0 : Nat} (h : pe_Bd ex B D cl tys E mt p s m args meth c n0) : s.vm.method? m = some meth := h.2.2.2.2.2.2.2.2.2.2.2.1
theorem pe_Bd.hcd {ex : Nat → Nat} {B : Nat} {D : va_G} {cl : List vw_C} {tys : List (ClassId × FieldType)} {E : State → Prop} {mt : pe_Mt} {p : Program} {s : State} {m : MethodId} {args : Array Value} {meth : Method} {c : Code} {n0 : Nat} (h : pe_Bd ex B D cl tys E mt p s m args meth c n0) : meth.code = some c := h.2.2.2.2.2.2.2.2.2.2.2.2
/-- what a special instruction must do -/
def pe_Spec (xs : List (Nat × List Int32)) (ckS : pe_Mt → Nat → pe_S → Bool) (l : Launch) (ex : Nat → Nat) (B : Nat) (dA : Nat → ClassId) (D : va_G) (cl : List vw_C) (tys : List (ClassId × FieldType)) (E : State → Prop) : Prop :=
  ∀ (mt : pe_Mt) (p : Program) (e : Env) (R : Room) (s : State) (m : MethodId) (args : Array Value) (below : List Frame) (meth : Method) (c : Code) (Q : State → Prop) (n0 z0 pc d : Nat) (L : pm_L) (st : List Value) (h : pe_H) (i : pe_S) (α : Type) (k : List Value → pe_H → Option α) (r : α), pe_Bd ex B D cl tys E mt p s m args meth c n0 → pe_spk xs d i L st h k = some r → ckS mt pc i = true → d ≤ R.frames → d * 60 ≤ R.locals → n0 ≤ h.length → z0 ≤ pm_sz (pe_D h) → (∀ st2 h2, k st2 h2 = some r → h2.length - n0 ≤ R.cells ∧ pm_sz (pe_D h2) - z0 ≤ R.slots) →
    (∀ st2 h2, k st2 h2 = some r → pe_le h h2 → pm_W p l e R s m args below meth c Q ex B dA D cl mt.mx n0 z0 (pc + pe_ln (.inr (.inr (.inr (.inr (.inr (.inr (.inr (.inr (.inr (.inr (.inr (.inr (.inr (.inr (.inr (.inl i))))))))))))))))) L st2 (pe_D h2)) → pm_W p l e R s m args below meth c Q ex B dA D cl mt.mx n0 z0 pc L st (pe_D h)
abbrev pe_Am (G : pe_G) (ckS : pe_Mt → Nat → pe_S → Bool) (l : Launch) (ex : Nat → Nat) (B : Nat) (dA : Nat → ClassId) (D : va_G) (cl : List vw_C) (tys : List (ClassId × FieldType)) (E : State → Prop) : Prop := (pm_Ok B E) ∧ (∀ t, pe_tOK t = true → ∃ ty, pe_tyOf cl t = some ty ∧ tys[t]? = some (dA t, ty)) ∧ (pe_clok cl G.dv ex B) ∧ (∀ mi mt, pe_at G.ms mi = some mt → pe_okM G cl ckS mt = true) ∧ (∀ ty, ty = .int ∨ ty = .long ∨ ty = .byte ∨ ty = .boolean → Cond.arrayClass ty ∈ pm_tb) ∧ (∀ s, E s → ∀ j tx, pe_at G.xs j = some (1, tx) → va_T .int (ex j) tx.length (fun k => .int (tx.getD k 0)) (fun q => B ≤ q) s s.heap) ∧ (∀ s, E s → ∀ j tx, pe_at G.xs j = some (2, tx) → va_T .int (ex j) tx.length (fun k => pm_ph ex (tx.getD k 0).toNatClampNeg) (fun q => B ≤ q) s s.heap) ∧ (∀ s, E s → ∀ j tx, pe_at G.xs j = some (3, tx) → va_T .byte (ex j) tx.length (fun k => .int (tx.getD k 0)) (fun q => B ≤ q) s s.heap) ∧ (∀ s, E s → pe_nw s) ∧ (pe_Spec G.xs ckS l ex B dA D cl tys E)
theorem pe_Am.ok {G : pe_G} {ckS : pe_Mt → Nat → pe_S → Bool} {l : Launch} {ex : Nat → Nat} {B : Nat} {dA : Nat → ClassId} {D : va_G} {cl : List vw_C} {tys : List (ClassId × FieldType)} {E : State → Prop} (h : pe_Am G ckS l ex B dA D cl tys E) : pm_Ok B E := h.1
theorem pe_Am.ty {G : pe_G} {ckS : pe_Mt → Nat → pe_S → Bool} {l : Launch} {ex : Nat → Nat} {B : Nat} {dA : Nat → ClassId} {D : va_G} {cl : List vw_C} {tys : List (ClassId × FieldType)} {E : State → Prop} (h : pe_Am G ckS l ex B dA D cl tys E) : ∀ t, pe_tOK t = true → ∃ ty, pe_tyOf cl t = some ty ∧ tys[t]? = some (dA t, ty) := h.2.1
theorem pe_Am.cls {G : pe_G} {ckS : pe_Mt → Nat → pe_S → Bool} {l : Launch} {ex : Nat → Nat} {B : Nat} {dA : Nat → ClassId} {D : va_G} {cl : List vw_C} {tys : List (ClassId × FieldType)} {E : State → Prop} (h : pe_Am G ckS l ex B dA D cl tys E) : pe_clok cl G.dv ex B := h.2.2.1
theorem pe_Am.ms {G : pe_G} {ckS : pe_Mt → Nat → pe_S → Bool} {l : Launch} {ex : Nat → Nat} {B : Nat} {dA : Nat → ClassId} {D : va_G} {cl : List vw_C} {tys : List (ClassId × FieldType)} {E : State → Prop} (h : pe_Am G ckS l ex B dA D cl tys E) : ∀ mi mt, pe_at G.ms mi = some mt → pe_okM G cl ckS mt = true := h.2.2.2.1
theorem pe_Am.arr {G : pe_G} {ckS : pe_Mt → Nat → pe_S → Bool} {l : Launch} {ex : Nat → Nat} {B : Nat} {dA : Nat → ClassId} {D : va_G} {cl : List vw_C} {tys : List (ClassId × FieldType)} {E : State → Prop} (h : pe_Am G ckS l ex B dA D cl tys E) : ∀ ty, ty = .int ∨ ty = .long ∨ ty = .byte ∨ ty = .boolean → Cond.arrayClass ty ∈ pm_tb := h.2.2.2.2.1
theorem pe_Am.xs {G : pe_G} {ckS : pe_Mt → Nat → pe_S → Bool} {l : Launch} {ex : Nat → Nat} {B : Nat} {dA : Nat → ClassId} {D : va_G} {cl : List vw_C} {tys : List (ClassId × FieldType)} {E : State → Prop} (h : pe_Am G ckS l ex B dA D cl tys E) : ∀ s, E s → ∀ j tx, pe_at G.xs j = some (1, tx) → va_T .int (ex j) tx.length (fun k => .int (tx.getD k 0)) (fun q => B ≤ q) s s.heap := h.2.2.2.2.2.1
theorem pe_Am.sc {G : pe_G} {ckS : pe_Mt → Nat → pe_S → Bool} {l : Launch} {ex : Nat → Nat} {B : Nat} {dA : Nat → ClassId} {D : va_G} {cl : List vw_C} {tys : List (ClassId × FieldType)} {E : State → Prop} (h : pe_Am G ckS l ex B dA D cl tys E) : ∀ s, E s → ∀ j tx, pe_at G.xs j = some (2, tx) → va_T .int (ex j) tx.length (fun k => pm_ph ex (tx.getD k 0).toNatClampNeg) (fun q => B ≤ q) s s.heap := h.2.2.2.2.2.2.1
theorem pe_Am.xb {G : pe_G} {ckS : pe_Mt → Nat → pe_S → Bool} {l : Launch} {ex : Nat → Nat} {B : Nat} {dA : Nat → ClassId} {D : va_G} {cl : List vw_C} {tys : List (ClassId × FieldType)} {E : State → Prop} (h : pe_Am G ckS l ex B dA D cl tys E) : ∀ s, E s → ∀ j tx, pe_at G.xs j = some (3, tx) → va_T .byte (ex j) tx.length (fun k => .int (tx.getD k 0)) (fun q => B ≤ q) s s.heap := h.2.2.2.2.2.2.2.1
theorem pe_Am.nw {G : pe_G} {ckS : pe_Mt → Nat → pe_S → Bool} {l : Launch} {ex : Nat → Nat} {B : Nat} {dA : Nat → ClassId} {D : va_G} {cl : List vw_C} {tys : List (ClassId × FieldType)} {E : State → Prop} (h : pe_Am G ckS l ex B dA D cl tys E) : ∀ s, E s → pe_nw s := h.2.2.2.2.2.2.2.2.1
theorem pe_Am.sp {G : pe_G} {ckS : pe_Mt → Nat → pe_S → Bool} {l : Launch} {ex : Nat → Nat} {B : Nat} {dA : Nat → ClassId} {D : va_G} {cl : List vw_C} {tys : List (ClassId × FieldType)} {E : State → Prop} (h : pe_Am G ckS l ex B dA D cl tys E) : pe_Spec G.xs ckS l ex B dA D cl tys E := h.2.2.2.2.2.2.2.2.2
/-- the evaluator is right for so much fuel -/
def pe_Sd (G : pe_G) (ckS : pe_Mt → Nat → pe_S → Bool) (l : Launch) (ex : Nat → Nat) (B : Nat) (dA : Nat → ClassId) (D : va_G) (cl : List vw_C) (tys : List (ClassId × FieldType)) (E : State → Prop) (f : Nat) : Prop :=
  ∀ (d : Nat) (mt : pe_Mt) (is : List pe_I) (pc : Nat) (L : pm_L) (st : List Value) (h : pe_H) (o : pm_O) (h2 : pe_H), pe_okB G cl ckS mt = true → pe_ckB G cl ckS mt pc is = true → pe_go G f d mt is L st h = some (o, h2) → ∀ (p : Program) (e : Env) (s : State) (m : MethodId) (args : Array Value) (below : List Frame) (meth : Method) (c : Code) (hs : pm_H) (R : Room), d ≤ R.frames → d * 60 ≤ R.locals → h2.length - hs.length ≤ R.cells → pm_sz (pe_D h2) - pm_sz hs ≤ R.slots → pe_Bd ex B D cl tys E mt p s m args meth c hs.length → hs.length ≤ h.length → pm_sz hs ≤ pm_sz (pe_D h) →
    pm_W p l e R s m args below meth c (pm_MQ below (pm_QcO ex B dA D cl o (pe_D h2)) args s ((pe_D h2).length - hs.length) (pm_sz (pe_D h2) - pm_sz hs) (fun q => B ≤ q)) ex B dA D cl mt.mx hs.length (pm_sz hs) pc L st (pe_D h)
section PE23
variable {G : pe_G} {ckS : pe_Mt → Nat → pe_S → Bool} {l : Launch} {ex : Nat → Nat} {B : Nat} {dA : Nat → ClassId} {D : va_G} {cl : List vw_C} {tys : List (ClassId × FieldType)} {E : State → Prop}
theorem pe_okB_block {mt : pe_Mt} (h : pe_okB G cl ckS mt = true) {tb p : Nat} {is : List pe_I} (hb : pe_at mt.bl tb = some (p, is)) : pe_ckB G cl ckS mt p is = true := by
  rw [pe_at_eq] at hb
  exact List.all_eq_true.mp h _ (List.mem_of_getElem? hb)
theorem pe_okM_B {mt : pe_Mt} (h : pe_okM G cl ckS mt = true) : pe_okB G cl ckS mt = true := by
  unfold pe_okM at h
  rw [Bool.and_eq_true, Bool.and_eq_true, Bool.and_eq_true, Bool.and_eq_true] at h
  exact h.2.2.2.1
theorem pe_okM_first {mt : pe_Mt} (h : pe_okM G cl ckS mt = true) {p : Nat} {is : List pe_I} (hb : pe_at mt.bl 0 = some (p, is)) : p = 0 := by
  unfold pe_okM at h
  simp only [Bool.and_eq_true] at h
  have h2 := h.2.2.1
  split at h2
  · rename_i x r hr
    rw [hr] at hb
    cases hb
    rfl
  · cases h2
theorem pe_okM_word {mt : pe_Mt} (h : pe_okM G cl ckS mt = true) : pe_wd mt ∈ pm_tb := by
  unfold pe_okM at h
  simp only [Bool.and_eq_true] at h
  exact pe_w_mem h.2.1
theorem pe_okM_plain {mt : pe_Mt} (h : pe_okM G cl ckS mt = true) : plainFor mt.y = true := by
  unfold pe_okM at h
  simp only [Bool.and_eq_true] at h
  exact h.1
theorem pe_okM_hy {mt : pe_Mt} (h : pe_okM G cl ckS mt = true) : mt.y.cls ≠ "java/lang/invoke/MethodHandle" ∧ mt.y.cls ≠ "java/lang/invoke/VarHandle" := by
  unfold pe_okM at h
  simp only [Bool.and_eq_true, decide_eq_true_eq] at h
  exact h.2.2.2.2
/-- a contract out of the evaluator's run -/
theorem pe_con_of {f : Nat} (S : pe_Sd G ckS l ex B dA D cl tys E f) {d : Nat} {mt : pe_Mt} {p0 : Nat} {is : List pe_I} {av : List Value} {h h2 : pe_H} {o : pm_O} (hmt : pe_okM G cl ckS mt = true) (hb0 : pe_at mt.bl 0 = some (p0, is)) (hav : pe_cat av ≤ mt.mx) (hg : pe_go G f d mt is (pm_args 0 av) [] h = some (o, h2)) : pm_Con l mt.y (pe_wd mt :: pm_tb) d ex B dA D cl tys E av (pe_D h) o (pe_D h2) := by
  have hp := pe_okM_first hmt hb0
  subst hp
  have hck := pe_okB_block (pe_okM_B hmt) hb0
  refine pm_Con_ofWF (cc := mt.cc) (maxL := mt.mx) (ret := mt.ret) (hh := mt.hh) (ws2 := pm_tb) (pe_okM_plain hmt) ?_ (by rw [pe_cat_sl]; exact hav) ?_
  · rcases pe_wd_or mt with q | q
    · exact Or.inl (by rw [q])
    · exact Or.inr (by rw [q])
  · intro p e s m below meth c hx hb hr hlocks hml hmt2 hcd hnm hts hz hK hE
    exact S d mt is 0 (pm_args 0 av) [] h o h2 (pe_okM_B hmt) hck hg p e s m _ below meth c (pe_D h) (pm_room d (pe_D h) (pe_D h2)) (Nat.le_refl _) (Nat.le_refl _) (by show h2.length - (pe_D h).length ≤ (pe_D h2).length - (pe_D h).length; rw [pe_D_length, pe_D_length]; exact Nat.le_refl _) (Nat.le_refl _) ⟨hx, hb, hr, hlocks, hml, hnm, (name_of_methodNamed hnm hmt2).1, hts, hz, hK, hE, hmt2, hcd⟩ (by rw [pe_D_length]; exact Nat.le_refl _) (Nat.le_refl _)
theorem pe_lk1_or {own : String} {ix : Nat} {y : MethodName} {i : Nat} (h : pe_lk1 own ix y i = true) {args : Array Value} {s : State} (hN : pe_nw s) (hts : ∀ w ∈ pm_tb, w.before args s = true) : (Cond.methodLink own ix y).before args s = true ∨ ∃ host, (Cond.methodLinkNest own ix y host).before args s = true := by
  unfold pe_lk1 at h
  rw [Bool.or_eq_true, Bool.or_eq_true] at h
  rcases h with h | h | h
  · exact Or.inl (hts _ (pe_w_mem h))
  · exact Or.inr ⟨_, pe_n_at h hN⟩
  · exact Or.inr ⟨_, pe_n_at h hN⟩
theorem pe_wd_in (mt : pe_Mt) (ws : List Cond) : Cond.code mt.y mt.cc mt.mx mt.ret ∈ pe_wd mt :: ws ∨ Cond.codeWith mt.y mt.cc mt.mx mt.ret mt.hh ∈ pe_wd mt :: ws := by
  rcases pe_wd_or mt with q | q
  · exact Or.inl (by rw [q]; exact List.mem_cons_self)
  · exact Or.inr (by rw [q]; exact List.mem_cons_self)
theorem pe_tg_nat {mt : pe_Mt} {tb : Nat} {t : Int} (h : pe_tg mt tb t = true) : t = ((t.toNat : Nat) : Int) := by
  unfold pe_tg at h
  split at h
  · rw [← of_decide_eq_true h]; rfl
  · cases h
theorem pe_noexc {mt : pe_Mt} (hh : mt.hh.isEmpty = true) {s : State} {m : MethodId} {meth : Method} {c : Code} {args : Array Value} (hnm : s.methodNamed? mt.y = some m) (hmt : s.vm.method? m = some meth) (hcd : meth.code = some c) (hw : (pe_wd mt).before args s = true) {pc : Nat} : ∀ q ∈ c.exceptionTable.toList, covers q pc = false := by
  have e1 : pe_wd mt = .code mt.y mt.cc mt.mx mt.ret := by
    unfold pe_wd
    cases h1 : mt.hh with
    | nil => rfl
    | cons x r => rw [h1] at hh; cases hh
  rw [e1] at hw
  obtain ⟨m1, c1, q1, q2, -, -, -, -, q3, -⟩ := Cond.code_spec hnm hw
  rw [hmt] at q1
  cases q1
  rw [hcd] at q2
  cases q2
  intro q hq
  have h2 : c.exceptionTable = #[] := Array.isEmpty_iff.mp q3
  rw [h2] at hq
  cases hq
theorem pe_ck_cx {mt : pe_Mt} {pc ix mi n rc : Nat} {ws : List Nat} {hdl : pe_HS} (h : pe_ck G cl ckS mt pc (.inr (.inr (.inr (.inr (.inr (.inr (.inr (.inr (.inr (.inr (.inr (.inr (.inr (.inr (.inr (.inr (.inr (.inr (.inl (ix, mi, n, rc, ws, hdl)))))))))))))))))))) = true) : decode mt.cc pc = .ok (.invokevirtual ix, 3) ∧ hdl.all (pe_ckh cl mt pc) = true ∧ pe_ck G cl ckS mt pc (.inr (.inr (.inr (.inr (.inr (.inl (ix, mi, n, rc, ws))))))) = true := by
  simp only [pe_ck] at h ⊢
  rw [Bool.and_eq_true, Bool.and_eq_true] at h
  rw [Bool.and_eq_true]
  exact ⟨of_decide_eq_true h.1, h.2.1, h.1, h.2.2⟩
theorem pe_exc {mt : pe_Mt} {s : State} {m : MethodId} {meth : Method} {c : Code} {args : Array Value} (hnm : s.methodNamed? mt.y = some m) (hmt : s.vm.method? m = some meth) (hcd : meth.code = some c) (hw : (pe_wd mt).before args s = true) : c.exceptionTable.toList.map pm_tt = mt.hh := by
  unfold pe_wd at hw
  split at hw
  · rename_i hh
    obtain ⟨m1, c1, q1, q2, -, -, -, -, q3, -⟩ := Cond.code_spec hnm hw
    rw [hmt] at q1
    cases q1
    rw [hcd] at q2
    cases q2
    have h2 : c.exceptionTable = #[] := Array.isEmpty_iff.mp q3
    rw [h2, hh]; rfl
  · rename_i x r hh
    obtain ⟨m9, m1, c1, q0, q1, q2, -, -, q3, -⟩ := Cond.codeWith_spec hw
    cases hnm.symm.trans q0
    rw [hmt] at q1
    cases q1
    rw [hcd] at q2
    cases q2
    rw [hh]
    exact q3
theorem pe_cs_of {s : State} {args : Array Value} {own C : String} {cs : List (Nat × Bool × String × Nat × Nat)} (hN : pe_nw s) (hts : ∀ w ∈ pm_tb, w.before args s = true) (h : cs.all (pe_ckc own C) = true) : pm_cs s args own C (pe_cast cs) := by
  intro ty v hc
  unfold pe_cast at hc
  cases hf : cs.find? (fun q => Nat.beq q.1 ty) with
  | none => rw [hf] at hc; cases hc
  | some q =>
    rw [hf] at hc
    have hv : q.2.1 = v := Option.some.inj hc
    have h9 := List.find?_some hf
    have hty : q.1 = ty := Nat.eq_of_beq_eq_true h9
    have hk := List.all_eq_true.mp h q (List.mem_of_find?_eq_some hf)
    unfold pe_ckc at hk
    rw [Bool.and_eq_true, Bool.and_eq_true] at hk
    obtain ⟨h0, h1, h2⟩ := hk
    subst hty
    refine ⟨fun z => ?_, q.2.2.1, ?_⟩
    · rw [z] at h0; cases h0
    · cases hb : q.2.1 with
      | true =>
        rw [hb] at h2
        obtain ⟨cC, cT, a1, a2, a3⟩ := pm_cs_yes (pe_n_at (args := args) h2 hN)
        exact ⟨cC, cT, hts _ (pe_w_mem h1), a1, a2, by rw [← hv, hb]; exact a3⟩
      | false =>
        rw [hb] at h2
        obtain ⟨cC, cT, a1, a2, a3⟩ := hN.2 _ (of_decide_eq_true h2)
        exact ⟨cC, cT, hts _ (pe_w_mem h1), a1, a2, by rw [← hv, hb]; exact a3⟩
theorem pe_named {mt : pe_Mt} (h : pe_okM G cl ckS mt = true) {args : Array Value} {s : State} (hts : ∀ w ∈ pm_tb, w.before args s = true) : ∃ mk, s.methodNamed? mt.y = some mk := by
  have h2 := hts _ (pe_okM_word h)
  rcases pe_wd_or mt with q | q
  · rw [q] at h2; exact Cond.code_named h2
  · rw [q] at h2
    obtain ⟨m9, _, _, hn9, _⟩ := Cond.codeWith_spec h2
    exact ⟨m9, hn9⟩
theorem pe_room1 {hs : pm_H} {h h3 : pe_H} {R : Room} (hn0 : hs.length ≤ h.length) (le3 : pe_le h h3) (hR : h3.length - hs.length ≤ R.cells ∧ pm_sz (pe_D h3) - pm_sz hs ≤ R.slots) : (pe_D h).length - hs.length + ((pe_D h3).length - (pe_D h).length) ≤ R.cells := by
  rw [pe_D_length, pe_D_length]
  have := le3.1
  have := hR.1
  omega
theorem pe_room2 {hs : pm_H} {h h3 : pe_H} {R : Room} (hz0 : pm_sz hs ≤ pm_sz (pe_D h)) (le3 : pe_le h h3) (hR : h3.length - hs.length ≤ R.cells ∧ pm_sz (pe_D h3) - pm_sz hs ≤ R.slots) : pm_sz (pe_D h) - pm_sz hs + (pm_sz (pe_D h3) - pm_sz (pe_D h)) ≤ R.slots := by
  have := le3.2
  have := hR.2
  omega
theorem pm_ret_a {p : Program} {e : Env} {R : Room} {s : State} {m : MethodId} {args : Array Value} {below : List Frame} {meth : Method} {c : Code} {nL n0 z0 : Nat} {cc : ByteArray} {pc : Nat} {L : pm_L} {h h2 : pm_H} (hx : p.tables.exec = Jvm.exec) (hb : c.code = cc) {v : Value} {o : pm_O} {rt : FieldType} (hlocks : meth.locks = false) (hr : meth.sig.returnType = some rt) (hrt : (∃ n, rt = .object n) ∨ ∃ t, rt = .array t) (hv : pm_isR v = true) (he : (o, h2) = (.inl (some v), h)) (hdg : decode cc pc = .ok (.areturn, 1)) : pm_W p l e R s m args below meth c (pm_MQ below (pm_QcO ex B dA D cl o h2) args s (h2.length - n0) (pm_sz h2 - z0) (fun q => B ≤ q)) ex B dA D cl nL n0 z0 pc L [v] h := by
  obtain ⟨rfl, rfl⟩ := Prod.mk.inj he
  exact pm_retO (fun t => pm_MQ_of) (pm_aret hx hb hlocks (Nat.le_refl _) (Nat.le_refl _) (fun _ q => q) hr hrt hv (fun t h1 _ h2 => ⟨rfl, h1, h2⟩) hdg)
theorem pe_sound (A : pe_Am G ckS l ex B dA D cl tys E) : ∀ f, pe_Sd G ckS l ex B dA D cl tys E f := by
  intro f
  induction f with
  | zero => intro d mt is pc L st h o h2 _ _ hg; cases hg
  | succ f ih =>
    intro d mt is pc L st h o h2 hmt hck hg p e s m args below meth c hs R hRf hRl hRc hRs Bd hn0 hz0
    cases is with
    | nil => cases hg
    | cons i rest =>
      have hck0 := hck
      unfold pe_ckB at hck
      rw [Bool.and_eq_true] at hck
      obtain ⟨hc1, hcr⟩ := hck
      have hown : s.vm.findClass mt.y.cls = some m.cls := findClass_of_methodNamed Bd.hnm
      have hts2 : ∀ w ∈ pm_tb, w.before args s = true := fun w hw => Bd.hts w (List.mem_cons_of_mem _ hw)
      have hn1 : hs.length ≤ (pe_D h).length := by rw [pe_D_length]; exact hn0
      have hfin : pe_le h h2 := pe_mono G (f + 1) d mt (i :: rest) L st h o h2 hg
      -- on behind a run of the rest
      have go : ∀ (pc3 : Nat) (is3 : List pe_I) (L3 : pm_L) (st3 : List Value) (h3 : pe_H), pe_ckB G cl ckS mt pc3 is3 = true → pe_go G f d mt is3 L3 st3 h3 = some (o, h2) → pe_le h h3 → pm_W p l e R s m args below meth c (pm_MQ below (pm_QcO ex B dA D cl o (pe_D h2)) args s ((pe_D h2).length - hs.length) (pm_sz (pe_D h2) - pm_sz hs) (fun q => B ≤ q)) ex B dA D cl mt.mx hs.length (pm_sz hs) pc3 L3 st3 (pe_D h3) := fun pc3 is3 L3 st3 h3 q1 q2 q3 => ih d mt is3 pc3 L3 st3 h3 o h2 hmt q1 q2 p e s m args below meth c hs R hRf hRl hRc hRs Bd (Nat.le_trans hn0 q3.1) (Nat.le_trans hz0 q3.2)
      have jmp : ∀ (tb : Nat) (t : Int) (st3 : List Value), pe_tg mt tb t = true → pe_jmp mt tb (fun is => pe_go G f d mt is L st3 h) = some (o, h2) → ∃ p3 : Nat, t = (p3 : Int) ∧ pm_W p l e R s m args below meth c (pm_MQ below (pm_QcO ex B dA D cl o (pe_D h2)) args s ((pe_D h2).length - hs.length) (pm_sz (pe_D h2) - pm_sz hs) (fun q => B ≤ q)) ex B dA D cl mt.mx hs.length (pm_sz hs) p3 L st3 (pe_D h) := fun tb t st3 q1 q2 => by
        obtain ⟨p3, is3, e1, g⟩ := pe_jmp_inv q2
        exact ⟨p3, pe_tg_inv q1 e1, go p3 is3 L st3 h (pe_okB_block hmt e1) g pe_le.rf⟩
      have room : ∀ h3 : pe_H, pe_le h3 h2 → h3.length - hs.length ≤ R.cells ∧ pm_sz (pe_D h3) - pm_sz hs ≤ R.slots := fun h3 q => ⟨Nat.le_trans (Nat.sub_le_sub_right q.1 _) hRc, Nat.le_trans (Nat.sub_le_sub_right q.2 _) hRs⟩
      -- behind a call: on with its answer, or out with its throw
      have kcal : ∀ (st4 : List Value) (o3 : pm_O) (h3 : pe_H), pe_ckB G cl ckS mt (pc + 3) rest = true → pe_le h h3 → ((∃ v : Option Value, o3 = .inl v ∧ pe_go G f d mt rest L (v.toList ++ st4) h3 = some (o, h2)) ∨ ∃ x : Nat, o3 = .inr x ∧ (bif mt.hh.isEmpty then some ((.inr x : pm_O), h3) else none) = some (o, h2)) → pe_le h3 h2 ∧ pm_K p l e R s m args below meth c (pm_MQ below (pm_QcO ex B dA D cl o (pe_D h2)) args s ((pe_D h2).length - hs.length) (pm_sz (pe_D h2) - pm_sz hs) (fun q => B ≤ q)) ex B dA D cl mt.mx hs.length (pm_sz hs) pc L st4 o3 (pe_D h3) := by
        intro st4 o3 h3 q1 q2 q3
        rcases q3 with ⟨v, rfl, g2⟩ | ⟨x, rfl, g2⟩
        · exact ⟨pe_mono G _ _ _ _ _ _ _ _ _ g2, go _ rest L _ h3 q1 g2 q2⟩
        · obtain ⟨he, g2⟩ := pe_bif_inv g2
          cases g2
          exact ⟨pe_le.rf, pm_WT_out Bd.hlocks (pe_noexc he Bd.hnm Bd.hmt Bd.hcd (Bd.hts _ List.mem_cons_self)) (Nat.le_refl _) (Nat.le_refl _) (fun _ q => q)⟩
      rcases i with i | ⟨ix, ci, k0, host, wd⟩ | ⟨i, tb⟩ | ⟨wide, ix, v, wd⟩ | ⟨ix, ci, k0, tk, host, wd⟩ | ⟨ix, mi, n, rc, ws⟩ | ⟨ix, mi, n, ws⟩ | ⟨ix, mi, n, ws⟩ | tb | i | ⟨ix, v, wd⟩ | ⟨i, n, lo, ts, df⟩ | ⟨ix, ci, ws⟩ | ⟨ix, t, wd⟩ | ⟨ix, ws⟩ | i | ⟨i, n, ofs⟩ | u | ⟨ix, mi, n, rc, ws, hdl⟩ | hdl
      · exact pe_op_ok Bd.hx Bd.hb Bd.hK Bd.hz A.ty (fun ty q => hts2 _ (A.arr ty q)) (A.xs s Bd.hE) (A.sc s Bd.hE) (A.xb s Bd.hE) (pe_n_at (i := 1030) (by decide +kernel) (A.nw s Bd.hE)) hg (of_decide_eq_true hc1) hn0 hz0 (fun L3 st3 h3 g => room h3 (pe_mono G _ _ _ _ _ _ _ _ _ g)) (fun L3 st3 h3 g q => go _ rest L3 st3 h3 hcr g q)
      · replace hg : (pe_rf st (fun a st => pe_obj h a ci (fun vs => match pe_at vs k0 with
          | some v => pe_go G f d mt rest L (v :: st) h
          | none => none))) = some (o, h2) := hg
        obtain ⟨a, st3, rfl, g⟩ := pe_rf_inv hg
        obtain ⟨vs, e1, g⟩ := pe_obj_inv g
        cases hv : pe_at vs k0 with
        | none => rw [hv] at g; cases g
        | some v =>
          rw [hv] at g
          have q2 := go _ rest L (v :: st3) h hcr g pe_le.rf
          cases hq : pe_at cl ci with
          | none => simp only [pe_ck, hq, Bool.and_false] at hc1; cases hc1
          | some q =>
            obtain ⟨C, T, N⟩ := q
            simp only [pe_ck, hq, Bool.and_eq_true, decide_eq_true_eq, Nat.blt_eq] at hc1
            obtain ⟨hdg, hk, hl⟩ := hc1
            have hin := (A.cls ci C T N hq).1
            cases host with
            | none => exact pm_getf Bd.hx Bd.hb hts2 hown Bd.hK hin (by rw [← pe_at_eq, hq]) hk (hts2 _ (pe_w_mem hl)) (fun _ q => q) (pe_D_at e1) (by rw [← pe_at_eq, hv]) hdg q2
            | some hn => exact pm_getfN Bd.hx Bd.hb hts2 hown Bd.hK hin (by rw [← pe_at_eq, hq]) hk (pe_n_at hl (A.nw s Bd.hE)) (fun _ q => q) (pe_D_at e1) (by rw [← pe_at_eq, hv]) hdg q2
      · replace hc1 : (decide (decode mt.cc pc = .ok (i, 3)) && pe_tg mt tb (pc + pe_off i)) = true := hc1
        rw [Bool.and_eq_true, decide_eq_true_eq] at hc1
        obtain ⟨hdg, htg⟩ := hc1
        replace hg : (pe_cd i st (fun b st => bif b then pe_jmp mt tb (fun is => pe_go G f d mt is L st h) else pe_go G f d mt rest L st h)) = some (o, h2) := hg
        cases i with
        | goto off =>
          obtain ⟨p3, q1, q2⟩ := jmp tb _ st htg hg
          exact pm_goto Bd.hx Bd.hb hdg q1 q2
        | ifCond cnd off =>
          obtain ⟨v0, x, st3, rfl, hv0, g⟩ := pe_cd1_inv (show pe_cd1 cnd st (fun b st => bif b then pe_jmp mt tb (fun is => pe_go G f d mt is L st h) else pe_go G f d mt rest L st h) = some (o, h2) from hg) ex B
          refine pm_cg1 (u := .int x) hv0 ?_
          cases cnd with
          | eq =>
            by_cases hq : (pe_c1 .eq x) = true
            · rw [hq] at g
              obtain ⟨p3, q1, q2⟩ := jmp tb _ st3 htg g
              exact pm_if_eq Bd.hx Bd.hb hdg q1 (fun _ => q2) (fun q => absurd hq (by rw [show (pe_c1 .eq x) = false from decide_eq_false q]; intro z; cases z))
            · rw [Bool.not_eq_true] at hq
              rw [hq] at g
              have q2 := go _ rest L st3 h hcr g pe_le.rf
              have qt : ∀ {P : Prop}, (x = 0) → P := fun q => absurd (show (pe_c1 .eq x) = true from decide_eq_true q) (by rw [hq]; intro z; cases z)
              exact pm_if_eq (tgt := (pc + pe_off (.ifCond .eq off)).toNat) Bd.hx Bd.hb hdg (pe_tg_nat htg) (fun q => qt q) (fun _ => q2)
          | ne =>
            by_cases hq : (pe_c1 .ne x) = true
            · rw [hq] at g
              obtain ⟨p3, q1, q2⟩ := jmp tb _ st3 htg g
              exact pm_if_ne Bd.hx Bd.hb hdg q1 (fun _ => q2) (fun q => absurd hq (by rw [show (pe_c1 .ne x) = false from by show (!(decide _)) = false; rw [decide_eq_true q]; rfl]; intro z; cases z))
            · rw [Bool.not_eq_true] at hq
              rw [hq] at g
              have q2 := go _ rest L st3 h hcr g pe_le.rf
              have qt : ∀ {P : Prop}, (¬ x = 0) → P := fun q => absurd (show (pe_c1 .ne x) = true from by show (!(decide _)) = true; rw [decide_eq_false q]; rfl) (by rw [hq]; intro z; cases z)
              exact pm_if_ne (tgt := (pc + pe_off (.ifCond .ne off)).toNat) Bd.hx Bd.hb hdg (pe_tg_nat htg) (fun q => qt q) (fun _ => q2)
          | lt =>
            by_cases hq : (pe_c1 .lt x) = true
            · rw [hq] at g
              obtain ⟨p3, q1, q2⟩ := jmp tb _ st3 htg g
              exact pm_if_lt Bd.hx Bd.hb hdg q1 (fun _ => q2) (fun q => absurd hq (by rw [show (pe_c1 .lt x) = false from decide_eq_false q]; intro z; cases z))
            · rw [Bool.not_eq_true] at hq
              rw [hq] at g
              have q2 := go _ rest L st3 h hcr g pe_le.rf
              have qt : ∀ {P : Prop}, (x < 0) → P := fun q => absurd (show (pe_c1 .lt x) = true from decide_eq_true q) (by rw [hq]; intro z; cases z)
              exact pm_if_lt (tgt := (pc + pe_off (.ifCond .lt off)).toNat) Bd.hx Bd.hb hdg (pe_tg_nat htg) (fun q => qt q) (fun _ => q2)
          | ge =>
            by_cases hq : (pe_c1 .ge x) = true
            · rw [hq] at g
              obtain ⟨p3, q1, q2⟩ := jmp tb _ st3 htg g
              exact pm_if_ge Bd.hx Bd.hb hdg q1 (fun _ => q2) (fun q => absurd hq (by rw [show (pe_c1 .ge x) = false from decide_eq_false q]; intro z; cases z))
            · rw [Bool.not_eq_true] at hq
              rw [hq] at g
              have q2 := go _ rest L st3 h hcr g pe_le.rf
              have qt : ∀ {P : Prop}, (0 ≤ x) → P := fun q => absurd (show (pe_c1 .ge x) = true from decide_eq_true q) (by rw [hq]; intro z; cases z)
              exact pm_if_ge (tgt := (pc + pe_off (.ifCond .ge off)).toNat) Bd.hx Bd.hb hdg (pe_tg_nat htg) (fun q => qt q) (fun _ => q2)
          | gt =>
            by_cases hq : (pe_c1 .gt x) = true
            · rw [hq] at g
              obtain ⟨p3, q1, q2⟩ := jmp tb _ st3 htg g
              exact pm_if_gt Bd.hx Bd.hb hdg q1 (fun _ => q2) (fun q => absurd hq (by rw [show (pe_c1 .gt x) = false from decide_eq_false q]; intro z; cases z))
            · rw [Bool.not_eq_true] at hq
              rw [hq] at g
              have q2 := go _ rest L st3 h hcr g pe_le.rf
              have qt : ∀ {P : Prop}, (0 < x) → P := fun q => absurd (show (pe_c1 .gt x) = true from decide_eq_true q) (by rw [hq]; intro z; cases z)
              exact pm_if_gt (tgt := (pc + pe_off (.ifCond .gt off)).toNat) Bd.hx Bd.hb hdg (pe_tg_nat htg) (fun q => qt q) (fun _ => q2)
          | le =>
            by_cases hq : (pe_c1 .le x) = true
            · rw [hq] at g
              obtain ⟨p3, q1, q2⟩ := jmp tb _ st3 htg g
              exact pm_if_le Bd.hx Bd.hb hdg q1 (fun _ => q2) (fun q => absurd hq (by rw [show (pe_c1 .le x) = false from decide_eq_false q]; intro z; cases z))
            · rw [Bool.not_eq_true] at hq
              rw [hq] at g
              have q2 := go _ rest L st3 h hcr g pe_le.rf
              have qt : ∀ {P : Prop}, (x ≤ 0) → P := fun q => absurd (show (pe_c1 .le x) = true from decide_eq_true q) (by rw [hq]; intro z; cases z)
              exact pm_if_le (tgt := (pc + pe_off (.ifCond .le off)).toNat) Bd.hx Bd.hb hdg (pe_tg_nat htg) (fun q => qt q) (fun _ => q2)
        | if_icmp cnd off =>
          obtain ⟨u0, v0, x, y, st3, rfl, hv0, hu0, g⟩ := pe_cd2_inv (show pe_cd2 cnd st (fun b st => bif b then pe_jmp mt tb (fun is => pe_go G f d mt is L st h) else pe_go G f d mt rest L st h) = some (o, h2) from hg) ex B
          refine pm_cg2 (u := .int y) (u2 := .int x) hu0 hv0 ?_
          cases cnd with
          | eq =>
            by_cases hq : (pe_c2 .eq x y) = true
            · rw [hq] at g
              obtain ⟨p3, q1, q2⟩ := jmp tb _ st3 htg g
              exact pm_icmp_eq Bd.hx Bd.hb hdg q1 (fun _ => q2) (fun q => absurd hq (by rw [show (pe_c2 .eq x y) = false from decide_eq_false q]; intro z; cases z))
            · rw [Bool.not_eq_true] at hq
              rw [hq] at g
              have q2 := go _ rest L st3 h hcr g pe_le.rf
              have qt : ∀ {P : Prop}, (x = y) → P := fun q => absurd (show (pe_c2 .eq x y) = true from decide_eq_true q) (by rw [hq]; intro z; cases z)
              exact pm_icmp_eq (tgt := (pc + pe_off (.if_icmp .eq off)).toNat) Bd.hx Bd.hb hdg (pe_tg_nat htg) (fun q => qt q) (fun _ => q2)
          | ne =>
            by_cases hq : (pe_c2 .ne x y) = true
            · rw [hq] at g
              obtain ⟨p3, q1, q2⟩ := jmp tb _ st3 htg g
              exact pm_icmp_ne Bd.hx Bd.hb hdg q1 (fun _ => q2) (fun q => absurd hq (by rw [show (pe_c2 .ne x y) = false from by show (!(decide _)) = false; rw [decide_eq_true q]; rfl]; intro z; cases z))
            · rw [Bool.not_eq_true] at hq
              rw [hq] at g
              have q2 := go _ rest L st3 h hcr g pe_le.rf
              have qt : ∀ {P : Prop}, (¬ x = y) → P := fun q => absurd (show (pe_c2 .ne x y) = true from by show (!(decide _)) = true; rw [decide_eq_false q]; rfl) (by rw [hq]; intro z; cases z)
              exact pm_icmp_ne (tgt := (pc + pe_off (.if_icmp .ne off)).toNat) Bd.hx Bd.hb hdg (pe_tg_nat htg) (fun q => qt q) (fun _ => q2)
          | lt =>
            by_cases hq : (pe_c2 .lt x y) = true
            · rw [hq] at g
              obtain ⟨p3, q1, q2⟩ := jmp tb _ st3 htg g
              exact pm_icmp_lt Bd.hx Bd.hb hdg q1 (fun _ => q2) (fun q => absurd hq (by rw [show (pe_c2 .lt x y) = false from decide_eq_false q]; intro z; cases z))
            · rw [Bool.not_eq_true] at hq
              rw [hq] at g
              have q2 := go _ rest L st3 h hcr g pe_le.rf
              have qt : ∀ {P : Prop}, (x < y) → P := fun q => absurd (show (pe_c2 .lt x y) = true from decide_eq_true q) (by rw [hq]; intro z; cases z)
              exact pm_icmp_lt (tgt := (pc + pe_off (.if_icmp .lt off)).toNat) Bd.hx Bd.hb hdg (pe_tg_nat htg) (fun q => qt q) (fun _ => q2)
          | ge =>
            by_cases hq : (pe_c2 .ge x y) = true
            · rw [hq] at g
              obtain ⟨p3, q1, q2⟩ := jmp tb _ st3 htg g
              exact pm_icmp_ge Bd.hx Bd.hb hdg q1 (fun _ => q2) (fun q => absurd hq (by rw [show (pe_c2 .ge x y) = false from decide_eq_false q]; intro z; cases z))
            · rw [Bool.not_eq_true] at hq
              rw [hq] at g
              have q2 := go _ rest L st3 h hcr g pe_le.rf
              have qt : ∀ {P : Prop}, (y ≤ x) → P := fun q => absurd (show (pe_c2 .ge x y) = true from decide_eq_true q) (by rw [hq]; intro z; cases z)
              exact pm_icmp_ge (tgt := (pc + pe_off (.if_icmp .ge off)).toNat) Bd.hx Bd.hb hdg (pe_tg_nat htg) (fun q => qt q) (fun _ => q2)
          | gt =>
            by_cases hq : (pe_c2 .gt x y) = true
            · rw [hq] at g
              obtain ⟨p3, q1, q2⟩ := jmp tb _ st3 htg g
              exact pm_icmp_gt Bd.hx Bd.hb hdg q1 (fun _ => q2) (fun q => absurd hq (by rw [show (pe_c2 .gt x y) = false from decide_eq_false q]; intro z; cases z))
            · rw [Bool.not_eq_true] at hq
              rw [hq] at g
              have q2 := go _ rest L st3 h hcr g pe_le.rf
              have qt : ∀ {P : Prop}, (y < x) → P := fun q => absurd (show (pe_c2 .gt x y) = true from decide_eq_true q) (by rw [hq]; intro z; cases z)
              exact pm_icmp_gt (tgt := (pc + pe_off (.if_icmp .gt off)).toNat) Bd.hx Bd.hb hdg (pe_tg_nat htg) (fun q => qt q) (fun _ => q2)
          | le =>
            by_cases hq : (pe_c2 .le x y) = true
            · rw [hq] at g
              obtain ⟨p3, q1, q2⟩ := jmp tb _ st3 htg g
              exact pm_icmp_le Bd.hx Bd.hb hdg q1 (fun _ => q2) (fun q => absurd hq (by rw [show (pe_c2 .le x y) = false from decide_eq_false q]; intro z; cases z))
            · rw [Bool.not_eq_true] at hq
              rw [hq] at g
              have q2 := go _ rest L st3 h hcr g pe_le.rf
              have qt : ∀ {P : Prop}, (x ≤ y) → P := fun q => absurd (show (pe_c2 .le x y) = true from decide_eq_true q) (by rw [hq]; intro z; cases z)
              exact pm_icmp_le (tgt := (pc + pe_off (.if_icmp .le off)).toNat) Bd.hx Bd.hb hdg (pe_tg_nat htg) (fun q => qt q) (fun _ => q2)
        | ifnull off =>
          obtain ⟨v, st3, rfl, g⟩ := pe_v_inv hg
          obtain ⟨hv, g⟩ := pe_bif_inv g
          by_cases hq : v = .null
          · rw [decide_eq_true hq] at g
            obtain ⟨p3, q1, q2⟩ := jmp tb _ st3 htg g
            exact pm_ifnull Bd.hx Bd.hb hdg q1 hv (fun _ => q2) (fun q => absurd hq q)
          · rw [decide_eq_false hq] at g
            have q2 := go _ rest L st3 h hcr g pe_le.rf
            exact pm_ifnull (tgt := (pc + pe_off (.ifnull off)).toNat) Bd.hx Bd.hb hdg (pe_tg_nat htg) hv (fun q => absurd q hq) (fun _ => q2)
        | ifnonnull off =>
          obtain ⟨v, st3, rfl, g⟩ := pe_v_inv hg
          obtain ⟨hv, g⟩ := pe_bif_inv g
          by_cases hq : v = .null
          · rw [decide_eq_true hq] at g
            have q2 := go _ rest L st3 h hcr g pe_le.rf
            exact pm_ifnonnull (tgt := (pc + pe_off (.ifnonnull off)).toNat) Bd.hx Bd.hb hdg (pe_tg_nat htg) hv (fun q => absurd hq q) (fun _ => q2)
          · rw [decide_eq_false hq] at g
            obtain ⟨p3, q1, q2⟩ := jmp tb _ st3 htg g
            exact pm_ifnonnull Bd.hx Bd.hb hdg q1 hv (fun _ => q2) (fun q => absurd q hq)
        | _ => cases hg
      · have q2 := go _ rest L (.int v :: st) h hcr hg pe_le.rf
        cases wide with
        | false =>
          simp only [pe_ck, cond_false, Bool.and_eq_true, decide_eq_true_eq] at hc1
          exact pm_ldc Bd.hx Bd.hb hown (hts2 _ (pe_w_mem hc1.2)) hc1.1 q2
        | true =>
          simp only [pe_ck, cond_true, Bool.and_eq_true, decide_eq_true_eq] at hc1
          exact pm_ldcw Bd.hx Bd.hb hown (hts2 _ (pe_w_mem hc1.2)) hc1.1 q2
      · replace hg : (pe_irf st (fun a v st => bif pe_ft tk v then pe_obj h a ci (fun vs => bif Nat.blt k0 vs.length then pe_setk v vs k0 (fun vs => pe_setk (.inr (.inl (ci, vs))) h a (fun h => pe_go G f d mt rest L st h)) else none) else none)) = some (o, h2) := hg
        obtain ⟨a, v, st3, rfl, g⟩ := pe_irf_inv hg
        obtain ⟨hft, g⟩ := pe_bif_inv g
        obtain ⟨vs, e1, g⟩ := pe_obj_inv g
        obtain ⟨hl0, g⟩ := pe_bif_inv g
        rw [Nat.blt_eq] at hl0
        rw [pe_setk_eq, pe_setk_eq] at g
        have q2 := go _ rest L st3 _ hcr g (pe_le.set e1 (by simp [pe_d, pm_n]))
        rw [pe_D_set] at q2
        cases hq : pe_at cl ci with
        | none => simp only [pe_ck, hq, Bool.and_false] at hc1; cases hc1
        | some q =>
          obtain ⟨C, T, N⟩ := q
          obtain ⟨hin, ty0, hty, hnm, -⟩ := A.cls ci C T N hq
          cases host with
          | none =>
            simp only [pe_ck, hq, Bool.and_eq_true, decide_eq_true_eq, Nat.blt_eq, Bool.or_eq_true, Bool.not_eq_true'] at hc1
            obtain ⟨hdg, hk, htk, hf, hl⟩ := hc1
            obtain ⟨ty, t1, t2, t3⟩ := pe_ft_ok (ex := ex) (B := B) hft htk
            rcases hf with hf | ⟨hf1, hf2⟩
            · exact pm_putf Bd.hx Bd.hb hts2 hown Bd.hK hin ty0 hty hnm (by rw [← pe_at_eq, hq]) hk (hts2 _ (pe_w_mem hl)) (fun _ q => q) hf t1 t2 t3 (pe_D_at e1) hl0 hdg q2
            · cases hfl : (T k0).2.2.2 with
              | false => exact pm_putf Bd.hx Bd.hb hts2 hown Bd.hK hin ty0 hty hnm (by rw [← pe_at_eq, hq]) hk (hts2 _ (pe_w_mem hl)) (fun _ q => q) hfl t1 t2 t3 (pe_D_at e1) hl0 hdg q2
              | true => exact pm_putfF Bd.hx Bd.hb hts2 hown Bd.hK hin ty0 hty hnm (by rw [← pe_at_eq, hq]) hk (hts2 _ (pe_w_mem hl)) (fun _ q => q) hfl (Bd.hmn.trans hf1) hf2 t1 t2 t3 (pe_D_at e1) hl0 hdg q2
          | some hn =>
            simp only [pe_ck, hq, Bool.and_eq_true, decide_eq_true_eq, Nat.blt_eq, Bool.not_eq_true'] at hc1
            obtain ⟨hdg, hk, htk, hf, hl⟩ := hc1
            obtain ⟨ty, t1, t2, t3⟩ := pe_ft_ok (ex := ex) (B := B) hft htk
            exact pm_putfN Bd.hx Bd.hb hts2 hown Bd.hK hin ty0 hty hnm (by rw [← pe_at_eq, hq]) hk (pe_n_at hl (A.nw s Bd.hE)) (fun _ q => q) hf t1 t2 t3 (pe_D_at e1) hl0 hdg q2
      · replace hg : (pe_pop n [] st (fun As st => pe_rf st (fun b st => pe_obj h b rc (fun _ => pe_calx (fun d m is L st h => pe_go G f d m is L st h) G.ms d mi (.ref b :: As) st h (fun st h => pe_go G f d mt rest L st h) (fun x h => bif mt.hh.isEmpty then some (.inr x, h) else none))))) = some (o, h2) := hg
        obtain ⟨As, st3, hAs, rfl, g⟩ := pe_pop_inv hg
        obtain ⟨b, st4, rfl, g⟩ := pe_rf_inv g
        obtain ⟨vs, e0, g⟩ := pe_obj_inv g
        obtain ⟨m2, d2, p0, is2, o3, h3, e1, rfl, k1, k2, k3, e2, g1, g2⟩ := pe_calx_inv g
        have hm2 := A.ms mi m2 e1
        have hM := pe_con_of ih hm2 e2 k3 g1
        have le3 := pe_mono G _ _ _ _ _ _ _ _ _ g1
        obtain ⟨le4, q2⟩ := kcal _ o3 h3 hcr le3 g2
        have hR := room h3 le4
        cases hq : pe_at cl rc with
        | none => simp only [pe_ck, e1, hq, Bool.and_false] at hc1; cases hc1
        | some qq =>
          obtain ⟨C, T, N⟩ := qq
          rcases ws with _ | ⟨w1, _ | ⟨w2, _ | ⟨w3, _ | ⟨w4, _ | ⟨w5, _ | ⟨w6, wr⟩⟩⟩⟩⟩⟩
          · simp only [pe_ck, e1, hq, Bool.and_false] at hc1; cases hc1
          · simp only [pe_ck, e1, hq, Bool.and_false] at hc1; cases hc1
          · simp only [pe_ck, e1, hq, Bool.and_false] at hc1; cases hc1
          · simp only [pe_ck, e1, hq, Bool.and_false] at hc1; cases hc1
          · simp only [pe_ck, e1, hq, Bool.and_false] at hc1; cases hc1
          · simp only [pe_ck, e1, hq, Bool.and_eq_true, decide_eq_true_eq] at hc1
            obtain ⟨hdg, c1, c2, c3, c5, c4⟩ := hc1
            have hsel : Cond.selects C m2.y m2.y ∈ pm_tb := by
              cases hb5 : Nat.beq w5 0 with
              | true => rw [hb5] at c5; exact pe_w_mem c5
              | false => rw [hb5] at c5; exact pe_p_mem c5
            exact pm_cV (bytes := m2.cc) (maxL := m2.mx) (ret := m2.ret) (hh := m2.hh) Bd.hx Bd.hb Bd.hml hown Bd.hK Bd.hE A.ok Bd.hz hn1 hz0 (by rw [pe_D_length, pe_D_length]; exact le3.1) le3.2 hM (pm_hws Bd.hts (pe_okM_word hm2)) (pe_wd_in m2 pm_tb) (hts2 _ (pe_w_mem c3)) (pe_lk1_or c1 (A.nw s Bd.hE) hts2) (hts2 _ (pe_w_mem c2)) (hts2 _ hsel) (pe_okM_hy hm2) (hAs ▸ pm_arity (of_decide_eq_true c4)) (pe_D_at e0) (by rw [← pe_at_eq, hq]) (by rw [pe_cat_eq]; exact k1) (pe_room1 hn0 le3 hR) (pe_room2 hz0 le3 hR) hRf (by show 8 + (m2.mx + 11) + d2 * 60 ≤ R.locals; omega) hdg q2
          · simp only [pe_ck, e1, hq, Bool.and_false] at hc1; cases hc1
      · replace hg : (pe_pop n [] st (fun As st => pe_calx (fun d m is L st h => pe_go G f d m is L st h) G.ms d mi As st h (fun st h => pe_go G f d mt rest L st h) (fun x h => bif mt.hh.isEmpty then some (.inr x, h) else none))) = some (o, h2) := hg
        obtain ⟨As, st3, hAs, rfl, g⟩ := pe_pop_inv hg
        obtain ⟨m2, d2, p0, is2, o3, h3, e1, rfl, k1, k2, k3, e2, g1, g2⟩ := pe_calx_inv g
        have hm2 := A.ms mi m2 e1
        have hM := pe_con_of ih hm2 e2 k3 g1
        have le3 := pe_mono G _ _ _ _ _ _ _ _ _ g1
        obtain ⟨le4, q2⟩ := kcal _ o3 h3 hcr le3 g2
        have hR := room h3 le4
        have hR0 := room h hfin
        rcases ws with _ | ⟨w1, _ | ⟨w2, _ | ⟨w3, _ | ⟨w4, wr⟩⟩⟩⟩
        · simp only [pe_ck, e1, Bool.and_false] at hc1; cases hc1
        · simp only [pe_ck, e1, Bool.and_false] at hc1; cases hc1
        · simp only [pe_ck, e1, Bool.and_false] at hc1; cases hc1
        · simp only [pe_ck, e1, Bool.and_eq_true, decide_eq_true_eq] at hc1
          obtain ⟨hdg, c1, c2, c3, c4⟩ := hc1
          exact pm_cS (bytes := m2.cc) (maxL := m2.mx) (ret := m2.ret) (hh := m2.hh) Bd.hx Bd.hb Bd.hml hown Bd.hK Bd.hE A.ok Bd.hz hn1 hz0 (by rw [pe_D_length, pe_D_length]; exact le3.1) le3.2 hM (pm_hws Bd.hts (pe_okM_word hm2)) (pe_wd_in m2 pm_tb) (hts2 _ (pe_w_mem c3)) (pe_lk1_or c1 (A.nw s Bd.hE) hts2) (hts2 _ (pe_w_mem c2)) (pe_named hm2 hts2) (pe_okM_hy hm2) (hAs ▸ pm_arity (of_decide_eq_true c4)) (by rw [pe_cat_eq]; exact k1) (pe_room1 hn0 le3 hR) (pe_room2 hz0 le3 hR) hRf (by show 8 + (m2.mx + 11) + d2 * 60 ≤ R.locals; omega) hdg q2
        · simp only [pe_ck, e1, Bool.and_false] at hc1; cases hc1
      · replace hg : (pe_pop n [] st (fun As st => pe_rf st (fun b st => pe_calx (fun d m is L st h => pe_go G f d m is L st h) G.ms d mi (.ref b :: As) st h (fun st h => pe_go G f d mt rest L st h) (fun x h => bif mt.hh.isEmpty then some (.inr x, h) else none)))) = some (o, h2) := hg
        obtain ⟨As, st3, hAs, rfl, g⟩ := pe_pop_inv hg
        obtain ⟨b, st4, rfl, g⟩ := pe_rf_inv g
        obtain ⟨m2, d2, p0, is2, o3, h3, e1, rfl, k1, k2, k3, e2, g1, g2⟩ := pe_calx_inv g
        have hm2 := A.ms mi m2 e1
        have hM := pe_con_of ih hm2 e2 k3 g1
        have le3 := pe_mono G _ _ _ _ _ _ _ _ _ g1
        obtain ⟨le4, q2⟩ := kcal _ o3 h3 hcr le3 g2
        have hR := room h3 le4
        rcases ws with _ | ⟨w1, _ | ⟨w2, _ | ⟨w3, _ | ⟨w4, wr⟩⟩⟩⟩
        · simp only [pe_ck, e1, Bool.and_false] at hc1; cases hc1
        · simp only [pe_ck, e1, Bool.and_false] at hc1; cases hc1
        · simp only [pe_ck, e1, Bool.and_false] at hc1; cases hc1
        · simp only [pe_ck, e1, Bool.and_eq_true, decide_eq_true_eq] at hc1
          obtain ⟨hdg, c1, c2, c3, c4, c5, c6, c7⟩ := hc1
          have hw : pe_wd m2 = .code m2.y m2.cc m2.mx none := by
            unfold pe_wd
            cases hh : m2.hh with
            | nil => rw [c7]
            | cons x r => rw [hh] at c6; cases c6
          exact pm_cI (maxL := m2.mx) (bytes := m2.cc) Bd.hx Bd.hb Bd.hml hown Bd.hK Bd.hE A.ok Bd.hz hn1 hz0 (by rw [pe_D_length, pe_D_length]; exact le3.1) le3.2 hM (pm_hws Bd.hts (pe_okM_word hm2)) (hw ▸ List.mem_cons_self) (hts2 _ (pe_w_mem c3)) (pe_lk1_or c1 (A.nw s Bd.hE) hts2) c5 (hts2 _ (pe_w_mem c2)) (pe_okM_hy hm2) (hAs ▸ pm_arity (of_decide_eq_true c4)) (by rw [pe_cat_eq]; exact k1) (pe_room1 hn0 le3 hR) (pe_room2 hz0 le3 hR) hRf (by show 8 + (m2.mx + 11) + d2 * 60 ≤ R.locals; omega) hdg q2
        · simp only [pe_ck, e1, Bool.and_false] at hc1; cases hc1
      · obtain ⟨p3, q1, q2⟩ := jmp tb (pc : Int) st hc1 hg
        rw [show pc = p3 by omega]
        exact q2
      · replace hg : pe_rt mt.ret i st h = some (o, h2) := hg
        replace hc1 : decide (decode mt.cc pc = .ok (i, 1)) = true := hc1
        have hdg := of_decide_eq_true hc1
        have hr := Bd.hr
        unfold pe_rt at hg
        split at hg
        · rename_i hret
          cases hg
          rw [hret] at hr
          exact pm_ret_v Bd.hx Bd.hb Bd.hlocks hr rfl hdg
        · rename_i hret
          cases hg
          rw [hret] at hr
          exact pm_ret_i Bd.hx Bd.hb Bd.hlocks hr rfl hdg
        · rename_i x hret
          obtain ⟨q, hg⟩ := pe_bif_inv hg
          cases hg
          rw [hret] at hr
          rw [Bool.or_eq_true, decide_eq_true_eq, decide_eq_true_eq] at q
          exact pm_ret_z Bd.hx Bd.hb Bd.hlocks hr (by rcases q with rfl | rfl <;> rfl) rfl hdg
        · rename_i hret
          cases hg
          rw [hret] at hr
          exact pm_ret_l Bd.hx Bd.hb Bd.hlocks hr rfl hdg
        · rename_i hret
          obtain ⟨q, hg⟩ := pe_bif_inv hg
          cases hg
          rw [hret] at hr
          exact pm_ret_a Bd.hx Bd.hb Bd.hlocks hr (Or.inl ⟨_, rfl⟩) q rfl hdg
        · rename_i hret
          obtain ⟨q, hg⟩ := pe_bif_inv hg
          cases hg
          rw [hret] at hr
          exact pm_ret_a Bd.hx Bd.hb Bd.hlocks hr (Or.inr ⟨_, rfl⟩) q rfl hdg
        · cases hg
      · have q2 := go _ rest L (.long v :: st) h hcr hg pe_le.rf
        simp only [pe_ck, Bool.and_eq_true, decide_eq_true_eq] at hc1
        exact pm_ldc2 Bd.hx Bd.hb hown (hts2 _ (pe_w_mem hc1.2)) hc1.1 q2
      · replace hg : (pe_swk lo ts df st (fun tb st => pe_jmp mt tb (fun is => pe_go G f d mt is L st h))) = some (o, h2) := hg
        obtain ⟨v0, x, st3, rfl, hv0, g⟩ := pe_swk_inv hg ex B
        refine pm_cg1 (u := .int x) hv0 ?_
        cases i with
        | tableswitch dd lo2 hi offs =>
          replace hc1 : (decide (decode mt.cc pc = .ok (.tableswitch dd lo2 hi offs, n)) && (decide (lo2 = lo) && (decide (hi = lo + ts.length - 1) && (pe_tg mt df (pc + dd) && (List.range ts.length).all (fun k => match pe_at ts k, offs[k]? with
            | some tb, some off => pe_tg mt tb (pc + off)
            | _, _ => false))))) = true := hc1
          simp only [Bool.and_eq_true, decide_eq_true_eq] at hc1
          obtain ⟨hdg, rfl, rfl, htd, hall⟩ := hc1
          unfold pe_tb at g
          by_cases h1 : x.toInt < lo2
          · rw [decide_eq_true h1] at g
            obtain ⟨p3, q1, q2⟩ := jmp df _ st3 htd g
            exact pm_tableOut Bd.hx Bd.hb hdg (Or.inl h1) q1 q2
          · rw [decide_eq_false h1] at g
            replace g : pe_jmp mt (match pe_at ts (x.toInt - lo2).toNat with
              | some b => b
              | none => df) (fun is => pe_go G f d mt is L st3 h) = some (o, h2) := g
            cases hk : pe_at ts (x.toInt - lo2).toNat with
            | none =>
              rw [hk] at g
              obtain ⟨p3, q1, q2⟩ := jmp df _ st3 htd g
              rw [pe_at_eq, List.getElem?_eq_none_iff] at hk
              exact pm_tableOut Bd.hx Bd.hb hdg (Or.inr (by omega)) q1 q2
            | some tb =>
              rw [hk] at g
              have hk2 := hk
              rw [pe_at_eq] at hk2
              have hlt := (List.getElem?_eq_some_iff.mp hk2).1
              have hq := List.all_eq_true.mp hall (x.toInt - lo2).toNat (List.mem_range.mpr hlt)
              simp only [hk] at hq
              cases ho : offs[(x.toInt - lo2).toNat]? with
              | none => rw [ho] at hq; cases hq
              | some off =>
                rw [ho] at hq
                obtain ⟨p3, q1, q2⟩ := jmp tb _ st3 hq g
                exact pm_tableIn Bd.hx Bd.hb hdg h1 (by omega) ho q1 q2
        | _ =>
          simp only [pe_ck, Bool.and_false] at hc1
          cases hc1
      · replace hg : (match pe_at G.dv ci with
          | some vs => pe_fn h.length (fun a => pe_pushk (.inr (.inl (ci, vs))) h (fun h => pe_go G f d mt rest L (.ref a :: st) h))
          | none => none) = some (o, h2) := hg
        cases hd : pe_at G.dv ci with
        | none => rw [hd] at hg; cases hg
        | some vs =>
          rw [hd] at hg
          replace hg : pe_fn h.length (fun a => pe_pushk (.inr (.inl (ci, vs))) h (fun h => pe_go G f d mt rest L (.ref a :: st) h)) = some (o, h2) := hg
          rw [pe_fn_eq, pe_pushk_eq] at hg
          have q2 := go _ rest L _ _ hcr hg pe_le.push
          have hR := room _ (pe_mono G _ _ _ _ _ _ _ _ _ hg)
          rw [pe_D_push, ← pe_D_length h] at q2
          rw [List.length_append, pe_D_push, pm_sz_push] at hR
          simp only [pe_ck] at hc1
          split at hc1
          · rename_i C T N w1 w2 w3 hq
            simp only [Bool.and_eq_true, decide_eq_true_eq] at hc1
            obtain ⟨hdg, c1, c2, c3⟩ := hc1
            obtain ⟨hin, ty0, hty, hnm, hdv⟩ := A.cls ci C T N hq
            obtain ⟨d1, d2⟩ := hdv vs hd
            exact pm_new Bd.hx Bd.hb hts2 hown Bd.hK hin ty0 hty (hts2 _ (pe_w_mem c1)) (hts2 _ (pe_w_mem c2)) (hts2 _ (pe_w_mem c3)) (by rw [← pe_at_eq, hq]) d1 d2 Bd.hz hn1 hz0 (by have := hR.1; rw [pe_D_length]; simp only [List.length_cons, List.length_nil] at this; omega) (by have := hR.2; simp only [pe_d, pm_n, d1] at this; omega) hdg q2
          · simp only [Bool.and_false] at hc1; cases hc1
      · replace hg : (pe_1i st (fun n st => bif !(decide (n < 0)) && Nat.ble (n.toNatClampNeg * 8) 536870912 then pe_fn n.toNatClampNeg (fun N => pe_fn h.length (fun a => pe_pushk (.inr (.inr (.inl (t, N, [])))) h (fun h => pe_go G f d mt rest L (.ref a :: st) h))) else none)) = some (o, h2) := hg
        obtain ⟨n, st3, rfl, g⟩ := pe_1i_inv hg
        obtain ⟨hb1, g⟩ := pe_bif_inv g
        rw [Bool.and_eq_true, Bool.not_eq_true', decide_eq_false_iff_not] at hb1
        have hb2 := Nat.le_of_ble_eq_true hb1.2
        rw [pe_fn_eq, pe_fn_eq, pe_pushk_eq] at g
        have q2 := go _ rest L _ _ hcr g pe_le.push
        have hR := room _ (pe_mono G _ _ _ _ _ _ _ _ _ g)
        rw [pe_D_push, ← pe_D_length h] at q2
        rw [List.length_append, pe_D_push, pm_sz_push] at hR
        simp only [pe_ck] at hc1
        split at hc1
        · rename_i t2 w1 w2 _
          cases hq : pe_at cl t2 with
          | none => simp only [hq, Bool.and_false] at hc1; cases hc1
          | some q =>
            obtain ⟨C, T, N⟩ := q
            simp only [hq, Bool.and_eq_true, decide_eq_true_eq, Nat.blt_eq] at hc1
            obtain ⟨hdg, ht, c1, c2⟩ := hc1
            obtain ⟨ty, y1, y2⟩ := A.ty _ ht
            have y3 : (pe_at cl t2).map (fun q => FieldType.object q.1) = some ty := y1
            rw [hq] at y3
            have y4 := Option.some.inj y3
            exact pm_newq Bd.hx Bd.hb hown Bd.hK (t2 + 6) (hts2 _ (pe_w_mem c1)) (va_AO.of (A := args) (pe_n_at c2 (A.nw s Bd.hE))) (by rw [y2, ← y4]) hb1.1 rfl (by omega) Bd.hz hn1 hz0 (by have := hR.1; rw [pe_D_length]; simp only [List.length_cons, List.length_nil] at this; omega) (by have := hR.2; simp only [pe_d, pm_n] at this; omega) hdg q2
        · simp only [Bool.and_false] at hc1; cases hc1
      · replace hg : (pe_rf st (fun _ st => bif Nat.blt 0 d && Nat.ble (pe_cat st + 12) (d * 60) then pe_go G f d mt rest L st h else none)) = some (o, h2) := hg
        obtain ⟨a, st3, rfl, g⟩ := pe_rf_inv hg
        obtain ⟨hd, g⟩ := pe_bif_inv g
        rw [Bool.and_eq_true, Nat.blt_eq] at hd
        have q2 := go _ rest L st3 h hcr g pe_le.rf
        simp only [pe_ck] at hc1
        split at hc1
        · simp only [Bool.and_eq_true, decide_eq_true_eq] at hc1
          obtain ⟨hdg, c1, c2, c3⟩ := hc1
          exact pm_objInit Bd.hx Bd.hb Bd.hml hown (hts2 _ (pe_w_mem c1)) (hts2 _ (pe_w_mem c2)) (hts2 _ (pe_w_mem c3)) hdg (Nat.lt_of_lt_of_le hd.1 hRf) (by rw [pe_cat_eq]; exact Nat.le_trans (Nat.le_of_ble_eq_true hd.2) hRl) q2
        · simp only [Bool.and_false] at hc1; cases hc1
      · exact A.sp mt p e _ s m args below meth c _ _ _ pc d L st h i _ _ _ Bd hg hc1 hRf hRl hn0 hz0 (fun st3 h3 g => room h3 (pe_mono G _ _ _ _ _ _ _ _ _ g)) (fun st3 h3 g q => go _ rest L st3 h3 hcr g q)
      · replace hg : (pe_1i st (fun x st => pe_lkk i ofs x (fun tb => pe_jmp mt tb (fun is => pe_go G f d mt is L st h)))) = some (o, h2) := hg
        obtain ⟨x, st3, rfl, g⟩ := pe_1i_inv hg
        cases i with
        | lookupswitch df ps =>
          replace hc1 : (decide (decode mt.cc pc = .ok (.lookupswitch df ps, n)) && ((ps.toList.zip (ps.toList.drop 1)).all (fun (a, next) => a.1 < next.1) && ofs.all (fun q => pe_tg mt q.2 (pc + q.1)))) = true := hc1
          rw [Bool.and_eq_true, Bool.and_eq_true, decide_eq_true_eq] at hc1
          obtain ⟨hdg, hsr, hall⟩ := hc1
          replace g : (match ofs.find? (fun q => q.1 == Op.lookupswitch.offset ps.toList df x.toInt) with
            | some q => pe_jmp mt q.2 (fun is => pe_go G f d mt is L st3 h)
            | none => none) = some (o, h2) := g
          cases hq : ofs.find? (fun q => q.1 == Op.lookupswitch.offset ps.toList df x.toInt) with
          | none => rw [hq] at g; cases g
          | some q =>
            rw [hq] at g
            have h1 : q.1 = Op.lookupswitch.offset ps.toList df x.toInt := by
              have := List.find?_some hq
              simpa using this
            have h3 := List.all_eq_true.mp hall q (List.mem_of_find?_eq_some hq)
            obtain ⟨p3, q1, q2⟩ := jmp q.2 _ st3 h3 g
            exact pm_lookup Bd.hx Bd.hb hdg hsr h1.symm q1 q2
        | _ =>
          simp only [pe_ck, Bool.and_false] at hc1
          cases hc1
      · obtain ⟨x, st3, rfl, rfl, rfl⟩ := pe_thk_inv (show pe_thk st h = some (o, h2) from hg)
        replace hc1 : (decide (decode mt.cc pc = .ok (.athrow, 1)) && mt.hh.isEmpty) = true := hc1
        rw [Bool.and_eq_true, decide_eq_true_eq] at hc1
        exact pm_athrowP Bd.hx Bd.hb hc1.1 (pm_WT_out Bd.hlocks (pe_noexc hc1.2 Bd.hnm Bd.hmt Bd.hcd (Bd.hts _ List.mem_cons_self)) (Nat.le_refl _) (Nat.le_refl _) (fun _ q => q))
      · replace hg : (pe_pop n [] st (fun As st => pe_rf st (fun b st => pe_obj h b rc (fun _ => pe_calx (fun d m is L st h => pe_go G f d m is L st h) G.ms d mi (.ref b :: As) st h (fun st h => pe_go G f d mt rest L st h) (fun x h => pe_ctk hdl x h (fun tb => pe_jmp mt tb (fun is => pe_go G f d mt is L [.ref x] h))))))) = some (o, h2) := hg
        obtain ⟨As, st3, hAs, rfl, g⟩ := pe_pop_inv hg
        obtain ⟨b, st4, rfl, g⟩ := pe_rf_inv g
        obtain ⟨vs, e0, g⟩ := pe_obj_inv g
        obtain ⟨m2, d2, p0, is2, o3, h3, e1, rfl, k1, k2, k3, e2, g1, g2⟩ := pe_calx_inv g
        have hm2 := A.ms mi m2 e1
        have hM := pe_con_of ih hm2 e2 k3 g1
        have le3 := pe_mono G _ _ _ _ _ _ _ _ _ g1
        obtain ⟨hdg, hch, hc1⟩ := pe_ck_cx hc1
        have q2 : pe_le h3 h2 ∧ pm_K p l e R s m args below meth c (pm_MQ below (pm_QcO ex B dA D cl o (pe_D h2)) args s ((pe_D h2).length - hs.length) (pm_sz (pe_D h2) - pm_sz hs) (fun q => B ≤ q)) ex B dA D cl mt.mx hs.length (pm_sz hs) pc L st4 o3 (pe_D h3) := by
          rcases g2 with ⟨v, rfl, g2⟩ | ⟨x, rfl, g2⟩
          · exact ⟨pe_mono G _ _ _ _ _ _ _ _ _ g2, go _ rest L _ h3 hcr g2 le3⟩
          · obtain ⟨vs2, q, hq, ex1, g2⟩ := pe_ctk_inv g2
            obtain ⟨p3, is3, eb, g2⟩ := pe_jmp_inv g2
            refine ⟨pe_mono G _ _ _ _ _ _ _ _ _ g2, ?_⟩
            have hk := List.all_eq_true.mp hch q hq
            unfold pe_ckh at hk
            rw [eb] at hk
            cases hcq : pe_at cl q.1 with
            | none => rw [hcq] at hk; cases hk
            | some qq =>
              obtain ⟨C9, T9, N9⟩ := qq
              rw [hcq] at hk
              replace hk : (q.2.2.all (pe_ckc mt.y.cls C9) && decide (pm_fh (pe_cast q.2.2) pc mt.hh = some p3)) = true := hk
              rw [Bool.and_eq_true, decide_eq_true_eq] at hk
              have kk := go p3 is3 L [.ref x] h3 (pe_okB_block hmt eb) g2 le3
              exact pm_WT_catch hown Bd.hK (pe_exc Bd.hnm Bd.hmt Bd.hcd (Bd.hts _ List.mem_cons_self)) (pe_cs_of (A.nw s Bd.hE) hts2 hk.1) hk.2 (pe_D_at ex1) (by rw [← pe_at_eq, hcq]) kk
        obtain ⟨le4, q2⟩ := q2
        have hR := room h3 le4
        cases hq : pe_at cl rc with
        | none => simp only [pe_ck, e1, hq, Bool.and_false] at hc1; cases hc1
        | some qq =>
          obtain ⟨C, T, N⟩ := qq
          rcases ws with _ | ⟨w1, _ | ⟨w2, _ | ⟨w3, _ | ⟨w4, _ | ⟨w5, _ | ⟨w6, wr⟩⟩⟩⟩⟩⟩
          · simp only [pe_ck, e1, hq, Bool.and_false] at hc1; cases hc1
          · simp only [pe_ck, e1, hq, Bool.and_false] at hc1; cases hc1
          · simp only [pe_ck, e1, hq, Bool.and_false] at hc1; cases hc1
          · simp only [pe_ck, e1, hq, Bool.and_false] at hc1; cases hc1
          · simp only [pe_ck, e1, hq, Bool.and_false] at hc1; cases hc1
          · simp only [pe_ck, e1, hq, Bool.and_eq_true, decide_eq_true_eq] at hc1
            obtain ⟨hdg, c1, c2, c3, c5, c4⟩ := hc1
            have hsel : Cond.selects C m2.y m2.y ∈ pm_tb := by
              cases hb5 : Nat.beq w5 0 with
              | true => rw [hb5] at c5; exact pe_w_mem c5
              | false => rw [hb5] at c5; exact pe_p_mem c5
            exact pm_cV (bytes := m2.cc) (maxL := m2.mx) (ret := m2.ret) (hh := m2.hh) Bd.hx Bd.hb Bd.hml hown Bd.hK Bd.hE A.ok Bd.hz hn1 hz0 (by rw [pe_D_length, pe_D_length]; exact le3.1) le3.2 hM (pm_hws Bd.hts (pe_okM_word hm2)) (pe_wd_in m2 pm_tb) (hts2 _ (pe_w_mem c3)) (pe_lk1_or c1 (A.nw s Bd.hE) hts2) (hts2 _ (pe_w_mem c2)) (hts2 _ hsel) (pe_okM_hy hm2) (hAs ▸ pm_arity (of_decide_eq_true c4)) (pe_D_at e0) (by rw [← pe_at_eq, hq]) (by rw [pe_cat_eq]; exact k1) (pe_room1 hn0 le3 hR) (pe_room2 hz0 le3 hR) hRf (by show 8 + (m2.mx + 11) + d2 * 60 ≤ R.locals; omega) hdg q2
          · simp only [pe_ck, e1, hq, Bool.and_false] at hc1; cases hc1
      · replace hg : (pe_rf st (fun x _ => pe_ctk hdl x h (fun tb => pe_jmp mt tb (fun is => pe_go G f d mt is L [.ref x] h)))) = some (o, h2) := hg
        obtain ⟨x, st3, rfl, g⟩ := pe_rf_inv hg
        obtain ⟨vs2, q, hq, ex1, g⟩ := pe_ctk_inv g
        obtain ⟨p3, is3, eb, g⟩ := pe_jmp_inv g
        replace hc1 : (decide (decode mt.cc pc = .ok (.athrow, 1)) && hdl.all (pe_ckh cl mt pc)) = true := hc1
        rw [Bool.and_eq_true, decide_eq_true_eq] at hc1
        have hk := List.all_eq_true.mp hc1.2 q hq
        unfold pe_ckh at hk
        rw [eb] at hk
        cases hcq : pe_at cl q.1 with
        | none => rw [hcq] at hk; cases hk
        | some qq =>
          obtain ⟨C9, T9, N9⟩ := qq
          rw [hcq] at hk
          replace hk : (q.2.2.all (pe_ckc mt.y.cls C9) && decide (pm_fh (pe_cast q.2.2) pc mt.hh = some p3)) = true := hk
          rw [Bool.and_eq_true, decide_eq_true_eq] at hk
          exact pm_athrowP Bd.hx Bd.hb hc1.1 (pm_WT_catch hown Bd.hK (pe_exc Bd.hnm Bd.hmt Bd.hcd (Bd.hts _ List.mem_cons_self)) (pe_cs_of (A.nw s Bd.hE) hts2 hk.1) hk.2 (pe_D_at ex1) (by rw [← pe_at_eq, hcq]) (go p3 is3 L [.ref x] h (pe_okB_block hmt eb) g pe_le.rf))
end PE23
