/-! PART o8: the evaluator stands on the start, for all tables and any script; the law's entry. -/
theorem pe_EA_ok (ex : Nat → Nat) (B : Nat) (exV : Nat → Nat) (jF : Value) (c : List Int32) : pm_Ok B (pe_EA ex B exV jF c) := by
  intro U U2 hE hW hq
  have hk : ∀ a : Nat, a < U.heap.size → ¬ B ≤ a → U2.heap[a]? = U.heap[a]? := fun a _ h => hq a (by omega)
  obtain ⟨⟨h1, X⟩, ⟨h2, h3, h4⟩, h5, h6, h7, h8⟩ := hE
  refine ⟨⟨pe_nw_ok hW h1, fun j tx hj => ?_, fun j tx hj => ((X.ar j tx hj).moved hW.alike).kept hk, (X.cs.moved hW.alike).kept hk, (X.fm.moved hW.alike).kept hk, X.fr⟩, ⟨fun q hq => ?_, fun q hq => ((h3 q hq).moved hW.alike).kept hk, (h4.moved hW.alike).kept hk⟩, pe_LR_ok U U2 h5 hW hq, pe_LR_ok U U2 h6 hW hq, (h7.moved hW.alike).kept hk, (h8.moved hW.alike).kept hk⟩
  · obtain ⟨a1, a2, a3, a4⟩ := X.st j tx hj
    exact ⟨(a1.moved hW.alike).kept hk, (a2.moved hW.alike).kept hk, (a3.moved hW.alike).kept hk, (a4.moved hW.alike).kept hk⟩
  · obtain ⟨tx, hv⟩ := h2 q hq
    exact ⟨tx, hv.warm hW⟩
theorem pe_ascA (c : List Int32) : ∀ j tx, pe_at (xsA c) j = some (0, tx) → tx.length < 2 ^ 31 ∧ ∀ z ∈ tx, ((z &&& 255).toUInt32 % 65536).toInt32 = z := fun j tx hj => by
  obtain ⟨q, q1, -, rfl⟩ := xsA_0 hj
  exact sxA_l q q1
theorem pe_AmA {l : Launch} {ex : Nat → Nat} {B : Nat} {dA : Nat → ClassId} {D : va_G} {tys : List (ClassId × FieldType)} {exV : Nat → Nat} {jF : Value} (c : List Int32) (hls : l.stackTraces = false) (hT : ∀ t, pe_tOK t = true → ∃ ty, pe_tyOf pe_cl t = some ty ∧ tys[t]? = some (dA t, ty)) : pe_Am (pe_GA (xsA c)) pe_ckA l ex B dA D pe_cl tys (pe_EA ex B exV jF c) :=
  ⟨pe_EA_ok ex B exV jF c, hT, pe_cl_ok ex B, pe_msA_ok (xsA c), pe_arr_ok, fun s hE j tx hj => hE.1.2.ar j tx hj, fun s hE j tx hj => (xsA_2 hj).elim, fun s hE j tx hj => by
    obtain ⟨rfl, rfl⟩ := xsA_3 hj
    exact hE.2.1.2.2, fun s hE => hE.1.1, pe_spec (kst := pe_kstA) (stt := pe_sttA) hls (fun s hE => hE.2.2.1) (fun s hE => hE.2.2.2.1) (fun s hE => hE.2.2.2.2.1) (fun s hE => hE.2.2.2.2.2) (pe_EA_ok ex B exV jF c) (fun s hE => hE.1.1) hT (fun s hE => hE.1.2) (fun s hE => hE.2.1.1) (fun s hE => hE.2.1.2.1) (pe_ascA c)⟩
theorem xsA_xs {c : List Int32} {j t : Nat} {tx : List Int32} (h : pe_at pe_xs j = some (t, tx)) : pe_at (xsA c) j = some (t, tx) := by
  have hlt : j < 3 := by
    rw [pe_at_eq] at h
    exact (List.getElem?_eq_some_iff.mp h).1
  match j, hlt, h with
  | 0, _, h => exact h
  | 1, _, h => exact h
  | 2, _, h => exact h
theorem kst_in : ∀ q ∈ pe_kst, q ∈ pe_kstA := by decide +kernel
theorem stt_in : ∀ q ∈ pe_stt, q ∈ pe_sttA := by decide +kernel
theorem EA_EF {ex : Nat → Nat} {B : Nat} {exV : Nat → Nat} {jF : Value} {c : List Int32} {s : State} (h : pe_EA ex B exV jF c s) : pe_EF ex B exV jF s := by
  obtain ⟨⟨h1, X⟩, ⟨h2, h3, h4⟩, h5, h6, h7, h8⟩ := h
  exact ⟨h1, ⟨⟨fun j tx hj => X.st j tx (xsA_xs hj), fun j tx hj => X.ar j tx (xsA_xs hj), X.cs, X.fm, X.fr⟩, fun q hq => h2 q (kst_in q hq), fun q hq => h3 q (stt_in q hq)⟩, h5, h6, h7, h8⟩
section PEo8
variable {p : Program} {l : Launch} {e : Env} {s : State} {m : MethodId} {below : List Frame} {meth : Method} {c : Code}
/-- the law's entry, up to behind both objects -/
theorem wh_entryA (l : Launch) {b L : Nat} {xs : Nat → Int32} (cs : List Int32) (hls : l.stackTraces = false) (hcs : va_T .int b cs.length (fun k => .int (cs.getD k 0)) (fun q => s.heap.size ≤ q) s s.heap) (C0 : lw_At p s m meth c b L xs)
    (k : ∀ (ex : Nat → Nat) (jF : Value) (D : va_G) (dA : Nat → ClassId) (tys : List (ClassId × FieldType)), ex 6 = b → pe_EA ex s.heap.size exVA jF cs s → va_K D pe_cl tys s → (∀ t, pe_tOK t = true → ∃ ty, pe_tyOf pe_cl t = some ty ∧ tys[t]? = some (dA t, ty)) → pm_W p l e room_1 s m #[Value.ref b] below meth c (lw_Z below #[Value.ref b] s) ex s.heap.size dA D pe_cl 8 0 0 16 [(2, .ref 237), (1, .ref 0), (0, .retAddr 6)] [] (pe_D (pe_HC ++ pe_HT))) :
    W p l e room_1 s m #[Value.ref b] below meth c s.heap [] 0 0 (lw_Z below #[Value.ref b] s) (entryFrame m ([Value.ref b] : List Value).toArray 8) := by
  obtain ⟨hx, hb, hr, hml, hown, hts, hX, hbl, hlk, hgv⟩ := C0
  obtain ⟨ex, jF, h6, hE⟩ := pe_startA b cs hcs hts hgv
  obtain ⟨D, dA, tys, hK, hT⟩ := pe_world hts
  have hF := EA_EF hE
  have k1 := wh_first hls hx hb hml hown hts hK hT hF (wh_second hls hx hb hml hown hts hK hT hF (k ex jF D dA tys h6 hE hK hT))
  have hl := lv_entry [Value.ref b] (n := 8) (Nat.le_of_ble_eq_true rfl)
  rw [lg_entry_eq]
  refine k1 _ s.heap [] ?_ (fun j q hq => by cases hq) va_S.rf
  show lv_has _ 8 [(0, Value.ref (ex 6))]
  rw [h6]
  exact hl
/-- from behind the two objects to the law's end, where the evaluator comes there with true -/
theorem wh_goA {b : Nat} {ex : Nat → Nat} {dA : Nat → ClassId} {D : va_G} {tys : List (ClassId × FieldType)} {jF : Value} (cs : List Int32) {f : Nat} {h2 : pe_H} (hg : pe_go (pe_GA (xsA cs)) f 1100 t_LL_law ((pe_at t_LL_law.bl 1).getD (0, [])).2 pe_L0 [] (pe_HC ++ pe_HT) = some (.inl (some (.int 1)), h2)) (hc : h2.length ≤ room_1.cells) (hs : pm_sz (pe_D h2) ≤ room_1.slots) (hls : l.stackTraces = false) (hx : p.tables.exec = Jvm.exec) (hb : c.code = code) (hr : meth.sig.returnType = ret) (hlocks : meth.locks = false) (hml : c.maxLocals = 8) (hnm : s.methodNamed? x = some m) (hmt : s.vm.method? m = some meth) (hcd : meth.code = some c) (hcode : (Cond.code x code maxLocals ret).before #[Value.ref b] s = true) (hts : ∀ w ∈ lw_tbl, w.before #[Value.ref b] s = true) (hK : va_K D pe_cl tys s) (hT : ∀ t, pe_tOK t = true → ∃ ty, pe_tyOf pe_cl t = some ty ∧ tys[t]? = some (dA t, ty)) (hE : pe_EA ex s.heap.size exVA jF cs s) :
    pm_W p l e room_1 s m #[Value.ref b] below meth c (lw_Z below #[Value.ref b] s) ex s.heap.size dA D pe_cl 8 0 0 16 [(2, .ref 237), (1, .ref 0), (0, .retAddr 6)] [] (pe_D (pe_HC ++ pe_HT)) := by
  have hts2 : ∀ w ∈ pm_tb, w.before #[Value.ref b] s = true := fun w hw => hts w (List.mem_filter.mp hw).1
  have hts3 : ∀ w ∈ pe_wd t_LL_law :: pm_tb, w.before #[Value.ref b] s = true := fun w hw => by
    rcases List.mem_cons.mp hw with rfl | hw
    · exact hcode
    · exact hts2 _ hw
  have Bd : pe_Bd ex s.heap.size D pe_cl tys (pe_EA ex s.heap.size exVA jF cs) t_LL_law p s m #[Value.ref b] meth c 0 := ⟨hx, hb, hr, hlocks, hml, hnm, (name_of_methodNamed hnm hmt).1, hts3, rfl, hK, hE, hmt, hcd⟩
  have k := pe_sound (pe_AmA (l := l) (ex := ex) (B := s.heap.size) (dA := dA) (D := D) (tys := tys) (exV := exVA) (jF := jF) cs hls hT) f 1100 t_LL_law ((pe_at t_LL_law.bl 1).getD (0, [])).2 16 pe_L0 [] (pe_HC ++ pe_HT) (.inl (some (.int 1))) h2 (ok_t_LL_law (xsA cs)) (pe_okB_block (tb := 1) (ok_t_LL_law (xsA cs)) rfl) hg p e s m #[Value.ref b] below meth c [] room_1 (by first | decide | omega) (by first | decide | omega) (by show h2.length - 0 ≤ room_1.cells; have := room_ge_c; omega) (by show pm_sz (pe_D h2) - 0 ≤ room_1.slots; have := room_ge_s; omega) Bd (Nat.zero_le _) (Nat.zero_le _)
  rw [show t_LL_law.mx = 8 from rfl, show ([] : pm_H).length = 0 from rfl, show pm_sz ([] : pm_H) = 0 from rfl, show pe_L0 = [(2, .ref 237), (1, .ref 0), (0, .retAddr 6)] from rfl] at k
  have fin : ∀ t, pm_MQ below (pm_QcO ex s.heap.size dA D pe_cl (.inl (some (.int 1))) (pe_D h2)) #[Value.ref b] s ((pe_D h2).length - 0) (pm_sz (pe_D h2) - 0) (fun q => s.heap.size ≤ q) t → lw_Z below #[Value.ref b] s t := fun t ht => wh_end (by rw [pe_D_length]; show h2.length - 0 ≤ room_1.cells; have := room_ge_c; omega) (by show pm_sz (pe_D h2) - 0 ≤ room_1.slots; have := room_ge_s; omega) ht
  generalize pe_D (pe_HC ++ pe_HT) = HH at k ⊢
  exact pm_retO fin k
end PEo8
