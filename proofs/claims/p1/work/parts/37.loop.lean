/-! PART 37: the law's loop over a script of one call, by the evaluator. -/
def pe_L0 : pm_L := [(2, .ref 237), (1, .ref 0), (0, .retAddr 6)]
def pe_isW : List pe_I := (td_L 1).2
def pe_okR (r : Option (pm_O × pe_H)) : Bool := match r with
  | some (.inl (some (.int x)), h) => decide (x = 1) && (Nat.ble h.length 300000 && Nat.ble (pm_sz (pe_D h)) 7245000)
  | _ => false
def pe_runL (c : List Int32) : Bool := pe_okR (pe_go (pe_GL c) 100000 12 tn_L pe_isW pe_L0 [] (pe_HC ++ pe_HT))
theorem pe_xsL_t {c : List Int32} {j t : Nat} {tx : List Int32} (ht : t < 2) (hj : pe_at (pe_xsL c) j = some (t, tx)) : pe_at pe_xs j = some (t, tx) := by
  rw [pe_at_eq] at hj ⊢
  unfold pe_xsL at hj
  have hl : pe_xs.length = 3 := rfl
  by_cases h : j < 3
  · rw [List.getElem?_append_left (by rw [hl]; exact h)] at hj
    exact hj
  · rw [List.getElem?_append_right (by omega)] at hj
    have hm := List.mem_of_getElem? hj
    simp only [List.mem_cons, Prod.mk.injEq, List.not_mem_nil, or_false] at hm
    omega
theorem pe_xsL_2 {c : List Int32} {j : Nat} {tx : List Int32} (hj : pe_at (pe_xsL c) j = some (2, tx)) : j = 6 ∧ tx = c := by
  have hj0 := hj
  rw [pe_at_eq] at hj
  unfold pe_xsL at hj
  have hl : pe_xs.length = 3 := rfl
  by_cases h : j < 3
  · rw [List.getElem?_append_left (by rw [hl]; exact h), ← pe_at_eq] at hj
    exact absurd hj (pe_xs2 j tx)
  · rw [List.getElem?_append_right (by omega), hl] at hj
    have hlt := (List.getElem?_eq_some_iff.mp hj).1
    have hlt2 : j - 3 < 4 := hlt
    rcases (show j = 3 ∨ j = 4 ∨ j = 5 ∨ j = 6 by omega) with rfl | rfl | rfl | rfl
    · cases hj
    · cases hj
    · cases hj
    · cases hj
      exact ⟨rfl, rfl⟩
/-- what is known while the law runs over this script -/
def pe_EL (ex : Nat → Nat) (B : Nat) (exV : Nat → Nat) (jF : Value) (cs : List Int32) (s : State) : Prop := pe_EF ex B exV jF s ∧ va_T .int (ex 6) cs.length (fun k => pm_ph ex (cs.getD k 0).toNatClampNeg) (fun q => B ≤ q) s s.heap
theorem pe_EL_ok (ex : Nat → Nat) (B : Nat) (exV : Nat → Nat) (jF : Value) (cs : List Int32) : pm_Ok B (pe_EL ex B exV jF cs) := fun U U2 hE hW hq => ⟨pe_EF_ok ex B exV jF U U2 hE.1 hW hq, (hE.2.moved hW.alike).kept (fun a _ h => hq a (by omega))⟩
theorem pe_ascL (c : List Int32) : ∀ j tx, pe_at (pe_xsL c) j = some (0, tx) → tx.length < 2 ^ 31 ∧ ∀ z ∈ tx, ((z &&& 255).toUInt32 % 65536).toInt32 = z := fun j tx hj => pe_asc j tx (pe_xsL_t (by decide) hj)
theorem pe_AmL {l : Launch} {ex : Nat → Nat} {B : Nat} {dA : Nat → ClassId} {D : va_G} {tys : List (ClassId × FieldType)} {exV : Nat → Nat} {jF : Value} (cs : List Int32) (hls : l.stackTraces = false) (hT : ∀ t, pe_tOK t = true → ∃ ty, pe_tyOf pe_cl t = some ty ∧ tys[t]? = some (dA t, ty)) : pe_Am (pe_GL cs) pe_ckS l ex B dA D pe_cl tys (pe_EL ex B exV jF cs) :=
  ⟨pe_EL_ok ex B exV jF cs, hT, pe_cl_ok ex B, pe_msL_ok cs, pe_arr_ok, fun s hE j tx hj => hE.1.2.1.1.ar j tx (pe_xsL_t (by decide) hj), fun s hE j tx hj => by
    obtain ⟨rfl, rfl⟩ := pe_xsL_2 hj
    exact hE.2, fun s hE => hE.1.1, pe_spec hls (fun s hE => hE.1.2.2.1) (fun s hE => hE.1.2.2.2.1) (fun s hE => hE.1.2.2.2.2.1) (fun s hE => hE.1.2.2.2.2.2) (pe_EL_ok ex B exV jF cs) (fun s hE => hE.1.1) hT (fun s hE => ⟨fun j tx hj => hE.1.2.1.1.st j tx (pe_xsL_t (by decide) hj), fun j tx hj => hE.1.2.1.1.ar j tx (pe_xsL_t (by decide) hj), hE.1.2.1.1.cs, hE.1.2.1.1.fm, hE.1.2.1.1.fr⟩) (fun s hE => hE.1.2.1.2.1) (fun s hE => hE.1.2.1.2.2) (pe_ascL cs)⟩
section PE37
variable {p : Program} {l : Launch} {e : Env} {s : State} {m : MethodId} {below : List Frame} {meth : Method} {c : Code}
variable {ex : Nat → Nat} {dA : Nat → ClassId} {D : va_G} {tys : List (ClassId × FieldType)} {exV : Nat → Nat} {jF : Value}
/-- from behind the two objects to the law's end, where the evaluator comes there with true -/
theorem wh_go {b : Nat} (cs : List Int32) (hrun : pe_runL cs = true) (hls : l.stackTraces = false) (hx : p.tables.exec = Jvm.exec) (hb : c.code = code) (hr : meth.sig.returnType = ret) (hlocks : meth.locks = false) (hml : c.maxLocals = 8) (hnm : s.methodNamed? x = some m) (hmt : s.vm.method? m = some meth) (hcd : meth.code = some c) (hcode : (Cond.code x code maxLocals ret).before #[Value.ref b] s = true) (hts : ∀ w ∈ lw_tbl, w.before #[Value.ref b] s = true) (hK : va_K D pe_cl tys s) (hT : ∀ t, pe_tOK t = true → ∃ ty, pe_tyOf pe_cl t = some ty ∧ tys[t]? = some (dA t, ty)) (hE : pe_EL ex s.heap.size exV jF cs s) :
    pm_W p l e room_1 s m #[Value.ref b] below meth c (lw_Z below #[Value.ref b] s) ex s.heap.size dA D pe_cl 8 0 0 16 [(2, .ref 237), (1, .ref 0), (0, .retAddr 6)] [] (pe_D (pe_HC ++ pe_HT)) := by
  have hts2 : ∀ w ∈ pm_tb, w.before #[Value.ref b] s = true := fun w hw => hts w (List.mem_filter.mp hw).1
  unfold pe_runL pe_okR at hrun
  split at hrun
  · rename_i y h2 hg
    rw [Bool.and_eq_true, Bool.and_eq_true, decide_eq_true_eq] at hrun
    obtain ⟨rfl, hc, hs⟩ := hrun
    have hc := Nat.le_of_ble_eq_true hc
    have hs := Nat.le_of_ble_eq_true hs
    have hts3 : ∀ w ∈ pe_wd tn_L :: pm_tb, w.before #[Value.ref b] s = true := fun w hw => by
      rcases List.mem_cons.mp hw with rfl | hw
      · exact hcode
      · exact hts2 _ hw
    have Bd : pe_Bd ex s.heap.size D pe_cl tys (pe_EL ex s.heap.size exV jF cs) tn_L p s m #[Value.ref b] meth c 0 := ⟨hx, hb, hr, hlocks, hml, hnm, (name_of_methodNamed hnm hmt).1, hts3, rfl, hK, hE, hmt, hcd⟩
    have k := pe_sound (pe_AmL (l := l) (ex := ex) (B := s.heap.size) (dA := dA) (D := D) (tys := tys) (exV := exV) (jF := jF) cs hls hT) 100000 12 tn_L pe_isW 16 pe_L0 [] (pe_HC ++ pe_HT) (.inl (some (.int 1))) h2 (nk_L cs) (pe_okB_block (tb := 1) (nk_L cs) rfl) hg p e s m #[Value.ref b] below meth c [] room_1 (by decide) (by decide) (by show h2.length - 0 ≤ room_1.cells; have := room_ge_c; omega) (by show pm_sz (pe_D h2) - 0 ≤ room_1.slots; have := room_ge_s; omega) Bd (Nat.zero_le _) (Nat.zero_le _)
    rw [show tn_L.mx = 8 from rfl, show ([] : pm_H).length = 0 from rfl, show pm_sz ([] : pm_H) = 0 from rfl, show pe_L0 = [(2, .ref 237), (1, .ref 0), (0, .retAddr 6)] from rfl] at k
    have fin : ∀ t, pm_MQ below (pm_QcO ex s.heap.size dA D pe_cl (.inl (some (.int 1))) (pe_D h2)) #[Value.ref b] s ((pe_D h2).length - 0) (pm_sz (pe_D h2) - 0) (fun q => s.heap.size ≤ q) t → lw_Z below #[Value.ref b] s t := fun t ht => wh_end (by rw [pe_D_length]; show h2.length - 0 ≤ room_1.cells; have := room_ge_c; omega) (by show pm_sz (pe_D h2) - 0 ≤ room_1.slots; have := room_ge_s; omega) ht
    generalize pe_D (pe_HC ++ pe_HT) = HH at k ⊢
    exact pm_retO fin k
  · cases hrun
end PE37
