/-! PART 31: what the Statement gives of the start. -/
def pe_pr : List Cond := flatC (Jvm.Cond.and given_1 narrow_1)
/-- the premises on a text, as they stand one behind another -/
def pe_pt (tm : Term) (tx : List Int32) : List Cond := Cond.exactly tm "java/lang/String" :: Cond.eq (.field tm "java/lang/String" "coder" "B") (.int 0) :: Cond.arrayOf (.field tm "java/lang/String" "value" "[B") .byte :: Cond.eq (.length (.field tm "java/lang/String" "value" "[B")) (.int (Int32.ofNat tx.length)) :: (List.range tx.length).map (fun j => Cond.eq (.elem (.field tm "java/lang/String" "value" "[B") (.int (Int32.ofNat j))) (.int (tx.getD j 0)))
theorem pe_pt_in {args : Array Value} {s : State} (hP : ∀ w ∈ pe_pr, w.before args s = true) {tm : Term} {tx : List Int32} {p n : Nat} (h : (pe_pr.drop p).take n = pe_pt tm tx) : ∀ w ∈ pe_pt tm tx, w.before args s = true := by
  intro w hw
  rw [← h] at hw
  exact hP w (List.mem_of_mem_drop (List.mem_of_mem_take hw))
theorem pe_str {args : Array Value} {s : State} {A : Nat → Prop} {tm : Term} {tx : List Int32} (hl : tx.length < 2 ^ 31) (h : ∀ w ∈ pe_pt tm tx, w.before args s = true) (hA : ∀ a : Nat, a < s.heap.size → ¬ A a) : ∃ a t : Nat, tm.eval args s none [] s = some (.ref a) ∧ va_O "java/lang/String" a A s s.heap ∧ va_OF "java/lang/String" "coder" "B" (.int 0) a A s s.heap ∧ va_OF "java/lang/String" "value" "[B" (.ref t) a A s s.heap ∧ va_T .byte t tx.length (fun k => .int (tx.getD k 0)) A s s.heap := by
  have h1 := h _ (List.mem_cons_self)
  have h2 := h _ (List.mem_cons_of_mem _ List.mem_cons_self)
  have h3 := h _ (List.mem_cons_of_mem _ (List.mem_cons_of_mem _ List.mem_cons_self))
  have h4 := h _ (List.mem_cons_of_mem _ (List.mem_cons_of_mem _ (List.mem_cons_of_mem _ List.mem_cons_self)))
  have h5 : ∀ j, j < tx.length → (Cond.eq (.elem (.field tm "java/lang/String" "value" "[B") (.int (Int32.ofNat j))) (.int (tx.getD j 0))).before args s = true := fun j hj =>
    h _ (List.mem_cons_of_mem _ (List.mem_cons_of_mem _ (List.mem_cons_of_mem _ (List.mem_cons_of_mem _ (List.mem_map.mpr ⟨j, List.mem_range.mpr hj, rfl⟩)))))
  obtain ⟨a, c, cA, kA, q1, q2, q3, q4, q5, q6, -⟩ := Cond.exactly_spec (args := args) (first := s) (o := none) (s := s) (idx := []) (t := tm) (cls := "java/lang/String") h1
  obtain ⟨t, ht, hT⟩ := va_Tof (f := fun j => .int (tx.getD j 0)) (A := A) hl h3 (va_eqt h4) (fun j hj => va_eqt (h5 j hj)) hA
  exact ⟨a, t, q1, ⟨cA, q3, q5, by rw [q6]; exact q2, hA a (Array.getElem?_eq_some_iff.mp q3).1⟩, vk_OFof q1 (va_eqt h2) hA, vk_OFof q1 ht hA, hT⟩
theorem pe_nw_of {s : State} {args : Array Value} (hP : ∀ w ∈ pe_pr, w.before args s = true) (hts : ∀ w ∈ lw_tbl, w.before args s = true) : pe_nw s := by
  refine ⟨?_, fun q hq => ?_⟩
  rotate_left
  · simp only [pe_ncl, List.mem_cons, List.not_mem_nil, or_false] at hq
    rcases hq with rfl | rfl | rfl
    · exact va_Nc.of (hP _ (List.mem_of_getElem? (i := 96) (by decide +kernel)))
    · exact va_Nc.of (hP _ (List.mem_of_getElem? (i := 115) (by decide +kernel)))
    · exact va_Nc.of (hP _ (List.mem_of_getElem? (i := 118) (by decide +kernel)))
  intro w hw h2
  have h1 := hts w (List.mem_append_right _ hw)
  cases w with
  | fieldLinkNest _ _ _ _ _ _ => exact va_Nw.of rfl h1
  | methodLinkNest _ _ _ _ => exact va_Nw.of rfl h1
  | castable _ _ => exact va_Nw.of rfl h1
  | declares _ => exact va_Nw.of rfl h1
  | arrayOver ty => exact h1
  | _ => cases h2
def pe_isS (i : Nat) (own : String) (k : Nat) : Bool := match tables_1[i]? with
  | some (.stringRef o kk _) => decide (o = own) && decide (kk = k)
  | _ => false
theorem pe_sref {s : State} {args : Array Value} (hts : ∀ w ∈ lw_tbl, w.before args s = true) {i : Nat} {own : String} {k : Nat} (h : pe_isS i own k = true) : ∃ tx, (Cond.stringRef own k tx).before args s = true := by
  unfold pe_isS at h
  split at h
  · rename_i o kk tx hi
    rw [Bool.and_eq_true, decide_eq_true_eq, decide_eq_true_eq] at h
    obtain ⟨rfl, rfl⟩ := h
    exact ⟨tx, hts _ (List.mem_append_right _ (List.mem_of_getElem? hi))⟩
  · cases h
theorem pe_sadr {args : Array Value} {s : State} (hP : ∀ w ∈ pe_pr, w.before args s = true) {i : Nat} {own : String} {k : Nat} (h : pe_pr[i]? = some (Cond.exactly (.string own k) "java/lang/String")) : ∃ a : Nat, (Term.string own k).eval args s none [] s = some (.ref a) := by
  obtain ⟨a, c, cA, kA, q1, -⟩ := Cond.exactly_spec (args := args) (first := s) (o := none) (s := s) (idx := []) (t := .string own k) (cls := "java/lang/String") (hP _ (List.mem_of_getElem? h))
  exact ⟨a, q1⟩
def pe_tx_0 : List Int32 := [118, 97, 114, 32, 102, 117, 110, 32, 105, 102, 32, 101, 108, 115, 101, 32, 119, 104, 105, 108, 101, 32, 114, 101, 116, 117, 114, 110, 32, 116, 104, 114, 111, 119, 32, 116, 114, 121, 32, 99, 97, 116, 99, 104, 32, 110, 101, 119, 32, 116, 104, 105, 115, 32, 110, 117, 108, 108, 32, 116, 114, 117, 101, 32, 102, 97, 108, 115, 101, 32, 112, 114, 105, 110, 116, 32, 109, 97, 107, 101, 32, 112, 114, 111, 116, 111, 32, 116, 117, 114, 110, 32, 100, 114, 111, 112, 32, 104, 97, 115, 32, 107, 105, 110, 100, 32, 104, 111, 115, 116, 32, 115, 105, 122, 101, 32, 112, 117, 115, 104, 32, 112, 111, 112, 32, 115, 117, 98, 32, 98, 111, 111, 108, 32, 105, 110, 116, 32, 108, 111, 110, 103, 32, 116, 101, 120, 116, 32, 111, 98, 106, 101, 99, 116, 32, 108, 105, 115, 116, 32, 99, 108, 97, 115, 115]
set_option maxRecDepth 40000 in
theorem pe_ps_0 : (pe_pr.drop 157).take 169 = pe_pt (Term.string "LinkedTongue" 15) pe_tx_0 := by decide +kernel
def pe_tx_2 : List Int32 := [118, 111, 105, 100, 32, 105, 110, 116, 32, 108, 111, 110, 103, 32, 98, 111, 111, 108, 32, 73, 110, 116, 32, 76, 111, 110, 103, 32, 66, 111, 111, 108, 32, 84, 101, 120, 116, 32, 65, 110, 121, 32, 99, 108, 97, 115, 115, 32, 105, 110, 116, 101, 114, 102, 97, 99, 101, 32, 115, 116, 97, 116, 105, 99, 32, 110, 101, 119]
set_option maxRecDepth 40000 in
theorem pe_ps_2 : (pe_pr.drop 326).take 72 = pe_pt (Term.string "LinkedTongue$Host" 11) pe_tx_2 := by decide +kernel
def pe_ta_1 : List Int32 := [8000, 60000, 12000, 200000, 4000, 2000]
def pe_qa (tm : Term) (tx : List Int32) : List Cond := Cond.arrayOf tm .int :: Cond.eq (.length tm) (.int (Int32.ofNat tx.length)) :: (List.range tx.length).map (fun j => Cond.eq (.elem tm (.int (Int32.ofNat j))) (.int (tx.getD j 0)))
theorem pe_pa_1 : (pe_pr.drop 10).take 8 = pe_qa (Term.static "LinkedTongue" "LIFE_MOST" "[I") pe_ta_1 := by decide +kernel
theorem pe_arrA {args : Array Value} {s : State} {A : Nat → Prop} (hP : ∀ w ∈ pe_pr, w.before args s = true) {tm : Term} {tx : List Int32} {p n : Nat} (hl : tx.length < 2 ^ 31) (hp : (pe_pr.drop p).take n = pe_qa tm tx) (hA : ∀ a : Nat, a < s.heap.size → ¬ A a) : ∃ t : Nat, tm.eval args s none [] s = some (.ref t) ∧ va_T .int t tx.length (fun k => .int (tx.getD k 0)) A s s.heap := by
  have h : ∀ w ∈ pe_qa tm tx, w.before args s = true := fun w hw => by
    rw [← hp] at hw
    exact hP w (List.mem_of_mem_drop (List.mem_of_mem_take hw))
  have h1 := h _ List.mem_cons_self
  have h2 := h _ (List.mem_cons_of_mem _ List.mem_cons_self)
  exact va_Tof (f := fun j => .int (tx.getD j 0)) (A := A) hl h1 (va_eqt h2) (fun j hj => va_eqt (h _ (List.mem_cons_of_mem _ (List.mem_cons_of_mem _ (List.mem_map.mpr ⟨j, List.mem_range.mpr hj, rfl⟩))))) hA
/-- outer addresses: texts, arrays, the script; then what place holders stand for -/
def pe_exf (l : List Nat) (u v : Nat) (pg : Nat → Nat) (j : Nat) : Nat := bif Nat.ble j 999 then l.getD j 0 else bif Nat.beq j 1006 then u else bif Nat.beq j 1007 then v else pg (j - 1000)
theorem pe_exf_pg (l : List Nat) (u v : Nat) (pg : Nat → Nat) {j : Nat} (hj : j < 6) : pe_exf l u v pg (1000 + j) = pg j := by
  rcases (show j = 0 ∨ j = 1 ∨ j = 2 ∨ j = 3 ∨ j = 4 ∨ j = 5 by omega) with rfl | rfl | rfl | rfl | rfl | rfl <;> rfl
theorem pe_refU (ex : Nat → Nat) (B : Nat) : pm_v ex B (.float 774) = if ex 1006 = 0 then .null else .ref (ex 1006 - 1) := rfl
theorem pe_refV (ex : Nat → Nat) (B : Nat) : pm_v ex B (.float 775) = if ex 1007 = 0 then .null else .ref (ex 1007 - 1) := rfl
/-- what the evaluator stands on holds at the law's start -/
theorem pe_start {s : State} {args : Array Value} (b : Nat) (pg : Nat → Nat) (hts : ∀ w ∈ lw_tbl, w.before args s = true) (hgv : (Jvm.Cond.and given_1 narrow_1).before args s = true) : ∃ (ex exV : Nat → Nat) (jF : Value), ex 6 = b ∧ (∀ j, j < 6 → ex (1000 + j) = pg j) ∧ pe_EF ex s.heap.size exV jF s := by
  have hP : ∀ w ∈ pe_pr, w.before args s = true := flat_of_before _ hgv
  have hA : ∀ a : Nat, a < s.heap.size → ¬ s.heap.size ≤ a := fun a h => by omega
  obtain ⟨s0, v0, e0, o0, c0, f0, t0⟩ := pe_str (A := fun q => s.heap.size ≤ q) (tx := pe_tx_0) (by decide +kernel) (pe_pt_in hP pe_ps_0) hA
  obtain ⟨s2, v2, e2, o2, c2, f2, t2⟩ := pe_str (A := fun q => s.heap.size ≤ q) (tx := pe_tx_2) (by decide +kernel) (pe_pt_in hP pe_ps_2) hA
  obtain ⟨tl, el, tl2⟩ := pe_arrA (A := fun q => s.heap.size ≤ q) (tx := pe_ta_1) hP (by decide +kernel) pe_pa_1 hA
  obtain ⟨m0, em0⟩ := pe_sadr (i := 471) (own := "LinkedTongue$Compiler") (k := 94) hP (by decide +kernel)
  obtain ⟨m1, em1⟩ := pe_sadr (i := 421) (own := "LinkedTongue$HostReader") (k := 53) hP (by decide +kernel)
  obtain ⟨m2, em2⟩ := pe_sadr (i := 496) (own := "LinkedTongue") (k := 211) hP (by decide +kernel)
  obtain ⟨m3, em3⟩ := pe_sadr (i := 532) (own := "LinkedTongue") (k := 218) hP (by decide +kernel)
  obtain ⟨m4, em4⟩ := pe_sadr (i := 633) (own := "LinkedTongue") (k := 244) hP (by decide +kernel)
  obtain ⟨m5, em5⟩ := pe_sadr (i := 658) (own := "LinkedTongue") (k := 247) hP (by decide +kernel)
  obtain ⟨m6, em6⟩ := pe_sadr (i := 684) (own := "LinkedTongue") (k := 267) hP (by decide +kernel)
  obtain ⟨m7, em7⟩ := pe_sadr (i := 700) (own := "LinkedTongue") (k := 281) hP (by decide +kernel)
  obtain ⟨m8, em8⟩ := pe_sadr (i := 718) (own := "LinkedTongue") (k := 297) hP (by decide +kernel)
  obtain ⟨m9, em9⟩ := pe_sadr (i := 744) (own := "LinkedTongue") (k := 299) hP (by decide +kernel)
  have hcs : va_Z "java/lang/String" "COMPACT_STRINGS" "Z" (.int 1) (fun q => s.heap.size ≤ q) s s.heap := va_Zof (hts _ (List.mem_append_right _ (List.mem_of_getElem? (i := 61) (by decide +kernel)))) (hts _ (List.mem_append_right _ (List.mem_of_getElem? (i := 3) (by decide +kernel)))) (va_eqi (hP _ (List.mem_of_getElem? (i := 4) (by decide +kernel)))) hA
  have hlm : va_Z "LinkedTongue" "LIFE_MOST" "[I" (.ref tl) (fun q => s.heap.size ≤ q) s s.heap := va_Zof (hts _ (List.mem_append_right _ (List.mem_of_getElem? (i := 481) (by decide +kernel)))) (hts _ (List.mem_append_right _ (List.mem_of_getElem? (i := 1) (by decide +kernel)))) el hA
  have hfm := va_Zqof (C := "jdk/internal/util/Preconditions") (n := "SIOOBE_FORMATTER") (d := "Ljava/util/function/BiFunction;") (A := fun q => s.heap.size ≤ q) (hts _ (List.mem_append_right _ (List.mem_of_getElem? (i := 77) (by decide +kernel)))) (hts _ (List.mem_append_right _ (List.mem_of_getElem? (i := 5) (by decide +kernel)))) (hP _ (List.mem_of_getElem? (i := 5) (by decide +kernel))) hA
  have hlU : pe_LR s.heap.size Bundle.tN "UNASSIGNED_STACK" Bundle.steD s := pe_LR_of (args := args) (hts _ (List.mem_append_right _ (List.mem_of_getElem? (i := 1046) (by decide +kernel)))) (hts _ (List.mem_append_right _ (List.mem_of_getElem? (i := 20) (by decide +kernel)))) (hP _ (List.mem_of_getElem? (i := 18) (by decide +kernel)))
  have hlS : pe_LR s.heap.size Bundle.tN "SUPPRESSED_SENTINEL" Bundle.listD s := pe_LR_of (args := args) (hts _ (List.mem_append_right _ (List.mem_of_getElem? (i := 1048) (by decide +kernel)))) (hts _ (List.mem_append_right _ (List.mem_of_getElem? (i := 20) (by decide +kernel)))) (hP _ (List.mem_of_getElem? (i := 19) (by decide +kernel)))
  obtain ⟨u, hu⟩ : ∃ u : Nat, va_Z Bundle.tN "UNASSIGNED_STACK" Bundle.steD (if u = 0 then .null else .ref (u - 1)) (fun q => s.heap.size ≤ q) s s.heap := by
    rcases hlU.2 with h | ⟨t, h⟩
    · exact ⟨0, h⟩
    · exact ⟨t + 1, h⟩
  obtain ⟨v, hv⟩ : ∃ v : Nat, va_Z Bundle.tN "SUPPRESSED_SENTINEL" Bundle.listD (if v = 0 then .null else .ref (v - 1)) (fun q => s.heap.size ≤ q) s s.heap := by
    rcases hlS.2 with h | ⟨t, h⟩
    · exact ⟨0, h⟩
    · exact ⟨t + 1, h⟩
  have key : ∀ (tf : Nat) (jF : Value), pm_isR jF = true → va_Z "jdk/internal/util/Preconditions" "SIOOBE_FORMATTER" "Ljava/util/function/BiFunction;" (pm_v (pe_exf [s0, tl, s2, v0, v2, tf, b, m0, m1, m2, m3, m4, m5, m6, m7, m8, m9] u v pg) s.heap.size jF) (fun q => s.heap.size ≤ q) s s.heap → pe_EF (pe_exf [s0, tl, s2, v0, v2, tf, b, m0, m1, m2, m3, m4, m5, m6, m7, m8, m9] u v pg) s.heap.size (fun j => if j = 0 then 3 else 4) jF s := by
    intro tf jF hjr hz
    refine ⟨pe_nw_of hP hts, ⟨⟨fun j tx hj => ?_, fun j tx hj => ?_, hcs, hz, hjr⟩, fun q hq => ?_, fun q hq => ?_⟩, hlU, hlS, hu, hv⟩
    · have hlt : j < 3 := by rw [pe_at_eq] at hj; exact (List.getElem?_eq_some_iff.mp hj).1
      match j, hlt, hj with
      | 0, _, hj =>
        have h2 : some (0, pe_tx_0) = some (0, tx) := hj
        cases h2
        exact ⟨o0, c0, f0, t0⟩
      | 1, _, hj =>
        have h2 : some (1, pe_ta_1) = some (0, tx) := hj
        cases h2
      | 2, _, hj =>
        have h2 : some (0, pe_tx_2) = some (0, tx) := hj
        cases h2
        exact ⟨o2, c2, f2, t2⟩
    · have hlt : j < 3 := by rw [pe_at_eq] at hj; exact (List.getElem?_eq_some_iff.mp hj).1
      match j, hlt, hj with
      | 0, _, hj =>
        have h2 : some (0, pe_tx_0) = some (1, tx) := hj
        cases h2
      | 1, _, hj =>
        have h2 : some (1, pe_ta_1) = some (1, tx) := hj
        cases h2
        exact tl2
      | 2, _, hj =>
        have h2 : some (0, pe_tx_2) = some (1, tx) := hj
        cases h2
    · rcases List.mem_cons.mp hq with rfl | hq
      · obtain ⟨tx, hx⟩ := pe_sref (i := 43) (own := "LinkedTongue") (k := 15) hts (by decide +kernel)
        exact ⟨tx, vk_R.of hx e0⟩
      · rcases List.mem_cons.mp hq with rfl | hq
        · obtain ⟨tx, hx⟩ := pe_sref (i := 447) (own := "LinkedTongue$Host") (k := 11) hts (by decide +kernel)
          exact ⟨tx, vk_R.of hx e2⟩
        · rcases List.mem_cons.mp hq with rfl | hq
          · obtain ⟨tx, hx⟩ := pe_sref (i := 1277) (own := "LinkedTongue$Compiler") (k := 94) hts (by decide +kernel)
            exact ⟨tx, vk_R.of hx em0⟩
          · rcases List.mem_cons.mp hq with rfl | hq
            · obtain ⟨tx, hx⟩ := pe_sref (i := 1062) (own := "LinkedTongue$HostReader") (k := 53) hts (by decide +kernel)
              exact ⟨tx, vk_R.of hx em1⟩
            · rcases List.mem_cons.mp hq with rfl | hq
              · obtain ⟨tx, hx⟩ := pe_sref (i := 1595) (own := "LinkedTongue") (k := 211) hts (by decide +kernel)
                exact ⟨tx, vk_R.of hx em2⟩
              · rcases List.mem_cons.mp hq with rfl | hq
                · obtain ⟨tx, hx⟩ := pe_sref (i := 1603) (own := "LinkedTongue") (k := 218) hts (by decide +kernel)
                  exact ⟨tx, vk_R.of hx em3⟩
                · rcases List.mem_cons.mp hq with rfl | hq
                  · obtain ⟨tx, hx⟩ := pe_sref (i := 2144) (own := "LinkedTongue") (k := 244) hts (by decide +kernel)
                    exact ⟨tx, vk_R.of hx em4⟩
                  · rcases List.mem_cons.mp hq with rfl | hq
                    · obtain ⟨tx, hx⟩ := pe_sref (i := 2151) (own := "LinkedTongue") (k := 247) hts (by decide +kernel)
                      exact ⟨tx, vk_R.of hx em5⟩
                    · rcases List.mem_cons.mp hq with rfl | hq
                      · obtain ⟨tx, hx⟩ := pe_sref (i := 2163) (own := "LinkedTongue") (k := 267) hts (by decide +kernel)
                        exact ⟨tx, vk_R.of hx em6⟩
                      · rcases List.mem_cons.mp hq with rfl | hq
                        · obtain ⟨tx, hx⟩ := pe_sref (i := 2174) (own := "LinkedTongue") (k := 281) hts (by decide +kernel)
                          exact ⟨tx, vk_R.of hx em7⟩
                        · rcases List.mem_cons.mp hq with rfl | hq
                          · obtain ⟨tx, hx⟩ := pe_sref (i := 2188) (own := "LinkedTongue") (k := 297) hts (by decide +kernel)
                            exact ⟨tx, vk_R.of hx em8⟩
                          · rcases List.mem_cons.mp hq with rfl | hq
                            · obtain ⟨tx, hx⟩ := pe_sref (i := 2189) (own := "LinkedTongue") (k := 299) hts (by decide +kernel)
                              exact ⟨tx, vk_R.of hx em9⟩
                            · cases hq
    · rcases List.mem_cons.mp hq with rfl | hq
      · exact hlm
      · cases hq
  rcases hfm with hz | ⟨tf, hz⟩
  · exact ⟨_, _, .null, rfl, fun j hj => pe_exf_pg _ _ _ _ hj, key 0 .null rfl hz⟩
  · exact ⟨_, _, .retAddr 5, rfl, fun j hj => pe_exf_pg _ _ _ _ hj, key tf (.retAddr 5) rfl hz⟩
