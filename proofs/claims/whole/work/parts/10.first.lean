/-! PART 10: the words that every method shares, and the first contracts of the reference. -/
def pm_tb : List Cond := lw_tbl.filter goodWord
theorem pm_mem {w : Cond} (i : Nat) (h : tables_1[i]? = some w) (hg : goodWord w = true) : w ∈ pm_tb := List.mem_filter.mpr ⟨List.mem_append_right _ (List.mem_of_getElem? h), hg⟩
theorem pm_hws {s : State} {args : Array Value} {w0 w1 : Cond} (hts : ∀ w ∈ w0 :: pm_tb, w.before args s = true) (h1 : w1 ∈ pm_tb) : ∀ w ∈ w1 :: pm_tb, ∀ (a2 : Array Value) (U : State), s.WarmedH U.vm → w.before a2 U = true := by
  have key : ∀ w ∈ pm_tb, w ∈ w0 :: pm_tb ∧ ((w.onTables && w.keeps) = true ∨ ∃ ty, w = .arrayClass ty) := fun w hw => ⟨List.mem_cons_of_mem _ hw, good_of_word (List.mem_filter.mp hw).2⟩
  refine pay_in (big := w0 :: pm_tb) hts (fun w hw => ?_)
  rcases List.mem_cons.mp hw with h | h
  · rw [h]; exact key w1 h1
  · exact key w h
/-- 1 or 0 -/
def pm_b (b : Bool) : Int32 := if b then 1 else 0
theorem pm_b_nar (b : Bool) : narrow .boolean (.int (pm_b b)) = .int (pm_b b) := by cases b <;> rfl
section R10
variable {l : Launch} {d : Nat} {ex : Nat → Nat} {B : Nat} {dA : Nat → ClassId} {D : va_G} {cl : List vw_C} {tys : List (ClassId × FieldType)} {E : State → Prop}
def yR_in : MethodName := ⟨"LinkedTongueModel", "in", "(JJJ)Z"⟩
abbrev cR_in : Cond := .code yR_in prog_13_method_3_code 6 (some .boolean)
def rf_in (v lo hi : Int64) : Bool := decide (lo ≤ v) && decide (v ≤ hi)
theorem cr_in (v lo hi : Int64) (h : pm_H) : pm_Con l yR_in (cR_in :: pm_tb) d ex B dA D cl tys E [.long v, .long lo, .long hi] h (.inl (some (.int (pm_b (rf_in v lo hi))))) h := by
  refine pm_Con_ofW (cc := prog_13_method_3_code) (maxL := 6) (ret := some .boolean) (hh := []) (by decide) (Or.inl rfl) (Nat.le_of_ble_eq_true rfl) ?_
  intro p e s m below meth c hx hb hr hlocks hml hmt hcd hnm hts hz hK hE
  have fin : ∀ (x : Int32), pm_b (rf_in v lo hi) = x → pm_W p l e (pm_room d h h) s m (List.map (pm_v ex B) [.long v, .long lo, .long hi]).toArray below meth c (pm_MQ below (pm_QcO ex B dA D cl (.inl (some (.int (pm_b (rf_in v lo hi))))) h) (List.map (pm_v ex B) [.long v, .long lo, .long hi]).toArray s (h.length - h.length) (pm_sz h - pm_sz h) (fun q => B ≤ q)) ex B dA D cl 6 h.length (pm_sz h) 18 (pm_args 0 [.long v, .long lo, .long hi]) [.int x] h := by
    intro x hxx
    subst hxx
    exact pm_retO (fun t => pm_MQ_of) (pm_zret hx hb hlocks (Nat.le_refl _) (Nat.le_refl _) (fun _ q => q) hr (pm_b_nar _) (fun t h1 _ h2 => ⟨rfl, h1, h2⟩) (by decide +kernel))
  refine pm_lload_n (n := 0) (i := 0) (x := v) hx hb (by decide +kernel) rfl rfl ?_
  refine pm_lload_n (n := 2) (i := 2) (x := lo) hx hb (by decide +kernel) rfl rfl ?_
  refine pm_lcmp hx hb (by decide +kernel) ?_
  refine pm_if_lt (off := 14) (tgt := 17) hx hb (by decide +kernel) (by decide) (fun h1 => ?_) (fun h1 => ?_)
  · refine pm_iconst (n := 0) hx hb (by decide +kernel) ?_
    refine fin _ ?_
    have h2 := (lg_cmp_lt v lo).mp h1
    have h3 : ¬ lo ≤ v := fun q => by
      rw [Int64.lt_iff_toInt_lt] at h2
      rw [Int64.le_iff_toInt_le] at q
      omega
    simp [rf_in, pm_b, h3]
  · have h2 : lo ≤ v := by
      have h3 : ¬ v < lo := fun q => h1 ((lg_cmp_lt v lo).mpr q)
      rw [Int64.lt_iff_toInt_lt] at h3
      rw [Int64.le_iff_toInt_le]
      omega
    refine pm_lload_n (n := 0) (i := 0) (x := v) hx hb (by decide +kernel) rfl rfl ?_
    refine pm_lload (i := 4) (x := hi) hx hb (by decide +kernel) rfl ?_
    refine pm_lcmp hx hb (by decide +kernel) ?_
    refine pm_if_gt (off := 7) (tgt := 17) hx hb (by decide +kernel) (by decide) (fun h3 => ?_) (fun h3 => ?_)
    · refine pm_iconst (n := 0) hx hb (by decide +kernel) ?_
      refine fin _ ?_
      have h4 := (lg_cmp_gt v hi).mp h3
      have h5 : ¬ v ≤ hi := fun q => by
        rw [Int64.lt_iff_toInt_lt] at h4
        rw [Int64.le_iff_toInt_le] at q
        omega
      simp [rf_in, pm_b, h5]
    · have h4 : v ≤ hi := by
        have h5 : ¬ hi < v := fun q => h3 ((lg_cmp_gt v hi).mpr q)
        rw [Int64.lt_iff_toInt_lt] at h5
        rw [Int64.le_iff_toInt_le]
        omega
      refine pm_iconst (n := 1) hx hb (by decide +kernel) ?_
      refine pm_goto (off := 4) (tgt := 18) hx hb (by decide +kernel) (by decide) ?_
      refine fin _ ?_
      simp [rf_in, pm_b, h2, h4]
end R10
