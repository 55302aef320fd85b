/-! PART 11: a call, the reference's isDigit. -/
section R11
variable {l : Launch} {d : Nat} {ex : Nat → Nat} {B : Nat} {dA : Nat → ClassId} {D : va_G} {cl : List vw_C} {tys : List (ClassId × FieldType)} {E : State → Prop}
def yR_isDigit : MethodName := ⟨"LinkedTongueModel", "isDigit", "(I)Z"⟩
abbrev cR_isDigit : Cond := .code yR_isDigit prog_13_method_9_code 1 (some .boolean)
theorem mR_in : cR_in ∈ pm_tb := (pm_mem 2906 (by decide +kernel) (by decide +kernel))
theorem cr_isDigit (hEok : pm_Ok B E) (x : Int32) (h : pm_H) : pm_Con l yR_isDigit (cR_isDigit :: pm_tb) (d + 1) ex B dA D cl tys E [.int x] h (.inl (some (.int (pm_b (rf_in x.toInt64 48 57))))) h := by
  refine pm_Con_ofW (cc := prog_13_method_9_code) (maxL := 1) (ret := some .boolean) (hh := []) (by decide) (Or.inl rfl) (Nat.le_of_ble_eq_true rfl) ?_
  intro p e s m below meth c hx hb hr hlocks hml hmt hcd hnm hts hz hK hE
  have hown : s.vm.findClass "LinkedTongueModel" = some m.cls := findClass_of_methodNamed hnm
  refine pm_iload_n (n := 0) (i := 0) (x := x) hx hb (by decide +kernel) rfl rfl ?_
  refine pm_i2l hx hb (by decide +kernel) ?_
  refine pm_ldc2 (own := "LinkedTongueModel") (index := 401) (v := 48) hx hb hown (hts _ (List.mem_cons_of_mem _ (pm_mem 2937 (by decide +kernel) (by decide +kernel)))) (by decide +kernel) ?_
  refine pm_ldc2 (own := "LinkedTongueModel") (index := 403) (v := 57) hx hb hown (hts _ (List.mem_cons_of_mem _ (pm_mem 2938 (by decide +kernel) (by decide +kernel)))) (by decide +kernel) ?_
  refine pm_cS (As := [.long x.toInt64, .long 48, .long 57]) (st := []) (own := "LinkedTongueModel") (index := 376) (hh := []) hx hb hml hown hK hE hEok hz (Nat.le_refl _) (Nat.le_refl _) (Nat.le_refl _) (Nat.le_refl _) (cr_in (d := d) x.toInt64 48 57 h) (pm_hws hts mR_in) (Or.inl List.mem_cons_self) (hts _ (List.mem_cons_of_mem _ (pm_mem 19 (by decide +kernel) (by decide +kernel)))) (Or.inl (hts _ (List.mem_cons_of_mem _ (pm_mem 2904 (by decide +kernel) (by decide +kernel))))) (hts _ (List.mem_cons_of_mem _ (pm_mem 2905 (by decide +kernel) (by decide +kernel)))) (Cond.code_named (hts _ (List.mem_cons_of_mem _ mR_in))) (by decide +kernel) (fun sig hs => by
    have h1 : (parseMethodDescriptor yR_in.desc).map (fun q => q.parameters.length) = some 3 := by decide +kernel
    rw [hs] at h1
    exact (Option.some.inj h1).symm) (by decide) (by simp [pm_room]) (by simp [pm_room]) (by simp [pm_room]) (by simp [pm_room]; omega) (by decide +kernel) ?_
  exact pm_retO (fun t => pm_MQ_of) (pm_zret hx hb hlocks (Nat.le_refl _) (Nat.le_refl _) (fun _ q => q) hr (pm_b_nar _) (fun t h1 _ h2 => ⟨rfl, h1, h2⟩) (by decide +kernel))
end R11
