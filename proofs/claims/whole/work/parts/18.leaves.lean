/-! PART 18: more methods of the reference without loops (rows printed by walk.py). -/
section R18
variable {l : Launch} {d : Nat} {ex : Nat → Nat} {B : Nat} {dA : Nat → ClassId} {D : va_G} {cl : List vw_C} {tys : List (ClassId × FieldType)} {E : State → Prop} {cM : Nat}
def yR_hasShape : MethodName := ⟨"LinkedTongueModel", "hasShape", "(I)Z"⟩
abbrev cR_hasShape : Cond := .code yR_hasShape prog_13_method_92_code 2 (some .boolean)
theorem cr_hasShape (hcM : cl[cM]? = some ("LinkedTongueModel", TM, 180)) {o : Nat} {σ : Nat → Value} (h : pm_H) (hO : h[o]? = some (.inr (cM, rF σ))) {x : Int32} : pm_Con l yR_hasShape (cR_hasShape :: pm_tb) d ex B dA D cl tys E [.ref o, .int x] h (.inl (some (.int (pm_b (decide (x = Int32.ofInt 4) || decide (x = Int32.ofInt 5)))))) h := by
  refine pm_Con_ofW (cc := prog_13_method_92_code) (maxL := 2) (ret := (some .boolean)) (hh := []) (by decide) (Or.inl rfl) (Nat.le_of_ble_eq_true rfl) ?_
  intro p e s m below meth c hx hb hr hlocks hml hmt hcd hnm hts hz hK hE
  have hown : s.vm.findClass "LinkedTongueModel" = some m.cls := findClass_of_methodNamed hnm
  refine pm_iload_n (n := 1) hx hb (by decide +kernel) rfl rfl ?_
  refine pm_iconst (n := 4) hx hb (by decide +kernel) ?_
  refine pm_icmp_eq (off := 8) (tgt := 10) hx hb (by decide +kernel) (by decide) (fun c1 => ?_) (fun c1 => ?_)
  · refine pm_iconst (n := 1) hx hb (by decide +kernel) ?_
    refine pm_goto (off := 4) (tgt := 15) hx hb (by decide +kernel) (by decide) ?_
    exact pm_ret_z hx hb hlocks hr rfl (by simp_all [pm_b]) (by decide +kernel)
  · refine pm_iload_n (n := 1) hx hb (by decide +kernel) rfl rfl ?_
    refine pm_iconst (n := 5) hx hb (by decide +kernel) ?_
    refine pm_icmp_ne (off := 7) (tgt := 14) hx hb (by decide +kernel) (by decide) (fun c2 => ?_) (fun c2 => ?_)
    · refine pm_iconst (n := 0) hx hb (by decide +kernel) ?_
      exact pm_ret_z hx hb hlocks hr rfl (by simp_all [pm_b]) (by decide +kernel)
    · refine pm_iconst (n := 1) hx hb (by decide +kernel) ?_
      refine pm_goto (off := 4) (tgt := 15) hx hb (by decide +kernel) (by decide) ?_
      exact pm_ret_z hx hb hlocks hr rfl (by simp_all [pm_b]) (by decide +kernel)
def yR_isNot : MethodName := ⟨"LinkedTongueModel", "isNot", "(IJ)Z"⟩
abbrev cR_isNot : Cond := .code yR_isNot prog_13_method_133_code 4 (some .boolean)
theorem cr_isNot (hcM : cl[cM]? = some ("LinkedTongueModel", TM, 180)) {o : Nat} {σ : Nat → Value} (h : pm_H) (hO : h[o]? = some (.inr (cM, rF σ))) {x : Int32} {y : Int64} : pm_Con l yR_isNot (cR_isNot :: pm_tb) d ex B dA D cl tys E [.ref o, .int x, .long y] h (.inl (some (.int (pm_b (decide (x = 0) || (decide (x = Int32.ofInt 1) && decide (y = 0))))))) h := by
  refine pm_Con_ofW (cc := prog_13_method_133_code) (maxL := 4) (ret := (some .boolean)) (hh := []) (by decide) (Or.inl rfl) (Nat.le_of_ble_eq_true rfl) ?_
  intro p e s m below meth c hx hb hr hlocks hml hmt hcd hnm hts hz hK hE
  have hown : s.vm.findClass "LinkedTongueModel" = some m.cls := findClass_of_methodNamed hnm
  refine pm_iload_n (n := 1) hx hb (by decide +kernel) rfl rfl ?_
  refine pm_if_eq (off := 14) (tgt := 15) hx hb (by decide +kernel) (by decide) (fun c1 => ?_) (fun c1 => ?_)
  · refine pm_iconst (n := 1) hx hb (by decide +kernel) ?_
    refine pm_goto (off := 4) (tgt := 20) hx hb (by decide +kernel) (by decide) ?_
    exact pm_ret_z hx hb hlocks hr rfl (by simp_all [pm_b, lg_cmp_eq]) (by decide +kernel)
  · refine pm_iload_n (n := 1) hx hb (by decide +kernel) rfl rfl ?_
    refine pm_iconst (n := 1) hx hb (by decide +kernel) ?_
    refine pm_icmp_ne (off := 13) (tgt := 19) hx hb (by decide +kernel) (by decide) (fun c2 => ?_) (fun c2 => ?_)
    · refine pm_iconst (n := 0) hx hb (by decide +kernel) ?_
      exact pm_ret_z hx hb hlocks hr rfl (by simp_all [pm_b, lg_cmp_eq]) (by decide +kernel)
    · refine pm_lload_n (n := 2) hx hb (by decide +kernel) rfl rfl ?_
      refine pm_lconst (n := 0) hx hb (by decide +kernel) ?_
      refine pm_lcmp hx hb (by decide +kernel) ?_
      refine pm_if_ne (off := 7) (tgt := 19) hx hb (by decide +kernel) (by decide) (fun c3 => ?_) (fun c3 => ?_)
      · refine pm_iconst (n := 0) hx hb (by decide +kernel) ?_
        exact pm_ret_z hx hb hlocks hr rfl (by simp_all [pm_b, lg_cmp_eq]) (by decide +kernel)
      · refine pm_iconst (n := 1) hx hb (by decide +kernel) ?_
        refine pm_goto (off := 4) (tgt := 20) hx hb (by decide +kernel) (by decide) ?_
        exact pm_ret_z hx hb hlocks hr rfl (by simp_all [pm_b, lg_cmp_eq]) (by decide +kernel)
def yR_prints : MethodName := ⟨"LinkedTongueModel", "prints", "(I)Z"⟩
abbrev cR_prints : Cond := .code yR_prints prog_13_method_145_code 2 (some .boolean)
theorem cr_prints (hcM : cl[cM]? = some ("LinkedTongueModel", TM, 180)) {o : Nat} {σ : Nat → Value} (h : pm_H) (hO : h[o]? = some (.inr (cM, rF σ))) {x : Int32} : pm_Con l yR_prints (cR_prints :: pm_tb) d ex B dA D cl tys E [.ref o, .int x] h (.inl (some (.int (pm_b (!decide (Int32.ofInt 3 < x)))))) h := by
  refine pm_Con_ofW (cc := prog_13_method_145_code) (maxL := 2) (ret := (some .boolean)) (hh := []) (by decide) (Or.inl rfl) (Nat.le_of_ble_eq_true rfl) ?_
  intro p e s m below meth c hx hb hr hlocks hml hmt hcd hnm hts hz hK hE
  have hown : s.vm.findClass "LinkedTongueModel" = some m.cls := findClass_of_methodNamed hnm
  refine pm_iload_n (n := 1) hx hb (by decide +kernel) rfl rfl ?_
  refine pm_iconst (n := 3) hx hb (by decide +kernel) ?_
  refine pm_icmp_gt (off := 7) (tgt := 9) hx hb (by decide +kernel) (by decide) (fun c1 => ?_) (fun c1 => ?_)
  · refine pm_iconst (n := 0) hx hb (by decide +kernel) ?_
    exact pm_ret_z hx hb hlocks hr rfl (by simp_all [pm_b]) (by decide +kernel)
  · refine pm_iconst (n := 1) hx hb (by decide +kernel) ?_
    refine pm_goto (off := 4) (tgt := 10) hx hb (by decide +kernel) (by decide) ?_
    exact pm_ret_z hx hb hlocks hr rfl (by simp_all [pm_b]) (by decide +kernel)
def yR_firstType : MethodName := ⟨"LinkedTongueModel", "firstType", "(I)I"⟩
abbrev cR_firstType : Cond := .code yR_firstType prog_13_method_84_code 1 (some .int)
theorem cr_firstType (hcM : cl[cM]? = some ("LinkedTongueModel", TM, 180)) {o : Nat} {σ : Nat → Value} (h : pm_H) (hO : h[o]? = some (.inr (cM, rF σ))) {x : Int32} : pm_Con l yR_firstType (cR_firstType :: pm_tb) d ex B dA D cl tys E [.int x] h (.inl (some (.int (if x = Int32.ofInt 1 ∨ x = Int32.ofInt 2 then Int32.ofInt 2 else if x = Int32.ofInt 3 then Int32.ofInt 1 else Int32.ofInt 0)))) h := by
  refine pm_Con_ofW (cc := prog_13_method_84_code) (maxL := 1) (ret := (some .int)) (hh := []) (by decide) (Or.inl rfl) (Nat.le_of_ble_eq_true rfl) ?_
  intro p e s m below meth c hx hb hr hlocks hml hmt hcd hnm hts hz hK hE
  have hown : s.vm.findClass "LinkedTongueModel" = some m.cls := findClass_of_methodNamed hnm
  refine pm_iload_n (n := 0) hx hb (by decide +kernel) rfl rfl ?_
  refine pm_iconst (n := 1) hx hb (by decide +kernel) ?_
  refine pm_icmp_eq (off := 8) (tgt := 10) hx hb (by decide +kernel) (by decide) (fun c1 => ?_) (fun c1 => ?_)
  · refine pm_iconst (n := 2) hx hb (by decide +kernel) ?_
    refine pm_goto (off := 13) (tgt := 24) hx hb (by decide +kernel) (by decide) ?_
    exact pm_ret_i hx hb hlocks hr (by simp_all) (by decide +kernel)
  · refine pm_iload_n (n := 0) hx hb (by decide +kernel) rfl rfl ?_
    refine pm_iconst (n := 2) hx hb (by decide +kernel) ?_
    refine pm_icmp_ne (off := 7) (tgt := 14) hx hb (by decide +kernel) (by decide) (fun c2 => ?_) (fun c2 => ?_)
    · refine pm_iload_n (n := 0) hx hb (by decide +kernel) rfl rfl ?_
      refine pm_iconst (n := 3) hx hb (by decide +kernel) ?_
      refine pm_icmp_ne (off := 7) (tgt := 23) hx hb (by decide +kernel) (by decide) (fun c3 => ?_) (fun c3 => ?_)
      · refine pm_iconst (n := 0) hx hb (by decide +kernel) ?_
        exact pm_ret_i hx hb hlocks hr (by simp_all) (by decide +kernel)
      · refine pm_iconst (n := 1) hx hb (by decide +kernel) ?_
        refine pm_goto (off := 4) (tgt := 24) hx hb (by decide +kernel) (by decide) ?_
        exact pm_ret_i hx hb hlocks hr (by simp_all) (by decide +kernel)
    · refine pm_iconst (n := 2) hx hb (by decide +kernel) ?_
      refine pm_goto (off := 13) (tgt := 24) hx hb (by decide +kernel) (by decide) ?_
      exact pm_ret_i hx hb hlocks hr (by simp_all) (by decide +kernel)
def yR_isSame : MethodName := ⟨"LinkedTongueModel", "isSame", "(IJIJ)Z"⟩
abbrev cR_isSame : Cond := .code yR_isSame prog_13_method_108_code 6 (some .boolean)
theorem cr_isSame (hcM : cl[cM]? = some ("LinkedTongueModel", TM, 180)) {o : Nat} {σ : Nat → Value} (h : pm_H) (hO : h[o]? = some (.inr (cM, rF σ))) {x y : Int32} {u v : Int64} : pm_Con l yR_isSame (cR_isSame :: pm_tb) d ex B dA D cl tys E [.int x, .long u, .int y, .long v] h (.inl (some (.int (pm_b (decide (x = y) && decide (u = v)))))) h := by
  refine pm_Con_ofW (cc := prog_13_method_108_code) (maxL := 6) (ret := (some .boolean)) (hh := []) (by decide) (Or.inl rfl) (Nat.le_of_ble_eq_true rfl) ?_
  intro p e s m below meth c hx hb hr hlocks hml hmt hcd hnm hts hz hK hE
  have hown : s.vm.findClass "LinkedTongueModel" = some m.cls := findClass_of_methodNamed hnm
  refine pm_iload_n (n := 0) hx hb (by decide +kernel) rfl rfl ?_
  refine pm_iload_n (n := 3) hx hb (by decide +kernel) rfl rfl ?_
  refine pm_icmp_ne (off := 14) (tgt := 16) hx hb (by decide +kernel) (by decide) (fun c1 => ?_) (fun c1 => ?_)
  · refine pm_iconst (n := 0) hx hb (by decide +kernel) ?_
    exact pm_ret_z hx hb hlocks hr rfl (by simp_all [pm_b, lg_cmp_eq]) (by decide +kernel)
  · refine pm_lload_n (n := 1) hx hb (by decide +kernel) rfl rfl ?_
    refine pm_lload (i := 4) hx hb (by decide +kernel) rfl ?_
    refine pm_lcmp hx hb (by decide +kernel) ?_
    refine pm_if_ne (off := 7) (tgt := 16) hx hb (by decide +kernel) (by decide) (fun c2 => ?_) (fun c2 => ?_)
    · refine pm_iconst (n := 0) hx hb (by decide +kernel) ?_
      exact pm_ret_z hx hb hlocks hr rfl (by simp_all [pm_b, lg_cmp_eq]) (by decide +kernel)
    · refine pm_iconst (n := 1) hx hb (by decide +kernel) ?_
      refine pm_goto (off := 4) (tgt := 17) hx hb (by decide +kernel) (by decide) ?_
      exact pm_ret_z hx hb hlocks hr rfl (by simp_all [pm_b, lg_cmp_eq]) (by decide +kernel)
def yR_hasRoomFor : MethodName := ⟨"LinkedTongueModel", "hasRoomFor", "(I)Z"⟩
abbrev cR_hasRoomFor : Cond := .code yR_hasRoomFor prog_13_method_87_code 2 (some .boolean)
theorem cr_hasRoomFor (hcM : cl[cM]? = some ("LinkedTongueModel", TM, 180)) {o : Nat} {σ : Nat → Value} (h : pm_H) (hO : h[o]? = some (.inr (cM, rF σ))) {x y : Int32} (f_allMade : σ 62 = .int y) : pm_Con l yR_hasRoomFor (cR_hasRoomFor :: pm_tb) d ex B dA D cl tys E [.ref o, .int x] h (.inl (some (.int (pm_b (!decide ((Int16.ofInt 8000).toInt32 < y + x)))))) h := by
  refine pm_Con_ofW (cc := prog_13_method_87_code) (maxL := 2) (ret := (some .boolean)) (hh := []) (by decide) (Or.inl rfl) (Nat.le_of_ble_eq_true rfl) ?_
  intro p e s m below meth c hx hb hr hlocks hml hmt hcd hnm hts hz hK hE
  have hown : s.vm.findClass "LinkedTongueModel" = some m.cls := findClass_of_methodNamed hnm
  refine pm_aload_n (n := 0) hx hb (by decide +kernel) rfl rfl rfl ?_
  refine pm_getf (own := "LinkedTongueModel") (ref := "LinkedTongueModel") (C := "LinkedTongueModel") (T := TM) (N := 180) (index := 910) (k0 := 62) (v := .int y) hx hb hts hown hK inM hcM (by decide) (hts _ (List.mem_cons_of_mem _ (pm_mem 2412 (by decide +kernel) (by decide +kernel)))) (fun _ q => q) hO (by rw [rF_get σ (by decide), f_allMade]) (by decide +kernel) ?_
  refine pm_iload_n (n := 1) hx hb (by decide +kernel) rfl rfl ?_
  refine pm_iadd hx hb (by decide +kernel) ?_
  refine pm_sipush (n := 8000) hx hb (by decide +kernel) ?_
  refine pm_icmp_gt (off := 7) (tgt := 16) hx hb (by decide +kernel) (by decide) (fun c1 => ?_) (fun c1 => ?_)
  · refine pm_iconst (n := 0) hx hb (by decide +kernel) ?_
    exact pm_ret_z hx hb hlocks hr rfl (by simp_all [pm_b]) (by decide +kernel)
  · refine pm_iconst (n := 1) hx hb (by decide +kernel) ?_
    refine pm_goto (off := 4) (tgt := 17) hx hb (by decide +kernel) (by decide) ?_
    exact pm_ret_z hx hb hlocks hr rfl (by simp_all [pm_b]) (by decide +kernel)
def yR_hasRoomForText : MethodName := ⟨"LinkedTongueModel", "hasRoomForText", "(I)Z"⟩
abbrev cR_hasRoomForText : Cond := .code yR_hasRoomForText prog_13_method_103_code 2 (some .boolean)
theorem cr_hasRoomForText (hcM : cl[cM]? = some ("LinkedTongueModel", TM, 180)) {o : Nat} {σ : Nat → Value} (h : pm_H) (hO : h[o]? = some (.inr (cM, rF σ))) {x y z : Int32} (f_allTexts : σ 64 = .int y) (f_allBytes : σ 65 = .int z) : pm_Con l yR_hasRoomForText (cR_hasRoomForText :: pm_tb) d ex B dA D cl tys E [.ref o, .int x] h (.inl (some (.int (pm_b (!decide ((Int16.ofInt 12000).toInt32 ≤ y) && !decide (200000 < z + x)))))) h := by
  refine pm_Con_ofW (cc := prog_13_method_103_code) (maxL := 2) (ret := (some .boolean)) (hh := []) (by decide) (Or.inl rfl) (Nat.le_of_ble_eq_true rfl) ?_
  intro p e s m below meth c hx hb hr hlocks hml hmt hcd hnm hts hz hK hE
  have hown : s.vm.findClass "LinkedTongueModel" = some m.cls := findClass_of_methodNamed hnm
  refine pm_aload_n (n := 0) hx hb (by decide +kernel) rfl rfl rfl ?_
  refine pm_getf (own := "LinkedTongueModel") (ref := "LinkedTongueModel") (C := "LinkedTongueModel") (T := TM) (N := 180) (index := 958) (k0 := 64) (v := .int y) hx hb hts hown hK inM hcM (by decide) (hts _ (List.mem_cons_of_mem _ (pm_mem 2414 (by decide +kernel) (by decide +kernel)))) (fun _ q => q) hO (by rw [rF_get σ (by decide), f_allTexts]) (by decide +kernel) ?_
  refine pm_sipush (n := 12000) hx hb (by decide +kernel) ?_
  refine pm_icmp_ge (off := 19) (tgt := 26) hx hb (by decide +kernel) (by decide) (fun c1 => ?_) (fun c1 => ?_)
  · refine pm_iconst (n := 0) hx hb (by decide +kernel) ?_
    exact pm_ret_z hx hb hlocks hr rfl (by simp_all [pm_b]) (by decide +kernel)
  · refine pm_aload_n (n := 0) hx hb (by decide +kernel) rfl rfl rfl ?_
    refine pm_getf (own := "LinkedTongueModel") (ref := "LinkedTongueModel") (C := "LinkedTongueModel") (T := TM) (N := 180) (index := 961) (k0 := 65) (v := .int z) hx hb hts hown hK inM hcM (by decide) (hts _ (List.mem_cons_of_mem _ (pm_mem 2415 (by decide +kernel) (by decide +kernel)))) (fun _ q => q) hO (by rw [rF_get σ (by decide), f_allBytes]) (by decide +kernel) ?_
    refine pm_iload_n (n := 1) hx hb (by decide +kernel) rfl rfl ?_
    refine pm_iadd hx hb (by decide +kernel) ?_
    refine pm_ldcw (own := "LinkedTongueModel") (index := 964) (v := 200000) hx hb hown (hts _ (List.mem_cons_of_mem _ (pm_mem 3585 (by decide +kernel) (by decide +kernel)))) (by decide +kernel) ?_
    refine pm_icmp_gt (off := 7) (tgt := 26) hx hb (by decide +kernel) (by decide) (fun c2 => ?_) (fun c2 => ?_)
    · refine pm_iconst (n := 0) hx hb (by decide +kernel) ?_
      exact pm_ret_z hx hb hlocks hr rfl (by simp_all [pm_b]) (by decide +kernel)
    · refine pm_iconst (n := 1) hx hb (by decide +kernel) ?_
      refine pm_goto (off := 4) (tgt := 27) hx hb (by decide +kernel) (by decide) ?_
      exact pm_ret_z hx hb hlocks hr rfl (by simp_all [pm_b]) (by decide +kernel)
end R18
