/-! PART 14: ends of walks, and methods of the reference without loops (rows printed by walk.py). -/
section R14
variable {p : Program} {l : Launch} {e : Env} {R : Room} {s : State} {m : MethodId} {args : Array Value} {below : List Frame} {meth : Method} {c : Code} {Q : State → Prop}
variable {ex : Nat → Nat} {B : Nat} {dA : Nat → ClassId} {D : va_G} {cl : List vw_C} {nL n0 z0 : Nat} {cc : ByteArray} {pc : Nat} {L : pm_L} {h h2 : pm_H}
theorem pm_ret_i (hx : p.tables.exec = Jvm.exec) (hb : c.code = cc) {v : Int32} {o : pm_O} (hlocks : meth.locks = false) (hr : meth.sig.returnType = some .int) (he : (o, h2) = (.inl (some (.int v)), h)) (hdg : decode cc pc = .ok (.ireturn, 1)) : pm_W p l e R s m args below meth c (pm_MQ below (pm_QcO ex B dA D cl o h2) args s (h2.length - n0) (pm_sz h2 - z0) (fun q => B ≤ q)) ex B dA D cl nL n0 z0 pc L [.int v] h := by
  obtain ⟨rfl, rfl⟩ := Prod.mk.inj he
  exact pm_retO (fun t => pm_MQ_of) (pm_iret hx hb hlocks (Nat.le_refl _) (Nat.le_refl _) (fun _ q => q) hr (fun t h1 _ h2 => ⟨rfl, h1, h2⟩) hdg)
theorem pm_ret_z (hx : p.tables.exec = Jvm.exec) (hb : c.code = cc) {v : Int32} {o : pm_O} (hlocks : meth.locks = false) (hr : meth.sig.returnType = some .boolean) (hnr : narrow .boolean (.int v) = .int v) (he : (o, h2) = (.inl (some (.int v)), h)) (hdg : decode cc pc = .ok (.ireturn, 1)) : pm_W p l e R s m args below meth c (pm_MQ below (pm_QcO ex B dA D cl o h2) args s (h2.length - n0) (pm_sz h2 - z0) (fun q => B ≤ q)) ex B dA D cl nL n0 z0 pc L [.int v] h := by
  obtain ⟨rfl, rfl⟩ := Prod.mk.inj he
  exact pm_retO (fun t => pm_MQ_of) (pm_zret hx hb hlocks (Nat.le_refl _) (Nat.le_refl _) (fun _ q => q) hr hnr (fun t h1 _ h2 => ⟨rfl, h1, h2⟩) hdg)
theorem pm_ret_l (hx : p.tables.exec = Jvm.exec) (hb : c.code = cc) {v : Int64} {o : pm_O} (hlocks : meth.locks = false) (hr : meth.sig.returnType = some .long) (he : (o, h2) = (.inl (some (.long v)), h)) (hdg : decode cc pc = .ok (.lreturn, 1)) : pm_W p l e R s m args below meth c (pm_MQ below (pm_QcO ex B dA D cl o h2) args s (h2.length - n0) (pm_sz h2 - z0) (fun q => B ≤ q)) ex B dA D cl nL n0 z0 pc L [.long v] h := by
  obtain ⟨rfl, rfl⟩ := Prod.mk.inj he
  exact pm_retO (fun t => pm_MQ_of) (pm_lret hx hb hlocks (Nat.le_refl _) (Nat.le_refl _) (fun _ q => q) hr (fun t h1 _ h2 => ⟨rfl, h1, h2⟩) hdg)
theorem pm_ret_v (hx : p.tables.exec = Jvm.exec) (hb : c.code = cc) {o : pm_O} (hlocks : meth.locks = false) (hr : meth.sig.returnType = none) (he : (o, h2) = (.inl none, h)) (hdg : decode cc pc = .ok (.return_, 1)) : pm_W p l e R s m args below meth c (pm_MQ below (pm_QcO ex B dA D cl o h2) args s (h2.length - n0) (pm_sz h2 - z0) (fun q => B ≤ q)) ex B dA D cl nL n0 z0 pc L [] h := by
  obtain ⟨rfl, rfl⟩ := Prod.mk.inj he
  exact pm_retO (fun t => pm_MQ_of) (pm_vret hx hb hlocks (Nat.le_refl _) (Nat.le_refl _) (fun _ q => q) hr (fun t h1 _ h2 => ⟨rfl, h1, h2⟩) hdg)
end R14
section R14m
variable {l : Launch} {d : Nat} {ex : Nat → Nat} {B : Nat} {dA : Nat → ClassId} {D : va_G} {cl : List vw_C} {tys : List (ClassId × FieldType)} {E : State → Prop} {cM : Nat}
def yR_thrown : MethodName := ⟨"LinkedTongueModel", "thrown", "()I"⟩
abbrev cR_thrown : Cond := .code yR_thrown prog_13_method_2_code 1 (some .int)
theorem cr_thrown (hcM : cl[cM]? = some ("LinkedTongueModel", TM, 180)) {o : Nat} {σ : Nat → Value} (h : pm_H) (hO : h[o]? = some (.inr (cM, rF σ))) {x : Int32} (f_thrown : σ 0 = .int x) : pm_Con l yR_thrown (cR_thrown :: pm_tb) d ex B dA D cl tys E [.ref o] h (.inl (some (.int x))) h := by
  refine pm_Con_ofW (cc := prog_13_method_2_code) (maxL := 1) (ret := (some .int)) (hh := []) (by decide) (Or.inl rfl) (Nat.le_of_ble_eq_true rfl) ?_
  intro p e s m below meth c hx hb hr hlocks hml hmt hcd hnm hts hz hK hE
  have hown : s.vm.findClass "LinkedTongueModel" = some m.cls := findClass_of_methodNamed hnm
  refine pm_aload_n (n := 0) hx hb (by decide +kernel) rfl rfl rfl ?_
  refine pm_getf (own := "LinkedTongueModel") (ref := "LinkedTongueModel") (C := "LinkedTongueModel") (T := TM) (N := 180) (index := 366) (k0 := 0) (v := .int x) hx hb hts hown hK inM hcM (by decide) (hts _ (List.mem_cons_of_mem _ (pm_mem 2350 (by decide +kernel) (by decide +kernel)))) (fun _ q => q) hO (by rw [rF_get σ (by decide), f_thrown]) (by decide +kernel) ?_
  exact pm_ret_i hx hb hlocks hr (by rfl) (by decide +kernel)
def yR_at : MethodName := ⟨"LinkedTongueModel", "at", "(I)I"⟩
abbrev cR_at : Cond := .code yR_at prog_13_method_7_code 2 (some .int)
theorem cr_at (hcM : cl[cM]? = some ("LinkedTongueModel", TM, 180)) {o : Nat} {σ : Nat → Value} (h : pm_H) (hO : h[o]? = some (.inr (cM, rF σ))) {k z : Int32} {at_tape t N : Nat} {f : Nat → Int32} (t_tape : Nat) (f_size : σ 4 = .int z) (f_tape : σ 2 = .ref at_tape) (a_tape : h[at_tape]? = some (.inl (t, .inl (N, f)))) (ty_tape : tys[t_tape]? = some (dA t, .byte)) (hi : k < z → vp_in k N) : pm_Con l yR_at (cR_at :: pm_tb) d ex B dA D cl tys E [.ref o, .int k] h (.inl (some (.int (if k < z then f k.toNatClampNeg else 0)))) h := by
  refine pm_Con_ofW (cc := prog_13_method_7_code) (maxL := 2) (ret := (some .int)) (hh := []) (by decide) (Or.inl rfl) (Nat.le_of_ble_eq_true rfl) ?_
  intro p e s m below meth c hx hb hr hlocks hml hmt hcd hnm hts hz hK hE
  have hown : s.vm.findClass "LinkedTongueModel" = some m.cls := findClass_of_methodNamed hnm
  refine pm_iload_n (n := 1) hx hb (by decide +kernel) rfl rfl ?_
  refine pm_aload_n (n := 0) hx hb (by decide +kernel) rfl rfl rfl ?_
  refine pm_getf (own := "LinkedTongueModel") (ref := "LinkedTongueModel") (C := "LinkedTongueModel") (T := TM) (N := 180) (index := 390) (k0 := 4) (v := .int z) hx hb hts hown hK inM hcM (by decide) (hts _ (List.mem_cons_of_mem _ (pm_mem 2354 (by decide +kernel) (by decide +kernel)))) (fun _ q => q) hO (by rw [rF_get σ (by decide), f_size]) (by decide +kernel) ?_
  refine pm_icmp_ge (off := 12) (tgt := 17) hx hb (by decide +kernel) (by decide) (fun c1 => ?_) (fun c1 => ?_)
  · refine pm_iconst (n := 0) hx hb (by decide +kernel) ?_
    exact pm_ret_i hx hb hlocks hr (by first | (rw [if_pos (by rw [Int32.not_le] at c1; exact c1)]) | (rw [if_neg (fun q => absurd q (Int32.not_lt.mpr c1))]; rfl)) (by decide +kernel)
  · refine pm_aload_n (n := 0) hx hb (by decide +kernel) rfl rfl rfl ?_
    refine pm_getf (own := "LinkedTongueModel") (ref := "LinkedTongueModel") (C := "LinkedTongueModel") (T := TM) (N := 180) (index := 17) (k0 := 2) (v := .ref at_tape) hx hb hts hown hK inM hcM (by decide) (hts _ (List.mem_cons_of_mem _ (pm_mem 2352 (by decide +kernel) (by decide +kernel)))) (fun _ q => q) hO (by rw [rF_get σ (by decide), f_tape]) (by decide +kernel) ?_
    refine pm_iload_n (n := 1) hx hb (by decide +kernel) rfl rfl ?_
    refine pm_bald hx hb hK t_tape a_tape ty_tape (hi (by rw [Int32.not_le] at c1; exact c1)) (by decide +kernel) ?_
    refine pm_goto (off := 4) (tgt := 18) hx hb (by decide +kernel) (by decide) ?_
    exact pm_ret_i hx hb hlocks hr (by first | (rw [if_pos (by rw [Int32.not_le] at c1; exact c1)]) | (rw [if_neg (fun q => absurd q (Int32.not_lt.mpr c1))]; rfl)) (by decide +kernel)
def yR_isSign : MethodName := ⟨"LinkedTongueModel", "isSign", "(I)Z"⟩
abbrev cR_isSign : Cond := .code yR_isSign prog_13_method_16_code 2 (some .boolean)
theorem cr_isSign (hcM : cl[cM]? = some ("LinkedTongueModel", TM, 180)) {o : Nat} {σ : Nat → Value} (h : pm_H) (hO : h[o]? = some (.inr (cM, rF σ))) {k tk sg : Int32} (f_token : σ 6 = .int tk) (f_sign : σ 9 = .int sg) : pm_Con l yR_isSign (cR_isSign :: pm_tb) d ex B dA D cl tys E [.ref o, .int k] h (.inl (some (.int (pm_b (decide (tk = 4) && decide (sg = k)))))) h := by
  refine pm_Con_ofW (cc := prog_13_method_16_code) (maxL := 2) (ret := (some .boolean)) (hh := []) (by decide) (Or.inl rfl) (Nat.le_of_ble_eq_true rfl) ?_
  intro p e s m below meth c hx hb hr hlocks hml hmt hcd hnm hts hz hK hE
  have hown : s.vm.findClass "LinkedTongueModel" = some m.cls := findClass_of_methodNamed hnm
  refine pm_aload_n (n := 0) hx hb (by decide +kernel) rfl rfl rfl ?_
  refine pm_getf (own := "LinkedTongueModel") (ref := "LinkedTongueModel") (C := "LinkedTongueModel") (T := TM) (N := 180) (index := 422) (k0 := 6) (v := .int tk) hx hb hts hown hK inM hcM (by decide) (hts _ (List.mem_cons_of_mem _ (pm_mem 2356 (by decide +kernel) (by decide +kernel)))) (fun _ q => q) hO (by rw [rF_get σ (by decide), f_token]) (by decide +kernel) ?_
  refine pm_iconst (n := 4) hx hb (by decide +kernel) ?_
  refine pm_icmp_ne (off := 15) (tgt := 20) hx hb (by decide +kernel) (by decide) (fun c1 => ?_) (fun c1 => ?_)
  · refine pm_iconst (n := 0) hx hb (by decide +kernel) ?_
    exact pm_ret_z hx hb hlocks hr rfl (by simp_all [pm_b]) (by decide +kernel)
  · refine pm_aload_n (n := 0) hx hb (by decide +kernel) rfl rfl rfl ?_
    refine pm_getf (own := "LinkedTongueModel") (ref := "LinkedTongueModel") (C := "LinkedTongueModel") (T := TM) (N := 180) (index := 449) (k0 := 9) (v := .int sg) hx hb hts hown hK inM hcM (by decide) (hts _ (List.mem_cons_of_mem _ (pm_mem 2359 (by decide +kernel) (by decide +kernel)))) (fun _ q => q) hO (by rw [rF_get σ (by decide), f_sign]) (by decide +kernel) ?_
    refine pm_iload_n (n := 1) hx hb (by decide +kernel) rfl rfl ?_
    refine pm_icmp_ne (off := 7) (tgt := 20) hx hb (by decide +kernel) (by decide) (fun c2 => ?_) (fun c2 => ?_)
    · refine pm_iconst (n := 0) hx hb (by decide +kernel) ?_
      exact pm_ret_z hx hb hlocks hr rfl (by simp_all [pm_b]) (by decide +kernel)
    · refine pm_iconst (n := 1) hx hb (by decide +kernel) ?_
      refine pm_goto (off := 4) (tgt := 21) hx hb (by decide +kernel) (by decide) ?_
      exact pm_ret_z hx hb hlocks hr rfl (by simp_all [pm_b]) (by decide +kernel)
end R14m
