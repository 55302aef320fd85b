/-! PART 17: feed of the reference. -/
theorem pm_memP {w : Cond} (i : Nat) (h : lw_tbl[i]? = some w) (hg : goodWord w = true) : w ∈ pm_tb := List.mem_filter.mpr ⟨List.mem_of_getElem? h, hg⟩
theorem pm_sl0 {g g1 g2 : pm_H} {n : Nat} (h1 : pm_sz g1 = pm_sz g) (h2 : pm_sz g2 = pm_sz g) : pm_sz g1 - pm_sz g + (pm_sz g2 - pm_sz g1) ≤ n := by omega
theorem rf_ty_le (v : Int64) : ∀ (g : Nat) (k : Int32) (n : Nat) (f : Nat → Int32), (rf_ty v g k n f).1 ≤ n + g := by
  intro g
  induction g with
  | zero => intro k n f; exact Nat.le_refl _
  | succ g ih =>
    intro k n f
    simp only [rf_ty]
    split
    · have := ih (k + Int32.ofInt (-8)) n f; omega
    · have := ih (k + Int32.ofInt (-8)) (n + 1) (upd f n (rf_by v k).toInt8.toInt32); omega
/-- feed: the answer, how many signs, which -/
def rf_feed (x y : Int64) (n : Nat) (f : Nat → Int32) : Int32 × Nat × (Nat → Int32) :=
  if rf_sg x 8 0 0 < 0 ∨ rf_sg y 8 0 0 < 0 ∨ ¬ nI n + rf_sg x 8 0 0 + rf_sg y 8 0 0 ≤ 65536 then (Int32.ofInt (-1), n, f)
  else (nI (rf_ty y 8 56 (rf_ty x 8 56 n f).1 (rf_ty x 8 56 n f).2).1, rf_ty y 8 56 (rf_ty x 8 56 n f).1 (rf_ty x 8 56 n f).2)
section R17
variable {l : Launch} {d : Nat} {ex : Nat → Nat} {B : Nat} {dA : Nat → ClassId} {D : va_G} {cl : List vw_C} {tys : List (ClassId × FieldType)} {E : State → Prop} {cM : Nat}
theorem mR_signsIn : cR_signsIn ∈ pm_tb := (pm_mem 2900 (by decide +kernel) (by decide +kernel))
theorem mR_types : cR_types ∈ pm_tb := (pm_mem 2910 (by decide +kernel) (by decide +kernel))
def yR_feed : MethodName := ⟨"LinkedTongueModel", "feed", "(JJ)I"⟩
abbrev cR_feed : Cond := .code yR_feed prog_13_method_6_code 7 (some .int)
theorem cr_feed (hEok : pm_Ok B E) (hcM : cl[cM]? = some ("LinkedTongueModel", TM, 180)) {o a t N n : Nat} {σ : Nat → Value} {f : Nat → Int32} (t0 : Nat) (x y : Int64) (h0 : pm_H) (hnd : pm_nd h0 [(o, .inr (cM, rF σ)), (a, .inl (t, .inl (N, f)))]) (hty : tys[t0]? = some (dA t, .byte)) (hT : σ 3 = .int (nI n)) (hA : σ 2 = .ref a) (hN : n + 16 ≤ N) (hN2 : N < 2 ^ 31) : pm_Con l yR_feed (cR_feed :: pm_tb) (d + 2) ex B dA D cl tys E [.ref o, .long x, .long y] (pm_put h0 [(o, .inr (cM, rF σ)), (a, .inl (t, .inl (N, f)))]) (.inl (some (.int (rf_feed x y n f).1))) (pm_put h0 [(o, .inr (cM, rF (va_up (va_up σ 0 (.int 0)) 3 (.int (nI (rf_feed x y n f).2.1))))), (a, .inl (t, .inl (N, (rf_feed x y n f).2.2)))]) := by
  refine pm_Con_ofW (cc := prog_13_method_6_code) (maxL := 7) (ret := (some .int)) (hh := []) (by decide) (Or.inl rfl) (Nat.le_of_ble_eq_true rfl) ?_
  intro p e s m below meth c hx hb hr hlocks hml hmt hcd hnm hts hz hK hE
  have hown : s.vm.findClass "LinkedTongueModel" = some m.cls := findClass_of_methodNamed hnm
  have hO := pm_put_get hnd 0 rfl
  refine pm_aload_n (n := 0) hx hb (by decide +kernel) rfl rfl rfl ?_
  refine pm_iconst (n := 0) hx hb (by decide +kernel) ?_
  refine pm_putf (own := "LinkedTongueModel") (ref := "LinkedTongueModel") (C := "LinkedTongueModel") (T := TM) (N := 180) (index := 366) (k0 := 0) (ty := .int) hx hb hts hown hK inM tM tM_ok nM hcM (by decide) (hts _ (List.mem_cons_of_mem _ (pm_mem 2350 (by decide +kernel) (by decide +kernel)))) (fun _ q => q) rfl (by decide +kernel) rfl rfl hO (by rw [rF_len]; decide) (by decide +kernel) ?_
  rw [rF_set, pm_put_set hnd 0 rfl]
  have hnd2 := pm_nd_set (y := .inr (cM, rF (va_up σ 0 (.int (Int32.ofInt 0))))) hnd 0 rfl
  simp only [List.set_cons_zero] at hnd2 ⊢
  have hT2 : va_up σ 0 (.int (Int32.ofInt 0)) 3 = .int (nI n) := by rw [va_up_ne _ _ (by decide)]; exact hT
  have hA2 : va_up σ 0 (.int (Int32.ofInt 0)) 2 = .ref a := by rw [va_up_ne _ _ (by decide)]; exact hA
  refine pm_lload_n (n := 1) hx hb (by decide +kernel) rfl rfl ?_
  refine pm_cS (As := [_]) (own := "LinkedTongueModel") (index := 383) (hh := []) hx hb hml hown hK hE hEok hz (Nat.le_of_eq (by rw [pm_put_length, pm_put_length])) (Nat.le_of_eq (pm_put_sz (by simp [pm_n, rF_len]) hnd)) (Nat.le_refl _) (Nat.le_refl _) (cr_signsIn (d := d) hEok _ _) (pm_hws hts mR_signsIn) (Or.inl List.mem_cons_self) (hts _ (List.mem_cons_of_mem _ (pm_mem 19 (by decide +kernel) (by decide +kernel)))) (Or.inl (hts _ (List.mem_cons_of_mem _ (pm_mem 2898 (by decide +kernel) (by decide +kernel))))) (hts _ (List.mem_cons_of_mem _ (pm_mem 2899 (by decide +kernel) (by decide +kernel)))) (Cond.code_named (hts _ (List.mem_cons_of_mem _ mR_signsIn))) (by decide +kernel) (pm_arity (n := 1) (by decide +kernel)) (by decide) (by rw [pm_put_length, pm_put_length, Nat.sub_self]; exact Nat.zero_le _) (by rw [Nat.sub_self, Nat.add_zero, pm_put_sz (l2 := [(o, .inr (cM, rF σ)), (a, .inl (t, .inl (N, f)))]) (by simp [pm_n, rF_len]) hnd2, Nat.sub_self]; exact Nat.zero_le _) (by simp [pm_room]) (by simp [pm_room]; omega) (by decide +kernel) ?_
  refine pm_istore (i := 5) hx hb (by decide +kernel) (by decide) ?_
  refine pm_lload_n (n := 3) hx hb (by decide +kernel) rfl rfl ?_
  refine pm_cS (As := [_]) (own := "LinkedTongueModel") (index := 383) (hh := []) hx hb hml hown hK hE hEok hz (Nat.le_of_eq (by rw [pm_put_length, pm_put_length])) (Nat.le_of_eq (pm_put_sz (by simp [pm_n, rF_len]) hnd)) (Nat.le_refl _) (Nat.le_refl _) (cr_signsIn (d := d) hEok _ _) (pm_hws hts mR_signsIn) (Or.inl List.mem_cons_self) (hts _ (List.mem_cons_of_mem _ (pm_mem 19 (by decide +kernel) (by decide +kernel)))) (Or.inl (hts _ (List.mem_cons_of_mem _ (pm_mem 2898 (by decide +kernel) (by decide +kernel))))) (hts _ (List.mem_cons_of_mem _ (pm_mem 2899 (by decide +kernel) (by decide +kernel)))) (Cond.code_named (hts _ (List.mem_cons_of_mem _ mR_signsIn))) (by decide +kernel) (pm_arity (n := 1) (by decide +kernel)) (by decide) (by rw [pm_put_length, pm_put_length, Nat.sub_self]; exact Nat.zero_le _) (by rw [Nat.sub_self, Nat.add_zero, pm_put_sz (l2 := [(o, .inr (cM, rF σ)), (a, .inl (t, .inl (N, f)))]) (by simp [pm_n, rF_len]) hnd2, Nat.sub_self]; exact Nat.zero_le _) (by simp [pm_room]) (by simp [pm_room]; omega) (by decide +kernel) ?_
  refine pm_istore (i := 6) hx hb (by decide +kernel) (by decide) ?_
  refine pm_iload (i := 5) hx hb (by decide +kernel) rfl ?_
  have no : ∀ (L : pm_L), (rf_sg x 8 0 0 < 0 ∨ rf_sg y 8 0 0 < 0 ∨ ¬ nI n + rf_sg x 8 0 0 + rf_sg y 8 0 0 ≤ 65536) → pm_W p l e (pm_room (d + 2) (pm_put h0 [(o, .inr (cM, rF σ)), (a, .inl (t, .inl (N, f)))]) (pm_put h0 [(o, .inr (cM, rF (va_up (va_up σ 0 (.int 0)) 3 (.int (nI (rf_feed x y n f).2.1))))), (a, .inl (t, .inl (N, (rf_feed x y n f).2.2)))])) s m (List.map (pm_v ex B) [.ref o, .long x, .long y]).toArray below meth c (pm_MQ below (pm_QcO ex B dA D cl (.inl (some (.int (rf_feed x y n f).1))) (pm_put h0 [(o, .inr (cM, rF (va_up (va_up σ 0 (.int 0)) 3 (.int (nI (rf_feed x y n f).2.1))))), (a, .inl (t, .inl (N, (rf_feed x y n f).2.2)))])) (List.map (pm_v ex B) [.ref o, .long x, .long y]).toArray s ((pm_put h0 [(o, .inr (cM, rF (va_up (va_up σ 0 (.int 0)) 3 (.int (nI (rf_feed x y n f).2.1))))), (a, .inl (t, .inl (N, (rf_feed x y n f).2.2)))]).length - (pm_put h0 [(o, .inr (cM, rF σ)), (a, .inl (t, .inl (N, f)))]).length) (pm_sz (pm_put h0 [(o, .inr (cM, rF (va_up (va_up σ 0 (.int 0)) 3 (.int (nI (rf_feed x y n f).2.1))))), (a, .inl (t, .inl (N, (rf_feed x y n f).2.2)))]) - pm_sz (pm_put h0 [(o, .inr (cM, rF σ)), (a, .inl (t, .inl (N, f)))])) (fun q => B ≤ q)) ex B dA D cl 7 (pm_put h0 [(o, .inr (cM, rF σ)), (a, .inl (t, .inl (N, f)))]).length (pm_sz (pm_put h0 [(o, .inr (cM, rF σ)), (a, .inl (t, .inl (N, f)))])) 42 L [] (pm_put h0 [(o, .inr (cM, rF (va_up σ 0 (.int (Int32.ofInt 0))))), (a, .inl (t, .inl (N, f)))]) := by
    intro L hno
    refine pm_iconst (n := -1) hx hb (by decide +kernel) ?_
    refine pm_ret_i hx hb hlocks hr ?_ (by decide +kernel)
    have h1 : rf_feed x y n f = (Int32.ofInt (-1), n, f) := by unfold rf_feed; rw [if_pos hno]
    rw [h1]
    show (Sum.inl (some (Value.int (Int32.ofInt (-1)))), pm_put h0 [(o, .inr (cM, rF (va_up (va_up σ 0 (.int (Int32.ofInt 0))) 3 (.int (nI n))))), (a, .inl (t, .inl (N, f)))]) = _
    rw [va_up_same _ _ _ hT2]
  refine pm_if_lt (off := 23) (tgt := 42) hx hb (by decide +kernel) (by decide) (fun c1 => no _ (Or.inl c1)) (fun c1 => ?_)
  refine pm_iload (i := 6) hx hb (by decide +kernel) rfl ?_
  refine pm_if_lt (off := 18) (tgt := 42) hx hb (by decide +kernel) (by decide) (fun c2 => no _ (Or.inr (Or.inl c2))) (fun c2 => ?_)
  refine pm_aload_n (n := 0) hx hb (by decide +kernel) rfl rfl rfl ?_
  refine pm_getf (own := "LinkedTongueModel") (ref := "LinkedTongueModel") (C := "LinkedTongueModel") (T := TM) (N := 180) (index := 380) (k0 := 3) (v := .int (nI n)) hx hb hts hown hK inM hcM (by decide) (hts _ (List.mem_cons_of_mem _ (pm_mem 2353 (by decide +kernel) (by decide +kernel)))) (fun _ q => q) (pm_put_get hnd2 0 rfl) (by rw [rF_get _ (by decide), hT2]) (by decide +kernel) ?_
  refine pm_iload (i := 5) hx hb (by decide +kernel) rfl ?_
  refine pm_iadd hx hb (by decide +kernel) ?_
  refine pm_iload (i := 6) hx hb (by decide +kernel) rfl ?_
  refine pm_iadd hx hb (by decide +kernel) ?_
  refine pm_ldc (own := "LinkedTongueModel") (index := 223) (v := 65536) hx hb hown (hts _ (List.mem_cons_of_mem _ (pm_mem 2341 (by decide +kernel) (by decide +kernel)))) (by decide +kernel) ?_
  refine pm_icmp_le (off := 5) (tgt := 44) hx hb (by decide +kernel) (by decide) (fun c3 => ?_) (fun c3 => no _ (Or.inr (Or.inr c3)))
  have h1 : rf_feed x y n f = (nI (rf_ty y 8 56 (rf_ty x 8 56 n f).1 (rf_ty x 8 56 n f).2).1, rf_ty y 8 56 (rf_ty x 8 56 n f).1 (rf_ty x 8 56 n f).2) := by unfold rf_feed; rw [if_neg (fun q => q.elim c1 (fun q => q.elim c2 (fun q => q c3)))]
  have hb1 := rf_ty_le x 8 56 n f
  have hb2 := rf_ty_le y 8 56 (rf_ty x 8 56 n f).1 (rf_ty x 8 56 n f).2
  rw [h1]
  have hnd3 := pm_nd_set (y := .inl (t, .inl (N, (rf_ty x 8 56 n f).2))) (pm_nd_set (y := .inr (cM, rF (va_up (va_up σ 0 (.int (Int32.ofInt 0))) 3 (.int (nI (rf_ty x 8 56 n f).1))))) hnd2 0 rfl) 1 rfl
  simp only [List.set_cons_zero, List.set_cons_succ] at hnd3
  refine pm_aload_n (n := 0) hx hb (by decide +kernel) rfl rfl rfl ?_
  refine pm_lload_n (n := 1) hx hb (by decide +kernel) rfl rfl ?_
  refine pm_cV (As := [_]) (C := "LinkedTongueModel") (T0 := TM) (N := 180) (own := "LinkedTongueModel") (index := 387) (hh := []) hx hb hml hown hK hE hEok hz (Nat.le_of_eq (by rw [pm_put_length, pm_put_length])) (Nat.le_of_eq (pm_put_sz (by simp [pm_n, rF_len]) hnd)) (Nat.le_of_eq (by rw [pm_put_length, pm_put_length])) (Nat.le_of_eq (pm_put_sz (by simp [pm_n, rF_len]) hnd2)) (cr_types (d := d + 1) hcM t0 x h0 hnd2 hty hT2 hA2 (by omega) hN2) (pm_hws hts mR_types) (Or.inl List.mem_cons_self) (hts _ (List.mem_cons_of_mem _ (pm_mem 19 (by decide +kernel) (by decide +kernel)))) (Or.inl (hts _ (List.mem_cons_of_mem _ (pm_mem 2907 (by decide +kernel) (by decide +kernel))))) (hts _ (List.mem_cons_of_mem _ (pm_mem 2909 (by decide +kernel) (by decide +kernel)))) (hts _ (List.mem_cons_of_mem _ (pm_memP 151 (by decide +kernel) (by decide +kernel)))) (by decide +kernel) (pm_arity (n := 1) (by decide +kernel)) (pm_put_get hnd2 0 rfl) hcM (by decide) (by rw [pm_put_length, pm_put_length, pm_put_length, Nat.sub_self]; exact Nat.zero_le _) (pm_sl0 (pm_put_sz (l1 := [(o, .inr (cM, rF σ)), (a, .inl (t, .inl (N, f)))]) (by simp [pm_n, rF_len]) hnd).symm (pm_put_sz (l1 := [(o, .inr (cM, rF σ)), (a, .inl (t, .inl (N, f)))]) (by simp [pm_n, rF_len]) hnd).symm) (by simp [pm_room]) (by simp [pm_room]; omega) (by decide +kernel) ?_
  refine pm_aload_n (n := 0) hx hb (by decide +kernel) rfl rfl rfl ?_
  refine pm_lload_n (n := 3) hx hb (by decide +kernel) rfl rfl ?_
  refine pm_cV (As := [_]) (C := "LinkedTongueModel") (T0 := TM) (N := 180) (own := "LinkedTongueModel") (index := 387) (hh := []) hx hb hml hown hK hE hEok hz (Nat.le_of_eq (by rw [pm_put_length, pm_put_length])) (Nat.le_of_eq (pm_put_sz (by simp [pm_n, rF_len]) hnd)) (Nat.le_of_eq (by rw [pm_put_length, pm_put_length])) (Nat.le_of_eq (pm_put_sz (by simp [pm_n, rF_len]) hnd3)) (cr_types (d := d + 1) hcM t0 y h0 hnd3 hty (va_up_self _ _ _) (by rw [va_up_ne _ _ (by decide)]; exact hA2) (by omega) hN2) (pm_hws hts mR_types) (Or.inl List.mem_cons_self) (hts _ (List.mem_cons_of_mem _ (pm_mem 19 (by decide +kernel) (by decide +kernel)))) (Or.inl (hts _ (List.mem_cons_of_mem _ (pm_mem 2907 (by decide +kernel) (by decide +kernel))))) (hts _ (List.mem_cons_of_mem _ (pm_mem 2909 (by decide +kernel) (by decide +kernel)))) (hts _ (List.mem_cons_of_mem _ (pm_memP 151 (by decide +kernel) (by decide +kernel)))) (by decide +kernel) (pm_arity (n := 1) (by decide +kernel)) (pm_put_get hnd3 0 rfl) hcM (by decide) (by rw [pm_put_length, pm_put_length, pm_put_length, Nat.sub_self]; exact Nat.zero_le _) (pm_sl0 (pm_put_sz (l1 := [(o, .inr (cM, rF σ)), (a, .inl (t, .inl (N, f)))]) (by simp [pm_n, rF_len]) hnd).symm (pm_put_sz (l1 := [(o, .inr (cM, rF σ)), (a, .inl (t, .inl (N, f)))]) (by simp [pm_n, rF_len]) hnd).symm) (by simp [pm_room]) (by simp [pm_room]; omega) (by decide +kernel) ?_
  have hnd4 := pm_nd_set (y := .inl (t, .inl (N, (rf_ty y 8 56 (rf_ty x 8 56 n f).1 (rf_ty x 8 56 n f).2).2))) (pm_nd_set (y := .inr (cM, rF (va_up (va_up (va_up σ 0 (.int (Int32.ofInt 0))) 3 (.int (nI (rf_ty x 8 56 n f).1))) 3 (.int (nI (rf_ty y 8 56 (rf_ty x 8 56 n f).1 (rf_ty x 8 56 n f).2).1))))) hnd3 0 rfl) 1 rfl
  simp only [List.set_cons_zero, List.set_cons_succ] at hnd4
  refine pm_aload_n (n := 0) hx hb (by decide +kernel) rfl rfl rfl ?_
  refine pm_getf (own := "LinkedTongueModel") (ref := "LinkedTongueModel") (C := "LinkedTongueModel") (T := TM) (N := 180) (index := 380) (k0 := 3) (v := .int (nI (rf_ty y 8 56 (rf_ty x 8 56 n f).1 (rf_ty x 8 56 n f).2).1)) hx hb hts hown hK inM hcM (by decide) (hts _ (List.mem_cons_of_mem _ (pm_mem 2353 (by decide +kernel) (by decide +kernel)))) (fun _ q => q) (pm_put_get hnd4 0 rfl) (by rw [rF_get _ (by decide), va_up_self]) (by decide +kernel) ?_
  exact pm_ret_i hx hb hlocks hr (by rw [bx_uu]; rfl) (by decide +kernel)
end R17
