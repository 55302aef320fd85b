/-! PART 16: types, a loop of the reference that writes. -/
theorem pm_nd_set {h : pm_H} {l : List (Nat × pm_E)} (hn : pm_nd h l) (p : Nat) {i : Nat} {x y : pm_E} (hp : l[p]? = some (i, x)) : pm_nd h (l.set p (i, y)) := by
  have h1 : (l.set p (i, y)).map (fun q => q.1) = l.map (fun q => q.1) := by
    apply List.ext_getElem?
    intro j
    rw [List.getElem?_map, List.getElem?_map]
    by_cases hj : p = j
    · subst hj
      rw [List.getElem?_set_self (List.getElem?_eq_some_iff.mp hp).1, hp]; rfl
    · rw [List.getElem?_set_ne hj]
  refine ⟨by rw [h1]; exact hn.1, fun q hq => ?_⟩
  have h2 : q.1 ∈ l.map (fun q => q.1) := by rw [← h1]; exact List.mem_map_of_mem hq
  obtain ⟨z, hz, hzq⟩ := List.mem_map.mp h2
  rw [← hzq]
  exact hn.2 z hz
theorem va_up_same {α : Type} (f : Nat → α) (k : Nat) (v : α) (h : f k = v) : va_up f k v = f := by
  funext j
  by_cases hj : j = k
  · subst hj; rw [va_up_self, h]
  · rw [va_up_ne _ _ hj]
/-- the loop of types: g turns more at k; n signs lie in f -/
def rf_ty (v : Int64) : Nat → Int32 → Nat → (Nat → Int32) → Nat × (Nat → Int32)
  | 0, _, n, f => (n, f)
  | g + 1, k, n, f => if rf_by v k = 0 then rf_ty v g (k + Int32.ofInt (-8)) n f else rf_ty v g (k + Int32.ofInt (-8)) (n + 1) (upd f n (rf_by v k).toInt8.toInt32)
section R16
variable {l : Launch} {d : Nat} {ex : Nat → Nat} {B : Nat} {dA : Nat → ClassId} {D : va_G} {cl : List vw_C} {tys : List (ClassId × FieldType)} {E : State → Prop} {cM : Nat}
def yR_types : MethodName := ⟨"LinkedTongueModel", "types", "(J)V"⟩
abbrev cR_types : Cond := .code yR_types prog_13_method_5_code 5 none
theorem cr_types (hcM : cl[cM]? = some ("LinkedTongueModel", TM, 180)) {o a t N n : Nat} {σ : Nat → Value} {f : Nat → Int32} (t0 : Nat) (v : Int64) (h0 : pm_H) (hnd : pm_nd h0 [(o, .inr (cM, rF σ)), (a, .inl (t, .inl (N, f)))]) (hty : tys[t0]? = some (dA t, .byte)) (hT : σ 3 = .int (nI n)) (hA : σ 2 = .ref a) (hN : n + 8 ≤ N) (hN2 : N < 2 ^ 31) : pm_Con l yR_types (cR_types :: pm_tb) d ex B dA D cl tys E [.ref o, .long v] (pm_put h0 [(o, .inr (cM, rF σ)), (a, .inl (t, .inl (N, f)))]) (.inl none) (pm_put h0 [(o, .inr (cM, rF (va_up σ 3 (.int (nI (rf_ty v 8 56 n f).1))))), (a, .inl (t, .inl (N, (rf_ty v 8 56 n f).2)))]) := by
  refine pm_Con_ofW (cc := prog_13_method_5_code) (maxL := 5) (ret := none) (hh := []) (by decide) (Or.inl rfl) (Nat.le_of_ble_eq_true rfl) ?_
  intro p e s m below meth c hx hb hr hlocks hml hmt hcd hnm hts hz hK hE
  have hown : s.vm.findClass "LinkedTongueModel" = some m.cls := findClass_of_methodNamed hnm
  generalize hR : (List.map (pm_v ex B) [Value.ref o, .long v]).toArray = aa at *
  generalize hH2 : pm_put h0 [(o, .inr (cM, rF (va_up σ 3 (.int (nI (rf_ty v 8 56 n f).1))))), (a, .inl (t, .inl (N, (rf_ty v 8 56 n f).2)))] = HH
  generalize hH1 : (pm_put h0 [(o, .inr (cM, rF σ)), (a, .inl (t, .inl (N, f)))] : pm_H).length = n0 at *
  generalize hZ1 : pm_sz (pm_put h0 [(o, .inr (cM, rF σ)), (a, .inl (t, .inl (N, f)))]) = z0 at *
  generalize hRm : pm_room d (pm_put h0 [(o, .inr (cM, rF σ)), (a, .inl (t, .inl (N, f)))]) HH = RR at *
  have loop : ∀ (g : Nat), g ≤ 8 → ∀ (n1 : Nat) (f1 : Nat → Int32) (σ1 : Nat → Value) (L : pm_L), n1 + g ≤ N → pm_nd h0 [(o, .inr (cM, rF σ1)), (a, .inl (t, .inl (N, f1)))] → σ1 3 = .int (nI n1) → σ1 2 = .ref a → pm_get L 0 = some (.ref o) → pm_get L 1 = some (.long v) → pm_get L 3 = some (.int (nI (8 * g) - 8)) →
      HH = pm_put h0 [(o, .inr (cM, rF (va_up σ1 3 (.int (nI (rf_ty v g (nI (8 * g) - 8) n1 f1).1))))), (a, .inl (t, .inl (N, (rf_ty v g (nI (8 * g) - 8) n1 f1).2)))] →
      pm_W p l e RR s m aa below meth c (pm_MQ below (pm_QcO ex B dA D cl (.inl none) HH) aa s (HH.length - n0) (pm_sz HH - z0) (fun q => B ≤ q)) ex B dA D cl 5 n0 z0 3 L [] (pm_put h0 [(o, .inr (cM, rF σ1)), (a, .inl (t, .inl (N, f1)))]) := by
    intro g
    induction g with
    | zero =>
      intro _ n1 f1 σ1 L hn1 hnd hT hA hL0 hL1 hL3 hsp
      refine pm_iload_n (n := 3) hx hb (by decide +kernel) rfl hL3 ?_
      refine pm_if_lt (off := 46) (tgt := 50) hx hb (by decide +kernel) (by decide) (fun c1 => ?_) (fun c1 => absurd (by decide) c1)
      exact pm_ret_v hx hb hlocks hr (by rw [hsp]; show (Sum.inl none, pm_put h0 [(o, .inr (cM, rF (va_up σ1 3 (.int (nI n1))))), (a, .inl (t, .inl (N, f1)))]) = _; rw [va_up_same _ _ _ hT]) (by decide +kernel)
    | succ g ih =>
      intro hg n1 f1 σ1 L hn1 hnd hT hA hL0 hL1 hL3 hsp
      have hk1 : nI (8 * (g + 1)) - 8 + Int32.ofInt (-8) = nI (8 * g) - 8 := by
        rcases (show g = 0 ∨ g = 1 ∨ g = 2 ∨ g = 3 ∨ g = 4 ∨ g = 5 ∨ g = 6 ∨ g = 7 by omega) with rfl | rfl | rfl | rfl | rfl | rfl | rfl | rfl <;> decide
      have hk2 : ¬ (nI (8 * (g + 1)) - 8 < 0) := by
        rcases (show g = 0 ∨ g = 1 ∨ g = 2 ∨ g = 3 ∨ g = 4 ∨ g = 5 ∨ g = 6 ∨ g = 7 by omega) with rfl | rfl | rfl | rfl | rfl | rfl | rfl | rfl <;> decide
      generalize nI (8 * (g + 1)) - 8 = kk at *
      refine pm_iload_n (n := 3) hx hb (by decide +kernel) rfl hL3 ?_
      refine pm_if_lt (off := 46) (tgt := 50) hx hb (by decide +kernel) (by decide) (fun c1 => absurd c1 hk2) (fun c1 => ?_)
      refine pm_lload_n (n := 1) hx hb (by decide +kernel) rfl hL1 ?_
      refine pm_iload_n (n := 3) hx hb (by decide +kernel) rfl hL3 ?_
      refine pm_lushr hx hb (by decide +kernel) ?_
      refine pm_ldc2 (own := "LinkedTongueModel") (index := 370) (v := 255) hx hb hown (hts _ (List.mem_cons_of_mem _ (pm_mem 2901 (by decide +kernel) (by decide +kernel)))) (by decide +kernel) ?_
      refine pm_land hx hb (by decide +kernel) ?_
      refine pm_l2i hx hb (by decide +kernel) ?_
      refine pm_top (rf_by v kk) (fun xb exb => ?_)
      refine pm_istore (i := 4) hx hb (by decide +kernel) (by decide) ?_
      have hM0 := pm_gn1 (i := 4) (v := .int xb) hL0 (by decide) (Or.inl (by decide))
      have hM1 := pm_gn1 (i := 4) (v := .int xb) hL1 (by decide) (Or.inl (by decide))
      have hM3 := pm_gn1 (i := 4) (v := .int xb) hL3 (by decide) (Or.inr rfl)
      have hM4 := pm_gs1 4 (.int xb) L
      generalize pm_st1 4 (.int xb) L = L4 at *
      refine pm_iload (i := 4) hx hb (by decide +kernel) hM4 ?_
      refine pm_if_eq (off := 25) (tgt := 44) hx hb (by decide +kernel) (by decide) (fun c2 => ?_) (fun c2 => ?_)
      · refine pm_iinc (i := 3) (n := -8) hx hb (by decide +kernel) hM3 (by decide) ?_
        refine pm_goto (off := -44) (tgt := 3) hx hb (by decide +kernel) (by decide) ?_
        refine ih (by omega) n1 f1 σ1 _ (by omega) hnd hT hA (pm_gn1 hM0 (by decide) (Or.inl (by decide))) (pm_gn1 hM1 (by decide) (Or.inl (by decide))) (by rw [← hk1]; exact pm_gs1 _ _ _) ?_
        rw [hsp, ← hk1]
        simp only [rf_ty]
        rw [← exb, if_pos c2]
      · have hO := pm_put_get hnd 0 rfl
        have hAr := pm_put_get hnd 1 rfl
        refine pm_aload_n (n := 0) hx hb (by decide +kernel) rfl hM0 rfl ?_
        refine pm_getf (own := "LinkedTongueModel") (ref := "LinkedTongueModel") (C := "LinkedTongueModel") (T := TM) (N := 180) (index := 17) (k0 := 2) (v := .ref a) hx hb hts hown hK inM hcM (by decide) (hts _ (List.mem_cons_of_mem _ (pm_mem 2352 (by decide +kernel) (by decide +kernel)))) (fun _ q => q) hO (by rw [rF_get _ (by decide), hA]) (by decide +kernel) ?_
        refine pm_aload_n (n := 0) hx hb (by decide +kernel) rfl hM0 rfl ?_
        refine pm_getf (own := "LinkedTongueModel") (ref := "LinkedTongueModel") (C := "LinkedTongueModel") (T := TM) (N := 180) (index := 380) (k0 := 3) (v := .int (nI n1)) hx hb hts hown hK inM hcM (by decide) (hts _ (List.mem_cons_of_mem _ (pm_mem 2353 (by decide +kernel) (by decide +kernel)))) (fun _ q => q) hO (by rw [rF_get _ (by decide), hT]) (by decide +kernel) ?_
        refine pm_iload (i := 4) hx hb (by decide +kernel) hM4 ?_
        refine pm_i2b hx hb (by decide +kernel) ?_
        refine pm_bast hx hb hK t0 hAr hty (vp_in_nI (by omega) hN2) (by decide +kernel) ?_
        rw [pm_put_set hnd 1 rfl, nI_clamp (by omega), pk_vb]
        have hnd2 := pm_nd_set (y := .inl (t, .inl (N, upd f1 n1 xb.toInt8.toInt32))) hnd 1 rfl
        simp only [List.set_cons_zero, List.set_cons_succ] at hnd2 ⊢
        have hO2 := pm_put_get hnd2 0 rfl
        refine pm_aload_n (n := 0) hx hb (by decide +kernel) rfl hM0 rfl ?_
        refine pm_dup hx hb (by decide +kernel) rfl ?_
        refine pm_getf (own := "LinkedTongueModel") (ref := "LinkedTongueModel") (C := "LinkedTongueModel") (T := TM) (N := 180) (index := 380) (k0 := 3) (v := .int (nI n1)) hx hb hts hown hK inM hcM (by decide) (hts _ (List.mem_cons_of_mem _ (pm_mem 2353 (by decide +kernel) (by decide +kernel)))) (fun _ q => q) hO2 (by rw [rF_get _ (by decide), hT]) (by decide +kernel) ?_
        refine pm_iconst (n := 1) hx hb (by decide +kernel) ?_
        refine pm_iadd hx hb (by decide +kernel) ?_
        refine pm_putf (own := "LinkedTongueModel") (ref := "LinkedTongueModel") (C := "LinkedTongueModel") (T := TM) (N := 180) (index := 380) (k0 := 3) (ty := .int) hx hb hts hown hK inM tM tM_ok nM hcM (by decide) (hts _ (List.mem_cons_of_mem _ (pm_mem 2353 (by decide +kernel) (by decide +kernel)))) (fun _ q => q) rfl (by decide +kernel) rfl rfl hO2 (by rw [rF_len]; decide) (by decide +kernel) ?_
        rw [rF_set, pm_put_set hnd2 0 rfl, show nI n1 + Int32.ofInt 1 = nI (n1 + 1) from nI_1 n1]
        have hnd3 := pm_nd_set (y := .inr (cM, rF (va_up σ1 3 (.int (nI (n1 + 1)))))) hnd2 0 rfl
        simp only [List.set_cons_zero, List.set_cons_succ] at hnd3 ⊢
        refine pm_iinc (i := 3) (n := -8) hx hb (by decide +kernel) hM3 (by decide) ?_
        refine pm_goto (off := -44) (tgt := 3) hx hb (by decide +kernel) (by decide) ?_
        refine ih (by omega) (n1 + 1) _ (va_up σ1 3 (.int (nI (n1 + 1)))) _ (by omega) hnd3 (va_up_self _ _ _) (by rw [va_up_ne _ _ (by decide)]; exact hA) (pm_gn1 hM0 (by decide) (Or.inl (by decide))) (pm_gn1 hM1 (by decide) (Or.inl (by decide))) (by rw [← hk1]; exact pm_gs1 _ _ _) ?_
        rw [hsp, ← hk1, bx_uu]
        simp only [rf_ty]
        rw [← exb, if_neg c2]
  refine pm_bipush (n := 56) hx hb (by decide +kernel) ?_
  refine pm_istore_n (n := 3) (i := 3) hx hb (by decide +kernel) rfl (by decide) ?_
  exact loop 8 (Nat.le_refl _) n f σ _ hN hnd hT hA rfl rfl rfl hH2.symm
end R16
