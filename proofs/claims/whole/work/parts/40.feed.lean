/-! PART 40: feed of the class, on a tape that has room. -/
def cF (σ : Nat → Value) : List Value := (List.range 11).map σ
theorem cF_get (σ : Nat → Value) {k : Nat} (hk : k < 11) : (cF σ)[k]? = some (σ k) := by
  rw [cF, List.getElem?_map, List.getElem?_range hk]; rfl
theorem cF_len (σ : Nat → Value) : (cF σ).length = 11 := by rw [cF, List.length_map, List.length_range]
theorem cF_set (σ : Nat → Value) (k : Nat) (v : Value) : (cF σ).set k v = cF (va_up σ k v) := by
  apply List.ext_getElem?
  intro j
  by_cases hj : j < 11
  · rw [cF_get _ hj]
    by_cases hk : k = j
    · subst hk
      rw [List.getElem?_set_self (by rw [cF_len]; exact hj), va_up_self]
    · rw [List.getElem?_set_ne hk, cF_get _ hj, va_up_ne _ _ (Ne.symm hk)]
  · rw [List.getElem?_eq_none (by rw [List.length_set, cF_len]; omega), List.getElem?_eq_none (by rw [cF_len]; omega)]
theorem inL {w0 : Cond} : ∀ w ∈ u_ws "LinkedTongue" TC_10 11, w ∈ w0 :: pm_tb := fun w hw => List.mem_cons_of_mem _ (inC_10 w hw)
/-- the i-th byte of the two -/
def cf_by (x y : Int64) (i : Int32) : Int32 := if (Int8.ofInt 8).toInt32 ≤ i then ((y.toUInt64 >>> (((Int8.ofInt 120).toInt32 - (Int8.ofInt 8).toInt32 * i).toInt64.toUInt64 &&& Int64.toUInt64 63)).toInt64.toInt32 &&& (Int16.ofInt 255).toInt32) else ((x.toUInt64 >>> (((Int8.ofInt 56).toInt32 - (Int8.ofInt 8).toInt32 * i).toInt64.toUInt64 &&& Int64.toUInt64 63)).toInt64.toInt32 &&& (Int16.ofInt 255).toInt32)
def cf_sg (x : Int32) : Bool := decide (x = (Int8.ofInt 10).toInt32) || (!(decide (x < (Int8.ofInt 32).toInt32)) && !(decide ((Int8.ofInt 126).toInt32 < x)))
/-- the first loop: none, if a sign is bad -/
def cf_c (x y : Int64) : Nat → Int32 → Nat → Option Nat
  | 0, _, n => some n
  | f + 1, i, n => if cf_by x y i = 0 then cf_c x y f (i + Int32.ofInt 1) n else if cf_sg (cf_by x y i) = true then cf_c x y f (i + Int32.ofInt 1) (n + 1) else none
/-- the second: how many signs there are then, which -/
def cf_s (x y : Int64) : Nat → Int32 → Nat → (Nat → Int32) → Nat × (Nat → Int32)
  | 0, _, n, g => (n, g)
  | f + 1, i, n, g => if cf_by x y i = 0 then cf_s x y f (i + Int32.ofInt 1) n g else cf_s x y f (i + Int32.ofInt 1) (n + 1) (upd g n (cf_by x y i).toInt8.toInt32)
def cf_feed (x y : Int64) (n : Nat) (g : Nat → Int32) : Int32 × Nat × (Nat → Int32) := match cf_c x y 16 (nI 0) 0 with
  | none => (Int32.ofInt (-1), n, g)
  | some _ => (nI (cf_s x y 16 (nI 0) n g).1, cf_s x y 16 (nI 0) n g)
theorem cf_c_le (x y : Int64) : ∀ (f : Nat) (i : Int32) (n r : Nat), cf_c x y f i n = some r → r ≤ n + f := by
  intro f
  induction f with
  | zero => intro i n r h; cases h; exact Nat.le_refl _
  | succ f ih =>
    intro i n r h
    simp only [cf_c] at h
    split at h
    · have := ih _ _ _ h; omega
    · split at h
      · have := ih _ _ _ h; omega
      · cases h
theorem cf_s_le (x y : Int64) : ∀ (f : Nat) (i : Int32) (n : Nat) (g : Nat → Int32), (cf_s x y f i n g).1 ≤ n + f := by
  intro f
  induction f with
  | zero => intro i n g; exact Nat.le_refl _
  | succ f ih =>
    intro i n g
    simp only [cf_s]
    split
    · have := ih (i + Int32.ofInt 1) n g; omega
    · have := ih (i + Int32.ofInt 1) (n + 1) (upd g n (cf_by x y i).toInt8.toInt32); omega
section R40
variable {l : Launch} {d : Nat} {ex : Nat → Nat} {B : Nat} {dA : Nat → ClassId} {D : va_G} {cl : List vw_C} {tys : List (ClassId × FieldType)} {E : State → Prop} {cL : Nat}
def yC_fedByte : MethodName := ⟨"LinkedTongue", "fedByte", "(JJI)I"⟩
abbrev cC_fedByte : Cond := .code yC_fedByte prog_1_method_3_code 5 (some .int)
theorem mC_fedByte : cC_fedByte ∈ pm_tb := (pm_mem 849 (by decide +kernel) (by decide +kernel))
def yC_isSign : MethodName := ⟨"LinkedTongue", "isSign", "(I)Z"⟩
abbrev cC_isSign : Cond := .code yC_isSign prog_1_method_4_code 1 (some .boolean)
theorem mC_isSign : cC_isSign ∈ pm_tb := (pm_mem 852 (by decide +kernel) (by decide +kernel))
theorem cc_fedByte (x y : Int64) (i : Int32) (h : pm_H) : pm_Con l yC_fedByte (cC_fedByte :: pm_tb) d ex B dA D cl tys E [.long x, .long y, .int i] h (.inl (some (.int (cf_by x y i)))) h := by
  refine pm_Con_ofW (cc := prog_1_method_3_code) (maxL := 5) (ret := (some .int)) (hh := []) (by decide) (Or.inl rfl) (Nat.le_of_ble_eq_true rfl) ?_
  intro p e s m below meth c hx hb hr hlocks hml hmt hcd hnm hts hz hK hE
  refine pm_iload (i := 4) hx hb (by decide +kernel) rfl ?_
  refine pm_bipush (n := 8) hx hb (by decide +kernel) ?_
  refine pm_icmp_ge (off := 21) (tgt := 25) hx hb (by decide +kernel) (by decide) (fun c1 => ?_) (fun c1 => ?_)
  · refine pm_lload_n (n := 2) hx hb (by decide +kernel) rfl rfl ?_
    refine pm_bipush (n := 120) hx hb (by decide +kernel) ?_
    refine pm_bipush (n := 8) hx hb (by decide +kernel) ?_
    refine pm_iload (i := 4) hx hb (by decide +kernel) rfl ?_
    refine pm_imul  hx hb (by decide +kernel) ?_
    refine pm_isub  hx hb (by decide +kernel) ?_
    refine pm_lushr  hx hb (by decide +kernel) ?_
    refine pm_l2i  hx hb (by decide +kernel) ?_
    refine pm_sipush (n := 255) hx hb (by decide +kernel) ?_
    refine pm_iand  hx hb (by decide +kernel) ?_
    exact pm_ret_i hx hb hlocks hr (by unfold cf_by; rw [if_pos c1]) (by decide +kernel)
  · refine pm_lload_n (n := 0) hx hb (by decide +kernel) rfl rfl ?_
    refine pm_bipush (n := 56) hx hb (by decide +kernel) ?_
    refine pm_bipush (n := 8) hx hb (by decide +kernel) ?_
    refine pm_iload (i := 4) hx hb (by decide +kernel) rfl ?_
    refine pm_imul  hx hb (by decide +kernel) ?_
    refine pm_isub  hx hb (by decide +kernel) ?_
    refine pm_lushr  hx hb (by decide +kernel) ?_
    refine pm_l2i  hx hb (by decide +kernel) ?_
    refine pm_sipush (n := 255) hx hb (by decide +kernel) ?_
    refine pm_iand  hx hb (by decide +kernel) ?_
    refine pm_goto (off := 18) (tgt := 40) hx hb (by decide +kernel) (by decide) ?_
    exact pm_ret_i hx hb hlocks hr (by unfold cf_by; rw [if_neg c1]) (by decide +kernel)
theorem cc_isSign (x : Int32) (h : pm_H) : pm_Con l yC_isSign (cC_isSign :: pm_tb) d ex B dA D cl tys E [.int x] h (.inl (some (.int (if cf_sg x = true then 1 else 0)))) h := by
  refine pm_Con_ofW (cc := prog_1_method_4_code) (maxL := 1) (ret := (some .boolean)) (hh := []) (by decide) (Or.inl rfl) (Nat.le_of_ble_eq_true rfl) ?_
  intro p e s m below meth c hx hb hr hlocks hml hmt hcd hnm hts hz hK hE
  have yes : ∀ L : pm_L, cf_sg x = true → pm_W p l e (pm_room d h h) s m (List.map (pm_v ex B) [.int x]).toArray below meth c (pm_MQ below (pm_QcO ex B dA D cl (.inl (some (.int (if cf_sg x = true then 1 else 0)))) h) (List.map (pm_v ex B) [.int x]).toArray s (h.length - h.length) (pm_sz h - pm_sz h) (fun q => B ≤ q)) ex B dA D cl 1 h.length (pm_sz h) 18 L [] h := by
    intro L q
    refine pm_iconst (n := 1) hx hb (by decide +kernel) ?_
    refine pm_goto (off := 4) (tgt := 23) hx hb (by decide +kernel) (by decide) ?_
    exact pm_ret_z hx hb hlocks hr rfl (by rw [if_pos q]; rfl) (by decide +kernel)
  have no : ∀ L : pm_L, cf_sg x = false → pm_W p l e (pm_room d h h) s m (List.map (pm_v ex B) [.int x]).toArray below meth c (pm_MQ below (pm_QcO ex B dA D cl (.inl (some (.int (if cf_sg x = true then 1 else 0)))) h) (List.map (pm_v ex B) [.int x]).toArray s (h.length - h.length) (pm_sz h - pm_sz h) (fun q => B ≤ q)) ex B dA D cl 1 h.length (pm_sz h) 22 L [] h := by
    intro L q
    refine pm_iconst (n := 0) hx hb (by decide +kernel) ?_
    exact pm_ret_z hx hb hlocks hr rfl (by rw [q]; rfl) (by decide +kernel)
  refine pm_iload_n (n := 0) hx hb (by decide +kernel) rfl rfl ?_
  refine pm_bipush (n := 10) hx hb (by decide +kernel) ?_
  refine pm_icmp_eq (off := 15) (tgt := 18) hx hb (by decide +kernel) (by decide) (fun c1 => yes _ (by unfold cf_sg; rw [decide_eq_true c1]; rfl)) (fun c1 => ?_)
  refine pm_iload_n (n := 0) hx hb (by decide +kernel) rfl rfl ?_
  refine pm_bipush (n := 32) hx hb (by decide +kernel) ?_
  refine pm_icmp_lt (off := 13) (tgt := 22) hx hb (by decide +kernel) (by decide) (fun c2 => no _ (by unfold cf_sg; rw [decide_eq_false c1, decide_eq_true c2]; rfl)) (fun c2 => ?_)
  refine pm_iload_n (n := 0) hx hb (by decide +kernel) rfl rfl ?_
  refine pm_bipush (n := 126) hx hb (by decide +kernel) ?_
  refine pm_icmp_gt (off := 7) (tgt := 22) hx hb (by decide +kernel) (by decide) (fun c3 => no _ (by unfold cf_sg; rw [decide_eq_false c1, decide_eq_false c2, decide_eq_true c3]; rfl)) (fun c3 => yes _ (by unfold cf_sg; rw [decide_eq_false c1, decide_eq_false c2, decide_eq_false c3]; rfl))
def yC_feed : MethodName := ⟨"LinkedTongue", "feed", "(JJ)I"⟩
abbrev cC_feed : Cond := .code yC_feed prog_1_method_2_code 8 (some .int)
theorem mC_feed : cC_feed ∈ pm_tb := (pm_mem 846 (by decide +kernel) (by decide +kernel))
set_option maxHeartbeats 2000000 in
theorem cc_feed (hEok : pm_Ok B E) (hcL : cl[cL]? = some ("LinkedTongue", TC_10, 11)) {o a t N n : Nat} {σ : Nat → Value} {g : Nat → Int32} (t0 : Nat) (x y : Int64) (h0 : pm_H) (hnd : pm_nd h0 [(o, .inr (cL, cF σ)), (a, .inl (t, .inl (N, g)))]) (hty : tys[t0]? = some (dA t, .byte)) (hT : σ 1 = .int (nI n)) (hA : σ 0 = .ref a) (hN : n + 16 ≤ N) (hN2 : N ≤ 65536) : pm_Con l yC_feed (cC_feed :: pm_tb) (d + 1) ex B dA D cl tys E [.ref o, .long x, .long y] (pm_put h0 [(o, .inr (cL, cF σ)), (a, .inl (t, .inl (N, g)))]) (.inl (some (.int (cf_feed x y n g).1))) (pm_put h0 [(o, .inr (cL, cF (va_up σ 1 (.int (nI (cf_feed x y n g).2.1))))), (a, .inl (t, .inl (N, (cf_feed x y n g).2.2)))]) := by
  refine pm_Con_ofW (cc := prog_1_method_2_code) (maxL := 8) (ret := (some .int)) (hh := []) (by decide) (Or.inl rfl) (Nat.le_of_ble_eq_true rfl) ?_
  intro p e s m below meth c hx hb hr hlocks hml hmt hcd hnm hts hz hK hE
  have hown : s.vm.findClass "LinkedTongue" = some m.cls := findClass_of_methodNamed hnm
  generalize hR : (List.map (pm_v ex B) [Value.ref o, .long x, .long y]).toArray = aa at *
  generalize hTT : (cf_feed x y n g).1 = TT
  generalize hHH : pm_put h0 [(o, .inr (cL, cF (va_up σ 1 (.int (nI (cf_feed x y n g).2.1))))), (a, .inl (t, .inl (N, (cf_feed x y n g).2.2)))] = HH
  generalize hH1 : pm_put h0 [(o, .inr (cL, cF σ)), (a, .inl (t, .inl (N, g)))] = H1 at *
  have loop2 : ∀ (f : Nat), f ≤ 16 → ∀ (n1 : Nat) (g1 : Nat → Int32) (σ1 : Nat → Value) (L : pm_L), n1 + f ≤ N → pm_nd h0 [(o, .inr (cL, cF σ1)), (a, .inl (t, .inl (N, g1)))] → σ1 1 = .int (nI n1) → σ1 0 = .ref a → pm_get L 0 = some (.ref o) → pm_get L 1 = some (.long x) → pm_get L 3 = some (.long y) → pm_get L 6 = some (.int (nI (16 - f))) →
      HH = pm_put h0 [(o, .inr (cL, cF (va_up σ1 1 (.int (nI (cf_s x y f (nI (16 - f)) n1 g1).1))))), (a, .inl (t, .inl (N, (cf_s x y f (nI (16 - f)) n1 g1).2)))] → TT = nI (cf_s x y f (nI (16 - f)) n1 g1).1 →
      pm_W p l e (pm_room (d + 1) H1 HH) s m aa below meth c (pm_MQ below (pm_QcO ex B dA D cl (.inl (some (.int TT))) HH) aa s (HH.length - H1.length) (pm_sz HH - pm_sz H1) (fun q => B ≤ q)) ex B dA D cl 8 H1.length (pm_sz H1) 96 L [] (pm_put h0 [(o, .inr (cL, cF σ1)), (a, .inl (t, .inl (N, g1)))]) := by
    intro f
    induction f with
    | zero =>
      intro _ n1 g1 σ1 L hn1 hnd hT hA hL0 hL1 hL3 hL6 hsp htt
      refine pm_iload (i := 6) hx hb (by decide +kernel) hL6 ?_
      refine pm_bipush (n := 16) hx hb (by decide +kernel) ?_
      refine pm_icmp_ge (off := 45) (tgt := 145) hx hb (by decide +kernel) (by decide) (fun c1 => ?_) (fun c1 => absurd (by decide) c1)
      refine pm_aload_n (n := 0) hx hb (by decide +kernel) rfl hL0 rfl ?_
      refine pm_getf (own := "LinkedTongue") (ref := "LinkedTongue") (C := "LinkedTongue") (T := TC_10) (N := 11) (index := 98) (k0 := 1) (v := .int (nI n1)) hx hb hts hown hK inL hcL (by decide) (hts _ (List.mem_cons_of_mem _ (pm_mem 810 (by decide +kernel) (by decide +kernel)))) (fun _ q => q) (pm_put_get hnd 0 rfl) (by rw [cF_get _ (by decide), hT]) (by decide +kernel) ?_
      exact pm_ret_i hx hb hlocks hr (by rw [hsp, htt]; show (Sum.inl (some (Value.int (nI n1))), pm_put h0 [(o, .inr (cL, cF (va_up σ1 1 (.int (nI n1))))), (a, .inl (t, .inl (N, g1)))]) = _; rw [va_up_same _ _ _ hT]) (by decide +kernel)
    | succ f ih =>
      intro hf n1 g1 σ1 L hn1 hnd hT hA hL0 hL1 hL3 hL6 hsp htt
      have hlen1 : (pm_put h0 [(o, .inr (cL, cF σ1)), (a, .inl (t, .inl (N, g1)))] : pm_H).length = H1.length := by rw [← hH1, pm_put_length, pm_put_length]
      have hsz1 : pm_sz (pm_put h0 [(o, .inr (cL, cF σ1)), (a, .inl (t, .inl (N, g1)))]) = pm_sz H1 := by rw [← hH1]; exact pm_put_sz (by simp [pm_n, cF_len]) hnd
      have hk1 : nI (16 - (f + 1)) + Int32.ofInt 1 = nI (16 - f) := by rw [show Int32.ofInt 1 = 1 from rfl, nI_1]; congr 1; omega
      have hk2 : ¬ (Int8.ofInt 16).toInt32 ≤ nI (16 - (f + 1)) := by rw [show (Int8.ofInt 16).toInt32 = nI 16 by decide]; exact nI_ge (by omega) (by decide)
      generalize nI (16 - (f + 1)) = kk at *
      refine pm_iload (i := 6) hx hb (by decide +kernel) hL6 ?_
      refine pm_bipush (n := 16) hx hb (by decide +kernel) ?_
      refine pm_icmp_ge (off := 45) (tgt := 145) hx hb (by decide +kernel) (by decide) (fun c1 => absurd c1 hk2) (fun c1 => ?_)
      refine pm_lload_n (n := 1) hx hb (by decide +kernel) rfl hL1 ?_
      refine pm_lload_n (n := 3) hx hb (by decide +kernel) rfl hL3 ?_
      refine pm_iload (i := 6) hx hb (by decide +kernel) hL6 ?_
      refine pm_cS (As := [_, _, _]) (own := "LinkedTongue") (index := 90) (hh := []) (d := d) hx hb hml hown hK hE hEok hz (Nat.le_of_eq hlen1.symm) (Nat.le_of_eq hsz1.symm) (Nat.le_refl _) (Nat.le_refl _) (cc_fedByte (d := d) x y kk _) (pm_hws hts mC_fedByte) (Or.inl List.mem_cons_self) (hts _ (List.mem_cons_of_mem _ (pm_mem 1 (by decide +kernel) (by decide +kernel)))) (Or.inl (hts _ (List.mem_cons_of_mem _ (pm_mem 847 (by decide +kernel) (by decide +kernel))))) (hts _ (List.mem_cons_of_mem _ (pm_mem 848 (by decide +kernel) (by decide +kernel)))) (Cond.code_named (hts _ (List.mem_cons_of_mem _ mC_fedByte))) (by decide +kernel) (pm_arity (n := 3) (by decide +kernel)) (by decide) (by rw [hlen1, Nat.sub_self]; exact Nat.zero_le _) (by rw [hsz1, Nat.sub_self]; exact Nat.zero_le _) (Nat.le_refl _) (by show 8 + (5 + 11) + d * 60 ≤ (d + 1) * 60; omega) (by decide +kernel) ?_
      refine pm_top (cf_by x y kk) (fun xb exb => ?_)
      refine pm_istore (i := 7) hx hb (by decide +kernel) (by decide) ?_
      have hM0 := pm_gn1 (i := 7) (v := .int xb) hL0 (by decide) (Or.inl (by decide))
      have hM1 := pm_gn1 (i := 7) (v := .int xb) hL1 (by decide) (Or.inl (by decide))
      have hM3 := pm_gn1 (i := 7) (v := .int xb) hL3 (by decide) (Or.inl (by decide))
      have hM6 := pm_gn1 (i := 7) (v := .int xb) hL6 (by decide) (Or.inr rfl)
      have hM7 := pm_gs1 7 (.int xb) L
      generalize pm_st1 7 (.int xb) L = L7 at *
      refine pm_iload (i := 7) hx hb (by decide +kernel) hM7 ?_
      refine pm_if_eq (off := 25) (tgt := 139) hx hb (by decide +kernel) (by decide) (fun c2 => ?_) (fun c2 => ?_)
      · refine pm_iinc (i := 6) (n := 1) hx hb (by decide +kernel) hM6 (by decide) ?_
        refine pm_goto (off := -46) (tgt := 96) hx hb (by decide +kernel) (by decide) ?_
        refine ih (by omega) n1 g1 σ1 _ (by omega) hnd hT hA (pm_gn1 hM0 (by decide) (Or.inl (by decide))) (pm_gn1 hM1 (by decide) (Or.inl (by decide))) (pm_gn1 hM3 (by decide) (Or.inl (by decide))) (by rw [← hk1]; exact pm_gs1 _ _ _) ?_ ?_
        · rw [hsp, ← hk1]
          simp only [cf_s]
          rw [← exb, if_pos c2]
        · rw [htt, ← hk1]
          simp only [cf_s]
          rw [← exb, if_pos c2]
      · have hO := pm_put_get hnd 0 rfl
        have hAr := pm_put_get hnd 1 rfl
        refine pm_aload_n (n := 0) hx hb (by decide +kernel) rfl hM0 rfl ?_
        refine pm_getf (own := "LinkedTongue") (ref := "LinkedTongue") (C := "LinkedTongue") (T := TC_10) (N := 11) (index := 7) (k0 := 0) (v := .ref a) hx hb hts hown hK inL hcL (by decide) (hts _ (List.mem_cons_of_mem _ (pm_mem 809 (by decide +kernel) (by decide +kernel)))) (fun _ q => q) hO (by rw [cF_get _ (by decide), hA]) (by decide +kernel) ?_
        refine pm_aload_n (n := 0) hx hb (by decide +kernel) rfl hM0 rfl ?_
        refine pm_getf (own := "LinkedTongue") (ref := "LinkedTongue") (C := "LinkedTongue") (T := TC_10) (N := 11) (index := 98) (k0 := 1) (v := .int (nI n1)) hx hb hts hown hK inL hcL (by decide) (hts _ (List.mem_cons_of_mem _ (pm_mem 810 (by decide +kernel) (by decide +kernel)))) (fun _ q => q) hO (by rw [cF_get _ (by decide), hT]) (by decide +kernel) ?_
        refine pm_iload (i := 7) hx hb (by decide +kernel) hM7 ?_
        refine pm_i2b  hx hb (by decide +kernel) ?_
        refine pm_bast hx hb hK t0 hAr hty (vp_in_nI (by omega) (by omega)) (by decide +kernel) ?_
        rw [pm_put_set hnd 1 rfl, nI_clamp (by omega), pk_vb]
        have hnd2 := pm_nd_set (y := .inl (t, .inl (N, upd g1 n1 xb.toInt8.toInt32))) hnd 1 rfl
        simp only [List.set_cons_zero, List.set_cons_succ] at hnd2 ⊢
        have hO2 := pm_put_get hnd2 0 rfl
        refine pm_aload_n (n := 0) hx hb (by decide +kernel) rfl hM0 rfl ?_
        refine pm_dup hx hb (by decide +kernel) rfl ?_
        refine pm_getf (own := "LinkedTongue") (ref := "LinkedTongue") (C := "LinkedTongue") (T := TC_10) (N := 11) (index := 98) (k0 := 1) (v := .int (nI n1)) hx hb hts hown hK inL hcL (by decide) (hts _ (List.mem_cons_of_mem _ (pm_mem 810 (by decide +kernel) (by decide +kernel)))) (fun _ q => q) hO2 (by rw [cF_get _ (by decide), hT]) (by decide +kernel) ?_
        refine pm_iconst (n := 1) hx hb (by decide +kernel) ?_
        refine pm_iadd  hx hb (by decide +kernel) ?_
        refine pm_putf (own := "LinkedTongue") (ref := "LinkedTongue") (C := "LinkedTongue") (T := TC_10) (N := 11) (index := 98) (k0 := 1) (ty := .int) hx hb hts hown hK inL tC_10 tC_10_ok nC_10 hcL (by decide) (hts _ (List.mem_cons_of_mem _ (pm_mem 810 (by decide +kernel) (by decide +kernel)))) (fun _ q => q) rfl (by decide +kernel) rfl rfl hO2 (by rw [cF_len]; decide) (by decide +kernel) ?_
        rw [cF_set, pm_put_set hnd2 0 rfl, show nI n1 + Int32.ofInt 1 = nI (n1 + 1) from nI_1 n1]
        have hnd3 := pm_nd_set (y := .inr (cL, cF (va_up σ1 1 (.int (nI (n1 + 1)))))) hnd2 0 rfl
        simp only [List.set_cons_zero, List.set_cons_succ] at hnd3 ⊢
        refine pm_iinc (i := 6) (n := 1) hx hb (by decide +kernel) hM6 (by decide) ?_
        refine pm_goto (off := -46) (tgt := 96) hx hb (by decide +kernel) (by decide) ?_
        refine ih (by omega) (n1 + 1) _ (va_up σ1 1 (.int (nI (n1 + 1)))) _ (by omega) hnd3 (va_up_self _ _ _) (by rw [va_up_ne _ _ (by decide)]; exact hA) (pm_gn1 hM0 (by decide) (Or.inl (by decide))) (pm_gn1 hM1 (by decide) (Or.inl (by decide))) (pm_gn1 hM3 (by decide) (Or.inl (by decide))) (by rw [← hk1]; exact pm_gs1 _ _ _) ?_ ?_
        · rw [hsp, ← hk1, bx_uu]
          simp only [cf_s]
          rw [← exb, if_neg c2]
        · rw [htt, ← hk1]
          simp only [cf_s]
          rw [← exb, if_neg c2]
  have loop1 : ∀ (f : Nat), f ≤ 16 → ∀ (q : Nat) (L : pm_L), pm_get L 0 = some (.ref o) → pm_get L 1 = some (.long x) → pm_get L 3 = some (.long y) → pm_get L 5 = some (.int (nI q)) → pm_get L 6 = some (.int (nI (16 - f))) →
      (cf_c x y f (nI (16 - f)) q = none → HH = H1 ∧ TT = Int32.ofInt (-1)) →
      (∀ (r : Nat) (L2 : pm_L), cf_c x y f (nI (16 - f)) q = some r → pm_get L2 0 = some (.ref o) → pm_get L2 1 = some (.long x) → pm_get L2 3 = some (.long y) → pm_get L2 5 = some (.int (nI r)) → pm_W p l e (pm_room (d + 1) H1 HH) s m aa below meth c (pm_MQ below (pm_QcO ex B dA D cl (.inl (some (.int TT))) HH) aa s (HH.length - H1.length) (pm_sz HH - pm_sz H1) (fun q => B ≤ q)) ex B dA D cl 8 H1.length (pm_sz H1) 46 L2 [] H1) →
      pm_W p l e (pm_room (d + 1) H1 HH) s m aa below meth c (pm_MQ below (pm_QcO ex B dA D cl (.inl (some (.int TT))) HH) aa s (HH.length - H1.length) (pm_sz HH - pm_sz H1) (fun q => B ≤ q)) ex B dA D cl 8 H1.length (pm_sz H1) 6 L [] H1 := by
    intro f
    induction f with
    | zero =>
      intro _ q L hL0 hL1 hL3 hL5 hL6 _ hgood
      refine pm_iload (i := 6) hx hb (by decide +kernel) hL6 ?_
      refine pm_bipush (n := 16) hx hb (by decide +kernel) ?_
      refine pm_icmp_ge (off := 36) (tgt := 46) hx hb (by decide +kernel) (by decide) (fun c1 => hgood q L rfl hL0 hL1 hL3 hL5) (fun c1 => absurd (by decide) c1)
    | succ f ih =>
      intro hf q L hL0 hL1 hL3 hL5 hL6 hbad hgood
      have hk1 : nI (16 - (f + 1)) + Int32.ofInt 1 = nI (16 - f) := by rw [show Int32.ofInt 1 = 1 from rfl, nI_1]; congr 1; omega
      have hk2 : ¬ (Int8.ofInt 16).toInt32 ≤ nI (16 - (f + 1)) := by rw [show (Int8.ofInt 16).toInt32 = nI 16 by decide]; exact nI_ge (by omega) (by decide)
      generalize nI (16 - (f + 1)) = kk at *
      have hs : cf_c x y (f + 1) kk q = if cf_by x y kk = 0 then cf_c x y f (kk + Int32.ofInt 1) q else if cf_sg (cf_by x y kk) = true then cf_c x y f (kk + Int32.ofInt 1) (q + 1) else none := rfl
      rw [hk1] at hs
      refine pm_iload (i := 6) hx hb (by decide +kernel) hL6 ?_
      refine pm_bipush (n := 16) hx hb (by decide +kernel) ?_
      refine pm_icmp_ge (off := 36) (tgt := 46) hx hb (by decide +kernel) (by decide) (fun c1 => absurd c1 hk2) (fun c1 => ?_)
      refine pm_lload_n (n := 1) hx hb (by decide +kernel) rfl hL1 ?_
      refine pm_lload_n (n := 3) hx hb (by decide +kernel) rfl hL3 ?_
      refine pm_iload (i := 6) hx hb (by decide +kernel) hL6 ?_
      refine pm_cS (As := [_, _, _]) (own := "LinkedTongue") (index := 90) (hh := []) (d := d) hx hb hml hown hK hE hEok hz (Nat.le_refl _) (Nat.le_refl _) (Nat.le_refl _) (Nat.le_refl _) (cc_fedByte (d := d) x y kk _) (pm_hws hts mC_fedByte) (Or.inl List.mem_cons_self) (hts _ (List.mem_cons_of_mem _ (pm_mem 1 (by decide +kernel) (by decide +kernel)))) (Or.inl (hts _ (List.mem_cons_of_mem _ (pm_mem 847 (by decide +kernel) (by decide +kernel))))) (hts _ (List.mem_cons_of_mem _ (pm_mem 848 (by decide +kernel) (by decide +kernel)))) (Cond.code_named (hts _ (List.mem_cons_of_mem _ mC_fedByte))) (by decide +kernel) (pm_arity (n := 3) (by decide +kernel)) (by decide) (by rw [Nat.sub_self]; exact Nat.zero_le _) (by rw [Nat.sub_self]; exact Nat.zero_le _) (Nat.le_refl _) (by show 8 + (5 + 11) + d * 60 ≤ (d + 1) * 60; omega) (by decide +kernel) ?_
      refine pm_top (cf_by x y kk) (fun xb exb => ?_)
      rw [← exb] at hs
      refine pm_istore (i := 7) hx hb (by decide +kernel) (by decide) ?_
      have hM0 := pm_gn1 (i := 7) (v := .int xb) hL0 (by decide) (Or.inl (by decide))
      have hM1 := pm_gn1 (i := 7) (v := .int xb) hL1 (by decide) (Or.inl (by decide))
      have hM3 := pm_gn1 (i := 7) (v := .int xb) hL3 (by decide) (Or.inl (by decide))
      have hM5 := pm_gn1 (i := 7) (v := .int xb) hL5 (by decide) (Or.inl (by decide))
      have hM6 := pm_gn1 (i := 7) (v := .int xb) hL6 (by decide) (Or.inr rfl)
      have hM7 := pm_gs1 7 (.int xb) L
      generalize pm_st1 7 (.int xb) L = L7 at *
      refine pm_iload (i := 7) hx hb (by decide +kernel) hM7 ?_
      refine pm_if_eq (off := 16) (tgt := 40) hx hb (by decide +kernel) (by decide) (fun c2 => ?_) (fun c2 => ?_)
      · rw [if_pos c2] at hs
        refine pm_iinc (i := 6) (n := 1) hx hb (by decide +kernel) hM6 (by decide) ?_
        refine pm_goto (off := -37) (tgt := 6) hx hb (by decide +kernel) (by decide) ?_
        exact ih (by omega) q _ (pm_gn1 hM0 (by decide) (Or.inl (by decide))) (pm_gn1 hM1 (by decide) (Or.inl (by decide))) (pm_gn1 hM3 (by decide) (Or.inl (by decide))) (pm_gn1 hM5 (by decide) (Or.inr rfl)) (by rw [← hk1]; exact pm_gs1 _ _ _) (fun z => hbad (by rw [hs]; exact z)) (fun r L2 z => hgood r L2 (by rw [hs]; exact z))
      · rw [if_neg c2] at hs
        refine pm_iload (i := 7) hx hb (by decide +kernel) hM7 ?_
        refine pm_cS (As := [_]) (own := "LinkedTongue") (index := 94) (hh := []) (d := d) hx hb hml hown hK hE hEok hz (Nat.le_refl _) (Nat.le_refl _) (Nat.le_refl _) (Nat.le_refl _) (cc_isSign (d := d) xb _) (pm_hws hts mC_isSign) (Or.inl List.mem_cons_self) (hts _ (List.mem_cons_of_mem _ (pm_mem 1 (by decide +kernel) (by decide +kernel)))) (Or.inl (hts _ (List.mem_cons_of_mem _ (pm_mem 850 (by decide +kernel) (by decide +kernel))))) (hts _ (List.mem_cons_of_mem _ (pm_mem 851 (by decide +kernel) (by decide +kernel)))) (Cond.code_named (hts _ (List.mem_cons_of_mem _ mC_isSign))) (by decide +kernel) (pm_arity (n := 1) (by decide +kernel)) (by decide) (by rw [Nat.sub_self]; exact Nat.zero_le _) (by rw [Nat.sub_self]; exact Nat.zero_le _) (Nat.le_refl _) (by show 8 + (1 + 11) + d * 60 ≤ (d + 1) * 60; omega) (by decide +kernel) ?_
        refine pm_if_ne (off := 5) (tgt := 37) hx hb (by decide +kernel) (by decide) (fun c3 => ?_) (fun c3 => ?_)
        · have hg : cf_sg xb = true := by
            cases hq : cf_sg xb with
            | true => rfl
            | false => rw [hq] at c3; exact absurd rfl c3
          rw [if_pos hg] at hs
          refine pm_iinc (i := 5) (n := 1) hx hb (by decide +kernel) hM5 (by decide) ?_
          rw [show nI q + Int32.ofInt 1 = nI (q + 1) from nI_1 q]
          have hN0 := pm_gn1 (i := 5) (v := .int (nI (q + 1))) hM0 (by decide) (Or.inl (by decide))
          have hN1 := pm_gn1 (i := 5) (v := .int (nI (q + 1))) hM1 (by decide) (Or.inl (by decide))
          have hN3 := pm_gn1 (i := 5) (v := .int (nI (q + 1))) hM3 (by decide) (Or.inl (by decide))
          have hN6 := pm_gn1 (i := 5) (v := .int (nI (q + 1))) hM6 (by decide) (Or.inl (by decide))
          have hN5 := pm_gs1 5 (.int (nI (q + 1))) L7
          generalize pm_st1 5 (.int (nI (q + 1))) L7 = L8 at *
          refine pm_iinc (i := 6) (n := 1) hx hb (by decide +kernel) hN6 (by decide) ?_
          refine pm_goto (off := -37) (tgt := 6) hx hb (by decide +kernel) (by decide) ?_
          exact ih (by omega) (q + 1) _ (pm_gn1 hN0 (by decide) (Or.inl (by decide))) (pm_gn1 hN1 (by decide) (Or.inl (by decide))) (pm_gn1 hN3 (by decide) (Or.inl (by decide))) (pm_gn1 hN5 (by decide) (Or.inr rfl)) (by rw [← hk1]; exact pm_gs1 _ _ _) (fun z => hbad (by rw [hs]; exact z)) (fun r L2 z => hgood r L2 (by rw [hs]; exact z))
        · have hg : ¬ cf_sg xb = true := by
            intro hq
            rw [if_pos hq] at c3
            exact absurd c3 (by decide)
          rw [if_neg hg] at hs
          obtain ⟨e1, e2⟩ := hbad hs
          refine pm_iconst (n := -1) hx hb (by decide +kernel) ?_
          exact pm_ret_i hx hb hlocks hr (by rw [e1, e2]) (by decide +kernel)
  refine pm_iconst (n := 0) hx hb (by decide +kernel) ?_
  refine pm_istore (i := 5) hx hb (by decide +kernel) (by decide) ?_
  refine pm_iconst (n := 0) hx hb (by decide +kernel) ?_
  refine pm_istore (i := 6) hx hb (by decide +kernel) (by decide) ?_
  refine loop1 16 (Nat.le_refl _) 0 _ rfl rfl rfl rfl rfl (fun z => ?_) (fun r L2 z hL0 hL1 hL3 hL5 => ?_)
  · have hz1 : cf_feed x y n g = (Int32.ofInt (-1), n, g) := by
      unfold cf_feed
      rw [show cf_c x y 16 (nI 0) 0 = none from z]
    rw [hz1] at hTT hHH
    refine ⟨?_, hTT.symm⟩
    rw [← hHH, ← hH1]
    show pm_put h0 [(o, .inr (cL, cF (va_up σ 1 (.int (nI n))))), (a, .inl (t, .inl (N, g)))] = _
    rw [va_up_same _ _ _ hT]
  · have hz1 : cf_feed x y n g = (nI (cf_s x y 16 (nI 0) n g).1, cf_s x y 16 (nI 0) n g) := by
      unfold cf_feed
      rw [show cf_c x y 16 (nI 0) 0 = some r from z]
    have hr0 := cf_c_le x y 16 _ _ _ z
    rw [hz1] at hTT hHH
    subst hH1
    have hO := pm_put_get hnd 0 rfl
    have hAr := pm_put_get hnd 1 rfl
    refine pm_aload_n (n := 0) hx hb (by decide +kernel) rfl hL0 rfl ?_
    refine pm_getf (own := "LinkedTongue") (ref := "LinkedTongue") (C := "LinkedTongue") (T := TC_10) (N := 11) (index := 98) (k0 := 1) (v := .int (nI n)) hx hb hts hown hK inL hcL (by decide) (hts _ (List.mem_cons_of_mem _ (pm_mem 810 (by decide +kernel) (by decide +kernel)))) (fun _ q => q) hO (by rw [cF_get _ (by decide), hT]) (by decide +kernel) ?_
    refine pm_iload (i := 5) hx hb (by decide +kernel) hL5 ?_
    refine pm_iadd  hx hb (by decide +kernel) ?_
    refine pm_ldc (own := "LinkedTongue") (index := 102) (v := 65536) hx hb hown (hts _ (List.mem_cons_of_mem _ (pm_mem 853 (by decide +kernel) (by decide +kernel)))) (by decide +kernel) ?_
    rw [nI_add]
    refine pm_icmp_le (off := 5) (tgt := 60) hx hb (by decide +kernel) (by decide) (fun c4 => ?_) (fun c4 => absurd (by rw [show (65536 : Int32) = nI 65536 by decide]; exact nI_le (by omega) (by decide)) c4)
    refine pm_aload_n (n := 0) hx hb (by decide +kernel) rfl hL0 rfl ?_
    refine pm_getf (own := "LinkedTongue") (ref := "LinkedTongue") (C := "LinkedTongue") (T := TC_10) (N := 11) (index := 98) (k0 := 1) (v := .int (nI n)) hx hb hts hown hK inL hcL (by decide) (hts _ (List.mem_cons_of_mem _ (pm_mem 810 (by decide +kernel) (by decide +kernel)))) (fun _ q => q) hO (by rw [cF_get _ (by decide), hT]) (by decide +kernel) ?_
    refine pm_iload (i := 5) hx hb (by decide +kernel) hL5 ?_
    refine pm_iadd  hx hb (by decide +kernel) ?_
    rw [nI_add]
    refine pm_aload_n (n := 0) hx hb (by decide +kernel) rfl hL0 rfl ?_
    refine pm_getf (own := "LinkedTongue") (ref := "LinkedTongue") (C := "LinkedTongue") (T := TC_10) (N := 11) (index := 7) (k0 := 0) (v := .ref a) hx hb hts hown hK inL hcL (by decide) (hts _ (List.mem_cons_of_mem _ (pm_mem 809 (by decide +kernel) (by decide +kernel)))) (fun _ q => q) hO (by rw [cF_get _ (by decide), hA]) (by decide +kernel) ?_
    refine pm_alen hx hb hK t0 hAr hty (by decide +kernel) ?_
    refine pm_icmp_le (off := 21) (tgt := 93) hx hb (by decide +kernel) (by decide) (fun c5 => ?_) (fun c5 => absurd (show nI (n + r) ≤ nI N from nI_le (by omega) (by omega)) c5)
    refine pm_iconst (n := 0) hx hb (by decide +kernel) ?_
    refine pm_istore (i := 6) hx hb (by decide +kernel) (by decide) ?_
    exact loop2 16 (Nat.le_refl _) n g σ _ hN hnd hT hA (pm_gn1 hL0 (by decide) (Or.inl (by decide))) (pm_gn1 hL1 (by decide) (Or.inl (by decide))) (pm_gn1 hL3 (by decide) (Or.inl (by decide))) (pm_gs1 _ _ _) hHH.symm hTT.symm
end R40
