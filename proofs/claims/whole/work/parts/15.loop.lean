/-! PART 15: locals by facts; signsIn, a loop of the reference. -/
theorem pm_gs1 (i : Nat) (v : Value) (L : pm_L) : pm_get (pm_st1 i v L) i = some v := by simp [pm_get, pm_st1]
theorem pm_gs2 (i : Nat) (v : Value) (L : pm_L) : pm_get (pm_st2 i v L) i = some v := by simp [pm_get, pm_st2]
theorem pm_gn1 {i j : Nat} {v w : Value} {L : pm_L} (h : pm_get L j = some w) (hne : j ≠ i) (hc : j + 1 ≠ i ∨ w.category = 1) : pm_get (pm_st1 i v L) j = some w := by
  unfold pm_get pm_st1 at *
  rw [List.find?_cons_of_neg (by simpa using Ne.symm hne)]
  induction L with
  | nil => simp at h
  | cons q t ih =>
    by_cases hq : q.1 = j
    · rw [List.find?_cons_of_pos (by simpa using hq)] at h
      have h2 : q.2 = w := Option.some.inj h
      have hk : (!(q.1 == i) && !(q.1 + 1 == i && q.2.category == 2)) = true := by
        rw [hq, h2]
        rcases hc with hc | hc
        · simp [hne, hc]
        · simp [hne, hc]
      rw [List.filter_cons_of_pos (p := fun (q : Nat × Value) => !(q.1 == i) && !(q.1 + 1 == i && q.2.category == 2)) hk, List.find?_cons_of_pos (by simpa using hq)]
      exact h
    · rw [List.find?_cons_of_neg (by simpa using hq)] at h
      by_cases hk : (!(q.1 == i) && !(q.1 + 1 == i && q.2.category == 2)) = true
      · rw [List.filter_cons_of_pos (p := fun (q : Nat × Value) => !(q.1 == i) && !(q.1 + 1 == i && q.2.category == 2)) hk, List.find?_cons_of_neg (by simpa using hq)]
        exact ih h
      · rw [List.filter_cons_of_neg (p := fun (q : Nat × Value) => !(q.1 == i) && !(q.1 + 1 == i && q.2.category == 2)) hk]
        exact ih h
theorem pm_arity {y : String} {n : Nat} (h : (parseMethodDescriptor y).map (fun q => q.parameters.length) = some n) : ∀ sig, parseMethodDescriptor y = some sig → n = sig.parameters.length := fun sig hs => by
  rw [hs] at h
  exact (Option.some.inj h).symm
/-- a byte of a long -/
def rf_by (v : Int64) (k : Int32) : Int32 := ((v.toUInt64 >>> (k.toInt64.toUInt64 &&& Int64.toUInt64 63)).toInt64 &&& 255).toInt32
def rf_bad (x : Int32) : Bool := decide (¬ x = 0) && decide (¬ x = (Int8.ofInt 10).toInt32) && !(rf_in x.toInt64 32 126)
/-- the loop of signsIn: f turns more, at k, with n signs so far -/
def rf_sg (v : Int64) : Nat → Int32 → Int32 → Int32
  | 0, _, n => n
  | f + 1, k, n => if rf_bad (rf_by v k) then Int32.ofInt (-1) else rf_sg v f (k + Int32.ofInt 8) (n + if rf_by v k = 0 then Int32.ofInt 0 else Int32.ofInt 1)
section R15a
variable {p : Program} {l : Launch} {e : Env} {R : Room} {s : State} {m : MethodId} {args : Array Value} {below : List Frame} {meth : Method} {c : Code} {Q : State → Prop}
variable {ex : Nat → Nat} {B : Nat} {dA : Nat → ClassId} {D : va_G} {cl : List vw_C} {nL n0 z0 : Nat} {pc : Nat} {L : pm_L} {st : List Value} {h : pm_H}
theorem pm_top (x : Int32) (k : ∀ y : Int32, y = x → pm_W p l e R s m args below meth c Q ex B dA D cl nL n0 z0 pc L (.int y :: st) h) : pm_W p l e R s m args below meth c Q ex B dA D cl nL n0 z0 pc L (.int x :: st) h := k x rfl
end R15a
section R15
variable {l : Launch} {d : Nat} {ex : Nat → Nat} {B : Nat} {dA : Nat → ClassId} {D : va_G} {cl : List vw_C} {tys : List (ClassId × FieldType)} {E : State → Prop}
def yR_signsIn : MethodName := ⟨"LinkedTongueModel", "signsIn", "(J)I"⟩
abbrev cR_signsIn : Cond := .code yR_signsIn prog_13_method_4_code 5 (some .int)
theorem cr_signsIn (hEok : pm_Ok B E) (v : Int64) (h : pm_H) : pm_Con l yR_signsIn (cR_signsIn :: pm_tb) (d + 1) ex B dA D cl tys E [.long v] h (.inl (some (.int (rf_sg v 8 0 0)))) h := by
  refine pm_Con_ofW (cc := prog_13_method_4_code) (maxL := 5) (ret := (some .int)) (hh := []) (by decide) (Or.inl rfl) (Nat.le_of_ble_eq_true rfl) ?_
  intro p e s m below meth c hx hb hr hlocks hml hmt hcd hnm hts hz hK hE
  have hown : s.vm.findClass "LinkedTongueModel" = some m.cls := findClass_of_methodNamed hnm
  generalize hT0 : rf_sg v 8 0 0 = TT
  have loop : ∀ (f : Nat), f ≤ 8 → ∀ (n : Int32) (L : pm_L), pm_get L 0 = some (.long v) → pm_get L 2 = some (.int n) → pm_get L 3 = some (.int (nI (64 - 8 * f))) → TT = rf_sg v f (nI (64 - 8 * f)) n →
      pm_W p l e (pm_room (d + 1) h h) s m (List.map (pm_v ex B) [.long v]).toArray below meth c (pm_MQ below (pm_QcO ex B dA D cl (.inl (some (.int TT))) h) (List.map (pm_v ex B) [.long v]).toArray s (h.length - h.length) (pm_sz h - pm_sz h) (fun q => B ≤ q)) ex B dA D cl 5 h.length (pm_sz h) 4 L [] h := by
    intro f
    induction f with
    | zero =>
      intro _ n L hL0 hL2 hL3 hsp
      refine pm_iload_n (n := 3) hx hb (by decide +kernel) rfl hL3 ?_
      refine pm_bipush (n := 64) hx hb (by decide +kernel) ?_
      refine pm_icmp_ge (off := 61) (tgt := 68) hx hb (by decide +kernel) (by decide) (fun c1 => ?_) (fun c1 => absurd (by decide) c1)
      refine pm_iload_n (n := 2) hx hb (by decide +kernel) rfl hL2 ?_
      exact pm_ret_i hx hb hlocks hr (by rw [hsp]; rfl) (by decide +kernel)
    | succ f ih =>
      intro hf n L hL0 hL2 hL3 hsp
      have hk1 : nI (64 - 8 * (f + 1)) + Int32.ofInt 8 = nI (64 - 8 * f) := by
        rcases (show f = 0 ∨ f = 1 ∨ f = 2 ∨ f = 3 ∨ f = 4 ∨ f = 5 ∨ f = 6 ∨ f = 7 by omega) with rfl | rfl | rfl | rfl | rfl | rfl | rfl | rfl <;> decide
      have hk2 : ¬ ((Int8.ofInt 64).toInt32 ≤ nI (64 - 8 * (f + 1))) := by
        rcases (show f = 0 ∨ f = 1 ∨ f = 2 ∨ f = 3 ∨ f = 4 ∨ f = 5 ∨ f = 6 ∨ f = 7 by omega) with rfl | rfl | rfl | rfl | rfl | rfl | rfl | rfl <;> decide
      generalize nI (64 - 8 * (f + 1)) = kk at *
      refine pm_iload_n (n := 3) hx hb (by decide +kernel) rfl hL3 ?_
      refine pm_bipush (n := 64) hx hb (by decide +kernel) ?_
      refine pm_icmp_ge (off := 61) (tgt := 68) hx hb (by decide +kernel) (by decide) (fun c1 => absurd c1 hk2) (fun c1 => ?_)
      refine pm_lload_n (n := 0) hx hb (by decide +kernel) rfl hL0 ?_
      refine pm_iload_n (n := 3) hx hb (by decide +kernel) rfl hL3 ?_
      refine pm_lushr hx hb (by decide +kernel) ?_
      refine pm_ldc2 (own := "LinkedTongueModel") (index := 370) (v := 255) hx hb hown (hts _ (List.mem_cons_of_mem _ (pm_mem 2901 (by decide +kernel) (by decide +kernel)))) (by decide +kernel) ?_
      refine pm_land hx hb (by decide +kernel) ?_
      refine pm_l2i hx hb (by decide +kernel) ?_
      refine pm_top (rf_by v kk) (fun xb exb => ?_)
      refine pm_istore (i := 4) hx hb (by decide +kernel) (by decide) ?_
      refine pm_iload (i := 4) hx hb (by decide +kernel) (pm_gs1 _ _ _) ?_
      refine pm_if_eq (off := 27) (tgt := 49) hx hb (by decide +kernel) (by decide) (fun c1 => ?_) (fun c1 => ?_)
      · refine pm_iload_n (n := 2) hx hb (by decide +kernel) rfl (pm_gn1 hL2 (by decide) (Or.inl (by decide))) ?_
        refine pm_iload (i := 4) hx hb (by decide +kernel) (pm_gs1 _ _ _) ?_
        refine pm_if_ne (off := 7) (tgt := 59) hx hb (by decide +kernel) (by decide) (fun c2 => ?_) (fun c2 => ?_)
        · refine pm_iconst (n := 1) hx hb (by decide +kernel) ?_
          refine pm_iadd hx hb (by decide +kernel) ?_
          refine pm_istore_n (n := 2) (i := 2) hx hb (by decide +kernel) rfl (by decide) ?_
          refine pm_iinc (i := 3) (n := 8) hx hb (by decide +kernel) (pm_gn1 (pm_gn1 hL3 (by decide) (Or.inr rfl)) (by decide) (Or.inl (by decide))) (by decide) ?_
          refine pm_goto (off := -61) (tgt := 4) hx hb (by decide +kernel) (by decide) ?_
          refine ih (by omega) _ _ (pm_gn1 (pm_gn1 (pm_gn1 hL0 (by decide) (Or.inl (by decide))) (by decide) (Or.inl (by decide))) (by decide) (Or.inl (by decide))) (pm_gn1 (pm_gs1 _ _ _) (by decide) (Or.inr rfl)) (by rw [← hk1]; exact (pm_gs1 _ _ _)) ?_
          rw [hsp, ← hk1]
          simp only [rf_sg]
          rw [← exb]
          simp_all [rf_bad, pm_b]
        · refine pm_iconst (n := 0) hx hb (by decide +kernel) ?_
          refine pm_goto (off := 4) (tgt := 60) hx hb (by decide +kernel) (by decide) ?_
          refine pm_iadd hx hb (by decide +kernel) ?_
          refine pm_istore_n (n := 2) (i := 2) hx hb (by decide +kernel) rfl (by decide) ?_
          refine pm_iinc (i := 3) (n := 8) hx hb (by decide +kernel) (pm_gn1 (pm_gn1 hL3 (by decide) (Or.inr rfl)) (by decide) (Or.inl (by decide))) (by decide) ?_
          refine pm_goto (off := -61) (tgt := 4) hx hb (by decide +kernel) (by decide) ?_
          refine ih (by omega) _ _ (pm_gn1 (pm_gn1 (pm_gn1 hL0 (by decide) (Or.inl (by decide))) (by decide) (Or.inl (by decide))) (by decide) (Or.inl (by decide))) (pm_gn1 (pm_gs1 _ _ _) (by decide) (Or.inr rfl)) (by rw [← hk1]; exact (pm_gs1 _ _ _)) ?_
          rw [hsp, ← hk1]
          simp only [rf_sg]
          rw [← exb]
          simp_all [rf_bad, pm_b]
      · refine pm_iload (i := 4) hx hb (by decide +kernel) (pm_gs1 _ _ _) ?_
        refine pm_bipush (n := 10) hx hb (by decide +kernel) ?_
        refine pm_icmp_eq (off := 20) (tgt := 49) hx hb (by decide +kernel) (by decide) (fun c3 => ?_) (fun c3 => ?_)
        · refine pm_iload_n (n := 2) hx hb (by decide +kernel) rfl (pm_gn1 hL2 (by decide) (Or.inl (by decide))) ?_
          refine pm_iload (i := 4) hx hb (by decide +kernel) (pm_gs1 _ _ _) ?_
          refine pm_if_ne (off := 7) (tgt := 59) hx hb (by decide +kernel) (by decide) (fun c4 => ?_) (fun c4 => ?_)
          · refine pm_iconst (n := 1) hx hb (by decide +kernel) ?_
            refine pm_iadd hx hb (by decide +kernel) ?_
            refine pm_istore_n (n := 2) (i := 2) hx hb (by decide +kernel) rfl (by decide) ?_
            refine pm_iinc (i := 3) (n := 8) hx hb (by decide +kernel) (pm_gn1 (pm_gn1 hL3 (by decide) (Or.inr rfl)) (by decide) (Or.inl (by decide))) (by decide) ?_
            refine pm_goto (off := -61) (tgt := 4) hx hb (by decide +kernel) (by decide) ?_
            refine ih (by omega) _ _ (pm_gn1 (pm_gn1 (pm_gn1 hL0 (by decide) (Or.inl (by decide))) (by decide) (Or.inl (by decide))) (by decide) (Or.inl (by decide))) (pm_gn1 (pm_gs1 _ _ _) (by decide) (Or.inr rfl)) (by rw [← hk1]; exact (pm_gs1 _ _ _)) ?_
            rw [hsp, ← hk1]
            simp only [rf_sg]
            rw [← exb]
            simp_all [rf_bad, pm_b]
          · refine pm_iconst (n := 0) hx hb (by decide +kernel) ?_
            refine pm_goto (off := 4) (tgt := 60) hx hb (by decide +kernel) (by decide) ?_
            refine pm_iadd hx hb (by decide +kernel) ?_
            refine pm_istore_n (n := 2) (i := 2) hx hb (by decide +kernel) rfl (by decide) ?_
            refine pm_iinc (i := 3) (n := 8) hx hb (by decide +kernel) (pm_gn1 (pm_gn1 hL3 (by decide) (Or.inr rfl)) (by decide) (Or.inl (by decide))) (by decide) ?_
            refine pm_goto (off := -61) (tgt := 4) hx hb (by decide +kernel) (by decide) ?_
            refine ih (by omega) _ _ (pm_gn1 (pm_gn1 (pm_gn1 hL0 (by decide) (Or.inl (by decide))) (by decide) (Or.inl (by decide))) (by decide) (Or.inl (by decide))) (pm_gn1 (pm_gs1 _ _ _) (by decide) (Or.inr rfl)) (by rw [← hk1]; exact (pm_gs1 _ _ _)) ?_
            rw [hsp, ← hk1]
            simp only [rf_sg]
            rw [← exb]
            simp_all [rf_bad, pm_b]
        · refine pm_iload (i := 4) hx hb (by decide +kernel) (pm_gs1 _ _ _) ?_
          refine pm_i2l hx hb (by decide +kernel) ?_
          refine pm_ldc2 (own := "LinkedTongueModel") (index := 372) (v := 32) hx hb hown (hts _ (List.mem_cons_of_mem _ (pm_mem 2902 (by decide +kernel) (by decide +kernel)))) (by decide +kernel) ?_
          refine pm_ldc2 (own := "LinkedTongueModel") (index := 374) (v := 126) hx hb hown (hts _ (List.mem_cons_of_mem _ (pm_mem 2903 (by decide +kernel) (by decide +kernel)))) (by decide +kernel) ?_
          refine pm_cS (As := [_, _, _]) (own := "LinkedTongueModel") (index := 376) (hh := []) hx hb hml hown hK hE hEok hz (Nat.le_refl _) (Nat.le_refl _) (Nat.le_refl _) (Nat.le_refl _) (cr_in (d := d) _ _ _ h) (pm_hws hts mR_in) (Or.inl List.mem_cons_self) (hts _ (List.mem_cons_of_mem _ (pm_mem 19 (by decide +kernel) (by decide +kernel)))) (Or.inl (hts _ (List.mem_cons_of_mem _ (pm_mem 2904 (by decide +kernel) (by decide +kernel))))) (hts _ (List.mem_cons_of_mem _ (pm_mem 2905 (by decide +kernel) (by decide +kernel)))) (Cond.code_named (hts _ (List.mem_cons_of_mem _ mR_in))) (by decide +kernel) (pm_arity (n := 3) (by decide +kernel)) (by decide) (by simp [pm_room]) (by simp [pm_room]) (by simp [pm_room]) (by simp [pm_room]; omega) (by decide +kernel) ?_
          refine pm_if_ne (off := 5) (tgt := 49) hx hb (by decide +kernel) (by decide) (fun c5 => ?_) (fun c5 => ?_)
          · refine pm_iload_n (n := 2) hx hb (by decide +kernel) rfl (pm_gn1 hL2 (by decide) (Or.inl (by decide))) ?_
            refine pm_iload (i := 4) hx hb (by decide +kernel) (pm_gs1 _ _ _) ?_
            refine pm_if_ne (off := 7) (tgt := 59) hx hb (by decide +kernel) (by decide) (fun c6 => ?_) (fun c6 => ?_)
            · refine pm_iconst (n := 1) hx hb (by decide +kernel) ?_
              refine pm_iadd hx hb (by decide +kernel) ?_
              refine pm_istore_n (n := 2) (i := 2) hx hb (by decide +kernel) rfl (by decide) ?_
              refine pm_iinc (i := 3) (n := 8) hx hb (by decide +kernel) (pm_gn1 (pm_gn1 hL3 (by decide) (Or.inr rfl)) (by decide) (Or.inl (by decide))) (by decide) ?_
              refine pm_goto (off := -61) (tgt := 4) hx hb (by decide +kernel) (by decide) ?_
              refine ih (by omega) _ _ (pm_gn1 (pm_gn1 (pm_gn1 hL0 (by decide) (Or.inl (by decide))) (by decide) (Or.inl (by decide))) (by decide) (Or.inl (by decide))) (pm_gn1 (pm_gs1 _ _ _) (by decide) (Or.inr rfl)) (by rw [← hk1]; exact (pm_gs1 _ _ _)) ?_
              rw [hsp, ← hk1]
              simp only [rf_sg]
              rw [← exb]
              simp_all [rf_bad, pm_b]
            · refine pm_iconst (n := 0) hx hb (by decide +kernel) ?_
              refine pm_goto (off := 4) (tgt := 60) hx hb (by decide +kernel) (by decide) ?_
              refine pm_iadd hx hb (by decide +kernel) ?_
              refine pm_istore_n (n := 2) (i := 2) hx hb (by decide +kernel) rfl (by decide) ?_
              refine pm_iinc (i := 3) (n := 8) hx hb (by decide +kernel) (pm_gn1 (pm_gn1 hL3 (by decide) (Or.inr rfl)) (by decide) (Or.inl (by decide))) (by decide) ?_
              refine pm_goto (off := -61) (tgt := 4) hx hb (by decide +kernel) (by decide) ?_
              refine ih (by omega) _ _ (pm_gn1 (pm_gn1 (pm_gn1 hL0 (by decide) (Or.inl (by decide))) (by decide) (Or.inl (by decide))) (by decide) (Or.inl (by decide))) (pm_gn1 (pm_gs1 _ _ _) (by decide) (Or.inr rfl)) (by rw [← hk1]; exact (pm_gs1 _ _ _)) ?_
              rw [hsp, ← hk1]
              simp only [rf_sg]
              rw [← exb]
              simp_all [rf_bad, pm_b]
          · refine pm_iconst (n := -1) hx hb (by decide +kernel) ?_
            exact pm_ret_i hx hb hlocks hr (by rw [hsp]; simp only [rf_sg]; rw [← exb]; simp_all [rf_bad, pm_b]) (by decide +kernel)
  refine pm_iconst (n := 0) hx hb (by decide +kernel) ?_
  refine pm_istore_n (n := 2) (i := 2) hx hb (by decide +kernel) rfl (by decide) ?_
  refine pm_iconst (n := 0) hx hb (by decide +kernel) ?_
  refine pm_istore_n (n := 3) (i := 3) hx hb (by decide +kernel) rfl (by decide) ?_
  exact loop 8 (Nat.le_refl _) _ _ rfl rfl rfl hT0.symm
end R15
