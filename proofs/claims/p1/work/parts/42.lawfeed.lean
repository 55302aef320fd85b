/-! PART 42: the law over one call of feed on fresh objects. -/
theorem pm_put_id {h : pm_H} : ∀ {l : List (Nat × pm_E)}, (∀ q ∈ l, h[q.1]? = some q.2) → pm_put h l = h
  | [], _ => rfl
  | (i, x) :: r, hl => by
    have h1 : pm_put h r = h := pm_put_id (fun q hq => hl q (List.mem_cons_of_mem _ hq))
    show (pm_put h r).set i x = h
    rw [h1]
    have h2 : h[i]? = some x := hl (i, x) List.mem_cons_self
    obtain ⟨h3, h4⟩ := List.getElem?_eq_some_iff.mp h2
    rw [← h4]
    exact List.set_getElem_self h3
theorem cF_of {vs : List Value} (h : vs.length = 11) : cF (fun k => vs.getD k .null) = vs := by
  apply List.ext_getElem?
  intro j
  by_cases hj : j < 11
  · rw [cF_get _ hj, List.getD_eq_getElem?_getD, List.getElem?_eq_getElem (by omega)]; rfl
  · rw [List.getElem?_eq_none (by rw [cF_len]; omega), List.getElem?_eq_none (by omega)]
theorem rF_of {vs : List Value} (h : vs.length = 180) : rF (fun k => vs.getD k .null) = vs := by
  apply List.ext_getElem?
  intro j
  by_cases hj : j < 180
  · rw [rF_get _ hj, List.getD_eq_getElem?_getD, List.getElem?_eq_getElem (by omega)]; rfl
  · rw [List.getElem?_eq_none (by rw [rF_len]; omega), List.getElem?_eq_none (by omega)]
/-- an object whose tape is empty -/
def wq_f (h : pe_H) (o ci nf kT kA N lo hi : Nat) : Bool := match pe_at h o with
  | some (.inr (.inl (c, vs))) => Nat.beq c ci && (Nat.beq vs.length nf && (decide (pe_at vs kT = some (.int 0)) && (match pe_at vs kA with
    | some (.ref a) => Nat.blt lo a && (Nat.blt a hi && (match pe_at h a with
      | some (.inl (t, n, _)) => Nat.beq t 2 && Nat.beq n N
      | _ => false))
    | _ => false)))
  | _ => false
theorem wq_f_ok {h : pe_H} {o ci nf kT kA N lo hi : Nat} (hq : wq_f h o ci nf kT kA N lo hi = true) : ∃ (vs : List Value) (a : Nat) (g : Nat → Int32), (pe_D h)[o]? = some (.inr (ci, vs)) ∧ vs.length = nf ∧ vs[kT]? = some (.int 0) ∧ vs[kA]? = some (.ref a) ∧ lo < a ∧ a < hi ∧ (pe_D h)[a]? = some (.inl (2, .inl (N, g))) := by
  unfold wq_f at hq
  split at hq
  · rename_i c vs e1
    rw [Bool.and_eq_true, Bool.and_eq_true, Bool.and_eq_true, decide_eq_true_eq] at hq
    obtain ⟨h1, h2, h3, h4⟩ := hq
    have h1 := Nat.eq_of_beq_eq_true h1
    have h2 := Nat.eq_of_beq_eq_true h2
    subst h1
    split at h4
    · rename_i a e2
      rw [Bool.and_eq_true, Bool.and_eq_true, Nat.blt_eq, Nat.blt_eq] at h4
      obtain ⟨h5, h6, h7⟩ := h4
      split at h7
      · rename_i t n cc e3
        rw [Bool.and_eq_true] at h7
        have h8 := Nat.eq_of_beq_eq_true h7.1
        have h9 := Nat.eq_of_beq_eq_true h7.2
        subst h8
        subst h9
        rw [pe_at_eq] at h3 e2
        exact ⟨vs, a, _, pe_D_at e1, h2, h3, e2, h5, h6, pe_D_at e3⟩
      · cases h7
    · cases h4
  · cases hq
set_option maxRecDepth 100000 in
theorem wq_c : wq_f (pe_HC ++ pe_HT) 0 10 11 1 0 256 0 237 = true := by decide +kernel
set_option maxRecDepth 100000 in
theorem wq_m : wq_f (pe_HC ++ pe_HT) 237 15 180 3 2 65552 237 388 = true := by decide +kernel
theorem pm_topL {p : Program} {l : Launch} {e : Env} {R : Room} {s : State} {m : MethodId} {args : Array Value} {below : List Frame} {meth : Method} {c : Code} {Q : State → Prop} {ex : Nat → Nat} {B : Nat} {dA : Nat → ClassId} {D : va_G} {cl : List vw_C} {nL n0 z0 : Nat} {pc : Nat} {L : pm_L} {st : List Value} {h : pm_H} (x : Int64) (k : ∀ y : Int64, y = x → pm_W p l e R s m args below meth c Q ex B dA D cl nL n0 z0 pc L (.long y :: st) h) : pm_W p l e R s m args below meth c Q ex B dA D cl nL n0 z0 pc L (.long x :: st) h := k x rfl
theorem mR_feed : cR_feed ∈ pm_tb := (pm_mem 2897 (by decide +kernel) (by decide +kernel))
section PE42
variable {p : Program} {l : Launch} {e : Env} {s : State} {m : MethodId} {below : List Frame} {meth : Method} {c : Code}
variable {ex : Nat → Nat} {dA : Nat → ClassId} {D : va_G} {tys : List (ClassId × FieldType)} {exV : Nat → Nat} {jF : Value}
set_option maxHeartbeats 2000000 in
theorem wh_feed {b : Nat} {xs : Nat → Int32} (h31 : xs 0 &&& 31 = Int32.ofNat 0) (hx : p.tables.exec = Jvm.exec) (hb : c.code = code) (hr : meth.sig.returnType = ret) (hlocks : meth.locks = false) (hml : c.maxLocals = 8) (hown : s.vm.findClass "LinkedTongueLaw" = some m.cls) (hts : ∀ w ∈ lw_tbl, w.before #[Value.ref b] s = true) (hK : va_K D pe_cl tys s) (hT : ∀ t, pe_tOK t = true → ∃ ty, pe_tyOf pe_cl t = some ty ∧ tys[t]? = some (dA t, ty)) (hE : pe_EF ex s.heap.size exV jF s) (hX : va_T .int (ex 6) 5 (fun k => .int (xs k)) (fun q => s.heap.size ≤ q) s s.heap) :
    pm_W p l e room_1 s m #[Value.ref b] below meth c (lw_Z below #[Value.ref b] s) ex s.heap.size dA D pe_cl 8 0 0 16 [(2, .ref 237), (1, .ref 0), (0, .retAddr 6)] [] (pe_D (pe_HC ++ pe_HT)) := by
  have hts2 : ∀ w ∈ pm_tb, w.before #[Value.ref b] s = true := fun w hw => hts w (List.mem_filter.mp hw).1
  have htsC : ∀ w ∈ cC_feed :: pm_tb, w.before #[Value.ref b] s = true := fun w hw => by
    rcases List.mem_cons.mp hw with rfl | hw
    · exact hts2 _ mC_feed
    · exact hts2 _ hw
  have htsR : ∀ w ∈ cR_feed :: pm_tb, w.before #[Value.ref b] s = true := fun w hw => by
    rcases List.mem_cons.mp hw with rfl | hw
    · exact hts2 _ mR_feed
    · exact hts2 _ hw
  have hEok := pe_EF_ok ex s.heap.size exV jF
  obtain ⟨ty1, y1, y2⟩ := hT 1 (by decide)
  cases y1
  obtain ⟨ty2, y3, y4⟩ := hT 2 (by decide)
  cases y3
  obtain ⟨vsC, aC, gC, c1, c2, c3, c4, c5, c6, c7⟩ := wq_f_ok wq_c
  obtain ⟨vsM, aM, gM, m1, m2, m3, m4, m5, m6, m7⟩ := wq_f_ok wq_m
  have hlen : (pe_D (pe_HC ++ pe_HT)).length = 388 := by rw [pe_D_length, pe_HM_len]
  have hsz := pe_HM_sz
  generalize pe_D (pe_HC ++ pe_HT) = Hm at *
  refine pm_iconst (n := 1) hx hb (by decide +kernel) ?_
  refine pm_newaL (atype := .long) (t := 1) (N := 1) hx hb hK 1 (hts2 _ (pm_mem 479 (by decide +kernel) (by decide +kernel))) rfl y2 (by decide) (by decide) (by decide) rfl (Nat.zero_le _) (Nat.zero_le _) (by rw [hlen]; decide) (by show pm_sz Hm - 0 + 1 ≤ room_1.slots; have := room_ge_s; omega) (by decide +kernel) ?_
  refine pm_astore_n (n := 3) hx hb (by decide +kernel) rfl rfl (by decide) ?_
  refine pm_iconst (n := 0) hx hb (by decide +kernel) ?_
  refine pm_istore (i := 4) hx hb (by decide +kernel) (by decide) ?_
  have hlen2 : (Hm ++ [(Sum.inl (1, Sum.inr (Sum.inl (1, fun _ => 0))) : pm_E)]).length = 389 := by rw [List.length_append, hlen]; rfl
  have hsz2 : pm_sz (Hm ++ [(Sum.inl (1, Sum.inr (Sum.inl (1, fun _ => 0))) : pm_E)]) ≤ 3000001 := by rw [pm_sz_push]; show pm_sz Hm + 1 ≤ _; omega
  have old : ∀ j, j < 388 → (Hm ++ [(Sum.inl (1, Sum.inr (Sum.inl (1, fun _ => 0))) : pm_E)])[j]? = Hm[j]? := fun j hj => List.getElem?_append_left (by rw [hlen]; exact hj)
  have c1 : (Hm ++ [(Sum.inl (1, Sum.inr (Sum.inl (1, fun _ => 0))) : pm_E)])[0]? = some (.inr (10, cF (fun k => vsC.getD k .null))) := by rw [old _ (by decide), c1, cF_of c2]
  have m1 : (Hm ++ [(Sum.inl (1, Sum.inr (Sum.inl (1, fun _ => 0))) : pm_E)])[237]? = some (.inr (15, rF (fun k => vsM.getD k .null))) := by rw [old _ (by decide), m1, rF_of m2]
  have c7 : (Hm ++ [(Sum.inl (1, Sum.inr (Sum.inl (1, fun _ => 0))) : pm_E)])[aC]? = some (.inl (2, .inl (256, gC))) := by rw [old _ (by omega), c7]
  have m7 : (Hm ++ [(Sum.inl (1, Sum.inr (Sum.inl (1, fun _ => 0))) : pm_E)])[aM]? = some (.inl (2, .inl (65552, gM))) := by rw [old _ (by omega), m7]
  generalize Hm ++ [(Sum.inl (1, Sum.inr (Sum.inl (1, fun _ => 0))) : pm_E)] = Hn at *
  have v1 : (fun k => vsC.getD k Value.null) 1 = .int (nI 0) := by show vsC.getD 1 .null = _; rw [List.getD_eq_getElem?_getD, c3]; rfl
  have v0 : (fun k => vsC.getD k Value.null) 0 = .ref aC := by show vsC.getD 0 .null = _; rw [List.getD_eq_getElem?_getD, c4]; rfl
  have u3 : (fun k => vsM.getD k Value.null) 3 = .int (nI 0) := by show vsM.getD 3 .null = _; rw [List.getD_eq_getElem?_getD, m3]; rfl
  have u2 : (fun k => vsM.getD k Value.null) 2 = .ref aM := by show vsM.getD 2 .null = _; rw [List.getD_eq_getElem?_getD, m4]; rfl
  generalize (fun k => vsC.getD k Value.null) = σC at *
  generalize (fun k => vsM.getD k Value.null) = σM at *
  -- the loop's head
  refine pm_iload (i := 4) hx hb (by decide +kernel) rfl ?_
  refine pm_aload_n (n := 0) hx hb (by decide +kernel) rfl rfl rfl ?_
  refine pm_alenX hx hb hX (by decide +kernel) ?_
  refine pm_iconst (n := 5) hx hb (by decide +kernel) ?_
  refine pm_isub  hx hb (by decide +kernel) ?_
  refine pm_icmp_gt (off := 1097) (tgt := 1126) hx hb (by decide +kernel) (by decide) (fun q => absurd q (by decide)) (fun _ => ?_)
  refine pm_aload_n (n := 0) hx hb (by decide +kernel) rfl rfl rfl ?_
  refine pm_iload (i := 4) hx hb (by decide +kernel) rfl ?_
  refine pm_ialdX (v := .int (xs 0)) hx hb hX (by unfold vp_in; decide) rfl (by decide +kernel) ?_
  refine pm_bipush (n := 31) hx hb (by decide +kernel) ?_
  refine pm_iand  hx hb (by decide +kernel) ?_
  rw [show xs 0 &&& (Int8.ofInt 31).toInt32 = 0 from h31]
  refine pm_tableIn (dflt := 1081) (lo := 0) (hi := 22) (offs := #[105, 206, 219, 256, 293, 330, 343, 380, 429, 466, 515, 552, 589, 657, 694, 761, 798, 853, 890, 969, 1006, 1031, 1056]) (len := 105) (x := 0) (off := 105) (tgt := 144) hx hb (by decide +kernel) (by decide) (by decide) (by decide +kernel) (by decide) ?_
  refine pm_aload_n (n := 1) hx hb (by decide +kernel) rfl rfl rfl ?_
  refine pm_aload_n (n := 0) hx hb (by decide +kernel) rfl rfl rfl ?_
  refine pm_iload (i := 4) hx hb (by decide +kernel) rfl ?_
  refine pm_iconst (n := 1) hx hb (by decide +kernel) ?_
  refine pm_iadd  hx hb (by decide +kernel) ?_
  refine pm_ialdX (v := .int (xs 1)) hx hb hX (by unfold vp_in; decide) rfl (by decide +kernel) ?_
  refine pm_i2l  hx hb (by decide +kernel) ?_
  refine pm_bipush (n := 32) hx hb (by decide +kernel) ?_
  refine pm_lshl  hx hb (by decide +kernel) ?_
  refine pm_aload_n (n := 0) hx hb (by decide +kernel) rfl rfl rfl ?_
  refine pm_iload (i := 4) hx hb (by decide +kernel) rfl ?_
  refine pm_iconst (n := 2) hx hb (by decide +kernel) ?_
  refine pm_iadd  hx hb (by decide +kernel) ?_
  refine pm_ialdX (v := .int (xs 2)) hx hb hX (by unfold vp_in; decide) rfl (by decide +kernel) ?_
  refine pm_i2l  hx hb (by decide +kernel) ?_
  refine pm_ldc2 (own := "LinkedTongueLaw") (index := 37) (v := 4294967295) hx hb hown (hts2 _ (pm_mem 3857 (by decide +kernel) (by decide +kernel))) (by decide +kernel) ?_
  refine pm_land  hx hb (by decide +kernel) ?_
  refine pm_lor  hx hb (by decide +kernel) ?_
  refine pm_topL _ (fun X eX => ?_)
  refine pm_aload_n (n := 0) hx hb (by decide +kernel) rfl rfl rfl ?_
  refine pm_iload (i := 4) hx hb (by decide +kernel) rfl ?_
  refine pm_iconst (n := 3) hx hb (by decide +kernel) ?_
  refine pm_iadd  hx hb (by decide +kernel) ?_
  refine pm_ialdX (v := .int (xs 3)) hx hb hX (by unfold vp_in; decide) rfl (by decide +kernel) ?_
  refine pm_i2l  hx hb (by decide +kernel) ?_
  refine pm_bipush (n := 32) hx hb (by decide +kernel) ?_
  refine pm_lshl  hx hb (by decide +kernel) ?_
  refine pm_aload_n (n := 0) hx hb (by decide +kernel) rfl rfl rfl ?_
  refine pm_iload (i := 4) hx hb (by decide +kernel) rfl ?_
  refine pm_iconst (n := 4) hx hb (by decide +kernel) ?_
  refine pm_iadd  hx hb (by decide +kernel) ?_
  refine pm_ialdX (v := .int (xs 4)) hx hb hX (by unfold vp_in; decide) rfl (by decide +kernel) ?_
  refine pm_i2l  hx hb (by decide +kernel) ?_
  refine pm_ldc2 (own := "LinkedTongueLaw") (index := 37) (v := 4294967295) hx hb hown (hts2 _ (pm_mem 3857 (by decide +kernel) (by decide +kernel))) (by decide +kernel) ?_
  refine pm_land  hx hb (by decide +kernel) ?_
  refine pm_lor  hx hb (by decide +kernel) ?_
  refine pm_topL _ (fun Y eY => ?_)
  have ndC : pm_nd Hn [((0 : Nat), (Sum.inr (10, cF σC) : pm_E)), (aC, .inl (2, .inl (256, gC)))] := ⟨by show [0, aC].Nodup; exact List.nodup_cons.mpr ⟨(by intro q; rw [List.mem_singleton] at q; omega), List.nodup_cons.mpr ⟨(by intro q; cases q), List.nodup_nil⟩⟩, fun q hq => by
    simp only [List.mem_cons, List.not_mem_nil, or_false] at hq
    rcases hq with rfl | rfl
    · show 0 < Hn.length; omega
    · show aC < Hn.length; omega⟩
  have idC : pm_put Hn [((0 : Nat), (Sum.inr (10, cF σC) : pm_E)), (aC, .inl (2, .inl (256, gC)))] = Hn := pm_put_id (fun q hq => by
    simp only [List.mem_cons, List.not_mem_nil, or_false] at hq
    rcases hq with rfl | rfl
    · exact c1
    · exact c7)
  have hMC := cc_feed (l := l) (d := 3) (ex := ex) (B := s.heap.size) (dA := dA) (D := D) (cl := pe_cl) (tys := tys) (E := pe_EF ex s.heap.size exV jF) (cL := 10) (t := 2) hEok rfl 2 X Y Hn ndC y4 v1 v0 (by decide) (by decide)
  have szC := pm_put_sz (h := Hn) (l1 := [((0 : Nat), (Sum.inr (10, cF σC) : pm_E)), (aC, .inl (2, .inl (256, gC)))]) (l2 := [((0 : Nat), (Sum.inr (10, cF (va_up σC 1 (.int (nI (cf_feed X Y 0 gC).2.1)))) : pm_E)), (aC, .inl (2, .inl (256, (cf_feed X Y 0 gC).2.2)))]) (by simp [pm_n, cF_len]) ndC
  have offC : ∀ j, j ≠ 0 → j ≠ aC → (pm_put Hn [((0 : Nat), (Sum.inr (10, cF (va_up σC 1 (.int (nI (cf_feed X Y 0 gC).2.1)))) : pm_E)), (aC, .inl (2, .inl (256, (cf_feed X Y 0 gC).2.2)))])[j]? = Hn[j]? := fun j j0 j1 => pm_put_off (fun q hq => by
    simp only [List.mem_cons, List.not_mem_nil, or_false] at hq
    rcases hq with rfl | rfl
    · exact fun z => j0 z.symm
    · exact fun z => j1 z.symm)
  have lenC := pm_put_length Hn [((0 : Nat), (Sum.inr (10, cF (va_up σC 1 (.int (nI (cf_feed X Y 0 gC).2.1)))) : pm_E)), (aC, .inl (2, .inl (256, (cf_feed X Y 0 gC).2.2)))]
  rw [idC] at hMC szC
  generalize pm_put Hn [((0 : Nat), (Sum.inr (10, cF (va_up σC 1 (.int (nI (cf_feed X Y 0 gC).2.1)))) : pm_E)), (aC, .inl (2, .inl (256, (cf_feed X Y 0 gC).2.2)))] = H1 at *
  refine pm_cV (As := [.long X, .long Y]) (C := "LinkedTongue") (T0 := TC_10) (N := 11) (own := "LinkedTongueLaw") (index := 39) (hh := []) hx hb hml hown hK hE hEok rfl (Nat.zero_le _) (Nat.zero_le _) (Nat.le_of_eq lenC.symm) (Nat.le_of_eq szC) (hMC) (pm_hws htsC mC_feed) (Or.inl List.mem_cons_self) (hts2 _ (pm_mem 1 (by decide +kernel) (by decide +kernel))) (Or.inl (hts2 _ (pm_mem 843 (by decide +kernel) (by decide +kernel)))) (hts2 _ (pm_mem 844 (by decide +kernel) (by decide +kernel))) (hts2 _ (pm_mem 845 (by decide +kernel) (by decide +kernel))) (by decide +kernel) (pm_arity (n := 2) (by decide +kernel)) c1 rfl (Nat.le_of_ble_eq_true rfl) (by rw [lenC, hlen2]; decide) (by rw [← szC]; show pm_sz Hn - 0 + (pm_sz Hn - pm_sz Hn) ≤ room_1.slots; have := room_ge_s; omega) (by decide) (by decide) (by decide +kernel) ?_
  refine pm_aload_n (n := 2) hx hb (by decide +kernel) rfl rfl rfl ?_
  refine pm_aload_n (n := 0) hx hb (by decide +kernel) rfl rfl rfl ?_
  refine pm_iload (i := 4) hx hb (by decide +kernel) rfl ?_
  refine pm_iconst (n := 1) hx hb (by decide +kernel) ?_
  refine pm_iadd  hx hb (by decide +kernel) ?_
  refine pm_ialdX (v := .int (xs 1)) hx hb hX (by unfold vp_in; decide) rfl (by decide +kernel) ?_
  refine pm_i2l  hx hb (by decide +kernel) ?_
  refine pm_bipush (n := 32) hx hb (by decide +kernel) ?_
  refine pm_lshl  hx hb (by decide +kernel) ?_
  refine pm_aload_n (n := 0) hx hb (by decide +kernel) rfl rfl rfl ?_
  refine pm_iload (i := 4) hx hb (by decide +kernel) rfl ?_
  refine pm_iconst (n := 2) hx hb (by decide +kernel) ?_
  refine pm_iadd  hx hb (by decide +kernel) ?_
  refine pm_ialdX (v := .int (xs 2)) hx hb hX (by unfold vp_in; decide) rfl (by decide +kernel) ?_
  refine pm_i2l  hx hb (by decide +kernel) ?_
  refine pm_ldc2 (own := "LinkedTongueLaw") (index := 37) (v := 4294967295) hx hb hown (hts2 _ (pm_mem 3857 (by decide +kernel) (by decide +kernel))) (by decide +kernel) ?_
  refine pm_land  hx hb (by decide +kernel) ?_
  refine pm_lor  hx hb (by decide +kernel) ?_
  rw [← eX]
  refine pm_aload_n (n := 0) hx hb (by decide +kernel) rfl rfl rfl ?_
  refine pm_iload (i := 4) hx hb (by decide +kernel) rfl ?_
  refine pm_iconst (n := 3) hx hb (by decide +kernel) ?_
  refine pm_iadd  hx hb (by decide +kernel) ?_
  refine pm_ialdX (v := .int (xs 3)) hx hb hX (by unfold vp_in; decide) rfl (by decide +kernel) ?_
  refine pm_i2l  hx hb (by decide +kernel) ?_
  refine pm_bipush (n := 32) hx hb (by decide +kernel) ?_
  refine pm_lshl  hx hb (by decide +kernel) ?_
  refine pm_aload_n (n := 0) hx hb (by decide +kernel) rfl rfl rfl ?_
  refine pm_iload (i := 4) hx hb (by decide +kernel) rfl ?_
  refine pm_iconst (n := 4) hx hb (by decide +kernel) ?_
  refine pm_iadd  hx hb (by decide +kernel) ?_
  refine pm_ialdX (v := .int (xs 4)) hx hb hX (by unfold vp_in; decide) rfl (by decide +kernel) ?_
  refine pm_i2l  hx hb (by decide +kernel) ?_
  refine pm_ldc2 (own := "LinkedTongueLaw") (index := 37) (v := 4294967295) hx hb hown (hts2 _ (pm_mem 3857 (by decide +kernel) (by decide +kernel))) (by decide +kernel) ?_
  refine pm_land  hx hb (by decide +kernel) ?_
  refine pm_lor  hx hb (by decide +kernel) ?_
  rw [← eY]
  have n1 : H1[237]? = some (.inr (15, rF σM)) := by rw [offC _ (by decide) (by omega)]; exact m1
  have n7 : H1[aM]? = some (.inl (2, .inl (65552, gM))) := by rw [offC _ (by omega) (by omega)]; exact m7
  have ndM : pm_nd H1 [((237 : Nat), (Sum.inr (15, rF σM) : pm_E)), (aM, .inl (2, .inl (65552, gM)))] := ⟨by show [237, aM].Nodup; exact List.nodup_cons.mpr ⟨(by intro q; rw [List.mem_singleton] at q; omega), List.nodup_cons.mpr ⟨(by intro q; cases q), List.nodup_nil⟩⟩, fun q hq => by
    simp only [List.mem_cons, List.not_mem_nil, or_false] at hq
    rcases hq with rfl | rfl
    · show 237 < H1.length; omega
    · show aM < H1.length; omega⟩
  have idM : pm_put H1 [((237 : Nat), (Sum.inr (15, rF σM) : pm_E)), (aM, .inl (2, .inl (65552, gM)))] = H1 := pm_put_id (fun q hq => by
    simp only [List.mem_cons, List.not_mem_nil, or_false] at hq
    rcases hq with rfl | rfl
    · exact n1
    · exact n7)
  have hMM := cr_feed (l := l) (d := 2) (ex := ex) (B := s.heap.size) (dA := dA) (D := D) (cl := pe_cl) (tys := tys) (E := pe_EF ex s.heap.size exV jF) (cM := 15) (t := 2) hEok rfl 2 X Y H1 ndM y4 u3 u2 (by decide) (by decide)
  have szM := pm_put_sz (h := H1) (l1 := [((237 : Nat), (Sum.inr (15, rF σM) : pm_E)), (aM, .inl (2, .inl (65552, gM)))]) (l2 := [((237 : Nat), (Sum.inr (15, rF (va_up (va_up σM 0 (.int 0)) 3 (.int (nI (rf_feed X Y 0 gM).2.1)))) : pm_E)), (aM, .inl (2, .inl (65552, (rf_feed X Y 0 gM).2.2)))]) (by simp [pm_n, rF_len]) ndM
  have lenM := pm_put_length H1 [((237 : Nat), (Sum.inr (15, rF (va_up (va_up σM 0 (.int 0)) 3 (.int (nI (rf_feed X Y 0 gM).2.1)))) : pm_E)), (aM, .inl (2, .inl (65552, (rf_feed X Y 0 gM).2.2)))]
  rw [idM] at hMM szM
  generalize pm_put H1 [((237 : Nat), (Sum.inr (15, rF (va_up (va_up σM 0 (.int 0)) 3 (.int (nI (rf_feed X Y 0 gM).2.1)))) : pm_E)), (aM, .inl (2, .inl (65552, (rf_feed X Y 0 gM).2.2)))] = H2 at *
  refine pm_cV (As := [.long X, .long Y]) (C := "LinkedTongueModel") (T0 := TM) (N := 180) (own := "LinkedTongueLaw") (index := 43) (hh := []) hx hb hml hown hK hE hEok rfl (Nat.zero_le _) (Nat.zero_le _) (Nat.le_of_eq lenM.symm) (Nat.le_of_eq szM) (hMM) (pm_hws htsR mR_feed) (Or.inl List.mem_cons_self) (hts2 _ (pm_mem 19 (by decide +kernel) (by decide +kernel))) (Or.inl (hts2 _ (pm_mem 2894 (by decide +kernel) (by decide +kernel)))) (hts2 _ (pm_mem 2895 (by decide +kernel) (by decide +kernel))) (hts2 _ (pm_mem 2896 (by decide +kernel) (by decide +kernel))) (by decide +kernel) (pm_arity (n := 2) (by decide +kernel)) n1 rfl (Nat.le_of_ble_eq_true rfl) (by rw [lenM, lenC, hlen2]; decide) (by rw [← szM, ← szC]; show pm_sz Hn - 0 + (pm_sz Hn - pm_sz Hn) ≤ room_1.slots; have := room_ge_s; omega) (by decide) (by decide) (by decide +kernel) ?_
  refine pm_icmp_eq (off := 880) (tgt := 1120) hx hb (by decide +kernel) (by decide) (fun _ => ?_) (fun q => absurd (fb_eq X Y gC gM) q)
  refine pm_iinc (i := 4) (n := 5) hx hb (by decide +kernel) rfl (by decide) ?_
  refine pm_goto (off := -1100) (tgt := 23) hx hb (by decide +kernel) (by decide) ?_
  refine pm_iload (i := 4) hx hb (by decide +kernel) rfl ?_
  refine pm_aload_n (n := 0) hx hb (by decide +kernel) rfl rfl rfl ?_
  refine pm_alenX hx hb hX (by decide +kernel) ?_
  refine pm_iconst (n := 5) hx hb (by decide +kernel) ?_
  refine pm_isub  hx hb (by decide +kernel) ?_
  refine pm_icmp_gt (off := 1097) (tgt := 1126) hx hb (by decide +kernel) (by decide) (fun _ => ?_) (fun q => absurd (by decide) q)
  refine pm_iconst (n := 1) hx hb (by decide +kernel) ?_
  have fin : ∀ t, pm_MQ below (pm_QcO ex s.heap.size dA D pe_cl (.inl (some (.int 1))) H2) #[Value.ref b] s (H2.length - 0) (pm_sz H2 - 0) (fun q => s.heap.size ≤ q) t → lw_Z below #[Value.ref b] s t := fun t ht => wh_end (by rw [lenM, lenC, hlen2]; decide) (by rw [← szM, ← szC]; show pm_sz Hn - 0 ≤ room_1.slots; have := room_ge_s; omega) ht
  exact pm_retO fin (pm_ret_z (h2 := H2) hx hb hlocks hr rfl rfl (by decide +kernel))
end PE42
