/-! PART 28: the special instructions of the evaluator are right. -/
theorem pm_ldcSW {p : Program} {l : Launch} {e : Env} {R : Room} {s : State} {m : MethodId} {args : Array Value} {below : List Frame} {meth : Method} {c : Code} {Q : State → Prop} {ex : Nat → Nat} {B : Nat} {dA : Nat → ClassId} {D : va_G} {cl : List vw_C} {nL n0 z0 : Nat} {cc : ByteArray} {pc : Nat} {L : pm_L} {st : List Value} {h : pm_H} {own : String} (hx : p.tables.exec = Jvm.exec) (hb : c.code = cc) (hown : s.vm.findClass own = some m.cls) {index j : Nat} {tx : String} (hZ : vk_R own index tx (ex j) s) (hdg : decode cc pc = .ok (.ldc_w index, 3)) (k : pm_W p l e R s m args below meth c Q ex B dA D cl nL n0 z0 (pc + 3) L (.retAddr j :: st) h) : pm_W p l e R s m args below meth c Q ex B dA D cl nL n0 z0 pc L st h := fun ls H locs hl hP hS => hm_ldcw hx hb hown hZ hdg (k ls H locs hl hP hS)
theorem pm_getsN {p : Program} {l : Launch} {e : Env} {R : Room} {s : State} {m : MethodId} {args : Array Value} {below : List Frame} {meth : Method} {c : Code} {Q : State → Prop} {ex : Nat → Nat} {B : Nat} {dA : Nat → ClassId} {D : va_G} {cl : List vw_C} {nL n0 z0 : Nat} {cc : ByteArray} {pc : Nat} {L : pm_L} {st : List Value} {h : pm_H} {own : String} (hx : p.tables.exec = Jvm.exec) (hb : c.code = cc) (hown : s.vm.findClass own = some m.cls) {C n d ref host : String} {v : Value} {index : Nat} (hZ : va_Z C n d (pm_v ex B v) (fun q => B ≤ q) s s.heap) (hlink : (Cond.fieldLinkNest own index ref n d host).before args s = true) (hsame : ∀ x, s.fieldFound? C n d = some x → s.fieldFound? ref n d = some x) (hdg : decode cc pc = .ok (.getstatic index, 3)) (k : pm_W p l e R s m args below meth c Q ex B dA D cl nL n0 z0 (pc + 3) L (v :: st) h) : pm_W p l e R s m args below meth c Q ex B dA D cl nL n0 z0 pc L st h := fun ls H locs hl hP hS => va_getsN hx hb hZ hS hown hlink hsame hdg (k ls H locs hl hP hS)
theorem pe_rows_eq (h : pe_H) (M N : Nat) : pe_D (h ++ [.inr (.inr (.inl (5, M, (pe_row (h.length + 1) M []))))] ++ List.replicate M (.inl (0, N, []))) = pe_D h ++ pm_rows (pe_D h).length M N := by
  unfold pm_rows
  rw [pe_D_length]
  unfold pe_D
  rw [List.map_append, List.map_append, List.map_replicate, List.append_assoc]
  congr 1
  show pe_d (.inr (.inr (.inl (5, M, (pe_row (h.length + 1) M []))))) :: List.replicate M (pe_d (.inl (0, N, []))) = _
  congr 1
  have hf : (fun j => pe_lk none j (pe_row (h.length + 1) M [])) = fun j => if j < M then some (h.length + 1 + j) else none := by
    funext j
    rw [pe_row_lk (h.length + 1) M [] j (fun q hq => by cases hq)]
    rfl
  show (Sum.inl (5, Sum.inr (Sum.inr (M, fun j => pe_lk none j (pe_row (h.length + 1) M [])))) : pm_E) = _
  rw [hf]
section PE28
variable {l : Launch} {ex : Nat → Nat} {B : Nat} {dA : Nat → ClassId} {D : va_G} {tys : List (ClassId × FieldType)} {E : State → Prop} {exV : Nat → Nat} {jF : Value} {xs : List (Nat × List Int32)} {kst : List (String × Nat × Nat)} {stt : List (Nat × String × String × String)}
theorem pe_ph_ref (ex : Nat → Nat) (B : Nat) (b : UInt32) (h : Nat.ble 96 (b.toNat / 8 % 128) = true) : pm_v ex B (.float b) = .null ∨ ∃ t, pm_v ex B (.float b) = .ref t := by
  show pm_ph ex b.toNat = .null ∨ ∃ t, pm_ph ex b.toNat = .ref t
  unfold pm_ph
  rw [h]
  by_cases h1 : ex (1000 + b.toNat % 8) = 0
  · exact Or.inl (if_pos h1)
  · exact Or.inr ⟨_, if_neg h1⟩
set_option maxHeartbeats 8000000 in
theorem pe_spec (hls : l.stackTraces = false) (hLU : ∀ s, E s → pe_LR B Bundle.tN "UNASSIGNED_STACK" Bundle.steD s) (hLV : ∀ s, E s → pe_LR B Bundle.tN "SUPPRESSED_SENTINEL" Bundle.listD s) (hU : ∀ s, E s → va_Z Bundle.tN "UNASSIGNED_STACK" Bundle.steD (pm_v ex B (.float 774)) (fun q => B ≤ q) s s.heap) (hV : ∀ s, E s → va_Z Bundle.tN "SUPPRESSED_SENTINEL" Bundle.listD (pm_v ex B (.float 775)) (fun q => B ≤ q) s s.heap) (hEok : pm_Ok B E) (hnw : ∀ s, E s → pe_nw s) (hT : ∀ t, pe_tOK t = true → ∃ ty, pe_tyOf pe_cl t = some ty ∧ tys[t]? = some (dA t, ty)) (hEX : ∀ s, E s → pe_EX ex B xs exV jF s) (hks : ∀ s, E s → ∀ q ∈ kst, ∃ tx, vk_R q.1 q.2.1 tx (ex q.2.2) s) (hst : ∀ s, E s → ∀ q ∈ stt, va_Z q.2.1 q.2.2.1 q.2.2.2 (.ref (ex q.1)) (fun q => B ≤ q) s s.heap) (hasc : ∀ j tx, pe_at xs j = some (0, tx) → tx.length < 2 ^ 31 ∧ ∀ z ∈ tx, ((z &&& 255).toUInt32 % 65536).toInt32 = z) : pe_Spec xs (pe_ckSG kst stt) l ex B dA D pe_cl tys E := by
  intro mt p e R s m args below meth c Q n0 z0 pc d L st h i α k r Bd hg hc hf hlo hn0 hz0 hR K
  have hown : s.vm.findClass mt.y.cls = some m.cls := findClass_of_methodNamed Bd.hnm
  have hts2 : ∀ w ∈ pm_tb, w.before args s = true := fun w hw => Bd.hts w (List.mem_cons_of_mem _ hw)
  have hn1 : n0 ≤ (pe_D h).length := by rw [pe_D_length]; exact hn0
  rcases i with ⟨wide, ix, j⟩ | ⟨ix, ws⟩ | ⟨ix, ws⟩ | ⟨ix, ws⟩ | ⟨ix, j, host, wd⟩ | ⟨ix, ws⟩ | ⟨ix, ic, ws⟩ | ⟨ix, ws⟩ | ⟨wide, ix, ic, kx, j, ci, ws⟩ | ⟨ix, ws⟩
  · cases wide with
    | true =>
      replace hc : (decide (decode mt.cc pc = .ok (.ldc_w ix, 3)) && decide ((mt.y.cls, ix, j) ∈ kst)) = true := hc
      rw [Bool.and_eq_true, decide_eq_true_eq, decide_eq_true_eq] at hc
      obtain ⟨tx, hv⟩ := hks s Bd.hE _ hc.2
      exact pm_ldcSW Bd.hx Bd.hb hown hv hc.1 (K _ _ hg pe_le.rf)
    | false =>
      replace hc : (decide (decode mt.cc pc = .ok (.ldc ix, 2)) && decide ((mt.y.cls, ix, j) ∈ kst)) = true := hc
      rw [Bool.and_eq_true, decide_eq_true_eq, decide_eq_true_eq] at hc
      obtain ⟨tx, hv⟩ := hks s Bd.hE _ hc.2
      exact pm_ldcS Bd.hx Bd.hb hown hv hc.1 (K _ _ hg pe_le.rf)
  · obtain ⟨hd, g⟩ := pe_bif_inv hg
    have hd := Nat.le_of_ble_eq_true hd
    obtain ⟨i, j, st3, tx, z, rfl, hj, hi, hz1, g⟩ := pe_sck_inv g
    obtain ⟨hcat, g⟩ := pe_bif_inv g
    have hcat := Nat.le_of_ble_eq_true hcat
    have q2 := K _ _ g pe_le.rf
    have hR2 := hR _ _ g
    obtain ⟨hlen, hall⟩ := hasc j tx hj
    have hz2 := hall z (by rw [pe_at_eq] at hz1; exact List.mem_of_getElem? hz1)
    have hM := cj_charAt (l := l) (d := 0) (dA := dA) (D := D) (cl := pe_cl) (tys := tys) hEok hEX hj hi hz1 hlen (pe_D h)
    rw [hz2] at hM
    simp only [pe_ckSG] at hc
    split at hc
    · simp only [Bool.and_eq_true, decide_eq_true_eq] at hc
      exact pm_cVX (As := [_]) (own := mt.y.cls) (index := ix) (hh := []) Bd.hx Bd.hb Bd.hml hown Bd.hK Bd.hE hEok Bd.hz hn1 hz0 (Nat.le_refl _) (Nat.le_refl _) (hM) (pm_hws Bd.hts mJ_charAt) (Or.inl List.mem_cons_self) (hts2 _ (pm_mem 3 (by decide +kernel) (by decide +kernel))) (Or.inl (hts2 _ (pe_w_mem hc.2))) (hts2 _ (pm_mem 63 (by decide +kernel) (by decide +kernel))) (hts2 _ (pm_mem 64 (by decide +kernel) (by decide +kernel))) (by decide +kernel) (pm_arity (n := 1) (by decide +kernel)) ((hEX s Bd.hE).st j tx hj).1 (by rw [pe_cat_eq]; exact hcat) (by rw [Nat.sub_self, Nat.add_zero, pe_D_length]; exact hR2.1) (by rw [Nat.sub_self, Nat.add_zero]; exact hR2.2) (by have := hf; omega) (by show 8 + (2 + 11) + 3 * 60 ≤ R.locals; omega) hc.1 q2
    · simp only [Bool.and_false] at hc; cases hc
  · obtain ⟨n, dp, b, sp, a, st3, n1, n2, rfl, q1, q2, q3, q4, q5, hd, hcat, g⟩ := pe_ack_inv hg
    have hnf : nativeFrameWords "java/lang/System" "arraycopy" 5 ≤ 41 := by decide +kernel
    simp only [pe_ckSG] at hc
    split at hc
    · simp only [Bool.and_eq_true, decide_eq_true_eq] at hc
      obtain ⟨hdg, w1, w2, w3, w4⟩ := hc
      rcases g with ⟨t, c1, c2, c3, e1, e2, ht, hc3, g⟩ | ⟨c1, c2, c3, e1, e2, hc3, g⟩
      · have k2 := K _ _ g (pe_le.set (y := .inl (t, n2, c3)) e2 rfl)
        have hfn : (fun j => pe_lk 0 j c3) = va_cpy (fun j => pe_lk 0 j c1) (fun j => pe_lk 0 j c2) sp.toNatClampNeg dp.toNatClampNeg n.toNatClampNeg := by
          funext j
          exact hc3 j
        rw [pe_D_set, show pe_d (.inl (t, n2, c3)) = .inl (t, .inl (n2, fun j => pe_lk 0 j c3)) from rfl, hfn] at k2
        rcases ht with ht | ⟨ht, q6⟩
        · subst ht
          obtain ⟨ty2, y1, y2⟩ := hT 0 (by decide)
          cases y1
          exact pm_copy Bd.hx Bd.hb Bd.hml hown (hts2 _ (pe_w_mem w1)) (hts2 _ (pe_w_mem w2)) (hts2 _ (pe_w_mem w3)) (hts2 _ (pe_w_mem w4)) Bd.hK (pe_D_at e1) (pe_D_at e2) y2 y2 rfl q2 q3 q1 q4 q5 (fun _ _ => rfl) (by have := hf; omega) (by rw [pe_cat_eq]; omega) hdg k2
        · subst ht
          obtain ⟨ty2, y1, y2⟩ := hT 2 (by decide)
          cases y1
          exact pm_copy Bd.hx Bd.hb Bd.hml hown (hts2 _ (pe_w_mem w1)) (hts2 _ (pe_w_mem w2)) (hts2 _ (pe_w_mem w3)) (hts2 _ (pe_w_mem w4)) Bd.hK (pe_D_at e1) (pe_D_at e2) y2 y2 rfl q2 q3 q1 q4 q5 q6 (by have := hf; omega) (by rw [pe_cat_eq]; omega) hdg k2
      · have k2 := K _ _ g (pe_le.set (y := .inr (.inr (.inr ((1, n2, c3))))) e2 rfl)
        have hfn : (fun j => pe_lk 0 j c3) = va_cpy (fun j => pe_lk 0 j c1) (fun j => pe_lk 0 j c2) sp.toNatClampNeg dp.toNatClampNeg n.toNatClampNeg := by
          funext j
          exact hc3 j
        rw [pe_D_set, show pe_d (.inr (.inr (.inr ((1, n2, c3))))) = .inl (1, .inr (.inl (n2, fun j => pe_lk 0 j c3))) from rfl, hfn] at k2
        obtain ⟨ty2, y1, y2⟩ := hT 1 (by decide)
        cases y1
        exact pm_copyL Bd.hx Bd.hb Bd.hml hown (hts2 _ (pe_w_mem w1)) (hts2 _ (pe_w_mem w2)) (hts2 _ (pe_w_mem w3)) (hts2 _ (pe_w_mem w4)) Bd.hK (pe_D_at e1) (pe_D_at e2) y2 y2 rfl q2 q3 q1 q4 q5 (fun _ _ => rfl) (by have := hf; omega) (by rw [pe_cat_eq]; omega) hdg k2
    · simp only [Bool.and_false] at hc; cases hc
  · obtain ⟨hd, g⟩ := pe_bif_inv hg
    have hd := Nat.le_of_ble_eq_true hd
    obtain ⟨j, st3, tx, rfl, hj, g⟩ := pe_slk_inv g
    obtain ⟨hcat, g⟩ := pe_bif_inv g
    have hcat := Nat.le_of_ble_eq_true hcat
    have q2 := K _ _ g pe_le.rf
    have hR2 := hR _ _ g
    simp only [pe_ckSG] at hc
    split at hc
    · simp only [Bool.and_eq_true, decide_eq_true_eq] at hc
      exact pm_cVX (As := []) (own := mt.y.cls) (index := ix) (hh := []) Bd.hx Bd.hb Bd.hml hown Bd.hK Bd.hE hEok Bd.hz hn1 hz0 (Nat.le_refl _) (Nat.le_refl _) (cj_length (d := 0) hEok hEX hj _) (pm_hws Bd.hts mJ_length) (Or.inl List.mem_cons_self) (hts2 _ (pm_mem 3 (by decide +kernel) (by decide +kernel))) (Or.inl (hts2 _ (pe_w_mem hc.2))) (hts2 _ (pm_mem 53 (by decide +kernel) (by decide +kernel))) (hts2 _ (pm_mem 54 (by decide +kernel) (by decide +kernel))) (by decide +kernel) (pm_arity (n := 0) (by decide +kernel)) ((hEX s Bd.hE).st j tx hj).1 (by rw [pe_cat_eq]; exact hcat) (by rw [Nat.sub_self, Nat.add_zero, pe_D_length]; exact hR2.1) (by rw [Nat.sub_self, Nat.add_zero]; exact hR2.2) (by have := hf; omega) (by show 8 + (1 + 11) + 1 * 60 ≤ R.locals; omega) hc.1 q2
    · simp only [Bool.and_false] at hc; cases hc
  · cases hq : stt.find? (fun q => q.1 == j) with
    | none => simp only [pe_ckSG, hq, Bool.and_false] at hc; cases hc
    | some q =>
      obtain ⟨j2, C, n, dd⟩ := q
      have hj : j2 = j := by have := List.find?_some hq; simpa using this
      subst hj
      have hz := hst s Bd.hE _ (List.mem_of_find?_eq_some hq)
      cases host with
      | none =>
        simp only [pe_ckSG, hq, Bool.and_eq_true, decide_eq_true_eq] at hc
        exact pm_gets (v := .retAddr j2) Bd.hx Bd.hb hown hz (hts2 _ (pe_w_mem hc.2)) (fun _ q => q) hc.1 (K _ _ hg pe_le.rf)
      | some hn =>
        simp only [pe_ckSG, hq, Bool.and_eq_true, decide_eq_true_eq] at hc
        exact pm_getsN (v := .retAddr j2) Bd.hx Bd.hb hown hz (pe_n_at hc.2 (hnw s Bd.hE)) (fun _ q => q) hc.1 (K _ _ hg pe_le.rf)
  · obtain ⟨mm, n, st3, rfl, g⟩ := pe_2i_inv hg
    obtain ⟨hb1, g⟩ := pe_bif_inv g
    simp only [Bool.and_eq_true, Bool.not_eq_true', decide_eq_false_iff_not] at hb1
    obtain ⟨b1, b2, b3, b4⟩ := hb1
    have b3 := Nat.le_of_ble_eq_true b3
    have b4 := Nat.le_of_ble_eq_true b4
    rw [pe_fn_eq, pe_fn_eq, pe_fn_eq, pe_rowk_eq, pe_pushk_eq, pe_repk_eq] at g
    have q2 := K _ _ g (pe_le.push.tr pe_le.app)
    have hR2 := hR _ _ g
    rw [pe_rows_eq] at q2 hR2
    rw [List.length_append, List.length_append, List.length_replicate] at hR2
    have hsz : pm_sz (pe_D h ++ pm_rows (pe_D h).length mm.toNatClampNeg n.toNatClampNeg) = pm_sz (pe_D h) + (mm.toNatClampNeg + mm.toNatClampNeg * n.toNatClampNeg) := by rw [← pm_rows_sz (pe_D h).length]; simp [pm_sz]
    rw [hsz] at hR2
    rw [← pe_D_length h] at q2 hR2
    simp only [List.length_cons, List.length_nil] at hR2
    simp only [pe_ckSG] at hc
    split at hc
    · simp only [Bool.and_eq_true, decide_eq_true_eq] at hc
      obtain ⟨hdg, c1, c2, c3⟩ := hc
      obtain ⟨ty5, y5, y6⟩ := hT 5 (by decide)
      cases y5
      obtain ⟨ty0, y1, y2⟩ := hT 0 (by decide)
      cases y1
      exact pm_multi Bd.hx Bd.hb hown Bd.hK (hts2 _ (pe_w_mem c1)) (pe_n_at c2 (hnw s Bd.hE)) (hts2 _ (pe_w_mem c3)) y6 y2 b2 b1 (by omega) (by omega) Bd.hz hn1 hz0 (by have := hR2.1; omega) (by have := hR2.2; omega) hdg q2
    · simp only [Bool.and_false] at hc; cases hc
  · obtain ⟨hd, g⟩ := pe_bif_inv hg
    rw [Bool.and_eq_true] at hd
    have hd1 := Nat.le_of_ble_eq_true hd.1
    have hd2 := Nat.le_of_ble_eq_true hd.2
    rw [pe_fn_eq, pe_pushk_eq] at g
    have q2 := K _ _ g pe_le.push
    have hR2 := hR _ _ g
    rw [pe_D_push, ← pe_D_length h] at q2
    rw [List.length_append, pe_D_push, pm_sz_push] at hR2
    simp only [List.length_cons, List.length_nil] at hR2
    replace hc : pe_ckN mt pc ix ic ws = true := hc
    unfold pe_ckN at hc
    split at hc
    · simp only [Bool.and_eq_true, decide_eq_true_eq] at hc
      obtain ⟨dg1, dg2, dg3, w1, w2, w3, w4⟩ := hc
      obtain ⟨hin, ty0, hty, hnm, hdv⟩ := pe_cl_ok ex B 11 "LinkedTongueModel$Halt" TC_11 8 rfl
      obtain ⟨e1, e2⟩ := hdv pe_dv_11 rfl
      exact pm_newHalt (T := TC_11) (ci := 11) (vs := pe_dv_11) (kC := 0) (kS := 1) (kP := 2) (jU := .float 774) (jS := .float 775) Bd.hx Bd.hb Bd.hml hls hts2 hown Bd.hK hin ty0 hty hnm (hts2 _ (pe_w_mem w1)) (hts2 _ (pe_w_mem w2)) (hts2 _ (pe_w_mem w3)) rfl e1 e2 (hl_hat hts2 (hnw s Bd.hE) (hLU s Bd.hE) (hLV s Bd.hE)) (pe_lk1_or w4 (hnw s Bd.hE) hts2) (pe_ph_ref ex B 774 rfl) (pe_ph_ref ex B 775 rfl) (hU s Bd.hE) (hV s Bd.hE) (by decide) (by decide) (by decide) rfl rfl rfl Bd.hz hn1 hz0 (by rw [pe_D_length]; have := hR2.1; omega) (by have := hR2.2; have q : pm_n (pe_d (.inr (.inl (11, [.ref h.length, .float 774, .float 775, .null, .null, .int 0, .int 0, .int 0])))) = 8 := rfl; rw [q] at this; omega) (by have := hf; omega) (by rw [pe_cat_eq]; omega) dg1 dg2 dg3 q2
    · simp only [Bool.and_false] at hc; cases hc
  · obtain ⟨a, b, vs, cc0, rfl, e1, e2, e3, hout, g⟩ := pe_zlk_inv hg
    have k2 := K _ _ g (pe_le.set (y := .inl (3, 4000, [])) e3 rfl)
    have hfn : pe_d (.inl (3, 4000, [])) = .inl (3, .inl (4000, fun j => if j < 4000 then 0 else pe_lk 0 j cc0)) := by
      have h1 : (fun j => pe_lk (0 : Int32) j []) = fun j => if j < 4000 then 0 else pe_lk 0 j cc0 := by
        funext j
        by_cases hj : j < 4000
        · rw [if_pos hj]; rfl
        · rw [if_neg hj, hout j (by omega)]; rfl
      show (Sum.inl (3, Sum.inl (4000, fun j => pe_lk (0 : Int32) j [])) : pm_E) = _
      rw [h1]
    rw [pe_D_set, hfn] at k2
    replace hc : pe_ckZ mt pc ix ws = true := hc
    unfold pe_ckZ at hc
    split at hc
    · simp only [Bool.and_eq_true, decide_eq_true_eq] at hc
      obtain ⟨d0, d1, d2, d3, d4, d5, d6, d7, d8, d9, d10, d11, hmx, w1⟩ := hc
      obtain ⟨hin, ty0, hty, hnm, hdv⟩ := pe_cl_ok ex B 15 "LinkedTongueModel" TM 180 rfl
      obtain ⟨ty3, y1, y2⟩ := hT 3 (by decide)
      cases y1
      exact pm_zl (C := "LinkedTongueModel") (T := TM) (N := 180) (k0 := 97) (ci := 15) (t0 := 3) Bd.hx Bd.hb hts2 hown Bd.hK hin rfl (by decide) (hts2 _ (pe_w_mem w1)) hmx (pe_D_at e1) (by rw [pe_at_eq] at e2; exact e2) (pe_D_at e3) y2 d0 d1 d2 d3 d4 d5 d6 d7 d8 d9 d10 d11 k2
    · simp only [Bool.and_false] at hc; cases hc
  · obtain ⟨hd, g⟩ := pe_bif_inv hg
    rw [Bool.and_eq_true] at hd
    have hd1 := Nat.le_of_ble_eq_true hd.1
    have hd2 := Nat.le_of_ble_eq_true hd.2
    rw [pe_fn_eq, pe_pushk_eq] at g
    have q2 := K _ _ g pe_le.push
    have hR2 := hR _ _ g
    rw [pe_D_push, ← pe_D_length h] at q2
    rw [List.length_append, pe_D_push, pm_sz_push] at hR2
    simp only [List.length_cons, List.length_nil] at hR2
    have hq6 : pm_n (pe_d (.inr (.inl (ci, [.ref h.length, .float 774, .float 775, .retAddr j, .null, .int 0])))) = 6 := rfl
    rw [hq6] at hR2
    replace hc : pe_ckX kst mt pc wide ix ic kx j ci ws = true := hc
    unfold pe_ckX at hc
    rw [Bool.and_eq_true, Bool.and_eq_true, Bool.and_eq_true, Bool.and_eq_true, decide_eq_true_eq, decide_eq_true_eq, decide_eq_true_eq] at hc
    obtain ⟨dg1, dg2, dg3, hkk, hc⟩ := hc
    obtain ⟨tx, hv⟩ := hks s Bd.hE _ hkk
    split at hc
    · rename_i qq w1 w2 w3 w4 hfq
      simp only [Bool.and_eq_true] at hc
      obtain ⟨c1, c2, c3, c4⟩ := hc
      have hqm := List.mem_of_find?_eq_some hfq
      have hqb := List.find?_some hfq
      have hqc : qq.1 = ci := Nat.eq_of_beq_eq_true hqb
      simp only [pe_xcl, List.mem_cons, List.not_mem_nil, or_false] at hqm
      rcases hqm with rfl | rfl | rfl | rfl
      · cases hqc
        obtain ⟨hin, ty0, hty, hnm, hdv⟩ := pe_cl_ok ex B 16 "java/lang/IllegalArgumentException" TC_16 6 rfl
        obtain ⟨e1, e2⟩ := hdv pe_dv_16 rfl
        have hmem : (("java/lang/IllegalArgumentException", 7, Bundle.six) : String × Nat × ByteArray) ∈ hm_xc := List.mem_of_getElem? (i := 0) rfl
        have hat := hm_hat hts2 (hnw s Bd.hE) (hLU s Bd.hE) (hLV s Bd.hE) hmem
        cases wide with
        | true =>
          replace dg3 : (decide (decode mt.cc (pc + 4) = .ok (.ldc_w kx, 3)) && decide (decode mt.cc (pc + 7) = .ok (.invokespecial ic, 3))) = true := dg3
          rw [Bool.and_eq_true, decide_eq_true_eq, decide_eq_true_eq] at dg3
          exact pm_newMsgW (T := TC_16) (ci := 16) (vs := pe_dv_16) (kC := 0) (kS := 1) (kP := 2) (kM := 3) (jU := .float 774) (jS := .float 775) Bd.hx Bd.hb Bd.hml hls hts2 hown Bd.hK (by decide +kernel) (hm_bys _ hmem) hin ty0 hty hnm (hts2 _ (pe_w_mem c1)) (hts2 _ (pe_w_mem c2)) (hts2 _ (pe_w_mem c3)) rfl e1 e2 hat hv (pe_lk1_or c4 (hnw s Bd.hE) hts2) (pe_ph_ref ex B 774 rfl) (pe_ph_ref ex B 775 rfl) (hU s Bd.hE) (hV s Bd.hE) (by decide) (by decide) (by decide) (by decide) rfl rfl rfl rfl Bd.hz hn1 hz0 (by rw [pe_D_length]; have := hR2.1; omega) (by have := hR2.2; omega) (by have := hf; omega) (by rw [pe_cat_eq]; omega) dg1 dg2 dg3.1 dg3.2 q2
        | false =>
          replace dg3 : (decide (decode mt.cc (pc + 4) = .ok (.ldc kx, 2)) && decide (decode mt.cc (pc + 6) = .ok (.invokespecial ic, 3))) = true := dg3
          rw [Bool.and_eq_true, decide_eq_true_eq, decide_eq_true_eq] at dg3
          exact pm_newMsg (T := TC_16) (ci := 16) (vs := pe_dv_16) (kC := 0) (kS := 1) (kP := 2) (kM := 3) (jU := .float 774) (jS := .float 775) Bd.hx Bd.hb Bd.hml hls hts2 hown Bd.hK (by decide +kernel) (hm_bys _ hmem) hin ty0 hty hnm (hts2 _ (pe_w_mem c1)) (hts2 _ (pe_w_mem c2)) (hts2 _ (pe_w_mem c3)) rfl e1 e2 hat hv (pe_lk1_or c4 (hnw s Bd.hE) hts2) (pe_ph_ref ex B 774 rfl) (pe_ph_ref ex B 775 rfl) (hU s Bd.hE) (hV s Bd.hE) (by decide) (by decide) (by decide) (by decide) rfl rfl rfl rfl Bd.hz hn1 hz0 (by rw [pe_D_length]; have := hR2.1; omega) (by have := hR2.2; omega) (by have := hf; omega) (by rw [pe_cat_eq]; omega) dg1 dg2 dg3.1 dg3.2 q2
      · cases hqc
        obtain ⟨hin, ty0, hty, hnm, hdv⟩ := pe_cl_ok ex B 17 "java/lang/IllegalStateException" TC_17 6 rfl
        obtain ⟨e1, e2⟩ := hdv pe_dv_17 rfl
        have hmem : (("java/lang/IllegalStateException", 7, Bundle.six) : String × Nat × ByteArray) ∈ hm_xc := List.mem_of_getElem? (i := 1) rfl
        have hat := hm_hat hts2 (hnw s Bd.hE) (hLU s Bd.hE) (hLV s Bd.hE) hmem
        cases wide with
        | true =>
          replace dg3 : (decide (decode mt.cc (pc + 4) = .ok (.ldc_w kx, 3)) && decide (decode mt.cc (pc + 7) = .ok (.invokespecial ic, 3))) = true := dg3
          rw [Bool.and_eq_true, decide_eq_true_eq, decide_eq_true_eq] at dg3
          exact pm_newMsgW (T := TC_17) (ci := 17) (vs := pe_dv_17) (kC := 0) (kS := 1) (kP := 2) (kM := 3) (jU := .float 774) (jS := .float 775) Bd.hx Bd.hb Bd.hml hls hts2 hown Bd.hK (by decide +kernel) (hm_bys _ hmem) hin ty0 hty hnm (hts2 _ (pe_w_mem c1)) (hts2 _ (pe_w_mem c2)) (hts2 _ (pe_w_mem c3)) rfl e1 e2 hat hv (pe_lk1_or c4 (hnw s Bd.hE) hts2) (pe_ph_ref ex B 774 rfl) (pe_ph_ref ex B 775 rfl) (hU s Bd.hE) (hV s Bd.hE) (by decide) (by decide) (by decide) (by decide) rfl rfl rfl rfl Bd.hz hn1 hz0 (by rw [pe_D_length]; have := hR2.1; omega) (by have := hR2.2; omega) (by have := hf; omega) (by rw [pe_cat_eq]; omega) dg1 dg2 dg3.1 dg3.2 q2
        | false =>
          replace dg3 : (decide (decode mt.cc (pc + 4) = .ok (.ldc kx, 2)) && decide (decode mt.cc (pc + 6) = .ok (.invokespecial ic, 3))) = true := dg3
          rw [Bool.and_eq_true, decide_eq_true_eq, decide_eq_true_eq] at dg3
          exact pm_newMsg (T := TC_17) (ci := 17) (vs := pe_dv_17) (kC := 0) (kS := 1) (kP := 2) (kM := 3) (jU := .float 774) (jS := .float 775) Bd.hx Bd.hb Bd.hml hls hts2 hown Bd.hK (by decide +kernel) (hm_bys _ hmem) hin ty0 hty hnm (hts2 _ (pe_w_mem c1)) (hts2 _ (pe_w_mem c2)) (hts2 _ (pe_w_mem c3)) rfl e1 e2 hat hv (pe_lk1_or c4 (hnw s Bd.hE) hts2) (pe_ph_ref ex B 774 rfl) (pe_ph_ref ex B 775 rfl) (hU s Bd.hE) (hV s Bd.hE) (by decide) (by decide) (by decide) (by decide) rfl rfl rfl rfl Bd.hz hn1 hz0 (by rw [pe_D_length]; have := hR2.1; omega) (by have := hR2.2; omega) (by have := hf; omega) (by rw [pe_cat_eq]; omega) dg1 dg2 dg3.1 dg3.2 q2
      · cases hqc
        obtain ⟨hin, ty0, hty, hnm, hdv⟩ := pe_cl_ok ex B 18 "java/lang/IndexOutOfBoundsException" TC_18 6 rfl
        obtain ⟨e1, e2⟩ := hdv pe_dv_18 rfl
        have hmem : (("java/lang/IndexOutOfBoundsException", 7, Bundle.six) : String × Nat × ByteArray) ∈ hm_xc := List.mem_of_getElem? (i := 2) rfl
        have hat := hm_hat hts2 (hnw s Bd.hE) (hLU s Bd.hE) (hLV s Bd.hE) hmem
        cases wide with
        | true =>
          replace dg3 : (decide (decode mt.cc (pc + 4) = .ok (.ldc_w kx, 3)) && decide (decode mt.cc (pc + 7) = .ok (.invokespecial ic, 3))) = true := dg3
          rw [Bool.and_eq_true, decide_eq_true_eq, decide_eq_true_eq] at dg3
          exact pm_newMsgW (T := TC_18) (ci := 18) (vs := pe_dv_18) (kC := 0) (kS := 1) (kP := 2) (kM := 3) (jU := .float 774) (jS := .float 775) Bd.hx Bd.hb Bd.hml hls hts2 hown Bd.hK (by decide +kernel) (hm_bys _ hmem) hin ty0 hty hnm (hts2 _ (pe_w_mem c1)) (hts2 _ (pe_w_mem c2)) (hts2 _ (pe_w_mem c3)) rfl e1 e2 hat hv (pe_lk1_or c4 (hnw s Bd.hE) hts2) (pe_ph_ref ex B 774 rfl) (pe_ph_ref ex B 775 rfl) (hU s Bd.hE) (hV s Bd.hE) (by decide) (by decide) (by decide) (by decide) rfl rfl rfl rfl Bd.hz hn1 hz0 (by rw [pe_D_length]; have := hR2.1; omega) (by have := hR2.2; omega) (by have := hf; omega) (by rw [pe_cat_eq]; omega) dg1 dg2 dg3.1 dg3.2 q2
        | false =>
          replace dg3 : (decide (decode mt.cc (pc + 4) = .ok (.ldc kx, 2)) && decide (decode mt.cc (pc + 6) = .ok (.invokespecial ic, 3))) = true := dg3
          rw [Bool.and_eq_true, decide_eq_true_eq, decide_eq_true_eq] at dg3
          exact pm_newMsg (T := TC_18) (ci := 18) (vs := pe_dv_18) (kC := 0) (kS := 1) (kP := 2) (kM := 3) (jU := .float 774) (jS := .float 775) Bd.hx Bd.hb Bd.hml hls hts2 hown Bd.hK (by decide +kernel) (hm_bys _ hmem) hin ty0 hty hnm (hts2 _ (pe_w_mem c1)) (hts2 _ (pe_w_mem c2)) (hts2 _ (pe_w_mem c3)) rfl e1 e2 hat hv (pe_lk1_or c4 (hnw s Bd.hE) hts2) (pe_ph_ref ex B 774 rfl) (pe_ph_ref ex B 775 rfl) (hU s Bd.hE) (hV s Bd.hE) (by decide) (by decide) (by decide) (by decide) rfl rfl rfl rfl Bd.hz hn1 hz0 (by rw [pe_D_length]; have := hR2.1; omega) (by have := hR2.2; omega) (by have := hf; omega) (by rw [pe_cat_eq]; omega) dg1 dg2 dg3.1 dg3.2 q2
      · cases hqc
        obtain ⟨hin, ty0, hty, hnm, hdv⟩ := pe_cl_ok ex B 19 "java/util/NoSuchElementException" TC_19 6 rfl
        obtain ⟨e1, e2⟩ := hdv pe_dv_19 rfl
        have hmem : (("java/util/NoSuchElementException", 13, hm_six) : String × Nat × ByteArray) ∈ hm_xc := List.mem_of_getElem? (i := 3) rfl
        have hat := hm_hat hts2 (hnw s Bd.hE) (hLU s Bd.hE) (hLV s Bd.hE) hmem
        cases wide with
        | true =>
          replace dg3 : (decide (decode mt.cc (pc + 4) = .ok (.ldc_w kx, 3)) && decide (decode mt.cc (pc + 7) = .ok (.invokespecial ic, 3))) = true := dg3
          rw [Bool.and_eq_true, decide_eq_true_eq, decide_eq_true_eq] at dg3
          exact pm_newMsgW (T := TC_19) (ci := 19) (vs := pe_dv_19) (kC := 0) (kS := 1) (kP := 2) (kM := 3) (jU := .float 774) (jS := .float 775) Bd.hx Bd.hb Bd.hml hls hts2 hown Bd.hK (by decide +kernel) (hm_bys _ hmem) hin ty0 hty hnm (hts2 _ (pe_w_mem c1)) (hts2 _ (pe_w_mem c2)) (hts2 _ (pe_w_mem c3)) rfl e1 e2 hat hv (pe_lk1_or c4 (hnw s Bd.hE) hts2) (pe_ph_ref ex B 774 rfl) (pe_ph_ref ex B 775 rfl) (hU s Bd.hE) (hV s Bd.hE) (by decide) (by decide) (by decide) (by decide) rfl rfl rfl rfl Bd.hz hn1 hz0 (by rw [pe_D_length]; have := hR2.1; omega) (by have := hR2.2; omega) (by have := hf; omega) (by rw [pe_cat_eq]; omega) dg1 dg2 dg3.1 dg3.2 q2
        | false =>
          replace dg3 : (decide (decode mt.cc (pc + 4) = .ok (.ldc kx, 2)) && decide (decode mt.cc (pc + 6) = .ok (.invokespecial ic, 3))) = true := dg3
          rw [Bool.and_eq_true, decide_eq_true_eq, decide_eq_true_eq] at dg3
          exact pm_newMsg (T := TC_19) (ci := 19) (vs := pe_dv_19) (kC := 0) (kS := 1) (kP := 2) (kM := 3) (jU := .float 774) (jS := .float 775) Bd.hx Bd.hb Bd.hml hls hts2 hown Bd.hK (by decide +kernel) (hm_bys _ hmem) hin ty0 hty hnm (hts2 _ (pe_w_mem c1)) (hts2 _ (pe_w_mem c2)) (hts2 _ (pe_w_mem c3)) rfl e1 e2 hat hv (pe_lk1_or c4 (hnw s Bd.hE) hts2) (pe_ph_ref ex B 774 rfl) (pe_ph_ref ex B 775 rfl) (hU s Bd.hE) (hV s Bd.hE) (by decide) (by decide) (by decide) (by decide) rfl rfl rfl rfl Bd.hz hn1 hz0 (by rw [pe_D_length]; have := hR2.1; omega) (by have := hR2.2; omega) (by have := hf; omega) (by rw [pe_cat_eq]; omega) dg1 dg2 dg3.1 dg3.2 q2
    · cases hc
  · obtain ⟨hd, g⟩ := pe_bif_inv hg
    have hd := Nat.le_of_ble_eq_true hd
    obtain ⟨i, j, st3, tx, rfl, hj, hi, hz1, g⟩ := pe_sik_inv g
    obtain ⟨hcat, g⟩ := pe_bif_inv g
    have hcat := Nat.le_of_ble_eq_true hcat
    have q2 := K _ _ g pe_le.rf
    have hR2 := hR _ _ g
    obtain ⟨hlen, hall⟩ := hasc j tx hj
    have hM := cj_indexOf (l := l) (d := 0) (dA := dA) (D := D) (cl := pe_cl) (tys := tys) hEok hEX hj hi hz1 hlen (pe_D h)
    simp only [pe_ckSG] at hc
    split at hc
    · simp only [Bool.and_eq_true, decide_eq_true_eq] at hc
      exact pm_cVX (As := [_]) (own := mt.y.cls) (index := ix) (hh := []) Bd.hx Bd.hb Bd.hml hown Bd.hK Bd.hE hEok Bd.hz hn1 hz0 (Nat.le_refl _) (Nat.le_refl _) (hM) (pm_hws Bd.hts mJ_indexOf) (Or.inl List.mem_cons_self) (hts2 _ (pm_mem 3 (by decide +kernel) (by decide +kernel))) (Or.inl (hts2 _ (pe_w_mem hc.2))) (hts2 _ (pm_mem 950 (by decide +kernel) (by decide +kernel))) (hts2 _ (pm_mem 951 (by decide +kernel) (by decide +kernel))) (by decide +kernel) (pm_arity (n := 1) (by decide +kernel)) ((hEX s Bd.hE).st j tx hj).1 (by rw [pe_cat_eq]; exact hcat) (by rw [Nat.sub_self, Nat.add_zero, pe_D_length]; exact hR2.1) (by rw [Nat.sub_self, Nat.add_zero]; exact hR2.2) (by have := hf; omega) (by show 8 + (2 + 11) + 3 * 60 ≤ R.locals; omega) hc.1 q2
    · simp only [Bool.and_false] at hc; cases hc
end PE28
