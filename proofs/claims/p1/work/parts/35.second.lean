/-! PART 35: the law's second object; the law's end. -/
theorem pe_HM_len : (pe_HC ++ pe_HT).length = 388 := by decide +kernel
theorem pe_HM_sz : pm_sz (pe_D (pe_HC ++ pe_HT)) ≤ 3000000 := by decide +kernel
theorem pe_HM_sz2 : pm_sz (pe_D (pe_HC ++ [.inr (.inl (15, pe_dv_15))])) ≤ pm_sz (pe_D (pe_HC ++ pe_HT)) := by decide +kernel
section PE35
variable {p : Program} {l : Launch} {e : Env} {s : State} {m : MethodId} {args : Array Value} {below : List Frame} {meth : Method} {c : Code} {Q : State → Prop}
variable {ex : Nat → Nat} {dA : Nat → ClassId} {D : va_G} {tys : List (ClassId × FieldType)} {exV : Nat → Nat} {jF : Value}
/-- new LinkedTongueModel(), behind new LinkedTongue() -/
theorem wh_second (hls : l.stackTraces = false) (hx : p.tables.exec = Jvm.exec) (hb : c.code = code) (hml : c.maxLocals = 8) (hown : s.vm.findClass "LinkedTongueLaw" = some m.cls) (hts : ∀ w ∈ lw_tbl, w.before args s = true) (hK : va_K D pe_cl tys s) (hT : ∀ t, pe_tOK t = true → ∃ ty, pe_tyOf pe_cl t = some ty ∧ tys[t]? = some (dA t, ty)) (hE : pe_EF ex s.heap.size exV jF s)
    (k : pm_W p l e room_1 s m args below meth c Q ex s.heap.size dA D pe_cl 8 0 0 16 [(2, .ref 237), (1, .ref 0), (0, .retAddr 6)] [] (pe_D (pe_HC ++ pe_HT))) : pm_W p l e room_1 s m args below meth c Q ex s.heap.size dA D pe_cl 8 0 0 8 [(1, .ref 0), (0, .retAddr 6)] [] (pe_D pe_HC) := by
  have hts2 : ∀ w ∈ pm_tb, w.before args s = true := fun w hw => hts w (List.mem_filter.mp hw).1
  have hm0 := pe_okM_word ok_1
  have hts3 : ∀ w ∈ pe_wd tm_1 :: pm_tb, w.before args s = true := fun w hw => by
    rcases List.mem_cons.mp hw with rfl | hw
    · exact hts2 _ hm0
    · exact hts2 _ hw
  obtain ⟨hin, ty0, hty, hnm, hdv⟩ := pe_cl_ok ex s.heap.size 15 "LinkedTongueModel" TM 180 rfl
  obtain ⟨d1, d2⟩ := hdv pe_dv_15 rfl
  have hlen : (pe_D pe_HC).length = 237 := by rw [pe_D_length, pe_HC_len]
  have hsz := pe_HC_sz
  refine pm_new (own := "LinkedTongueLaw") (index := 34) (ci := 15) (vs := pe_dv_15) hx hb hts2 hown hK hin ty0 hty (hts2 _ (pm_mem 2191 (by decide +kernel) (by decide +kernel))) (hts2 _ (pm_mem 2192 (by decide +kernel) (by decide +kernel))) (hts2 _ (pm_mem 19 (by decide +kernel) (by decide +kernel))) rfl d1 d2 rfl (Nat.zero_le _) (Nat.zero_le _) (by rw [hlen]; decide +kernel) (by show pm_sz (pe_D pe_HC) - 0 + 180 ≤ room_1.slots; have := room_ge_s; omega) (by decide +kernel) ?_
  refine pm_dup hx hb (by decide +kernel) rfl ?_
  have hM := pe_conM (l := l) (ex := ex) (B := s.heap.size) (dA := dA) (D := D) (tys := tys) (pe_Am_of (exV := exV) (jF := jF) hls hT)
  have e1 : pe_D pe_HC ++ [.inr (15, pe_dv_15)] = pe_D (pe_HC ++ [.inr (.inl (15, pe_dv_15))]) := by rw [pe_D_push]; rfl
  rw [e1, hlen]
  have hl2 : (pe_D (pe_HC ++ pe_HT)).length = 388 := by rw [pe_D_length, pe_HM_len]
  have hl1 : (pe_D (pe_HC ++ [.inr (.inl (15, pe_dv_15))])).length = 238 := by rw [pe_D_length, List.length_append, pe_HC_len]; rfl
  have hs1 := pe_HM_sz
  have hs2 := pe_HM_sz2
  generalize pe_D (pe_HC ++ [.inr (.inl (15, pe_dv_15))]) = hh1 at *
  generalize pe_D (pe_HC ++ pe_HT) = hh2 at *
  refine pm_cI (As := []) (own := "LinkedTongueLaw") (index := 36) (bytes := tm_1.cc) (maxL := tm_1.mx) (h := hh1) (h2 := hh2) (st := [.ref 237]) hx hb hml hown hK hE (pe_EF_ok ex s.heap.size exV jF) rfl (Nat.zero_le _) (Nat.zero_le _) (by rw [hl2, hl1]; decide) hs2 hM (pm_hws hts3 hm0) List.mem_cons_self (hts2 _ (pm_mem 19 (by decide +kernel) (by decide +kernel))) (Or.inl (hts2 _ (pm_mem 2193 (by decide +kernel) (by decide +kernel)))) rfl (hts2 _ (pm_mem 2194 (by decide +kernel) (by decide +kernel))) (by decide +kernel) (pm_arity (n := 0) (by decide +kernel)) (Nat.le_of_ble_eq_true rfl) (by rw [hl2, hl1]; decide) (by show pm_sz hh1 - 0 + (pm_sz hh2 - pm_sz hh1) ≤ room_1.slots; have := room_ge_s; omega) (by decide) (by decide +kernel) (by decide +kernel) ?_
  refine pm_astore_n (n := 2) hx hb (by decide +kernel) rfl rfl (by decide) ?_
  exact k
end PE35
/-- what was written in new cells alone was written nowhere -/
theorem wh_fresh {s t : State} {L : List Loc} {k n k2 n2 : Nat} (h : s.sameButNew t L k n) (hL : ∀ q ∈ L, s.heap.size ≤ q.base) (hk : k ≤ k2) (hn : n ≤ n2) : s.sameButNew t [] k2 n2 := by
  obtain ⟨h1, h2, h3, h4, h5, h6⟩ := h
  refine ⟨h1, h2, by omega, h4, by omega, fun a c ha => ?_⟩
  obtain ⟨c', q1, q2, q3, q4⟩ := h6 a c ha
  refine ⟨c', q1, q2, q3, fun i _ => q4 i (fun hm => ?_)⟩
  have h7 : s.heap.size ≤ a := hL _ hm
  have h8 := (Array.getElem?_eq_some_iff.mp ha).1
  omega
theorem wh_end {s t : State} {below : List Frame} {ex : Nat → Nat} {dA : Nat → ClassId} {D : va_G} {cl : List vw_C} {H : pm_H} {b mc ms : Nat} (hmc : mc ≤ room_1.cells) (hms : ms ≤ room_1.slots) (h : pm_MQ below (pm_QcO ex s.heap.size dA D cl (.inl (some (.int 1))) H) #[.ref b] s mc ms (fun q => s.heap.size ≤ q) t) : lw_Z below #[.ref b] s t := by
  obtain ⟨o, h1, h2, ⟨h3, _, _⟩, L, ⟨hW, hS⟩, hf⟩ := h
  have h4 : o = .returned (some (.int 1)) := h3
  exact ⟨o, h1, h2, h4, ⟨_, h4⟩, hW, wh_fresh hS hf hmc hms⟩
