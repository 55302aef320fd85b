/-! PART 33: the law's first steps. -/
/-- what is needed of the room, whatever its last digits are -/
theorem room_ge_s : 7245000 ≤ room_1.slots := by decide +kernel
theorem room_ge_c : 300000 ≤ room_1.cells := by decide +kernel
theorem pe_HC_len : pe_HC.length = 237 := by decide +kernel
theorem pe_HC_sz : pm_sz (pe_D pe_HC) ≤ 50000 := by decide +kernel
theorem pe_obC_sz : pm_sz (pe_D [.inr (.inl (10, pe_dv_10))]) = 11 := by decide +kernel
section PE33
variable {p : Program} {l : Launch} {e : Env} {s : State} {m : MethodId} {args : Array Value} {below : List Frame} {meth : Method} {c : Code} {Q : State → Prop}
variable {ex : Nat → Nat} {dA : Nat → ClassId} {D : va_G} {tys : List (ClassId × FieldType)} {exV : Nat → Nat} {jF : Value}
/-- new LinkedTongue(), from the law's entry on -/
theorem wh_first (hls : l.stackTraces = false) (hx : p.tables.exec = Jvm.exec) (hb : c.code = code) (hml : c.maxLocals = 8) (hown : s.vm.findClass "LinkedTongueLaw" = some m.cls) (hts : ∀ w ∈ lw_tbl, w.before args s = true) (hK : va_K D pe_cl tys s) (hT : ∀ t, pe_tOK t = true → ∃ ty, pe_tyOf pe_cl t = some ty ∧ tys[t]? = some (dA t, ty)) (hE : pe_EF ex s.heap.size exV jF s)
    (k : pm_W p l e room_1 s m args below meth c Q ex s.heap.size dA D pe_cl 8 0 0 8 [(1, .ref 0), (0, .retAddr 6)] [] (pe_D pe_HC)) : pm_W p l e room_1 s m args below meth c Q ex s.heap.size dA D pe_cl 8 0 0 0 [(0, .retAddr 6)] [] [] := by
  have hts2 : ∀ w ∈ pm_tb, w.before args s = true := fun w hw => hts w (List.mem_filter.mp hw).1
  have hm0 := pe_okM_word ok_0
  have hts3 : ∀ w ∈ pe_wd tm_0 :: pm_tb, w.before args s = true := fun w hw => by
    rcases List.mem_cons.mp hw with rfl | hw
    · exact hts2 _ hm0
    · exact hts2 _ hw
  obtain ⟨hin, ty0, hty, hnm, hdv⟩ := pe_cl_ok ex s.heap.size 10 "LinkedTongue" TC_10 11 rfl
  obtain ⟨d1, d2⟩ := hdv pe_dv_10 rfl
  refine pm_new (own := "LinkedTongueLaw") (index := 8) (ci := 10) (vs := pe_dv_10) hx hb hts2 hown hK hin ty0 hty (hts2 _ (pm_mem 33 (by decide +kernel) (by decide +kernel))) (hts2 _ (pm_mem 34 (by decide +kernel) (by decide +kernel))) (hts2 _ (pm_mem 1 (by decide +kernel) (by decide +kernel))) rfl d1 d2 rfl (Nat.le_refl _) (Nat.le_refl _) (by decide +kernel) (by decide +kernel) (by decide +kernel) ?_
  refine pm_dup hx hb (by decide +kernel) rfl ?_
  have hM := pe_conC (l := l) (ex := ex) (B := s.heap.size) (dA := dA) (D := D) (tys := tys) (pe_Am_of (exV := exV) (jF := jF) hls hT)
  have hlen : (pe_D pe_HC).length = 237 := by rw [pe_D_length, pe_HC_len]
  have hlen0 : (pe_D [.inr (.inl (10, pe_dv_10))]).length = 1 := rfl
  refine pm_cI (As := []) (own := "LinkedTongueLaw") (index := 33) (bytes := tm_0.cc) (maxL := tm_0.mx) (h := pe_D [.inr (.inl (10, pe_dv_10))]) (h2 := pe_D pe_HC) (st := [.ref 0]) hx hb hml hown hK hE (pe_EF_ok ex s.heap.size exV jF) rfl (Nat.zero_le _) (Nat.zero_le _) (by rw [hlen, hlen0]; decide) (by rw [pe_obC_sz]; decide +kernel) hM (pm_hws hts3 hm0) List.mem_cons_self (hts2 _ (pm_mem 1 (by decide +kernel) (by decide +kernel))) (Or.inl (hts2 _ (pm_mem 35 (by decide +kernel) (by decide +kernel)))) rfl (hts2 _ (pm_mem 36 (by decide +kernel) (by decide +kernel))) (by decide +kernel) (pm_arity (n := 0) (by decide +kernel)) (Nat.le_of_ble_eq_true rfl) (by rw [hlen, hlen0]; decide) (by rw [pe_obC_sz]; have := pe_HC_sz; show 11 - 0 + (pm_sz (pe_D pe_HC) - 11) ≤ room_1.slots; have := room_ge_s; omega) (by decide) (by decide +kernel) (by decide +kernel) ?_
  refine pm_astore_n (n := 1) hx hb (by decide +kernel) rfl rfl (by decide) ?_
  exact k
end PE33
