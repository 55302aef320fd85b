/-! PART oc: the claim, given the room. -/
/-- the room of a script: what the last part must show -/
def roomB : Prop := ∀ (xs : List (Nat × List Int32)) (m : Nat) (S : wS), m ≤ 512 → RM xs m S → S wG 0 ≤ room_1.slots ∧ S wG 1 ≤ room_1.cells
section PEoc
variable {p : Program} {e : Env} {s : State} {m : MethodId} {below : List Frame} {meth : Method} {c : Code}
/-- the evaluator comes from behind the two objects to the law's end with true, within the room -/
theorem lw_run (hB : roomB) (cs : List Int32) (hl : cs.length ≤ 2560) : ∃ (f : Nat) (h2 : pe_H), pe_go (pe_GA (xsA cs)) f 1100 t_LL_law ((pe_at t_LL_law.bl 1).getD (0, [])).2 pe_L0 [] (pe_HC ++ pe_HT) = some (.inl (some (.int 1)), h2) ∧ h2.length ≤ room_1.cells ∧ pm_sz (pe_D h2) ≤ room_1.slots := by
  have k := lw_loop hl 513 0 SZ (by omega) (by omega) (by omega) (RM_S cs)
  obtain ⟨o, ad2, S2, h2, f0, hg, hE, -, ⟨rfl, m, hm, hR⟩⟩ := k adZ [(4, .int 0), (3, .ref 388), (2, .ref 237), (1, .ref 0), (0, .retAddr 6)] hpZ wE_Z (by
    intro i v hi
    have h0 : w_lk i [(0, (2, -10 - ((6 : Nat) : Int))), (1, (2, 0)), (2, (2, 237)), (3, (2, ((1000001 : Nat) : Int))), (4, (0, 5 * ((0 : Nat) : Int)))] = some v := hi
    match i, h0 with
    | 0, h0 => cases h0; rfl
    | 1, h0 => cases h0; rfl
    | 2, h0 => cases h0; rfl
    | 3, h0 =>
      cases h0
      show some (Value.ref 388) = some (w_r adZ ((1000001 : Nat) : Int))
      rw [w_r_n _ rfl, show adZ 1000001 = 388 by decide +kernel]
    | 4, h0 => cases h0; rfl
    | n + 5, h0 => cases h0)
  obtain ⟨r1, r2⟩ := hB _ m S2 hm hR
  obtain ⟨-, -, e1, e2, -⟩ := hE
  exact ⟨f0 + 6, h2, go_Z (hg f0 (Nat.le_refl _)), by omega, by omega⟩
theorem whole_start (hB : roomB) (l : Launch) {b : Nat} (cs : List Int32) (hls : l.stackTraces = false) (hL : cs.length ≤ 2560) (hnm : s.methodNamed? x = some m) (hmt : s.vm.method? m = some meth) (hcd : meth.code = some c) (hcode : (Cond.code x code maxLocals ret).before #[Value.ref b] s = true) (C0 : lw_At p s m meth c b cs.length (fun j => cs.getD j 0)) : W p l e room_1 s m #[Value.ref b] below meth c s.heap [] 0 0 (lw_Z below #[Value.ref b] s) (entryFrame m ([Value.ref b] : List Value).toArray 8) := by
  have C1 := C0
  obtain ⟨hx, hb, hr, hml, hown, hts, hX, hbl, hlk, hgv⟩ := C0
  refine wh_entryA l cs hls (wh_XT hX hbl) C1 ?_
  intro ex jF D dA tys h6 hE hK hT
  obtain ⟨f, h2, hg, hc, hs⟩ := lw_run hB cs hL
  exact wh_goA cs hg hc hs hls hx hb hr hlk hml hnm hmt hcd hcode hts hK hT hE
end PEoc
set_option maxHeartbeats 4000000 in
theorem lw_walk (hB : roomB) (l : Launch) (hls : l.stackTraces = false) (b : Addr) (xs : List Int32) : MetFree l x (headSpec (Jvm.Cond.code x code maxLocals ret :: tables_1) room_1) (lw_P b xs) (fun _ _ _ _ _ => True) lw_Q := by
  refine MetFree.of_bodyS (code := code) (maxLocals := maxLocals) (ret := ret) (by decide) ?_ ?_
  · intro args s m h hn
    obtain ⟨meth, c, h1, h2, h3, h4, h5, h6, -, -⟩ := Cond.code_spec hn (atoms_spec (ws := Jvm.Cond.code x code maxLocals ret :: tables_1) h _ List.mem_cons_self)
    exact ⟨meth, c, h1, h2, h3, h4, h5, h6⟩
  · intro p e s m args below meth c s₁ B hml0 hP _
    obtain ⟨rfl, hx, hbd, hgv⟩ := hP
    obtain ⟨scr, harrAt, hlist, hof, hsmall⟩ := hx
    obtain ⟨hcb, hkn, -, -⟩ := State.arrayAt?_spec harrAt
    have hown : s.vm.findClass R_law = some m.cls := findClass_of_methodNamed B.named
    have hts0 : ∀ c ∈ (Jvm.Cond.code x code maxLocals ret :: tables_1), c.before #[Value.ref b] s = true := atoms_spec (ws := Jvm.Cond.code x code maxLocals ret :: tables_1) B.pre
    have hts : ∀ w ∈ lw_tbl, w.before #[Value.ref b] s = true := k2_hts_sels lw_privs (fun w hw => hts0 w (List.mem_cons_of_mem _ hw)) lw_privs_ok
    have hml : c.maxLocals = 8 := B.maxLocals_eq (hts0 _ List.mem_cons_self)
    have X₀ : Stand p l e room_1 s m #[Value.ref b] below meth c s₁ [] 0 0 := Stand.of_body B
    have hh0 : s₁.heap = s.heap := by rw [B.state]; rfl
    have hsz : scr.slots.size = xs.length := by rw [← Array.length_toList, hlist, List.length_map]
    have hval : ∀ j : Nat, j < xs.length → scr.slots[j]? = some (.int (xs.getD j 0)) := fun j hj => by
      rw [← Array.getElem?_toList, hlist]
      simp [hj]
    have hbl : b < s.heap.size := (Array.getElem?_eq_some_iff.mp hcb).1
    have hX : va_X b xs.length (fun j => xs.getD j 0) s s.heap := ⟨scr, hcb, hof, hkn, hsz, hval⟩
    have K : W p l e room_1 s m #[Value.ref b] below meth c s₁.heap [] 0 0 (lw_Z below #[Value.ref b] s) (entryFrame m ([Value.ref b] : List Value).toArray 8) := by
      rw [hh0]
      exact whole_start hB l xs hls hbd B.named B.method (Stand.of_body B).code (hts0 _ List.mem_cons_self) ⟨B.exec, B.bytes, B.returns, hml, hown, hts, hX, hbl, B.notSynchronized, hgv⟩
    obtain ⟨t, a1, o, b1, b2, b3⟩ := K s₁ rfl X₀
    exact ⟨t, o, a1, b1, b2, b3⟩
theorem lw_pre_spec {args : Array Value} {s : State} (h : (Jvm.Cond.and given_1 narrow_1).before args s = true) (hr : rest_1_c.before args s = true) : ∃ (b : Addr) (xs : List Int32), lw_P b xs args s := by
  have hs := flat_of_before _ h
  have hq := flat_of_before _ hr
  have hc : (Cond.count 1).before args s = true := hs _ (by decide +kernel)
  have harr : (Cond.arrayOf (.arg 0) .int).before args s = true := hs _ (by decide +kernel)
  have hle : (Cond.le (.length (.arg 0)) (.int 2560)).before args s = true := hs _ (by decide +kernel)
  have hlen : (Cond.isInt (.length (.arg 0))).before args s = true := hq _ (by decide +kernel)
  have hall : (Cond.all (.arg 0) (.isInt (.elem (.arg 0) (.index 0)))).before args s = true := hq _ (by decide +kernel)
  obtain ⟨b, xs, hb, hx⟩ := State.ints_of_pre rfl harr hlen hall
  have hsm : xs.length < 2 ^ 31 := hx.choose_spec.2.2.2
  have hev : (Term.length (.arg 0)).eval args s none [] s = some (.int xs.length.toInt32) := hx.length_eval hb
  have hv := Cond.le_ints hev (show (Term.int 2560).eval args s none [] s = some (.int 2560) from rfl)
  have hd : xs.length.toInt32 ≤ 2560 := by
    simpa [Cond.before, Cond.holds, hv] using hle
  have hN : xs.length ≤ 2560 := (Int32.ofNat_le_ofNat hsm (by decide)).mp (show Int32.ofNat xs.length ≤ Int32.ofNat 2560 from hd)
  exact ⟨b, xs, Cond.one_arg hc (show args[0]? = some (.ref b) from hb), hx, hN, h⟩
theorem lw_comes (hB : roomB) (l : Launch) (hls : l.stackTraces = false) : Comes l x (Jvm.Cond.code x code maxLocals ret :: tables_1) room_1 (fun tb e args s => Calls_1 tb e args s ∧ rest_1 tb e args s ∧ Pre_1 tb e args s)
    (fun _ _ args s o t => lw_Q args s o t) := by
  intro p e ha hc hk s m args below hf hfit hheap happ hpre
  obtain ⟨b, xs, hP⟩ := lw_pre_spec hpre.2.2 hpre.2.1
  obtain ⟨k, o, h1, h2, h3, hQ⟩ := lw_walk hB l hls b xs p e ha hc hk s m args below hf ((Spec.applies_iff_loose hf).mp happ).1 hP trivial
  exact ⟨k, o, h1, h2, h3, hQ⟩
theorem lw_frame {s t : State} {o : Outcome} {args : Array Value} (h : Framed s o t [] room_1.cells room_1.slots) :
    Framed s o t (fieldLocs frame_1_writes args s ++ arrayLocs frame_1_arrays args s ++ staticLocs frame_1_statics s) room_1.cells room_1.slots := h
theorem lw_limb (hB : roomB) (L : Cond) (hL : ∀ (args : Array Value) (s t : State), L.after args s (.returned (some (.int 1))) t = true) :
    ArmFor flags0 classFile x code maxLocals ret World_1 tables_1 room_1 Calls_1 rest_1 Pre_1
      (fun tb e a s o t => postC L tb e a s o t ∧ Framed s o t (fieldLocs frame_1_writes a s ++ arrayLocs frame_1_arrays a s ++ staticLocs frame_1_statics s) room_1.cells room_1.slots) := by
  intro l hfl _ _ p e ha hc hk s m args below hf hfit hheap happ hpre
  obtain ⟨k, o, h1, h2, h3, rfl, hF⟩ := lw_comes hB l (by unfold Launch.stackTraces; rw [hfl]; decide +kernel) p e ha hc hk s m args below hf hfit hheap happ hpre
  exact ⟨k, _, h1, h2, h3, hL args s _, lw_frame hF⟩
/-- the claim, given the room -/
theorem i_vc_of (hB : roomB) : Claimed_1_1 ∧ Claimed_1_2 := ⟨lw_limb hB limb_1_1 (fun args s t => by simp [limb_1_1, Cond.after, Cond.holds, Cond.value]), lw_limb hB limb_1_2 (fun args s t => Cond.after_iff.mpr (by
  first | (rw [show limb_1_2 = Cond.eq .result (.int 1) from rfl, Cond.eq_ints (x := 1) (y := 1) rfl rfl]; simp; done) | (simp [limb_1_2, Cond.value, Term.eval]; done)))⟩
