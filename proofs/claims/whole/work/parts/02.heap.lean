/-! PART 02: fields, arrays, new cells, null tests of the pure machine. -/
theorem pm_upd {l : List Int32} {n : Nat} {x : Int32} (hn : n < l.length) : upd (fun j => l.getD j 0) n x = fun j => (l.set n x).getD j 0 := by
  funext j
  by_cases hj : j = n
  · subst hj
    simp [upd, List.getD, hn]
  · simp [upd, hj, List.getD, List.getElem?_set_ne (Ne.symm hj)]
theorem pm_updL {l : List Int64} {n : Nat} {x : Int64} (hn : n < l.length) : vp_updL (fun j => l.getD j 0) n x = fun j => (l.set n x).getD j 0 := by
  funext j
  by_cases hj : j = n
  · subst hj
    simp [vp_updL, List.getD, hn]
  · simp [vp_updL, hj, List.getD, List.getElem?_set_ne (Ne.symm hj)]
theorem pm_updR {l : List (Option Nat)} {B n : Nat} {x : Option Nat} (hn : n < l.length) : va_up (fun j => (l.getD j none).map (fun k => B + k)) n (x.map (fun k => B + k)) = fun j => ((l.set n x).getD j none).map (fun k => B + k) := by
  funext j
  by_cases hj : j = n
  · subst hj
    simp [va_up, List.getD, hn]
  · simp [va_up, hj, List.getD, List.getElem?_set_ne (Ne.symm hj)]
theorem pm_in_lt {i : Int32} {n : Nat} (h : vp_in i n) : i.toNatClampNeg < n := Nat.not_le.mp fun q => h (Or.inr q)
section PM2
variable {p : Program} {l : Launch} {e : Env} {R : Room} {s : State} {m : MethodId} {args : Array Value} {below : List Frame} {meth : Method} {c : Code} {Q : State → Prop}
variable {ex : Nat → Nat} {B : Nat} {dA : Nat → ClassId} {D : va_G} {cl : List vw_C} {nL n0 z0 : Nat} {cc : ByteArray} {pc : Nat} {L : pm_L} {st : List Value} {h : pm_H}
variable {tys : List (ClassId × FieldType)} {Ts : List Cond} {own : String}
/-- the heap's size, out of the count of new cells -/
theorem pm_size {T : State} {locs : List Loc} {slots : Nat} (X : Stand p l e R s m args below meth c T locs (h.length - n0) slots) (hB : s.heap.size = B + n0) (hn : n0 ≤ h.length) (hP : va_P D cl (pm_w ex B dA h) T.heap) (hS : s.heap.size ≤ T.heap.size) : T.heap.size = B + h.length := by
  have h1 := X.heapSize
  rcases Nat.eq_zero_or_pos h.length with h2 | h2
  · omega
  · obtain ⟨x, hx⟩ : ∃ x, h[h.length - 1]? = some x := ⟨_, List.getElem?_eq_getElem (by omega)⟩
    have h3 := (hP (h.length - 1) _ (pm_w_at hx)).lt
    have h4 : B + (h.length - 1) < T.heap.size := h3
    omega
theorem pm_W_set {a : Nat} {x y : pm_E} (he : h[a]? = some x) (hn : pm_n y = pm_n x) (k : pm_W p l e R s m args below meth c Q ex B dA D cl nL n0 z0 pc L st (h.set a y)) {ls : Array Slot} {H : Heap} {locs : List Loc} (hl : lv_has ls nL (pm_l ex B L)) (hP : va_P D cl (pm_w ex B dA (h.set a y)) H) (hS : va_S (fun q => B ≤ q) s.heap H locs) :
    W p l e R s m args below meth c H locs (h.length - n0) (pm_sz h - z0) Q (F0 m pc ls (st.map (pm_v ex B))) := by
  have k2 := k ls H locs hl hP hS
  rw [List.length_set, pm_sz_set he hn] at k2
  exact k2
theorem pm_getf (hx : p.tables.exec = Jvm.exec) (hb : c.code = cc) (hts : ∀ w ∈ Ts, w.before args s = true) (hown : s.vm.findClass own = some m.cls) (hK : va_K D cl tys s) {ref C : String} {T : u_T} {N ci index k0 a : Nat} {vs : List Value} {v : Value} (hin : ∀ w ∈ u_ws C T N, w ∈ Ts) (hc : cl[ci]? = some (C, T, N)) (hk : k0 < N) (hlink : (Cond.fieldLink own index ref (T k0).2.1 (T k0).2.2.1).before args s = true) (hsame : ∀ x, s.fieldFound? (T k0).1 (T k0).2.1 (T k0).2.2.1 = some x → s.fieldFound? ref (T k0).2.1 (T k0).2.2.1 = some x) (he : h[a]? = some (.inr (ci, vs))) (hv : vs[k0]? = some v) (hdg : decode cc pc = .ok (.getfield index, 3)) (k : pm_W p l e R s m args below meth c Q ex B dA D cl nL n0 z0 (pc + 3) L (v :: st) h) : pm_W p l e R s m args below meth c Q ex B dA D cl nL n0 z0 pc L (.ref a :: st) h := fun ls H locs hl hP hS =>
  va_get (v := pm_v ex B v) (fs := vs.map (pm_v ex B)) hx hb hts hin hown hK hP a (pm_w_at he) hc k0 hk hlink hsame (by rw [List.getElem?_map, hv]; rfl) hdg (k ls H locs hl hP hS)
theorem pm_getfN (hx : p.tables.exec = Jvm.exec) (hb : c.code = cc) (hts : ∀ w ∈ Ts, w.before args s = true) (hown : s.vm.findClass own = some m.cls) (hK : va_K D cl tys s) {ref C host : String} {T : u_T} {N ci index k0 a : Nat} {vs : List Value} {v : Value} (hin : ∀ w ∈ u_ws C T N, w ∈ Ts) (hc : cl[ci]? = some (C, T, N)) (hk : k0 < N) (hlink : (Cond.fieldLinkNest own index ref (T k0).2.1 (T k0).2.2.1 host).before args s = true) (hsame : ∀ x, s.fieldFound? (T k0).1 (T k0).2.1 (T k0).2.2.1 = some x → s.fieldFound? ref (T k0).2.1 (T k0).2.2.1 = some x) (he : h[a]? = some (.inr (ci, vs))) (hv : vs[k0]? = some v) (hdg : decode cc pc = .ok (.getfield index, 3)) (k : pm_W p l e R s m args below meth c Q ex B dA D cl nL n0 z0 (pc + 3) L (v :: st) h) : pm_W p l e R s m args below meth c Q ex B dA D cl nL n0 z0 pc L (.ref a :: st) h := fun ls H locs hl hP hS =>
  va_getN (v := pm_v ex B v) (fs := vs.map (pm_v ex B)) hx hb hts hin hown hK hP a (pm_w_at he) hc k0 hk hlink hsame (by rw [List.getElem?_map, hv]; rfl) hdg (k ls H locs hl hP hS)
theorem pm_w_setO {a ci k0 : Nat} {vs : List Value} {v : Value} : (pm_w ex B dA h).set a (B + a, .inr (ci, (vs.map (pm_v ex B)).set k0 (pm_v ex B v))) = pm_w ex B dA (h.set a (.inr (ci, vs.set k0 v))) := by
  rw [← pm_w_set]
  show _ = (pm_w ex B dA h).set a (B + a, .inr (ci, (vs.set k0 v).map (pm_v ex B)))
  rw [List.map_set]
theorem pm_putf (hx : p.tables.exec = Jvm.exec) (hb : c.code = cc) (hts : ∀ w ∈ Ts, w.before args s = true) (hown : s.vm.findClass own = some m.cls) (hK : va_K D cl tys s) {ref C : String} {T : u_T} {N ci index k0 a : Nat} {vs : List Value} {v : Value} (hin : ∀ w ∈ u_ws C T N, w ∈ Ts) (ty0 : Nat → FieldType) (hty : ∀ k, k < N → parseFieldDescriptor (T k).2.2.1 = some (ty0 k)) (hnm : ∀ a, a < N → ∀ b, b < N → a ≠ b → (T a).2.1 ≠ (T b).2.1) (hc : cl[ci]? = some (C, T, N)) (hk : k0 < N) (hlink : (Cond.fieldLink own index ref (T k0).2.1 (T k0).2.2.1).before args s = true) (hsame : ∀ x, s.fieldFound? (T k0).1 (T k0).2.1 (T k0).2.2.1 = some x → s.fieldFound? ref (T k0).2.1 (T k0).2.2.1 = some x) (hfin : (T k0).2.2.2 = false) {ty : FieldType} (hd : parseFieldDescriptor (T k0).2.2.1 = some ty) (hn : narrow ty (pm_v ex B v) = pm_v ex B v) (hfit : fits ty (pm_v ex B v) = true) (he : h[a]? = some (.inr (ci, vs))) (hl0 : k0 < vs.length) (hdg : decode cc pc = .ok (.putfield index, 3)) (k : pm_W p l e R s m args below meth c Q ex B dA D cl nL n0 z0 (pc + 3) L st (h.set a (.inr (ci, vs.set k0 v)))) : pm_W p l e R s m args below meth c Q ex B dA D cl nL n0 z0 pc L (v :: .ref a :: st) h := fun ls H locs hl hP hS =>
  va_put (v := pm_v ex B v) (fs := vs.map (pm_v ex B)) hx hb hts hin ty0 hty hnm hown hK hP (pm_D ex B dA h) hS a (pm_w_at he) hc k0 hk hlink hsame hfin hd hn hfit (by simpa using hl0) hdg (fun H1 locs1 hP1 _ hS1 => pm_W_set he (by simp [pm_n]) k hl (pm_w_setO ▸ hP1) hS1)
theorem pm_putfF (hx : p.tables.exec = Jvm.exec) (hb : c.code = cc) (hts : ∀ w ∈ Ts, w.before args s = true) (hown : s.vm.findClass own = some m.cls) (hK : va_K D cl tys s) {ref C : String} {T : u_T} {N ci index k0 a : Nat} {vs : List Value} {v : Value} (hin : ∀ w ∈ u_ws C T N, w ∈ Ts) (ty0 : Nat → FieldType) (hty : ∀ k, k < N → parseFieldDescriptor (T k).2.2.1 = some (ty0 k)) (hnm : ∀ a, a < N → ∀ b, b < N → a ≠ b → (T a).2.1 ≠ (T b).2.1) (hc : cl[ci]? = some (C, T, N)) (hk : k0 < N) (hlink : (Cond.fieldLink own index ref (T k0).2.1 (T k0).2.2.1).before args s = true) (hsame : ∀ x, s.fieldFound? (T k0).1 (T k0).2.1 (T k0).2.2.1 = some x → s.fieldFound? ref (T k0).2.1 (T k0).2.2.1 = some x) (hfin : (T k0).2.2.2 = true) (hin2 : meth.name = "<init>") (hdecl : (T k0).1 = own) {ty : FieldType} (hd : parseFieldDescriptor (T k0).2.2.1 = some ty) (hn : narrow ty (pm_v ex B v) = pm_v ex B v) (hfit : fits ty (pm_v ex B v) = true) (he : h[a]? = some (.inr (ci, vs))) (hl0 : k0 < vs.length) (hdg : decode cc pc = .ok (.putfield index, 3)) (k : pm_W p l e R s m args below meth c Q ex B dA D cl nL n0 z0 (pc + 3) L st (h.set a (.inr (ci, vs.set k0 v)))) : pm_W p l e R s m args below meth c Q ex B dA D cl nL n0 z0 pc L (v :: .ref a :: st) h := fun ls H locs hl hP hS =>
  va_putF (v := pm_v ex B v) (fs := vs.map (pm_v ex B)) hx hb hts hin ty0 hty hnm hown hK hP (pm_D ex B dA h) hS a (pm_w_at he) hc k0 hk hlink hsame hfin hin2 hdecl hd hn hfit (by simpa using hl0) hdg (fun H1 locs1 hP1 _ hS1 => pm_W_set he (by simp [pm_n]) k hl (pm_w_setO ▸ hP1) hS1)
theorem pm_putfN (hx : p.tables.exec = Jvm.exec) (hb : c.code = cc) (hts : ∀ w ∈ Ts, w.before args s = true) (hown : s.vm.findClass own = some m.cls) (hK : va_K D cl tys s) {ref C host : String} {T : u_T} {N ci index k0 a : Nat} {vs : List Value} {v : Value} (hin : ∀ w ∈ u_ws C T N, w ∈ Ts) (ty0 : Nat → FieldType) (hty : ∀ k, k < N → parseFieldDescriptor (T k).2.2.1 = some (ty0 k)) (hnm : ∀ a, a < N → ∀ b, b < N → a ≠ b → (T a).2.1 ≠ (T b).2.1) (hc : cl[ci]? = some (C, T, N)) (hk : k0 < N) (hlink : (Cond.fieldLinkNest own index ref (T k0).2.1 (T k0).2.2.1 host).before args s = true) (hsame : ∀ x, s.fieldFound? (T k0).1 (T k0).2.1 (T k0).2.2.1 = some x → s.fieldFound? ref (T k0).2.1 (T k0).2.2.1 = some x) (hfin : (T k0).2.2.2 = false) {ty : FieldType} (hd : parseFieldDescriptor (T k0).2.2.1 = some ty) (hn : narrow ty (pm_v ex B v) = pm_v ex B v) (hfit : fits ty (pm_v ex B v) = true) (he : h[a]? = some (.inr (ci, vs))) (hl0 : k0 < vs.length) (hdg : decode cc pc = .ok (.putfield index, 3)) (k : pm_W p l e R s m args below meth c Q ex B dA D cl nL n0 z0 (pc + 3) L st (h.set a (.inr (ci, vs.set k0 v)))) : pm_W p l e R s m args below meth c Q ex B dA D cl nL n0 z0 pc L (v :: .ref a :: st) h := fun ls H locs hl hP hS =>
  va_putN (v := pm_v ex B v) (fs := vs.map (pm_v ex B)) hx hb hts hin ty0 hty hnm hown hK hP (pm_D ex B dA h) hS a (pm_w_at he) hc k0 hk hlink hsame hfin hd hn hfit (by simpa using hl0) hdg (fun H1 locs1 hP1 _ hS1 => pm_W_set he (by simp [pm_n]) k hl (pm_w_setO ▸ hP1) hS1)
theorem pm_iald (hx : p.tables.exec = Jvm.exec) (hb : c.code = cc) (hK : va_K D cl tys s) {a t : Nat} (t0 : Nat) {li : List Int32} {i : Int32} (he : h[a]? = some (.inl (t, .inl li))) (ht : tys[t0]? = some (dA t, .int)) (hi : vp_in i li.length) (hdg : decode cc pc = .ok (.iaload, 1)) (k : pm_W p l e R s m args below meth c Q ex B dA D cl nL n0 z0 (pc + 1) L (.int (li.getD i.toNatClampNeg 0) :: st) h) : pm_W p l e R s m args below meth c Q ex B dA D cl nL n0 z0 pc L (.int i :: .ref a :: st) h := fun ls H locs hl hP hS =>
  va_iald (f := fun j => li.getD j 0) hx hb hK hP a t0 (pm_w_at he) ht hi hdg (k ls H locs hl hP hS)
theorem pm_bald (hx : p.tables.exec = Jvm.exec) (hb : c.code = cc) (hK : va_K D cl tys s) {a t : Nat} (t0 : Nat) {li : List Int32} {i : Int32} (he : h[a]? = some (.inl (t, .inl li))) (ht : tys[t0]? = some (dA t, .byte)) (hi : vp_in i li.length) (hdg : decode cc pc = .ok (.baload, 1)) (k : pm_W p l e R s m args below meth c Q ex B dA D cl nL n0 z0 (pc + 1) L (.int (li.getD i.toNatClampNeg 0) :: st) h) : pm_W p l e R s m args below meth c Q ex B dA D cl nL n0 z0 pc L (.int i :: .ref a :: st) h := fun ls H locs hl hP hS =>
  va_bald (f := fun j => li.getD j 0) hx hb hK hP a t0 (pm_w_at he) ht hi hdg (k ls H locs hl hP hS)
theorem pm_zald (hx : p.tables.exec = Jvm.exec) (hb : c.code = cc) (hK : va_K D cl tys s) {a t : Nat} (t0 : Nat) {li : List Int32} {i : Int32} (he : h[a]? = some (.inl (t, .inl li))) (ht : tys[t0]? = some (dA t, .boolean)) (hi : vp_in i li.length) (hdg : decode cc pc = .ok (.baload, 1)) (k : pm_W p l e R s m args below meth c Q ex B dA D cl nL n0 z0 (pc + 1) L (.int (li.getD i.toNatClampNeg 0) :: st) h) : pm_W p l e R s m args below meth c Q ex B dA D cl nL n0 z0 pc L (.int i :: .ref a :: st) h := fun ls H locs hl hP hS =>
  va_zald (f := fun j => li.getD j 0) hx hb hK hP a t0 (pm_w_at he) ht hi hdg (k ls H locs hl hP hS)
theorem pm_cald (hx : p.tables.exec = Jvm.exec) (hb : c.code = cc) (hK : va_K D cl tys s) {a t : Nat} (t0 : Nat) {li : List Int32} {i : Int32} (he : h[a]? = some (.inl (t, .inl li))) (ht : tys[t0]? = some (dA t, .char)) (hi : vp_in i li.length) (hdg : decode cc pc = .ok (.caload, 1)) (k : pm_W p l e R s m args below meth c Q ex B dA D cl nL n0 z0 (pc + 1) L (.int (li.getD i.toNatClampNeg 0) :: st) h) : pm_W p l e R s m args below meth c Q ex B dA D cl nL n0 z0 pc L (.int i :: .ref a :: st) h := fun ls H locs hl hP hS =>
  va_cald (f := fun j => li.getD j 0) hx hb hK hP a t0 (pm_w_at he) ht hi hdg (k ls H locs hl hP hS)
theorem pm_lald (hx : p.tables.exec = Jvm.exec) (hb : c.code = cc) (hK : va_K D cl tys s) {a t : Nat} (t0 : Nat) {li : List Int64} {i : Int32} (he : h[a]? = some (.inl (t, .inr (.inl li)))) (ht : tys[t0]? = some (dA t, .long)) (hi : vp_in i li.length) (hdg : decode cc pc = .ok (.laload, 1)) (k : pm_W p l e R s m args below meth c Q ex B dA D cl nL n0 z0 (pc + 1) L (.long (li.getD i.toNatClampNeg 0) :: st) h) : pm_W p l e R s m args below meth c Q ex B dA D cl nL n0 z0 pc L (.int i :: .ref a :: st) h := fun ls H locs hl hP hS =>
  va_lald (f := fun j => li.getD j 0) hx hb hK hP a t0 (pm_w_at he) ht hi hdg (k ls H locs hl hP hS)
/-- a pure reference -/
def pm_r (r : Option Nat) : Value := match r with
  | none => .null
  | some k => .ref k
theorem pm_v_r (r : Option Nat) : pm_v ex B (pm_r r) = va_rf (r.map (fun k => B + k)) := by cases r <;> rfl
theorem pm_aald (hx : p.tables.exec = Jvm.exec) (hb : c.code = cc) (hK : va_K D cl tys s) {a t : Nat} (t0 : Nat) {ty : FieldType} (hr : ty.isReference = true) {li : List (Option Nat)} {i : Int32} (he : h[a]? = some (.inl (t, .inr (.inr li)))) (ht : tys[t0]? = some (dA t, ty)) (hi : vp_in i li.length) (hdg : decode cc pc = .ok (.aaload, 1)) (k : pm_W p l e R s m args below meth c Q ex B dA D cl nL n0 z0 (pc + 1) L (pm_r (li.getD i.toNatClampNeg none) :: st) h) : pm_W p l e R s m args below meth c Q ex B dA D cl nL n0 z0 pc L (.int i :: .ref a :: st) h := fun ls H locs hl hP hS => by
  have h1 := k ls H locs hl hP hS
  rw [List.map_cons, pm_v_r] at h1
  exact W.aald (v := va_rf ((li.getD i.toNatClampNeg none).map (fun k => B + k))) (ty := ty) hx hb (hP a _ (pm_w_at he)) ((hK.2 t0 _ ht).1 li.length (fun j => va_rf ((li.getD j none).map (fun k => B + k)))) hr (fun q => by cases q) (by show ¬ (i < 0 ∨ (arrV _ _ _).slots.size ≤ _); rw [arrV_size]; exact hi) (arrV_read (dA t) (fun j => va_rf ((li.getD j none).map (fun k => B + k))) (pm_in_lt hi)) rfl rfl hdg h1
theorem pm_iast (hx : p.tables.exec = Jvm.exec) (hb : c.code = cc) (hK : va_K D cl tys s) {a t : Nat} (t0 : Nat) {li : List Int32} {i x : Int32} (he : h[a]? = some (.inl (t, .inl li))) (ht : tys[t0]? = some (dA t, .int)) (hi : vp_in i li.length) (hdg : decode cc pc = .ok (.iastore, 1)) (k : pm_W p l e R s m args below meth c Q ex B dA D cl nL n0 z0 (pc + 1) L st (h.set a (.inl (t, .inl (li.set i.toNatClampNeg x))))) : pm_W p l e R s m args below meth c Q ex B dA D cl nL n0 z0 pc L (.int x :: .int i :: .ref a :: st) h := fun ls H locs hl hP hS =>
  va_iast (f := fun j => li.getD j 0) hx hb hK hP (pm_D ex B dA h) hS a t0 (pm_w_at he) ht hi hdg (fun H1 locs1 hP1 _ hS1 => pm_W_set he (by simp [pm_n]) k hl (by
    rw [pm_upd (pm_in_lt hi)] at hP1
    rw [← pm_w_set]
    simpa [pm_e, pm_a] using hP1) hS1)
theorem pm_bast (hx : p.tables.exec = Jvm.exec) (hb : c.code = cc) (hK : va_K D cl tys s) {a t : Nat} (t0 : Nat) {li : List Int32} {i x : Int32} (he : h[a]? = some (.inl (t, .inl li))) (ht : tys[t0]? = some (dA t, .byte)) (hi : vp_in i li.length) (hdg : decode cc pc = .ok (.bastore, 1)) (k : pm_W p l e R s m args below meth c Q ex B dA D cl nL n0 z0 (pc + 1) L st (h.set a (.inl (t, .inl (li.set i.toNatClampNeg (vp_nar .byte x)))))) : pm_W p l e R s m args below meth c Q ex B dA D cl nL n0 z0 pc L (.int x :: .int i :: .ref a :: st) h := fun ls H locs hl hP hS =>
  va_bast (f := fun j => li.getD j 0) hx hb hK hP (pm_D ex B dA h) hS a t0 (pm_w_at he) ht hi hdg (fun H1 locs1 hP1 _ hS1 => pm_W_set he (by simp [pm_n]) k hl (by
    rw [pm_upd (pm_in_lt hi)] at hP1
    rw [← pm_w_set]
    simpa [pm_e, pm_a] using hP1) hS1)
theorem pm_zast (hx : p.tables.exec = Jvm.exec) (hb : c.code = cc) (hK : va_K D cl tys s) {a t : Nat} (t0 : Nat) {li : List Int32} {i x : Int32} (he : h[a]? = some (.inl (t, .inl li))) (ht : tys[t0]? = some (dA t, .boolean)) (hi : vp_in i li.length) (hdg : decode cc pc = .ok (.bastore, 1)) (k : pm_W p l e R s m args below meth c Q ex B dA D cl nL n0 z0 (pc + 1) L st (h.set a (.inl (t, .inl (li.set i.toNatClampNeg (vp_nar .boolean x)))))) : pm_W p l e R s m args below meth c Q ex B dA D cl nL n0 z0 pc L (.int x :: .int i :: .ref a :: st) h := fun ls H locs hl hP hS =>
  va_zast (f := fun j => li.getD j 0) hx hb hK hP (pm_D ex B dA h) hS a t0 (pm_w_at he) ht hi hdg (fun H1 locs1 hP1 _ hS1 => pm_W_set he (by simp [pm_n]) k hl (by
    rw [pm_upd (pm_in_lt hi)] at hP1
    rw [← pm_w_set]
    simpa [pm_e, pm_a] using hP1) hS1)
theorem pm_cast (hx : p.tables.exec = Jvm.exec) (hb : c.code = cc) (hK : va_K D cl tys s) {a t : Nat} (t0 : Nat) {li : List Int32} {i x : Int32} (he : h[a]? = some (.inl (t, .inl li))) (ht : tys[t0]? = some (dA t, .char)) (hi : vp_in i li.length) (hdg : decode cc pc = .ok (.castore, 1)) (k : pm_W p l e R s m args below meth c Q ex B dA D cl nL n0 z0 (pc + 1) L st (h.set a (.inl (t, .inl (li.set i.toNatClampNeg (vp_nar .char x)))))) : pm_W p l e R s m args below meth c Q ex B dA D cl nL n0 z0 pc L (.int x :: .int i :: .ref a :: st) h := fun ls H locs hl hP hS =>
  va_cast (f := fun j => li.getD j 0) hx hb hK hP (pm_D ex B dA h) hS a t0 (pm_w_at he) ht hi hdg (fun H1 locs1 hP1 _ hS1 => pm_W_set he (by simp [pm_n]) k hl (by
    rw [pm_upd (pm_in_lt hi)] at hP1
    rw [← pm_w_set]
    simpa [pm_e, pm_a] using hP1) hS1)
theorem pm_last (hx : p.tables.exec = Jvm.exec) (hb : c.code = cc) (hK : va_K D cl tys s) {a t : Nat} (t0 : Nat) {li : List Int64} {i : Int32} {x : Int64} (he : h[a]? = some (.inl (t, .inr (.inl li)))) (ht : tys[t0]? = some (dA t, .long)) (hi : vp_in i li.length) (hdg : decode cc pc = .ok (.lastore, 1)) (k : pm_W p l e R s m args below meth c Q ex B dA D cl nL n0 z0 (pc + 1) L st (h.set a (.inl (t, .inr (.inl (li.set i.toNatClampNeg x)))))) : pm_W p l e R s m args below meth c Q ex B dA D cl nL n0 z0 pc L (.long x :: .int i :: .ref a :: st) h := fun ls H locs hl hP hS =>
  va_last (f := fun j => li.getD j 0) hx hb hK hP (pm_D ex B dA h) hS a t0 (pm_w_at he) ht hi hdg (fun H1 locs1 hP1 _ hS1 => pm_W_set he (by simp [pm_n]) k hl (by
    rw [pm_updL (pm_in_lt hi)] at hP1
    rw [← pm_w_set]
    simpa [pm_e, pm_a] using hP1) hS1)
/-- an own object into an array of its very class -/
theorem pm_aast (hx : p.tables.exec = Jvm.exec) (hb : c.code = cc) (hK : va_K D cl tys s) {a t : Nat} (t0 : Nat) {li : List (Option Nat)} {i : Int32} {o ci : Nat} {r : vw_C} {vs : List Value} (he : h[a]? = some (.inl (t, .inr (.inr li)))) (ht : tys[t0]? = some (dA t, .object r.1)) (ho : h[o]? = some (.inr (ci, vs))) (hc : cl[ci]? = some r) (hi : vp_in i li.length) (hdg : decode cc pc = .ok (.aastore, 1)) (k : pm_W p l e R s m args below meth c Q ex B dA D cl nL n0 z0 (pc + 1) L st (h.set a (.inl (t, .inr (.inr (li.set i.toNatClampNeg (some o))))))) : pm_W p l e R s m args below meth c Q ex B dA D cl nL n0 z0 pc L (.ref o :: .int i :: .ref a :: st) h := fun ls H locs hl hP hS =>
  va_astq (f := fun j => (li.getD j none).map (fun k => B + k)) hx hb hK hP (pm_D ex B dA h) hS a t0 o ci (pm_w_at he) ht (pm_w_at ho) hc hi hdg (fun H1 locs1 hP1 _ hS1 => pm_W_set he (by simp [pm_n]) k hl (by
    have h1 := pm_updR (B := B) (x := some o) (pm_in_lt hi)
    rw [show (some o : Option Nat).map (fun k => B + k) = some (B + o) from rfl] at h1
    rw [h1] at hP1
    rw [← pm_w_set]
    simpa [pm_e, pm_a] using hP1) hS1)
theorem pm_aastN (hx : p.tables.exec = Jvm.exec) (hb : c.code = cc) (hK : va_K D cl tys s) {a t : Nat} (t0 : Nat) {C : String} {li : List (Option Nat)} {i : Int32} (he : h[a]? = some (.inl (t, .inr (.inr li)))) (ht : tys[t0]? = some (dA t, .object C)) (hi : vp_in i li.length) (hdg : decode cc pc = .ok (.aastore, 1)) (k : pm_W p l e R s m args below meth c Q ex B dA D cl nL n0 z0 (pc + 1) L st (h.set a (.inl (t, .inr (.inr (li.set i.toNatClampNeg none)))))) : pm_W p l e R s m args below meth c Q ex B dA D cl nL n0 z0 pc L (.null :: .int i :: .ref a :: st) h := fun ls H locs hl hP hS =>
  va_astqN (f := fun j => (li.getD j none).map (fun k => B + k)) hx hb hK hP (pm_D ex B dA h) hS a t0 (pm_w_at he) ht hi hdg (fun H1 locs1 hP1 _ hS1 => pm_W_set he (by simp [pm_n]) k hl (by
    have h1 := pm_updR (B := B) (x := none) (pm_in_lt hi)
    rw [show (none : Option Nat).map (fun k => B + k) = none from rfl] at h1
    rw [h1] at hP1
    rw [← pm_w_set]
    simpa [pm_e, pm_a] using hP1) hS1)
def pm_len (x : pm_A) : Nat := match x with
  | .inl l => l.length
  | .inr (.inl l) => l.length
  | .inr (.inr l) => l.length
theorem pm_a_len (B : Nat) (x : pm_A) : (pm_a B x).1 = pm_len x := by
  rcases x with x | x | x <;> rfl
theorem pm_alen (hx : p.tables.exec = Jvm.exec) (hb : c.code = cc) (hK : va_K D cl tys s) {a t : Nat} (t0 : Nat) {x : pm_A} {ty : FieldType} (he : h[a]? = some (.inl (t, x))) (ht : tys[t0]? = some (dA t, ty)) (hdg : decode cc pc = .ok (.arraylength, 1)) (k : pm_W p l e R s m args below meth c Q ex B dA D cl nL n0 z0 (pc + 1) L (.int (Int32.ofNat (pm_len x)) :: st) h) : pm_W p l e R s m args below meth c Q ex B dA D cl nL n0 z0 pc L (.ref a :: st) h := fun ls H locs hl hP hS =>
  va_alen (x := pm_a B x) hx hb hK hP a t0 (pm_w_at he) ht (by rw [pm_a_len]) hdg (k ls H locs hl hP hS)
theorem pm_ifnull (hx : p.tables.exec = Jvm.exec) (hb : c.code = cc) {v : Value} {off : Int} {tgt : Nat} (hdg : decode cc pc = .ok (.ifnull off, 3)) (ht : (pc : Int) + off = (tgt : Int)) (hr : pm_isR v = true) (kt : v = .null → pm_W p l e R s m args below meth c Q ex B dA D cl nL n0 z0 tgt L st h) (kf : ¬ v = .null → pm_W p l e R s m args below meth c Q ex B dA D cl nL n0 z0 (pc + 3) L st h) : pm_W p l e R s m args below meth c Q ex B dA D cl nL n0 z0 pc L (v :: st) h := fun ls H locs hl hP hS => by
  cases v with
  | ref x => exact lv_ifnull hx hb hdg (kf (fun q => by cases q) ls H locs hl hP hS)
  | retAddr x => exact lv_ifnull hx hb hdg (kf (fun q => by cases q) ls H locs hl hP hS)
  | null => exact lv_ifnullN hx hb hdg ht (kt rfl ls H locs hl hP hS)
  | _ => cases hr
theorem pm_ifnonnull (hx : p.tables.exec = Jvm.exec) (hb : c.code = cc) {v : Value} {off : Int} {tgt : Nat} (hdg : decode cc pc = .ok (.ifnonnull off, 3)) (ht : (pc : Int) + off = (tgt : Int)) (hr : pm_isR v = true) (kt : ¬ v = .null → pm_W p l e R s m args below meth c Q ex B dA D cl nL n0 z0 tgt L st h) (kf : v = .null → pm_W p l e R s m args below meth c Q ex B dA D cl nL n0 z0 (pc + 3) L st h) : pm_W p l e R s m args below meth c Q ex B dA D cl nL n0 z0 pc L (v :: st) h := fun ls H locs hl hP hS => by
  cases v with
  | ref x => exact lv_ifnonnull hx hb hdg ht (kt (fun q => by cases q) ls H locs hl hP hS)
  | retAddr x => exact lv_ifnonnull hx hb hdg ht (kt (fun q => by cases q) ls H locs hl hP hS)
  | null => exact lv_ifnonnullN hx hb hdg (kf rfl ls H locs hl hP hS)
  | _ => cases hr
end PM2
