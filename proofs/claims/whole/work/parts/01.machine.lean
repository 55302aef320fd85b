/-! PART 01: a pure machine over the kit's W. Its heap is a list of cells (index k stands for the address B + k: all cells from B on are its own), its values are Value with .ref k for an own cell and .retAddr j for an outer one (at ex j). -/
abbrev pm_A : Type := (Nat × (Nat → Int32)) ⊕ (Nat × (Nat → Int64)) ⊕ (Nat × (Nat → Option Nat))
abbrev pm_E : Type := (Nat × pm_A) ⊕ (Nat × List Value)
abbrev pm_H : Type := List pm_E
abbrev pm_L : Type := List (Nat × Value)
/-- the bounds that a place holder of an int may have -/
def pm_ki : List (Int × Int) := [(-2147483648, -1), (0, 2147483647), (1, 2147483647), (2, 2147483647), (3, 2147483647), (5, 2147483647), (6, 2147483647), (9, 2147483647), (24, 2147483647), (1001, 2147483647), (18, 19), (-2147483648, 0), (-2147483648, 2147483647), (10, 2147483647), (11, 2147483647), (4, 2147483647), (2, 999), (0, 0), (1, 1), (2, 2), (3, 3), (4, 4), (5, 5), (6, 6), (7, 7), (8, 8), (9, 9), (10, 10), (11, 11), (12, 12), (13, 13), (14, 14), (15, 15), (16, 16), (17, 17), (18, 18), (19, 19), (20, 20), (21, 21), (22, 22), (23, 23), (24, 24), (1000, 1000)]
def pm_cl (lo hi x : Int) : Int := if lo ≤ x ∧ x ≤ hi then x else lo
def pm_md (c : Nat) (x : Int32) : Int32 := if x &&& 31 = Int32.ofNat c then x else Int32.ofNat c
/-- the place holder n: slot n % 8; kind n / 8 % 128 (an int between bounds; from 64 on an int whose last five bits are known; from 96 on null or an outer reference); less n / 1024 -/
def pm_ph (ex : Nat → Nat) (n : Nat) : Value := bif Nat.ble 96 (n / 8 % 128) then (if ex (1000 + n % 8) = 0 then .null else .ref (ex (1000 + n % 8) - 1))
  else bif Nat.ble 64 (n / 8 % 128) then .int (pm_md (n / 8 % 128 - 64) (Int32.ofNat (ex (1000 + n % 8))))
  else match pm_ki[n / 8 % 128]? with
  | some q => .int (Int32.ofInt (pm_cl q.1 q.2 (Int32.ofNat (ex (1000 + n % 8))).toInt - ((n / 1024 : Nat) : Int)))
  | none => .int 0
def pm_phL (ex : Nat → Nat) (n : Nat) : Int64 := match pm_ph ex n with
  | .int x => x.toInt64
  | _ => 0
def pm_v (ex : Nat → Nat) (B : Nat) (v : Value) : Value := match v with
  | .ref k => .ref (B + k)
  | .retAddr j => .ref (ex j)
  | .float b => pm_ph ex b.toNat
  | .double b => .long (pm_phL ex b.toNat)
  | v => v
def pm_a (B : Nat) (a : pm_A) : vp_A := match a with
  | .inl (n, f) => (n, .inl f)
  | .inr (.inl (n, f)) => (n, .inr (.inl f))
  | .inr (.inr (n, f)) => (n, .inr (.inr (.inr (.inr (fun j => (f j).map (fun k => B + k))))))
def pm_e (ex : Nat → Nat) (B : Nat) (dA : Nat → ClassId) (x : pm_E) : va_E := match x with
  | .inl (t, a) => .inl (dA t, pm_a B a)
  | .inr (ci, vs) => .inr (ci, vs.map (pm_v ex B))
def pm_w (ex : Nat → Nat) (B : Nat) (dA : Nat → ClassId) (h : pm_H) : va_W := h.mapIdx (fun k x => (B + k, pm_e ex B dA x))
def pm_n (x : pm_E) : Nat := match x with
  | .inl (_, .inl (n, _)) => n
  | .inl (_, .inr (.inl (n, _))) => n
  | .inl (_, .inr (.inr (n, _))) => n
  | .inr (_, vs) => vs.length
def pm_sz (h : pm_H) : Nat := (h.map pm_n).sum
def pm_l (ex : Nat → Nat) (B : Nat) (L : pm_L) : List (Nat × Value) := L.map (fun q => (q.1, pm_v ex B q.2))
def pm_get (L : pm_L) (i : Nat) : Option Value := (L.find? (fun q => q.1 == i)).map (fun q => q.2)
def pm_st1 (i : Nat) (v : Value) (L : pm_L) : pm_L := (i, v) :: L.filter (fun q => !(q.1 == i) && !(q.1 + 1 == i && q.2.category == 2))
def pm_st2 (i : Nat) (v : Value) (L : pm_L) : pm_L := (i, v) :: L.filter (fun q => !(q.1 == i) && (!(q.1 == i + 1) && !(q.1 + 1 == i && q.2.category == 2)))
theorem pm_v_cat (ex : Nat → Nat) (B : Nat) (v : Value) : (pm_v ex B v).category = v.category := by
  cases v with
  | float b =>
    show (pm_ph ex b.toNat).category = 1
    unfold pm_ph
    cases Nat.ble 96 (b.toNat / 8 % 128) with
    | true => show (if _ then _ else _ : Value).category = 1; split <;> rfl
    | false =>
      cases Nat.ble 64 (b.toNat / 8 % 128) with
      | true => rfl
      | false => show (match pm_ki[b.toNat / 8 % 128]? with | some q => Value.int _ | none => Value.int 0).category = 1; split <;> rfl
  | _ => rfl
theorem pm_w_get (ex : Nat → Nat) (B : Nat) (dA : Nat → ClassId) (h : pm_H) (k : Nat) : (pm_w ex B dA h)[k]? = (h[k]?).map (fun x => (B + k, pm_e ex B dA x)) := by
  simp [pm_w]
theorem pm_w_at {ex : Nat → Nat} {B : Nat} {dA : Nat → ClassId} {h : pm_H} {k : Nat} {x : pm_E} (hk : h[k]? = some x) : (pm_w ex B dA h)[k]? = some (B + k, pm_e ex B dA x) := by
  rw [pm_w_get, hk]; rfl
theorem pm_w_length (ex : Nat → Nat) (B : Nat) (dA : Nat → ClassId) (h : pm_H) : (pm_w ex B dA h).length = h.length := by simp [pm_w]
theorem pm_w_set (ex : Nat → Nat) (B : Nat) (dA : Nat → ClassId) (h : pm_H) (k : Nat) (x : pm_E) : (pm_w ex B dA h).set k (B + k, pm_e ex B dA x) = pm_w ex B dA (h.set k x) := by
  apply List.ext_getElem?
  intro j
  by_cases hj : k = j
  · subst hj
    by_cases hk : k < h.length
    · rw [List.getElem?_set_self (by rw [pm_w_length]; exact hk), pm_w_get, List.getElem?_set_self hk]; rfl
    · rw [List.getElem?_eq_none (by simp [pm_w]; omega), List.getElem?_eq_none (by simp [pm_w]; omega)]
  · rw [List.getElem?_set_ne hj, pm_w_get, pm_w_get, List.getElem?_set_ne hj]
theorem pm_w_push (ex : Nat → Nat) (B : Nat) (dA : Nat → ClassId) (h : pm_H) (x : pm_E) : pm_w ex B dA h ++ [(B + h.length, pm_e ex B dA x)] = pm_w ex B dA (h ++ [x]) := by
  simp [pm_w, List.mapIdx_append]
theorem pm_D (ex : Nat → Nat) (B : Nat) (dA : Nat → ClassId) (h : pm_H) : va_D (fun q => B ≤ q) (pm_w ex B dA h) := by
  refine ⟨fun i j x y hi hj hxy => ?_, fun k q hk => ?_⟩
  · rw [pm_w_get] at hi hj
    cases h1 : h[i]? with
    | none => rw [h1] at hi; cases hi
    | some a =>
      cases h2 : h[j]? with
      | none => rw [h2] at hj; cases hj
      | some b =>
        rw [h1] at hi
        rw [h2] at hj
        cases hi
        cases hj
        have h3 : B + i = B + j := hxy
        omega
  · rw [pm_w_get] at hk
    cases h1 : h[k]? with
    | none => rw [h1] at hk; cases hk
    | some a =>
      rw [h1] at hk
      cases hk
      exact Nat.le_add_right B k
theorem pm_sz_push (h : pm_H) (x : pm_E) : pm_sz (h ++ [x]) = pm_sz h + pm_n x := by simp [pm_sz]
theorem pm_sz_set {h : pm_H} {k : Nat} {x y : pm_E} (hk : h[k]? = some x) (hn : pm_n y = pm_n x) : pm_sz (h.set k y) = pm_sz h := by
  induction h generalizing k with
  | nil => rfl
  | cons a t ih =>
    cases k with
    | zero =>
      cases hk
      simp [pm_sz, hn]
    | succ k =>
      have h1 := ih (k := k) hk
      simp only [pm_sz] at h1 ⊢
      rw [List.set_cons_succ, List.map_cons, List.map_cons, List.sum_cons, List.sum_cons, h1]
theorem pm_get_at {ex : Nat → Nat} {B : Nat} {ls : Array Slot} {nL : Nat} {L : pm_L} (hl : lv_has ls nL (pm_l ex B L)) {i : Nat} {v : Value} (hv : pm_get L i = some v) : ls[i]? = some (.val (pm_v ex B v)) := by
  unfold pm_get at hv
  cases hf : L.find? (fun q => q.1 == i) with
  | none => rw [hf] at hv; cases hv
  | some q =>
    rw [hf] at hv
    have h1 := List.find?_some hf
    have h2 := List.mem_of_find?_eq_some hf
    have h3 : q.2 = v := Option.some.inj hv
    have h4 : q.1 = i := by simpa using h1
    have h5 := hl.2.2 (q.1, pm_v ex B q.2) (List.mem_map.mpr ⟨q, h2, rfl⟩)
    rw [h4, h3] at h5
    exact h5
theorem pm_l_st1 (ex : Nat → Nat) (B : Nat) (i : Nat) (v : Value) (L : pm_L) : (i, pm_v ex B v) :: (pm_l ex B L).filter (fun q => !(q.1 == i) && !(q.1 + 1 == i && q.2.category == 2)) = pm_l ex B (pm_st1 i v L) := by
  unfold pm_st1 pm_l
  rw [List.map_cons, List.filter_map]
  congr 2
  apply List.filter_congr
  intro q _
  simp [Function.comp, pm_v_cat]
theorem pm_l_st2 (ex : Nat → Nat) (B : Nat) (i : Nat) (v : Value) (L : pm_L) : (i, pm_v ex B v) :: (pm_l ex B L).filter (fun q => !(q.1 == i) && (!(q.1 == i + 1) && !(q.1 + 1 == i && q.2.category == 2))) = pm_l ex B (pm_st2 i v L) := by
  unfold pm_st2 pm_l
  rw [List.map_cons, List.filter_map]
  congr 2
  apply List.filter_congr
  intro q _
  simp [Function.comp, pm_v_cat]
/-- the machine is at pc with locals L, operands st, heap h (all pure): it comes to Q -/
def pm_W (p : Program) (l : Launch) (e : Env) (R : Room) (s : State) (m : MethodId) (args : Array Value) (below : List Frame) (meth : Method) (c : Code) (Q : State → Prop) (ex : Nat → Nat) (B : Nat) (dA : Nat → ClassId) (D : va_G) (cl : List vw_C) (nL n0 z0 : Nat) (pc : Nat) (L : pm_L) (st : List Value) (h : pm_H) : Prop :=
  ∀ (ls : Array Slot) (H : Heap) (locs : List Loc), lv_has ls nL (pm_l ex B L) → va_P D cl (pm_w ex B dA h) H → va_S (fun q => B ≤ q) s.heap H locs →
    W p l e R s m args below meth c H locs (h.length - n0) (pm_sz h - z0) Q (F0 m pc ls (st.map (pm_v ex B)))
section PM
variable {p : Program} {l : Launch} {e : Env} {R : Room} {s : State} {m : MethodId} {args : Array Value} {below : List Frame} {meth : Method} {c : Code} {Q : State → Prop}
variable {ex : Nat → Nat} {B : Nat} {dA : Nat → ClassId} {D : va_G} {cl : List vw_C} {nL n0 z0 : Nat} {cc : ByteArray} {pc : Nat} {L : pm_L} {st : List Value} {h : pm_H}
theorem pm_iadd (hx : p.tables.exec = Jvm.exec) (hb : c.code = cc) {x y : Int32} (hdg : decode cc pc = .ok (.iadd, 1)) (k : pm_W p l e R s m args below meth c Q ex B dA D cl nL n0 z0 (pc + 1) L (.int (x + y) :: st) h) : pm_W p l e R s m args below meth c Q ex B dA D cl nL n0 z0 pc L (.int y :: .int x :: st) h := fun ls H locs hl hP hS => lv_iadd hx hb hdg (k ls H locs hl hP hS)
theorem pm_isub (hx : p.tables.exec = Jvm.exec) (hb : c.code = cc) {x y : Int32} (hdg : decode cc pc = .ok (.isub, 1)) (k : pm_W p l e R s m args below meth c Q ex B dA D cl nL n0 z0 (pc + 1) L (.int (x - y) :: st) h) : pm_W p l e R s m args below meth c Q ex B dA D cl nL n0 z0 pc L (.int y :: .int x :: st) h := fun ls H locs hl hP hS => lv_isub hx hb hdg (k ls H locs hl hP hS)
theorem pm_imul (hx : p.tables.exec = Jvm.exec) (hb : c.code = cc) {x y : Int32} (hdg : decode cc pc = .ok (.imul, 1)) (k : pm_W p l e R s m args below meth c Q ex B dA D cl nL n0 z0 (pc + 1) L (.int (x * y) :: st) h) : pm_W p l e R s m args below meth c Q ex B dA D cl nL n0 z0 pc L (.int y :: .int x :: st) h := fun ls H locs hl hP hS => lv_imul hx hb hdg (k ls H locs hl hP hS)
theorem pm_iand (hx : p.tables.exec = Jvm.exec) (hb : c.code = cc) {x y : Int32} (hdg : decode cc pc = .ok (.iand, 1)) (k : pm_W p l e R s m args below meth c Q ex B dA D cl nL n0 z0 (pc + 1) L (.int (x &&& y) :: st) h) : pm_W p l e R s m args below meth c Q ex B dA D cl nL n0 z0 pc L (.int y :: .int x :: st) h := fun ls H locs hl hP hS => lv_iand hx hb hdg (k ls H locs hl hP hS)
theorem pm_ior (hx : p.tables.exec = Jvm.exec) (hb : c.code = cc) {x y : Int32} (hdg : decode cc pc = .ok (.ior, 1)) (k : pm_W p l e R s m args below meth c Q ex B dA D cl nL n0 z0 (pc + 1) L (.int (x ||| y) :: st) h) : pm_W p l e R s m args below meth c Q ex B dA D cl nL n0 z0 pc L (.int y :: .int x :: st) h := fun ls H locs hl hP hS => lv_ior hx hb hdg (k ls H locs hl hP hS)
theorem pm_ixor (hx : p.tables.exec = Jvm.exec) (hb : c.code = cc) {x y : Int32} (hdg : decode cc pc = .ok (.ixor, 1)) (k : pm_W p l e R s m args below meth c Q ex B dA D cl nL n0 z0 (pc + 1) L (.int (x ^^^ y) :: st) h) : pm_W p l e R s m args below meth c Q ex B dA D cl nL n0 z0 pc L (.int y :: .int x :: st) h := fun ls H locs hl hP hS => lv_ixor hx hb hdg (k ls H locs hl hP hS)
theorem pm_ladd (hx : p.tables.exec = Jvm.exec) (hb : c.code = cc) {x y : Int64} (hdg : decode cc pc = .ok (.ladd, 1)) (k : pm_W p l e R s m args below meth c Q ex B dA D cl nL n0 z0 (pc + 1) L (.long (x + y) :: st) h) : pm_W p l e R s m args below meth c Q ex B dA D cl nL n0 z0 pc L (.long y :: .long x :: st) h := fun ls H locs hl hP hS => lv_ladd hx hb hdg (k ls H locs hl hP hS)
theorem pm_lsub (hx : p.tables.exec = Jvm.exec) (hb : c.code = cc) {x y : Int64} (hdg : decode cc pc = .ok (.lsub, 1)) (k : pm_W p l e R s m args below meth c Q ex B dA D cl nL n0 z0 (pc + 1) L (.long (x - y) :: st) h) : pm_W p l e R s m args below meth c Q ex B dA D cl nL n0 z0 pc L (.long y :: .long x :: st) h := fun ls H locs hl hP hS => lv_lsub hx hb hdg (k ls H locs hl hP hS)
theorem pm_lmul (hx : p.tables.exec = Jvm.exec) (hb : c.code = cc) {x y : Int64} (hdg : decode cc pc = .ok (.lmul, 1)) (k : pm_W p l e R s m args below meth c Q ex B dA D cl nL n0 z0 (pc + 1) L (.long (x * y) :: st) h) : pm_W p l e R s m args below meth c Q ex B dA D cl nL n0 z0 pc L (.long y :: .long x :: st) h := fun ls H locs hl hP hS => lv_lmul hx hb hdg (k ls H locs hl hP hS)
theorem pm_land (hx : p.tables.exec = Jvm.exec) (hb : c.code = cc) {x y : Int64} (hdg : decode cc pc = .ok (.land, 1)) (k : pm_W p l e R s m args below meth c Q ex B dA D cl nL n0 z0 (pc + 1) L (.long (x &&& y) :: st) h) : pm_W p l e R s m args below meth c Q ex B dA D cl nL n0 z0 pc L (.long y :: .long x :: st) h := fun ls H locs hl hP hS => lv_land hx hb hdg (k ls H locs hl hP hS)
theorem pm_lor (hx : p.tables.exec = Jvm.exec) (hb : c.code = cc) {x y : Int64} (hdg : decode cc pc = .ok (.lor, 1)) (k : pm_W p l e R s m args below meth c Q ex B dA D cl nL n0 z0 (pc + 1) L (.long (x ||| y) :: st) h) : pm_W p l e R s m args below meth c Q ex B dA D cl nL n0 z0 pc L (.long y :: .long x :: st) h := fun ls H locs hl hP hS => lv_lor hx hb hdg (k ls H locs hl hP hS)
theorem pm_lxor (hx : p.tables.exec = Jvm.exec) (hb : c.code = cc) {x y : Int64} (hdg : decode cc pc = .ok (.lxor, 1)) (k : pm_W p l e R s m args below meth c Q ex B dA D cl nL n0 z0 (pc + 1) L (.long (x ^^^ y) :: st) h) : pm_W p l e R s m args below meth c Q ex B dA D cl nL n0 z0 pc L (.long y :: .long x :: st) h := fun ls H locs hl hP hS => lv_lxor hx hb hdg (k ls H locs hl hP hS)
theorem pm_idiv (hx : p.tables.exec = Jvm.exec) (hb : c.code = cc) {x y : Int32} (hdg : decode cc pc = .ok (.idiv, 1)) (hne : ¬ y = 0) (k : pm_W p l e R s m args below meth c Q ex B dA D cl nL n0 z0 (pc + 1) L (.int (x / y) :: st) h) : pm_W p l e R s m args below meth c Q ex B dA D cl nL n0 z0 pc L (.int y :: .int x :: st) h := fun ls H locs hl hP hS => lv_idiv hx hb hdg hne (k ls H locs hl hP hS)
theorem pm_irem (hx : p.tables.exec = Jvm.exec) (hb : c.code = cc) {x y : Int32} (hdg : decode cc pc = .ok (.irem, 1)) (hne : ¬ y = 0) (k : pm_W p l e R s m args below meth c Q ex B dA D cl nL n0 z0 (pc + 1) L (.int (x - x / y * y) :: st) h) : pm_W p l e R s m args below meth c Q ex B dA D cl nL n0 z0 pc L (.int y :: .int x :: st) h := fun ls H locs hl hP hS => lv_irem hx hb hdg hne (k ls H locs hl hP hS)
theorem pm_ldiv (hx : p.tables.exec = Jvm.exec) (hb : c.code = cc) {x y : Int64} (hdg : decode cc pc = .ok (.ldiv, 1)) (hne : ¬ y = 0) (k : pm_W p l e R s m args below meth c Q ex B dA D cl nL n0 z0 (pc + 1) L (.long (x / y) :: st) h) : pm_W p l e R s m args below meth c Q ex B dA D cl nL n0 z0 pc L (.long y :: .long x :: st) h := fun ls H locs hl hP hS => lv_ldiv hx hb hdg hne (k ls H locs hl hP hS)
theorem pm_lrem (hx : p.tables.exec = Jvm.exec) (hb : c.code = cc) {x y : Int64} (hdg : decode cc pc = .ok (.lrem, 1)) (hne : ¬ y = 0) (k : pm_W p l e R s m args below meth c Q ex B dA D cl nL n0 z0 (pc + 1) L (.long (x - x / y * y) :: st) h) : pm_W p l e R s m args below meth c Q ex B dA D cl nL n0 z0 pc L (.long y :: .long x :: st) h := fun ls H locs hl hP hS => lv_lrem hx hb hdg hne (k ls H locs hl hP hS)
theorem pm_ineg (hx : p.tables.exec = Jvm.exec) (hb : c.code = cc) {x : Int32} (hdg : decode cc pc = .ok (.ineg, 1)) (k : pm_W p l e R s m args below meth c Q ex B dA D cl nL n0 z0 (pc + 1) L (.int (-x) :: st) h) : pm_W p l e R s m args below meth c Q ex B dA D cl nL n0 z0 pc L (.int x :: st) h := fun ls H locs hl hP hS => lv_ineg hx hb hdg (k ls H locs hl hP hS)
theorem pm_lneg (hx : p.tables.exec = Jvm.exec) (hb : c.code = cc) {x : Int64} (hdg : decode cc pc = .ok (.lneg, 1)) (k : pm_W p l e R s m args below meth c Q ex B dA D cl nL n0 z0 (pc + 1) L (.long (-x) :: st) h) : pm_W p l e R s m args below meth c Q ex B dA D cl nL n0 z0 pc L (.long x :: st) h := fun ls H locs hl hP hS => lv_lneg hx hb hdg (k ls H locs hl hP hS)
theorem pm_ishl (hx : p.tables.exec = Jvm.exec) (hb : c.code = cc) {x y : Int32} (hdg : decode cc pc = .ok (.ishl, 1)) (k : pm_W p l e R s m args below meth c Q ex B dA D cl nL n0 z0 (pc + 1) L (.int (x <<< (y &&& 31)) :: st) h) : pm_W p l e R s m args below meth c Q ex B dA D cl nL n0 z0 pc L (.int y :: .int x :: st) h := fun ls H locs hl hP hS => lv_ishl hx hb hdg (k ls H locs hl hP hS)
theorem pm_ishr (hx : p.tables.exec = Jvm.exec) (hb : c.code = cc) {x y : Int32} (hdg : decode cc pc = .ok (.ishr, 1)) (k : pm_W p l e R s m args below meth c Q ex B dA D cl nL n0 z0 (pc + 1) L (.int (x >>> (y &&& 31)) :: st) h) : pm_W p l e R s m args below meth c Q ex B dA D cl nL n0 z0 pc L (.int y :: .int x :: st) h := fun ls H locs hl hP hS => lv_ishr hx hb hdg (k ls H locs hl hP hS)
theorem pm_iushr (hx : p.tables.exec = Jvm.exec) (hb : c.code = cc) {x y : Int32} (hdg : decode cc pc = .ok (.iushr, 1)) (k : pm_W p l e R s m args below meth c Q ex B dA D cl nL n0 z0 (pc + 1) L (.int ((x.toUInt32 >>> (y.toUInt32 &&& Int32.toUInt32 31)).toInt32) :: st) h) : pm_W p l e R s m args below meth c Q ex B dA D cl nL n0 z0 pc L (.int y :: .int x :: st) h := fun ls H locs hl hP hS => lv_iushr hx hb hdg rfl (k ls H locs hl hP hS)
theorem pm_lushr (hx : p.tables.exec = Jvm.exec) (hb : c.code = cc) {x : Int64} {y : Int32} (hdg : decode cc pc = .ok (.lushr, 1)) (k : pm_W p l e R s m args below meth c Q ex B dA D cl nL n0 z0 (pc + 1) L (.long ((x.toUInt64 >>> (y.toInt64.toUInt64 &&& Int64.toUInt64 63)).toInt64) :: st) h) : pm_W p l e R s m args below meth c Q ex B dA D cl nL n0 z0 pc L (.int y :: .long x :: st) h := fun ls H locs hl hP hS => lv_lushr hx hb hdg rfl (k ls H locs hl hP hS)
theorem pm_lshl (hx : p.tables.exec = Jvm.exec) (hb : c.code = cc) {x : Int64} {y : Int32} (hdg : decode cc pc = .ok (.lshl, 1)) (k : pm_W p l e R s m args below meth c Q ex B dA D cl nL n0 z0 (pc + 1) L (.long (x <<< (y.toInt64 &&& 63)) :: st) h) : pm_W p l e R s m args below meth c Q ex B dA D cl nL n0 z0 pc L (.int y :: .long x :: st) h := fun ls H locs hl hP hS => lv_lshl hx hb hdg rfl (k ls H locs hl hP hS)
theorem pm_lshr (hx : p.tables.exec = Jvm.exec) (hb : c.code = cc) {x : Int64} {y : Int32} (hdg : decode cc pc = .ok (.lshr, 1)) (k : pm_W p l e R s m args below meth c Q ex B dA D cl nL n0 z0 (pc + 1) L (.long (x >>> (y.toInt64 &&& 63)) :: st) h) : pm_W p l e R s m args below meth c Q ex B dA D cl nL n0 z0 pc L (.int y :: .long x :: st) h := fun ls H locs hl hP hS => lv_lshr hx hb hdg rfl (k ls H locs hl hP hS)
theorem pm_i2l (hx : p.tables.exec = Jvm.exec) (hb : c.code = cc) {x : Int32} (hdg : decode cc pc = .ok (.i2l, 1)) (k : pm_W p l e R s m args below meth c Q ex B dA D cl nL n0 z0 (pc + 1) L (.long x.toInt64 :: st) h) : pm_W p l e R s m args below meth c Q ex B dA D cl nL n0 z0 pc L (.int x :: st) h := fun ls H locs hl hP hS => lv_i2l hx hb hdg rfl (k ls H locs hl hP hS)
theorem pm_l2i (hx : p.tables.exec = Jvm.exec) (hb : c.code = cc) {x : Int64} (hdg : decode cc pc = .ok (.l2i, 1)) (k : pm_W p l e R s m args below meth c Q ex B dA D cl nL n0 z0 (pc + 1) L (.int x.toInt32 :: st) h) : pm_W p l e R s m args below meth c Q ex B dA D cl nL n0 z0 pc L (.long x :: st) h := fun ls H locs hl hP hS => lv_l2i hx hb hdg rfl (k ls H locs hl hP hS)
theorem pm_i2b (hx : p.tables.exec = Jvm.exec) (hb : c.code = cc) {x : Int32} (hdg : decode cc pc = .ok (.i2b, 1)) (k : pm_W p l e R s m args below meth c Q ex B dA D cl nL n0 z0 (pc + 1) L (.int x.toInt8.toInt32 :: st) h) : pm_W p l e R s m args below meth c Q ex B dA D cl nL n0 z0 pc L (.int x :: st) h := fun ls H locs hl hP hS => lv_i2b hx hb hdg rfl (k ls H locs hl hP hS)
theorem pm_i2c (hx : p.tables.exec = Jvm.exec) (hb : c.code = cc) {x : Int32} (hdg : decode cc pc = .ok (.i2c, 1)) (k : pm_W p l e R s m args below meth c Q ex B dA D cl nL n0 z0 (pc + 1) L (.int (x.toUInt32 % 65536).toInt32 :: st) h) : pm_W p l e R s m args below meth c Q ex B dA D cl nL n0 z0 pc L (.int x :: st) h := fun ls H locs hl hP hS => lv_i2c hx hb hdg rfl (k ls H locs hl hP hS)
theorem pm_iconst (hx : p.tables.exec = Jvm.exec) (hb : c.code = cc) {n : Int} (hdg : decode cc pc = .ok (.iconst n, 1)) (k : pm_W p l e R s m args below meth c Q ex B dA D cl nL n0 z0 (pc + 1) L (.int (Int32.ofInt n) :: st) h) : pm_W p l e R s m args below meth c Q ex B dA D cl nL n0 z0 pc L (st) h := fun ls H locs hl hP hS => lv_iconst hx hb hdg rfl (k ls H locs hl hP hS)
theorem pm_bipush (hx : p.tables.exec = Jvm.exec) (hb : c.code = cc) {n : Int} (hdg : decode cc pc = .ok (.bipush n, 2)) (k : pm_W p l e R s m args below meth c Q ex B dA D cl nL n0 z0 (pc + 2) L (.int (Int8.ofInt n).toInt32 :: st) h) : pm_W p l e R s m args below meth c Q ex B dA D cl nL n0 z0 pc L (st) h := fun ls H locs hl hP hS => lv_bipush hx hb hdg rfl (k ls H locs hl hP hS)
theorem pm_sipush (hx : p.tables.exec = Jvm.exec) (hb : c.code = cc) {n : Int} (hdg : decode cc pc = .ok (.sipush n, 3)) (k : pm_W p l e R s m args below meth c Q ex B dA D cl nL n0 z0 (pc + 3) L (.int (Int16.ofInt n).toInt32 :: st) h) : pm_W p l e R s m args below meth c Q ex B dA D cl nL n0 z0 pc L (st) h := fun ls H locs hl hP hS => lv_sipush hx hb hdg rfl (k ls H locs hl hP hS)
theorem pm_lconst (hx : p.tables.exec = Jvm.exec) (hb : c.code = cc) {n : Fin 2} (hdg : decode cc pc = .ok (.lconst n, 1)) (k : pm_W p l e R s m args below meth c Q ex B dA D cl nL n0 z0 (pc + 1) L (.long (Int64.ofNat (n : Nat)) :: st) h) : pm_W p l e R s m args below meth c Q ex B dA D cl nL n0 z0 pc L (st) h := fun ls H locs hl hP hS => lv_lconst hx hb hdg rfl (k ls H locs hl hP hS)
theorem pm_null (hx : p.tables.exec = Jvm.exec) (hb : c.code = cc) (hdg : decode cc pc = .ok (.aconst_null, 1)) (k : pm_W p l e R s m args below meth c Q ex B dA D cl nL n0 z0 (pc + 1) L (.null :: st) h) : pm_W p l e R s m args below meth c Q ex B dA D cl nL n0 z0 pc L (st) h := fun ls H locs hl hP hS => lv_null hx hb hdg (k ls H locs hl hP hS)
theorem pm_dup (hx : p.tables.exec = Jvm.exec) (hb : c.code = cc) {va : Value} (hdg : decode cc pc = .ok (.dup, 1)) (hva : va.category = 1) (k : pm_W p l e R s m args below meth c Q ex B dA D cl nL n0 z0 (pc + 1) L (va :: va :: st) h) : pm_W p l e R s m args below meth c Q ex B dA D cl nL n0 z0 pc L (va :: st) h := fun ls H locs hl hP hS => lv_dup hx hb hdg ((pm_v_cat ex B va).trans hva) (k ls H locs hl hP hS)
theorem pm_pop (hx : p.tables.exec = Jvm.exec) (hb : c.code = cc) {va : Value} (hdg : decode cc pc = .ok (.pop, 1)) (hva : va.category = 1) (k : pm_W p l e R s m args below meth c Q ex B dA D cl nL n0 z0 (pc + 1) L (st) h) : pm_W p l e R s m args below meth c Q ex B dA D cl nL n0 z0 pc L (va :: st) h := fun ls H locs hl hP hS => lv_pop hx hb hdg ((pm_v_cat ex B va).trans hva) (k ls H locs hl hP hS)
theorem pm_dup_x1 (hx : p.tables.exec = Jvm.exec) (hb : c.code = cc) {va vb : Value} (hdg : decode cc pc = .ok (.dup_x1, 1)) (hva : va.category = 1) (hvb : vb.category = 1) (k : pm_W p l e R s m args below meth c Q ex B dA D cl nL n0 z0 (pc + 1) L (va :: vb :: va :: st) h) : pm_W p l e R s m args below meth c Q ex B dA D cl nL n0 z0 pc L (va :: vb :: st) h := fun ls H locs hl hP hS => lv_dup_x1 hx hb hdg ((pm_v_cat ex B va).trans hva) ((pm_v_cat ex B vb).trans hvb) (k ls H locs hl hP hS)
theorem pm_dup_x2 (hx : p.tables.exec = Jvm.exec) (hb : c.code = cc) {va vb vd : Value} (hdg : decode cc pc = .ok (.dup_x2, 1)) (hva : va.category = 1) (hvb : vb.category = 1) (hvd : vd.category = 1) (k : pm_W p l e R s m args below meth c Q ex B dA D cl nL n0 z0 (pc + 1) L (va :: vb :: vd :: va :: st) h) : pm_W p l e R s m args below meth c Q ex B dA D cl nL n0 z0 pc L (va :: vb :: vd :: st) h := fun ls H locs hl hP hS => lv_dup_x2 hx hb hdg ((pm_v_cat ex B va).trans hva) ((pm_v_cat ex B vb).trans hvb) ((pm_v_cat ex B vd).trans hvd) (k ls H locs hl hP hS)
theorem pm_dup2_11 (hx : p.tables.exec = Jvm.exec) (hb : c.code = cc) {va vb : Value} (hdg : decode cc pc = .ok (.dup2, 1)) (hva : va.category = 1) (hvb : vb.category = 1) (k : pm_W p l e R s m args below meth c Q ex B dA D cl nL n0 z0 (pc + 1) L (va :: vb :: va :: vb :: st) h) : pm_W p l e R s m args below meth c Q ex B dA D cl nL n0 z0 pc L (va :: vb :: st) h := fun ls H locs hl hP hS => lv_dup2_11 hx hb hdg ((pm_v_cat ex B va).trans hva) ((pm_v_cat ex B vb).trans hvb) (k ls H locs hl hP hS)
theorem pm_dup2_2 (hx : p.tables.exec = Jvm.exec) (hb : c.code = cc) {va : Value} (hdg : decode cc pc = .ok (.dup2, 1)) (hva : va.category = 2) (k : pm_W p l e R s m args below meth c Q ex B dA D cl nL n0 z0 (pc + 1) L (va :: va :: st) h) : pm_W p l e R s m args below meth c Q ex B dA D cl nL n0 z0 pc L (va :: st) h := fun ls H locs hl hP hS => lv_dup2_2 hx hb hdg ((pm_v_cat ex B va).trans hva) (k ls H locs hl hP hS)
theorem pm_pop2_2 (hx : p.tables.exec = Jvm.exec) (hb : c.code = cc) {va : Value} (hdg : decode cc pc = .ok (.pop2, 1)) (hva : va.category = 2) (k : pm_W p l e R s m args below meth c Q ex B dA D cl nL n0 z0 (pc + 1) L (st) h) : pm_W p l e R s m args below meth c Q ex B dA D cl nL n0 z0 pc L (va :: st) h := fun ls H locs hl hP hS => lv_pop2_2 hx hb hdg ((pm_v_cat ex B va).trans hva) (k ls H locs hl hP hS)
theorem pm_pop2_11 (hx : p.tables.exec = Jvm.exec) (hb : c.code = cc) {va vb : Value} (hdg : decode cc pc = .ok (.pop2, 1)) (hva : va.category = 1) (hvb : vb.category = 1) (k : pm_W p l e R s m args below meth c Q ex B dA D cl nL n0 z0 (pc + 1) L (st) h) : pm_W p l e R s m args below meth c Q ex B dA D cl nL n0 z0 pc L (va :: vb :: st) h := fun ls H locs hl hP hS => lv_pop2_11 hx hb hdg ((pm_v_cat ex B va).trans hva) ((pm_v_cat ex B vb).trans hvb) (k ls H locs hl hP hS)
theorem pm_iload_n (hx : p.tables.exec = Jvm.exec) (hb : c.code = cc) {n : Fin 4} {i : Nat} {x : Int32} (hdg : decode cc pc = .ok (.iload_n n, 1)) (hi : (n : Nat) = i) (hv : pm_get L i = some (.int x)) (k : pm_W p l e R s m args below meth c Q ex B dA D cl nL n0 z0 (pc + 1) L (.int x :: st) h) : pm_W p l e R s m args below meth c Q ex B dA D cl nL n0 z0 pc L st h := fun ls H locs hl hP hS => lv_iload_n hx hb hdg hi (pm_get_at hl hv) (k ls H locs hl hP hS)
theorem pm_iload (hx : p.tables.exec = Jvm.exec) (hb : c.code = cc) {i : Nat} {x : Int32} (hdg : decode cc pc = .ok (.iload i, 2)) (hv : pm_get L i = some (.int x)) (k : pm_W p l e R s m args below meth c Q ex B dA D cl nL n0 z0 (pc + 2) L (.int x :: st) h) : pm_W p l e R s m args below meth c Q ex B dA D cl nL n0 z0 pc L st h := fun ls H locs hl hP hS => lv_iload hx hb hdg (pm_get_at hl hv) (k ls H locs hl hP hS)
theorem pm_lload_n (hx : p.tables.exec = Jvm.exec) (hb : c.code = cc) {n : Fin 4} {i : Nat} {x : Int64} (hdg : decode cc pc = .ok (.lload_n n, 1)) (hi : (n : Nat) = i) (hv : pm_get L i = some (.long x)) (k : pm_W p l e R s m args below meth c Q ex B dA D cl nL n0 z0 (pc + 1) L (.long x :: st) h) : pm_W p l e R s m args below meth c Q ex B dA D cl nL n0 z0 pc L st h := fun ls H locs hl hP hS => lv_lload_n hx hb hdg hi (pm_get_at hl hv) (k ls H locs hl hP hS)
theorem pm_lload (hx : p.tables.exec = Jvm.exec) (hb : c.code = cc) {i : Nat} {x : Int64} (hdg : decode cc pc = .ok (.lload i, 2)) (hv : pm_get L i = some (.long x)) (k : pm_W p l e R s m args below meth c Q ex B dA D cl nL n0 z0 (pc + 2) L (.long x :: st) h) : pm_W p l e R s m args below meth c Q ex B dA D cl nL n0 z0 pc L st h := fun ls H locs hl hP hS => lv_lload hx hb hdg (pm_get_at hl hv) (k ls H locs hl hP hS)
/-- a reference, or null -/
def pm_isR (v : Value) : Bool := match v with
  | .ref _ => true
  | .retAddr _ => true
  | .null => true
  | _ => false
theorem pm_aload_n (hx : p.tables.exec = Jvm.exec) (hb : c.code = cc) {n : Fin 4} {i : Nat} {v : Value} (hdg : decode cc pc = .ok (.aload_n n, 1)) (hi : (n : Nat) = i) (hv : pm_get L i = some v) (hr : pm_isR v = true) (k : pm_W p l e R s m args below meth c Q ex B dA D cl nL n0 z0 (pc + 1) L (v :: st) h) : pm_W p l e R s m args below meth c Q ex B dA D cl nL n0 z0 pc L st h := fun ls H locs hl hP hS => by
  have h1 := pm_get_at hl hv
  have h2 := k ls H locs hl hP hS
  cases v with
  | ref x => exact lv_aload_n hx hb hdg hi h1 h2
  | retAddr x => exact lv_aload_n hx hb hdg hi h1 h2
  | null => exact lv_aload_nN hx hb hdg hi h1 h2
  | _ => cases hr
theorem pm_aload (hx : p.tables.exec = Jvm.exec) (hb : c.code = cc) {i : Nat} {v : Value} (hdg : decode cc pc = .ok (.aload i, 2)) (hv : pm_get L i = some v) (hr : pm_isR v = true) (k : pm_W p l e R s m args below meth c Q ex B dA D cl nL n0 z0 (pc + 2) L (v :: st) h) : pm_W p l e R s m args below meth c Q ex B dA D cl nL n0 z0 pc L st h := fun ls H locs hl hP hS => by
  have h1 := pm_get_at hl hv
  have h2 := k ls H locs hl hP hS
  cases v with
  | ref x => exact lv_aload hx hb hdg h1 h2
  | retAddr x => exact lv_aload hx hb hdg h1 h2
  | null => exact lv_aloadN hx hb hdg h1 h2
  | _ => cases hr
theorem pm_istore_n (hx : p.tables.exec = Jvm.exec) (hb : c.code = cc) {n : Fin 4} {i : Nat} {x : Int32} (hdg : decode cc pc = .ok (.istore_n n, 1)) (hi : (n : Nat) = i) (hn : i < nL) (k : pm_W p l e R s m args below meth c Q ex B dA D cl nL n0 z0 (pc + 1) (pm_st1 i (.int x) L) st h) : pm_W p l e R s m args below meth c Q ex B dA D cl nL n0 z0 pc L (.int x :: st) h := fun ls H locs hl hP hS => lv_istore_n hx hb hdg hi hl hn (pm_l_st1 ex B i (.int x) L) (fun ls2 hl2 => k ls2 H locs hl2 hP hS)
theorem pm_istore (hx : p.tables.exec = Jvm.exec) (hb : c.code = cc) {i : Nat} {x : Int32} (hdg : decode cc pc = .ok (.istore i, 2)) (hn : i < nL) (k : pm_W p l e R s m args below meth c Q ex B dA D cl nL n0 z0 (pc + 2) (pm_st1 i (.int x) L) st h) : pm_W p l e R s m args below meth c Q ex B dA D cl nL n0 z0 pc L (.int x :: st) h := fun ls H locs hl hP hS => lv_istore hx hb hdg hl hn (pm_l_st1 ex B i (.int x) L) (fun ls2 hl2 => k ls2 H locs hl2 hP hS)
theorem pm_lstore_n (hx : p.tables.exec = Jvm.exec) (hb : c.code = cc) {n : Fin 4} {i : Nat} {x : Int64} (hdg : decode cc pc = .ok (.lstore_n n, 1)) (hi : (n : Nat) = i) (hn : i + 1 < nL) (k : pm_W p l e R s m args below meth c Q ex B dA D cl nL n0 z0 (pc + 1) (pm_st2 i (.long x) L) st h) : pm_W p l e R s m args below meth c Q ex B dA D cl nL n0 z0 pc L (.long x :: st) h := fun ls H locs hl hP hS => lv_lstore_n hx hb hdg hi hl hn (pm_l_st2 ex B i (.long x) L) (fun ls2 hl2 => k ls2 H locs hl2 hP hS)
theorem pm_lstore (hx : p.tables.exec = Jvm.exec) (hb : c.code = cc) {i : Nat} {x : Int64} (hdg : decode cc pc = .ok (.lstore i, 2)) (hn : i + 1 < nL) (k : pm_W p l e R s m args below meth c Q ex B dA D cl nL n0 z0 (pc + 2) (pm_st2 i (.long x) L) st h) : pm_W p l e R s m args below meth c Q ex B dA D cl nL n0 z0 pc L (.long x :: st) h := fun ls H locs hl hP hS => lv_lstore hx hb hdg hl hn (pm_l_st2 ex B i (.long x) L) (fun ls2 hl2 => k ls2 H locs hl2 hP hS)
theorem pm_astore_n (hx : p.tables.exec = Jvm.exec) (hb : c.code = cc) {n : Fin 4} {i : Nat} {v : Value} (hdg : decode cc pc = .ok (.astore_n n, 1)) (hi : (n : Nat) = i) (hr : pm_isR v = true) (hn : i < nL) (k : pm_W p l e R s m args below meth c Q ex B dA D cl nL n0 z0 (pc + 1) (pm_st1 i v L) st h) : pm_W p l e R s m args below meth c Q ex B dA D cl nL n0 z0 pc L (v :: st) h := fun ls H locs hl hP hS => by
  cases v with
  | ref x => exact lv_astore_n hx hb hdg hi hl hn (pm_l_st1 ex B i (.ref x) L) (fun ls2 hl2 => k ls2 H locs hl2 hP hS)
  | retAddr x => exact lv_astore_n hx hb hdg hi hl hn (pm_l_st1 ex B i (.retAddr x) L) (fun ls2 hl2 => k ls2 H locs hl2 hP hS)
  | null => exact lv_astore_nN hx hb hdg hi hl hn (pm_l_st1 ex B i .null L) (fun ls2 hl2 => k ls2 H locs hl2 hP hS)
  | _ => cases hr
theorem pm_astore (hx : p.tables.exec = Jvm.exec) (hb : c.code = cc) {i : Nat} {v : Value} (hdg : decode cc pc = .ok (.astore i, 2)) (hr : pm_isR v = true) (hn : i < nL) (k : pm_W p l e R s m args below meth c Q ex B dA D cl nL n0 z0 (pc + 2) (pm_st1 i v L) st h) : pm_W p l e R s m args below meth c Q ex B dA D cl nL n0 z0 pc L (v :: st) h := fun ls H locs hl hP hS => by
  cases v with
  | ref x => exact lv_astore hx hb hdg hl hn (pm_l_st1 ex B i (.ref x) L) (fun ls2 hl2 => k ls2 H locs hl2 hP hS)
  | retAddr x => exact lv_astore hx hb hdg hl hn (pm_l_st1 ex B i (.retAddr x) L) (fun ls2 hl2 => k ls2 H locs hl2 hP hS)
  | null => exact lv_astoreN hx hb hdg hl hn (pm_l_st1 ex B i .null L) (fun ls2 hl2 => k ls2 H locs hl2 hP hS)
  | _ => cases hr
theorem pm_iinc (hx : p.tables.exec = Jvm.exec) (hb : c.code = cc) {i : Nat} {n : Int} {x : Int32} (hdg : decode cc pc = .ok (.iinc i n, 3)) (hv : pm_get L i = some (.int x)) (hn : i < nL) (k : pm_W p l e R s m args below meth c Q ex B dA D cl nL n0 z0 (pc + 3) (pm_st1 i (.int (x + Int32.ofInt n)) L) st h) : pm_W p l e R s m args below meth c Q ex B dA D cl nL n0 z0 pc L st h := fun ls H locs hl hP hS => by
  have h1 : lv_has ls nL ((i, Value.int x) :: pm_l ex B L) := ⟨hl.1, hl.2.1, fun q hq => by
    rcases List.mem_cons.mp hq with h2 | h2
    · rw [h2]; exact pm_get_at hl hv
    · exact hl.2.2 q h2⟩
  refine lv_iinc (k := 0) hx hb hdg h1 rfl rfl hn ?_ (fun ls2 hl2 => k ls2 H locs hl2 hP hS)
  have h3 := pm_l_st1 ex B i (.int (x + Int32.ofInt n)) L
  rw [List.filter_cons_of_neg (by simp)]
  exact h3
theorem pm_if_eq (hx : p.tables.exec = Jvm.exec) (hb : c.code = cc) {x : Int32} {off : Int} {tgt : Nat} (hdg : decode cc pc = .ok (.ifCond .eq off, 3)) (ht : (pc : Int) + off = (tgt : Int)) (kt : x = 0 → pm_W p l e R s m args below meth c Q ex B dA D cl nL n0 z0 tgt L st h) (kf : ¬ x = 0 → pm_W p l e R s m args below meth c Q ex B dA D cl nL n0 z0 (pc + 3) L st h) : pm_W p l e R s m args below meth c Q ex B dA D cl nL n0 z0 pc L (.int x :: st) h := fun ls H locs hl hP hS => lv_if_eq hx hb hdg ht (fun q => kt q ls H locs hl hP hS) (fun q => kf q ls H locs hl hP hS)
theorem pm_icmp_eq (hx : p.tables.exec = Jvm.exec) (hb : c.code = cc) {x y : Int32} {off : Int} {tgt : Nat} (hdg : decode cc pc = .ok (.if_icmp .eq off, 3)) (ht : (pc : Int) + off = (tgt : Int)) (kt : x = y → pm_W p l e R s m args below meth c Q ex B dA D cl nL n0 z0 tgt L st h) (kf : ¬ x = y → pm_W p l e R s m args below meth c Q ex B dA D cl nL n0 z0 (pc + 3) L st h) : pm_W p l e R s m args below meth c Q ex B dA D cl nL n0 z0 pc L (.int y :: .int x :: st) h := fun ls H locs hl hP hS => lv_icmp_eq hx hb hdg ht (fun q => kt q ls H locs hl hP hS) (fun q => kf q ls H locs hl hP hS)
theorem pm_if_ne (hx : p.tables.exec = Jvm.exec) (hb : c.code = cc) {x : Int32} {off : Int} {tgt : Nat} (hdg : decode cc pc = .ok (.ifCond .ne off, 3)) (ht : (pc : Int) + off = (tgt : Int)) (kt : ¬ x = 0 → pm_W p l e R s m args below meth c Q ex B dA D cl nL n0 z0 tgt L st h) (kf : x = 0 → pm_W p l e R s m args below meth c Q ex B dA D cl nL n0 z0 (pc + 3) L st h) : pm_W p l e R s m args below meth c Q ex B dA D cl nL n0 z0 pc L (.int x :: st) h := fun ls H locs hl hP hS => lv_if_ne hx hb hdg ht (fun q => kt q ls H locs hl hP hS) (fun q => kf q ls H locs hl hP hS)
theorem pm_icmp_ne (hx : p.tables.exec = Jvm.exec) (hb : c.code = cc) {x y : Int32} {off : Int} {tgt : Nat} (hdg : decode cc pc = .ok (.if_icmp .ne off, 3)) (ht : (pc : Int) + off = (tgt : Int)) (kt : ¬ x = y → pm_W p l e R s m args below meth c Q ex B dA D cl nL n0 z0 tgt L st h) (kf : x = y → pm_W p l e R s m args below meth c Q ex B dA D cl nL n0 z0 (pc + 3) L st h) : pm_W p l e R s m args below meth c Q ex B dA D cl nL n0 z0 pc L (.int y :: .int x :: st) h := fun ls H locs hl hP hS => lv_icmp_ne hx hb hdg ht (fun q => kt q ls H locs hl hP hS) (fun q => kf q ls H locs hl hP hS)
theorem pm_if_lt (hx : p.tables.exec = Jvm.exec) (hb : c.code = cc) {x : Int32} {off : Int} {tgt : Nat} (hdg : decode cc pc = .ok (.ifCond .lt off, 3)) (ht : (pc : Int) + off = (tgt : Int)) (kt : x < 0 → pm_W p l e R s m args below meth c Q ex B dA D cl nL n0 z0 tgt L st h) (kf : ¬ x < 0 → pm_W p l e R s m args below meth c Q ex B dA D cl nL n0 z0 (pc + 3) L st h) : pm_W p l e R s m args below meth c Q ex B dA D cl nL n0 z0 pc L (.int x :: st) h := fun ls H locs hl hP hS => lv_if_lt hx hb hdg ht (fun q => kt q ls H locs hl hP hS) (fun q => kf q ls H locs hl hP hS)
theorem pm_icmp_lt (hx : p.tables.exec = Jvm.exec) (hb : c.code = cc) {x y : Int32} {off : Int} {tgt : Nat} (hdg : decode cc pc = .ok (.if_icmp .lt off, 3)) (ht : (pc : Int) + off = (tgt : Int)) (kt : x < y → pm_W p l e R s m args below meth c Q ex B dA D cl nL n0 z0 tgt L st h) (kf : ¬ x < y → pm_W p l e R s m args below meth c Q ex B dA D cl nL n0 z0 (pc + 3) L st h) : pm_W p l e R s m args below meth c Q ex B dA D cl nL n0 z0 pc L (.int y :: .int x :: st) h := fun ls H locs hl hP hS => lv_icmp_lt hx hb hdg ht (fun q => kt q ls H locs hl hP hS) (fun q => kf q ls H locs hl hP hS)
theorem pm_if_ge (hx : p.tables.exec = Jvm.exec) (hb : c.code = cc) {x : Int32} {off : Int} {tgt : Nat} (hdg : decode cc pc = .ok (.ifCond .ge off, 3)) (ht : (pc : Int) + off = (tgt : Int)) (kt : 0 ≤ x → pm_W p l e R s m args below meth c Q ex B dA D cl nL n0 z0 tgt L st h) (kf : ¬ 0 ≤ x → pm_W p l e R s m args below meth c Q ex B dA D cl nL n0 z0 (pc + 3) L st h) : pm_W p l e R s m args below meth c Q ex B dA D cl nL n0 z0 pc L (.int x :: st) h := fun ls H locs hl hP hS => lv_if_ge hx hb hdg ht (fun q => kt q ls H locs hl hP hS) (fun q => kf q ls H locs hl hP hS)
theorem pm_icmp_ge (hx : p.tables.exec = Jvm.exec) (hb : c.code = cc) {x y : Int32} {off : Int} {tgt : Nat} (hdg : decode cc pc = .ok (.if_icmp .ge off, 3)) (ht : (pc : Int) + off = (tgt : Int)) (kt : y ≤ x → pm_W p l e R s m args below meth c Q ex B dA D cl nL n0 z0 tgt L st h) (kf : ¬ y ≤ x → pm_W p l e R s m args below meth c Q ex B dA D cl nL n0 z0 (pc + 3) L st h) : pm_W p l e R s m args below meth c Q ex B dA D cl nL n0 z0 pc L (.int y :: .int x :: st) h := fun ls H locs hl hP hS => lv_icmp_ge hx hb hdg ht (fun q => kt q ls H locs hl hP hS) (fun q => kf q ls H locs hl hP hS)
theorem pm_if_gt (hx : p.tables.exec = Jvm.exec) (hb : c.code = cc) {x : Int32} {off : Int} {tgt : Nat} (hdg : decode cc pc = .ok (.ifCond .gt off, 3)) (ht : (pc : Int) + off = (tgt : Int)) (kt : 0 < x → pm_W p l e R s m args below meth c Q ex B dA D cl nL n0 z0 tgt L st h) (kf : ¬ 0 < x → pm_W p l e R s m args below meth c Q ex B dA D cl nL n0 z0 (pc + 3) L st h) : pm_W p l e R s m args below meth c Q ex B dA D cl nL n0 z0 pc L (.int x :: st) h := fun ls H locs hl hP hS => lv_if_gt hx hb hdg ht (fun q => kt q ls H locs hl hP hS) (fun q => kf q ls H locs hl hP hS)
theorem pm_icmp_gt (hx : p.tables.exec = Jvm.exec) (hb : c.code = cc) {x y : Int32} {off : Int} {tgt : Nat} (hdg : decode cc pc = .ok (.if_icmp .gt off, 3)) (ht : (pc : Int) + off = (tgt : Int)) (kt : y < x → pm_W p l e R s m args below meth c Q ex B dA D cl nL n0 z0 tgt L st h) (kf : ¬ y < x → pm_W p l e R s m args below meth c Q ex B dA D cl nL n0 z0 (pc + 3) L st h) : pm_W p l e R s m args below meth c Q ex B dA D cl nL n0 z0 pc L (.int y :: .int x :: st) h := fun ls H locs hl hP hS => lv_icmp_gt hx hb hdg ht (fun q => kt q ls H locs hl hP hS) (fun q => kf q ls H locs hl hP hS)
theorem pm_if_le (hx : p.tables.exec = Jvm.exec) (hb : c.code = cc) {x : Int32} {off : Int} {tgt : Nat} (hdg : decode cc pc = .ok (.ifCond .le off, 3)) (ht : (pc : Int) + off = (tgt : Int)) (kt : x ≤ 0 → pm_W p l e R s m args below meth c Q ex B dA D cl nL n0 z0 tgt L st h) (kf : ¬ x ≤ 0 → pm_W p l e R s m args below meth c Q ex B dA D cl nL n0 z0 (pc + 3) L st h) : pm_W p l e R s m args below meth c Q ex B dA D cl nL n0 z0 pc L (.int x :: st) h := fun ls H locs hl hP hS => lv_if_le hx hb hdg ht (fun q => kt q ls H locs hl hP hS) (fun q => kf q ls H locs hl hP hS)
theorem pm_icmp_le (hx : p.tables.exec = Jvm.exec) (hb : c.code = cc) {x y : Int32} {off : Int} {tgt : Nat} (hdg : decode cc pc = .ok (.if_icmp .le off, 3)) (ht : (pc : Int) + off = (tgt : Int)) (kt : x ≤ y → pm_W p l e R s m args below meth c Q ex B dA D cl nL n0 z0 tgt L st h) (kf : ¬ x ≤ y → pm_W p l e R s m args below meth c Q ex B dA D cl nL n0 z0 (pc + 3) L st h) : pm_W p l e R s m args below meth c Q ex B dA D cl nL n0 z0 pc L (.int y :: .int x :: st) h := fun ls H locs hl hP hS => lv_icmp_le hx hb hdg ht (fun q => kt q ls H locs hl hP hS) (fun q => kf q ls H locs hl hP hS)
theorem pm_goto (hx : p.tables.exec = Jvm.exec) (hb : c.code = cc) {off : Int} {tgt : Nat} (hdg : decode cc pc = .ok (.goto off, 3)) (ht : (pc : Int) + off = (tgt : Int)) (k : pm_W p l e R s m args below meth c Q ex B dA D cl nL n0 z0 tgt L st h) : pm_W p l e R s m args below meth c Q ex B dA D cl nL n0 z0 pc L st h := fun ls H locs hl hP hS => lv_goto hx hb hdg ht (k ls H locs hl hP hS)
end PM
