/-! PART 19b: place holders: values of the pure machine that stand for an int between bounds. -/
theorem pm_ofInt {z : Int} (h1 : -2147483648 ≤ z) (h2 : z ≤ 2147483647) : (Int32.ofInt z).toInt = z := by
  exact Int32.toInt_ofInt_of_le (by omega) (by omega)
theorem pm_cl_in {lo hi x : Int} (h : lo ≤ hi) : lo ≤ pm_cl lo hi x ∧ pm_cl lo hi x ≤ hi := by
  unfold pm_cl
  split
  · assumption
  · exact ⟨Int.le_refl _, h⟩
def pm_kiok : Bool := pm_ki.all (fun q => decide (-2147483648 ≤ q.1) && (decide (q.1 ≤ q.2) && decide (q.2 ≤ 2147483647)))
theorem pm_ki_ok {k : Nat} {lo hi : Int} (h : pm_ki[k]? = some (lo, hi)) : -2147483648 ≤ lo ∧ lo ≤ hi ∧ hi ≤ 2147483647 := by
  have h1 : pm_kiok = true := by decide
  have h2 := List.all_eq_true.mp h1 _ (List.mem_of_getElem? h)
  simp only [Bool.and_eq_true, decide_eq_true_eq] at h2
  exact h2
theorem pm_ki_lt {k : Nat} {q : Int × Int} (h : pm_ki[k]? = some q) : Nat.ble 96 k = false ∧ Nat.ble 64 k = false := by
  have h1 : k < pm_ki.length := (List.getElem?_eq_some_iff.mp h).1
  have h2 : pm_ki.length = 43 := by decide
  constructor
  · cases hb : Nat.ble 96 k with
    | false => rfl
    | true => have := Nat.le_of_ble_eq_true hb; omega
  · cases hb : Nat.ble 64 k with
    | false => rfl
    | true => have := Nat.le_of_ble_eq_true hb; omega
/-- an int's place holder: its bounds -/
theorem pm_ph_ok (ex : Nat → Nat) {n : Nat} {lo hi : Int} (h : pm_ki[n / 8 % 128]? = some (lo, hi)) (ho : -2147483648 ≤ lo - ((n / 1024 : Nat) : Int)) : ∃ x : Int32, pm_ph ex n = .int x ∧ lo - ((n / 1024 : Nat) : Int) ≤ x.toInt ∧ x.toInt ≤ hi - ((n / 1024 : Nat) : Int) ∧ x = Int32.ofInt (pm_cl lo hi (Int32.ofNat (ex (1000 + n % 8))).toInt - ((n / 1024 : Nat) : Int)) := by
  obtain ⟨k1, k2, k3⟩ := pm_ki_ok h
  have hc := pm_cl_in (x := (Int32.ofNat (ex (1000 + n % 8))).toInt) k2
  refine ⟨_, ?_, ?_, ?_, rfl⟩
  · unfold pm_ph
    rw [(pm_ki_lt h).1, (pm_ki_lt h).2, h]; rfl
  · rw [pm_ofInt (by omega) (by omega)]; omega
  · rw [pm_ofInt (by omega) (by omega)]; omega
/-- the place holder of a value that is there -/
theorem pm_ph_is {ex : Nat → Nat} {n : Nat} {lo hi : Int} {x : Int32} (h : pm_ki[n / 8 % 128]? = some (lo, hi)) (hn : n / 1024 = 0) (hx : ex (1000 + n % 8) = x.toUInt32.toNat) (h1 : lo ≤ x.toInt) (h2 : x.toInt ≤ hi) : pm_ph ex n = .int x := by
  unfold pm_ph
  rw [(pm_ki_lt h).1, (pm_ki_lt h).2, h, hn, hx]
  show Value.int (Int32.ofInt (pm_cl lo hi (Int32.ofNat x.toUInt32.toNat).toInt - ((0 : Nat) : Int))) = .int x
  have e1 : Int32.ofNat x.toUInt32.toNat = x := by
    apply Int32.toBitVec_inj.mp
    show BitVec.ofNat 32 x.toUInt32.toNat = x.toBitVec
    rw [show x.toUInt32.toNat = x.toBitVec.toNat from rfl, BitVec.ofNat_toNat, BitVec.setWidth_eq]
  rw [e1]
  unfold pm_cl
  rw [if_pos ⟨h1, h2⟩]
  congr 1
  show Int32.ofInt (x.toInt - 0) = x
  rw [Int.sub_zero, Int32.ofInt_toInt]
/-- a place holder whose last five bits are known -/
theorem pm_ph_md (ex : Nat → Nat) {n : Nat} (h1 : Nat.ble 64 (n / 8 % 128) = true) (h2 : Nat.ble 96 (n / 8 % 128) = false) : ∃ x : Int32, pm_ph ex n = .int x ∧ x &&& 31 = Int32.ofNat (n / 8 % 128 - 64) := by
  refine ⟨pm_md (n / 8 % 128 - 64) (Int32.ofNat (ex (1000 + n % 8))), ?_, ?_⟩
  · unfold pm_ph
    rw [h1, h2]; rfl
  · have h3 := Nat.le_of_ble_eq_true h1
    have h4 : n / 8 % 128 < 96 := by
      rcases Nat.lt_or_ge (n / 8 % 128) 96 with q | q
      · exact q
      · rw [Nat.ble_eq_true_of_le q] at h2; cases h2
    unfold pm_md
    split
    · assumption
    · have hc : n / 8 % 128 - 64 < 32 := by omega
      exact (by decide : ∀ c : Nat, c < 32 → Int32.ofNat c &&& 31 = Int32.ofNat c) _ hc
theorem pm_ph_mdis {ex : Nat → Nat} {n : Nat} {x : Int32} (h1 : Nat.ble 64 (n / 8 % 128) = true) (h2 : Nat.ble 96 (n / 8 % 128) = false) (hx : ex (1000 + n % 8) = x.toUInt32.toNat) (hm : x &&& 31 = Int32.ofNat (n / 8 % 128 - 64)) : pm_ph ex n = .int x := by
  unfold pm_ph
  rw [h1, h2, hx]
  show Value.int (pm_md (n / 8 % 128 - 64) (Int32.ofNat x.toUInt32.toNat)) = .int x
  have e1 : Int32.ofNat x.toUInt32.toNat = x := by
    apply Int32.toBitVec_inj.mp
    show BitVec.ofNat 32 x.toUInt32.toNat = x.toBitVec
    rw [show x.toUInt32.toNat = x.toBitVec.toNat from rfl, BitVec.ofNat_toNat, BitVec.setWidth_eq]
  rw [e1]
  unfold pm_md
  rw [if_pos hm]
section PH
variable {p : Program} {l : Launch} {e : Env} {R : Room} {s : State} {m : MethodId} {args : Array Value} {below : List Frame} {meth : Method} {c : Code} {Q : State → Prop} {ex : Nat → Nat} {B : Nat} {dA : Nat → ClassId} {D : va_G} {cl : List vw_C} {nL n0 z0 : Nat} {cc : ByteArray} {pc : Nat} {L : pm_L} {st : List Value} {h : pm_H}
theorem pm_cg1 {v u : Value} (hv : pm_v ex B v = pm_v ex B u) (k : pm_W p l e R s m args below meth c Q ex B dA D cl nL n0 z0 pc L (u :: st) h) : pm_W p l e R s m args below meth c Q ex B dA D cl nL n0 z0 pc L (v :: st) h := fun ls H locs hl hP hS => by
  have h2 := k ls H locs hl hP hS
  rw [List.map_cons, ← hv, ← List.map_cons] at h2
  exact h2
theorem pm_cg2 {v u v2 u2 : Value} (hv : pm_v ex B v = pm_v ex B u) (hv2 : pm_v ex B v2 = pm_v ex B u2) (k : pm_W p l e R s m args below meth c Q ex B dA D cl nL n0 z0 pc L (u :: u2 :: st) h) : pm_W p l e R s m args below meth c Q ex B dA D cl nL n0 z0 pc L (v :: v2 :: st) h := fun ls H locs hl hP hS => by
  have h2 := k ls H locs hl hP hS
  rw [List.map_cons, List.map_cons, ← hv, ← hv2, ← List.map_cons, ← List.map_cons] at h2
  exact h2
theorem pm_cgL {i : Nat} {v u : Value} {L1 L2 : pm_L} (hv : pm_v ex B v = pm_v ex B u) (k : pm_W p l e R s m args below meth c Q ex B dA D cl nL n0 z0 pc (L1 ++ (i, u) :: L2) st h) : pm_W p l e R s m args below meth c Q ex B dA D cl nL n0 z0 pc (L1 ++ (i, v) :: L2) st h := fun ls H locs hl hP hS => k ls H locs (by
  have e1 : pm_l ex B (L1 ++ (i, v) :: L2) = pm_l ex B (L1 ++ (i, u) :: L2) := by
    unfold pm_l
    rw [List.map_append, List.map_append, List.map_cons, List.map_cons, hv]
  rw [← e1]; exact hl) hP hS
theorem pm_iload_nV (hx : p.tables.exec = Jvm.exec) (hb : c.code = cc) {n : Fin 4} {i : Nat} {v : Value} {x : Int32} (hdg : decode cc pc = .ok (.iload_n n, 1)) (hi : (n : Nat) = i) (hxv : pm_v ex B v = .int x) (hv : pm_get L i = some v) (k : pm_W p l e R s m args below meth c Q ex B dA D cl nL n0 z0 (pc + 1) L (v :: st) h) : pm_W p l e R s m args below meth c Q ex B dA D cl nL n0 z0 pc L st h := fun ls H locs hl hP hS => by
  have h1 := pm_get_at hl hv
  have h2 := k ls H locs hl hP hS
  rw [List.map_cons, hxv] at h2
  rw [hxv] at h1
  exact lv_iload_n hx hb hdg hi h1 h2
theorem pm_iloadV (hx : p.tables.exec = Jvm.exec) (hb : c.code = cc) {i : Nat} {v : Value} {x : Int32} (hdg : decode cc pc = .ok (.iload i, 2)) (hxv : pm_v ex B v = .int x) (hv : pm_get L i = some v) (k : pm_W p l e R s m args below meth c Q ex B dA D cl nL n0 z0 (pc + 2) L (v :: st) h) : pm_W p l e R s m args below meth c Q ex B dA D cl nL n0 z0 pc L st h := fun ls H locs hl hP hS => by
  have h1 := pm_get_at hl hv
  have h2 := k ls H locs hl hP hS
  rw [List.map_cons, hxv] at h2
  rw [hxv] at h1
  exact lv_iload hx hb hdg h1 h2
theorem pm_lload_nV (hx : p.tables.exec = Jvm.exec) (hb : c.code = cc) {n : Fin 4} {i : Nat} {v : Value} {x : Int64} (hdg : decode cc pc = .ok (.lload_n n, 1)) (hi : (n : Nat) = i) (hxv : pm_v ex B v = .long x) (hv : pm_get L i = some v) (k : pm_W p l e R s m args below meth c Q ex B dA D cl nL n0 z0 (pc + 1) L (v :: st) h) : pm_W p l e R s m args below meth c Q ex B dA D cl nL n0 z0 pc L st h := fun ls H locs hl hP hS => by
  have h1 := pm_get_at hl hv
  have h2 := k ls H locs hl hP hS
  rw [List.map_cons, hxv] at h2
  rw [hxv] at h1
  exact lv_lload_n hx hb hdg hi h1 h2
theorem pm_lloadV (hx : p.tables.exec = Jvm.exec) (hb : c.code = cc) {i : Nat} {v : Value} {x : Int64} (hdg : decode cc pc = .ok (.lload i, 2)) (hxv : pm_v ex B v = .long x) (hv : pm_get L i = some v) (k : pm_W p l e R s m args below meth c Q ex B dA D cl nL n0 z0 (pc + 2) L (v :: st) h) : pm_W p l e R s m args below meth c Q ex B dA D cl nL n0 z0 pc L st h := fun ls H locs hl hP hS => by
  have h1 := pm_get_at hl hv
  have h2 := k ls H locs hl hP hS
  rw [List.map_cons, hxv] at h2
  rw [hxv] at h1
  exact lv_lload hx hb hdg h1 h2
theorem pm_istore_nV (hx : p.tables.exec = Jvm.exec) (hb : c.code = cc) {n : Fin 4} {i : Nat} {v : Value} {x : Int32} (hdg : decode cc pc = .ok (.istore_n n, 1)) (hi : (n : Nat) = i) (hxv : pm_v ex B v = .int x) (hn : i < nL) (k : pm_W p l e R s m args below meth c Q ex B dA D cl nL n0 z0 (pc + 1) (pm_st1 i v L) st h) : pm_W p l e R s m args below meth c Q ex B dA D cl nL n0 z0 pc L (v :: st) h := fun ls H locs hl hP hS => by
  have q := pm_l_st1 ex B i v L
  rw [List.map_cons]
  rw [hxv] at q ⊢
  exact lv_istore_n hx hb hdg hi hl hn q (fun ls2 hl2 => k ls2 H locs hl2 hP hS)
theorem pm_istoreV (hx : p.tables.exec = Jvm.exec) (hb : c.code = cc) {i : Nat} {v : Value} {x : Int32} (hdg : decode cc pc = .ok (.istore i, 2)) (hxv : pm_v ex B v = .int x) (hn : i < nL) (k : pm_W p l e R s m args below meth c Q ex B dA D cl nL n0 z0 (pc + 2) (pm_st1 i v L) st h) : pm_W p l e R s m args below meth c Q ex B dA D cl nL n0 z0 pc L (v :: st) h := fun ls H locs hl hP hS => by
  have q := pm_l_st1 ex B i v L
  rw [List.map_cons]
  rw [hxv] at q ⊢
  exact lv_istore hx hb hdg hl hn q (fun ls2 hl2 => k ls2 H locs hl2 hP hS)
end PH
