/-! PART 21: the evaluator's heap is one of the pure machine; it only grows. -/
def pe_d (x : pe_E) : pm_E := match x with
  | .inr (.inl (ci, vs)) => .inr (ci, vs)
  | .inl (t, n, c) => .inl (t, .inl (n, fun j => pe_lk 0 j c))
  | .inr (.inr (.inr ((t, n, c)))) => .inl (t, .inr (.inl (n, fun j => pe_lk 0 j c)))
  | .inr (.inr (.inl (t, n, c))) => .inl (t, .inr (.inr (n, fun j => pe_lk none j c)))
def pe_D (h : pe_H) : pm_H := h.map pe_d
theorem pe_D_length (h : pe_H) : (pe_D h).length = h.length := List.length_map _
theorem pe_D_at {h : pe_H} {a : Nat} {x : pe_E} (hx : pe_at h a = some x) : (pe_D h)[a]? = some (pe_d x) := by
  rw [pe_at_eq] at hx
  unfold pe_D
  rw [List.getElem?_map, hx]; rfl
theorem pe_D_set (h : pe_H) (a : Nat) (x : pe_E) : pe_D (h.set a x) = (pe_D h).set a (pe_d x) := List.map_set
theorem pe_D_push (h : pe_H) (x : pe_E) : pe_D (h ++ [x]) = pe_D h ++ [pe_d x] := by simp [pe_D]
def pe_le (h h2 : pe_H) : Prop := h.length ≤ h2.length ∧ pm_sz (pe_D h) ≤ pm_sz (pe_D h2)
theorem pe_le.rf {h : pe_H} : pe_le h h := ⟨Nat.le_refl _, Nat.le_refl _⟩
theorem pe_le.tr {h h2 h3 : pe_H} (a : pe_le h h2) (b : pe_le h2 h3) : pe_le h h3 := ⟨Nat.le_trans a.1 b.1, Nat.le_trans a.2 b.2⟩
theorem pe_le.set {h : pe_H} {a : Nat} {x y : pe_E} (hx : pe_at h a = some x) (hn : pm_n (pe_d y) = pm_n (pe_d x)) : pe_le h (h.set a y) := by
  refine ⟨by rw [List.length_set]; exact Nat.le_refl _, ?_⟩
  rw [pe_D_set, pm_sz_set (pe_D_at hx) hn]
  exact Nat.le_refl _
theorem pe_le.push {h : pe_H} {x : pe_E} : pe_le h (h ++ [x]) := by
  refine ⟨by simp, ?_⟩
  rw [pe_D_push, pm_sz_push]
  exact Nat.le_add_right _ _
theorem pe_ldi_inv {α : Type} {i : Nat} {L : pm_L} {k : Int32 → Option α} {r : α} (h : pe_ldi i L k = some r) : ∃ x, pm_get L i = some (.int x) ∧ k x = some r := by
  unfold pe_ldi at h
  rw [pe_gl_eq] at h
  split at h
  · exact ⟨_, by assumption, h⟩
  · cases h
theorem pe_bif_inv {α : Type} {b : Bool} {x : Option α} {r : α} (h : (bif b then x else none) = some r) : b = true ∧ x = some r := by
  cases b
  · cases h
  · exact ⟨rfl, h⟩
theorem pe_bif_inv2 {α : Type} {b : Bool} {x : Option α} {r : α} (h : (bif b then none else x) = some r) : b = false ∧ x = some r := by
  cases b
  · exact ⟨rfl, h⟩
  · cases h
theorem pe_fv_ok (ex : Nat → Nat) {n : Nat} {lo hi : Int} (h : pe_fv n = some (lo, hi)) : ∃ x : Int32, pm_ph ex n = .int x ∧ lo ≤ x.toInt ∧ x.toInt ≤ hi := by
  unfold pe_fv at h
  rw [pe_at_eq] at h
  split at h
  · rename_i l0 h0 hq
    obtain ⟨h1, h2⟩ := pe_bif_inv h
    cases h2
    obtain ⟨x, q1, q2, q3, _⟩ := pm_ph_ok ex hq (of_decide_eq_true h1)
    exact ⟨x, q1, q2, q3⟩
  · cases h
theorem pe_fv_some (ex : Nat → Nat) {n : Nat} (h : (pe_fv n).isSome = true) : ∃ x : Int32, pm_ph ex n = .int x := by
  cases hq : pe_fv n with
  | none => rw [hq] at h; cases h
  | some q =>
    obtain ⟨x, q1, _⟩ := pe_fv_ok ex (lo := q.1) (hi := q.2) hq
    exact ⟨x, q1⟩
theorem pe_isI_ok {v : Value} (h : pe_isI v = true) (ex : Nat → Nat) (B : Nat) : ∃ x : Int32, pm_v ex B v = .int x := by
  cases v with
  | int x => exact ⟨x, rfl⟩
  | float b => exact pe_fv_some ex h
  | _ => cases h
theorem pe_isL_ok {v : Value} (h : pe_isL v = true) (ex : Nat → Nat) (B : Nat) : ∃ x : Int64, pm_v ex B v = .long x := by
  cases v with
  | long x => exact ⟨x, rfl⟩
  | double b => exact ⟨_, rfl⟩
  | _ => cases h
theorem pe_ldv_inv {α : Type} {i : Nat} {L : pm_L} {k : Value → Option α} {r : α} (h : pe_ldv i L k = some r) : ∃ v, pm_get L i = some v ∧ pe_isI v = true ∧ k v = some r := by
  unfold pe_ldv at h
  rw [pe_gl_eq] at h
  split at h
  · obtain ⟨h1, h2⟩ := pe_bif_inv h
    exact ⟨_, by assumption, h1, h2⟩
  · cases h
theorem pe_ldw_inv {α : Type} {i : Nat} {L : pm_L} {k : Value → Option α} {r : α} (h : pe_ldw i L k = some r) : ∃ v, pm_get L i = some v ∧ pe_isL v = true ∧ k v = some r := by
  unfold pe_ldw at h
  rw [pe_gl_eq] at h
  split at h
  · obtain ⟨h1, h2⟩ := pe_bif_inv h
    exact ⟨_, by assumption, h1, h2⟩
  · cases h
theorem pe_i2lk_inv {α : Type} {v : Value} {k : Value → Option α} {r : α} (h : pe_i2lk v k = some r) : ∃ u, k u = some r ∧ ∀ (ex : Nat → Nat) (B : Nat), ∃ x : Int32, pm_v ex B v = .int x ∧ pm_v ex B u = .long x.toInt64 := by
  unfold pe_i2lk at h
  split at h
  · rw [pe_fl_eq] at h
    exact ⟨_, h, fun ex B => ⟨_, rfl, rfl⟩⟩
  · rename_i b
    obtain ⟨h1, h2⟩ := pe_bif_inv h
    refine ⟨_, h2, fun ex B => ?_⟩
    obtain ⟨x, q1⟩ := pe_fv_some ex h1
    refine ⟨x, q1, ?_⟩
    show Value.long (pm_phL ex (UInt64.ofNat b.toNat).toNat) = _
    have e1 : (UInt64.ofNat b.toNat).toNat = b.toNat := UInt64.toNat_ofNat_of_lt' (Nat.lt_trans b.toNat_lt (by decide))
    rw [e1]
    unfold pm_phL
    rw [q1]
  · cases h
theorem pe_isbk_inv {α : Type} {u v : Value} {k : Value → Option α} {r : α} (h : pe_isbk u v k = some r) : ∃ w, k w = some r ∧ ∀ (ex : Nat → Nat) (B : Nat), ∃ x y : Int32, pm_v ex B u = .int x ∧ pm_v ex B v = .int y ∧ pm_v ex B w = .int (x - y) := by
  unfold pe_isbk at h
  split at h
  · rw [pe_fi_eq] at h
    exact ⟨_, h, fun ex B => ⟨_, _, rfl, rfl, rfl⟩⟩
  · rename_i b y
    obtain ⟨h1, h2⟩ := pe_bif_inv h
    rw [pe_fn_eq] at h2
    simp only [Bool.and_eq_true, decide_eq_true_eq] at h1
    obtain ⟨a1, a2, a3, a4⟩ := h1
    refine ⟨_, h2, fun ex B => ?_⟩
    have e1 : (UInt32.ofNat (b.toNat + 1024 * y.toInt.toNat)).toNat = b.toNat + 1024 * y.toInt.toNat := UInt32.toNat_ofNat_of_lt' a2
    have e2 : pm_v ex B (.float (UInt32.ofNat (b.toNat + 1024 * y.toInt.toNat))) = pm_ph ex (b.toNat + 1024 * y.toInt.toNat) := by
      show pm_ph ex (UInt32.ofNat (b.toNat + 1024 * y.toInt.toNat)).toNat = _
      rw [e1]
    have e3 : pm_v ex B (.float b) = pm_ph ex b.toNat := rfl
    rw [e2, e3]
    generalize b.toNat = n at *
    generalize hz : y.toInt.toNat = z at *
    have hy : y.toInt = (z : Int) := by rw [← hz]; exact (Int.toNat_of_nonneg a1).symm
    have i1 : (n + 1024 * z) / 8 % 128 = n / 8 % 128 := by omega
    have i2 : (n + 1024 * z) % 8 = n % 8 := by omega
    have i3 : (n + 1024 * z) / 1024 = n / 1024 + z := by omega
    unfold pe_fv at a3 a4
    rw [pe_at_eq] at a3 a4
    rw [i1, i3] at a4
    cases hq : pm_ki[n / 8 % 128]? with
    | none => rw [hq] at a3; cases a3
    | some q =>
      obtain ⟨lo, hi⟩ := q
      rw [hq] at a3 a4
      have b3 : -2147483648 ≤ lo - ((n / 1024 : Nat) : Int) := by
        cases hd : decide (-2147483648 ≤ lo - ((n / 1024 : Nat) : Int)) with
        | true => exact of_decide_eq_true hd
        | false => simp only [hd, cond_false] at a3; cases a3
      have b4 : -2147483648 ≤ lo - ((n / 1024 + z : Nat) : Int) := by
        cases hd : decide (-2147483648 ≤ lo - ((n / 1024 + z : Nat) : Int)) with
        | true => exact of_decide_eq_true hd
        | false => simp only [hd, cond_false] at a4; cases a4
      obtain ⟨x1, p1, p2, p3, p4⟩ := pm_ph_ok ex hq b3
      obtain ⟨x2, q1, q2, q3, q4⟩ := pm_ph_ok ex (n := n + 1024 * z) (by rw [i1]; exact hq) (by rw [i3]; exact b4)
      refine ⟨x1, y, p1, rfl, ?_⟩
      rw [q1]
      congr 1
      rw [i2, i3] at q4
      rw [p4, q4]
      rw [show y = Int32.ofInt (z : Int) by rw [← hy, Int32.ofInt_toInt]]
      rw [← Int32.ofInt_sub]
      congr 1
      omega
  · cases h
theorem pe_lg_lt {x y : Int64} (h : x.toInt < y.toInt) : lg_cmp x y = -1 := by
  have h2 : ¬ y < x := fun q => by have := Int64.lt_iff_toInt_lt.mp q; omega
  have h3 : ¬ x = y := fun q => by rw [q] at h; omega
  unfold lg_cmp
  rw [if_neg h2, if_neg h3]
theorem pe_lg_gt {x y : Int64} (h : y.toInt < x.toInt) : lg_cmp x y = 1 := by
  have h1 : y < x := Int64.lt_iff_toInt_lt.mpr h
  unfold lg_cmp
  rw [if_pos h1]
theorem pe_lck_inv {α : Type} {u v : Value} {k : Value → Option α} {r : α} (h : pe_lck u v k = some r) : ∃ w, k w = some r ∧ ∀ (ex : Nat → Nat) (B : Nat), ∃ x y : Int64, pm_v ex B u = .long x ∧ pm_v ex B v = .long y ∧ pm_v ex B w = .int (lg_cmp x y) := by
  unfold pe_lck at h
  split at h
  · rw [pe_fi_eq] at h
    exact ⟨_, h, fun ex B => ⟨_, _, rfl, rfl, rfl⟩⟩
  · rename_i b y
    split at h
    · rename_i lo hi hq
      have hL : ∀ (ex : Nat → Nat) (B : Nat), ∃ x : Int64, pm_v ex B (.double b) = .long x ∧ lo ≤ x.toInt ∧ x.toInt ≤ hi := by
        intro ex B
        obtain ⟨x, q1, q2, q3⟩ := pe_fv_ok ex hq
        refine ⟨x.toInt64, ?_, by rw [Int32.toInt_toInt64]; exact q2, by rw [Int32.toInt_toInt64]; exact q3⟩
        show Value.long (pm_phL ex b.toNat) = _
        unfold pm_phL
        rw [q1]
      cases hd : decide (hi < y.toInt) with
      | true =>
        rw [hd] at h
        refine ⟨_, h, fun ex B => ?_⟩
        obtain ⟨x, q1, q2, q3⟩ := hL ex B
        have := of_decide_eq_true hd
        exact ⟨x, y, q1, rfl, by rw [pe_lg_lt (by omega)]; rfl⟩
      | false =>
        rw [hd] at h
        obtain ⟨h1, h2⟩ := pe_bif_inv h
        refine ⟨_, h2, fun ex B => ?_⟩
        obtain ⟨x, q1, q2, q3⟩ := hL ex B
        have := of_decide_eq_true h1
        exact ⟨x, y, q1, rfl, by rw [pe_lg_gt (by omega)]; rfl⟩
    · cases h
  · cases h
theorem pe_ivv_ok {v : Value} {lo hi : Int} (h : pe_ivv v = some (lo, hi)) (ex : Nat → Nat) (B : Nat) : ∃ x : Int32, pm_v ex B v = .int x ∧ lo ≤ x.toInt ∧ x.toInt ≤ hi := by
  cases v with
  | int x =>
    have h1 : some (x.toInt, x.toInt) = some (lo, hi) := h
    cases h1
    exact ⟨x, rfl, Int.le_refl _, Int.le_refl _⟩
  | float b => exact pe_fv_ok ex h
  | _ => cases h
theorem pe_i1_1 {c : ClassFile.Cond} {lo hi : Int} {r : Bool} (h : pe_i1 c lo hi = some r) {x : Int32} (h1 : lo ≤ x.toInt) (h2 : x.toInt ≤ hi) : pe_c1 c x = r := by
  have z0 : (0 : Int32).toInt = 0 := rfl
  have e1 : x = 0 ↔ x.toInt = 0 := ⟨fun q => by rw [q]; rfl, fun q => Int32.toInt_inj.mp (by rw [q]; rfl)⟩
  have e2 : x < 0 ↔ x.toInt < 0 := by rw [Int32.lt_iff_toInt_lt, z0]
  have e3 : 0 ≤ x ↔ 0 ≤ x.toInt := by rw [Int32.le_iff_toInt_le, z0]
  have e4 : 0 < x ↔ 0 < x.toInt := by rw [Int32.lt_iff_toInt_lt, z0]
  have e5 : x ≤ 0 ↔ x.toInt ≤ 0 := by rw [Int32.le_iff_toInt_le, z0]
  cases c <;> simp only [pe_i1, pe_c1, e1, e2, e3, e4, e5] at h ⊢
  · obtain ⟨a, b⟩ := pe_bif_inv h
    cases b
    simp only [Bool.or_eq_true, decide_eq_true_eq] at a
    exact decide_eq_false (by omega)
  · obtain ⟨a, b⟩ := pe_bif_inv h
    cases b
    simp only [Bool.or_eq_true, decide_eq_true_eq] at a
    rw [decide_eq_false (by omega)]; rfl
  · cases hd : decide (hi < 0) with
    | true => rw [hd] at h; cases h; exact decide_eq_true (by have := of_decide_eq_true hd; omega)
    | false => rw [hd] at h; obtain ⟨a, b⟩ := pe_bif_inv h; cases b; exact decide_eq_false (by have := of_decide_eq_true a; omega)
  · cases hd : decide (0 ≤ lo) with
    | true => rw [hd] at h; cases h; exact decide_eq_true (by have := of_decide_eq_true hd; omega)
    | false => rw [hd] at h; obtain ⟨a, b⟩ := pe_bif_inv h; cases b; exact decide_eq_false (by have := of_decide_eq_true a; omega)
  · cases hd : decide (0 < lo) with
    | true => rw [hd] at h; cases h; exact decide_eq_true (by have := of_decide_eq_true hd; omega)
    | false => rw [hd] at h; obtain ⟨a, b⟩ := pe_bif_inv h; cases b; exact decide_eq_false (by have := of_decide_eq_true a; omega)
  · cases hd : decide (hi ≤ 0) with
    | true => rw [hd] at h; cases h; exact decide_eq_true (by have := of_decide_eq_true hd; omega)
    | false => rw [hd] at h; obtain ⟨a, b⟩ := pe_bif_inv h; cases b; exact decide_eq_false (by have := of_decide_eq_true a; omega)
theorem pe_i1_2 {c : ClassFile.Cond} {lo hi : Int} {r : Bool} (h : pe_i1 c lo hi = some r) {x y : Int32} (h1 : lo ≤ x.toInt - y.toInt) (h2 : x.toInt - y.toInt ≤ hi) : pe_c2 c x y = r := by
  have e1 : x = y ↔ x.toInt - y.toInt = 0 := ⟨fun q => by rw [q]; omega, fun q => Int32.toInt_inj.mp (by omega)⟩
  have e2 : x < y ↔ x.toInt - y.toInt < 0 := by rw [Int32.lt_iff_toInt_lt]; omega
  have e3 : y ≤ x ↔ 0 ≤ x.toInt - y.toInt := by rw [Int32.le_iff_toInt_le]; omega
  have e4 : y < x ↔ 0 < x.toInt - y.toInt := by rw [Int32.lt_iff_toInt_lt]; omega
  have e5 : x ≤ y ↔ x.toInt - y.toInt ≤ 0 := by rw [Int32.le_iff_toInt_le]; omega
  cases c <;> simp only [pe_i1, pe_c2, e1, e2, e3, e4, e5] at h ⊢
  · obtain ⟨a, b⟩ := pe_bif_inv h
    cases b
    simp only [Bool.or_eq_true, decide_eq_true_eq] at a
    exact decide_eq_false (by omega)
  · obtain ⟨a, b⟩ := pe_bif_inv h
    cases b
    simp only [Bool.or_eq_true, decide_eq_true_eq] at a
    rw [decide_eq_false (by omega)]; rfl
  · cases hd : decide (hi < 0) with
    | true => rw [hd] at h; cases h; exact decide_eq_true (by have := of_decide_eq_true hd; omega)
    | false => rw [hd] at h; obtain ⟨a, b⟩ := pe_bif_inv h; cases b; exact decide_eq_false (by have := of_decide_eq_true a; omega)
  · cases hd : decide (0 ≤ lo) with
    | true => rw [hd] at h; cases h; exact decide_eq_true (by have := of_decide_eq_true hd; omega)
    | false => rw [hd] at h; obtain ⟨a, b⟩ := pe_bif_inv h; cases b; exact decide_eq_false (by have := of_decide_eq_true a; omega)
  · cases hd : decide (0 < lo) with
    | true => rw [hd] at h; cases h; exact decide_eq_true (by have := of_decide_eq_true hd; omega)
    | false => rw [hd] at h; obtain ⟨a, b⟩ := pe_bif_inv h; cases b; exact decide_eq_false (by have := of_decide_eq_true a; omega)
  · cases hd : decide (hi ≤ 0) with
    | true => rw [hd] at h; cases h; exact decide_eq_true (by have := of_decide_eq_true hd; omega)
    | false => rw [hd] at h; obtain ⟨a, b⟩ := pe_bif_inv h; cases b; exact decide_eq_false (by have := of_decide_eq_true a; omega)
theorem pe_cd1_inv {α : Type} {c : ClassFile.Cond} {st : List Value} {k : Bool → List Value → Option α} {r : α} (h : pe_cd1 c st k = some r) (ex : Nat → Nat) (B : Nat) : ∃ v x st2, st = v :: st2 ∧ pm_v ex B v = .int x ∧ k (pe_c1 c x) st2 = some r := by
  unfold pe_cd1 at h
  split at h
  · exact ⟨_, _, _, rfl, rfl, h⟩
  · split at h
    · rename_i hq
      split at h
      · rename_i h1
        obtain ⟨x, q1, q2, q3⟩ := pe_fv_ok ex hq
        exact ⟨_, x, _, rfl, q1, by rw [pe_i1_1 h1 q2 q3]; exact h⟩
      · cases h
    · cases h
  · cases h
theorem pe_cd2_inv {α : Type} {c : ClassFile.Cond} {st : List Value} {k : Bool → List Value → Option α} {r : α} (h : pe_cd2 c st k = some r) (ex : Nat → Nat) (B : Nat) : ∃ u v x y st2, st = u :: v :: st2 ∧ pm_v ex B v = .int x ∧ pm_v ex B u = .int y ∧ k (pe_c2 c x y) st2 = some r := by
  unfold pe_cd2 at h
  split at h
  · exact ⟨_, _, _, _, _, rfl, rfl, rfl, h⟩
  · split at h
    · rename_i hq1 hq2
      split at h
      · rename_i h1
        obtain ⟨x, q1, q2, q3⟩ := pe_ivv_ok hq1 ex B
        obtain ⟨y, w1, w2, w3⟩ := pe_ivv_ok hq2 ex B
        exact ⟨_, _, x, y, _, rfl, q1, w1, by rw [pe_i1_2 h1 (by omega) (by omega)]; exact h⟩
      · cases h
    · cases h
  · cases h
theorem pe_swk_inv {α : Type} {lo : Int} {ts : List Nat} {df : Nat} {st : List Value} {k : Nat → List Value → Option α} {r : α} (h : pe_swk lo ts df st k = some r) (ex : Nat → Nat) (B : Nat) : ∃ v x st2, st = v :: st2 ∧ pm_v ex B v = .int x ∧ k (pe_tb lo ts df x) st2 = some r := by
  unfold pe_swk at h
  split at h
  · exact ⟨_, _, _, rfl, rfl, h⟩
  · split at h
    · rename_i hq
      obtain ⟨h1, h2⟩ := pe_bif_inv h
      simp only [Bool.or_eq_true, decide_eq_true_eq] at h1
      obtain ⟨x, q1, q2, q3⟩ := pe_fv_ok ex hq
      refine ⟨_, x, _, rfl, q1, ?_⟩
      have e : pe_tb lo ts df x = df := by
        unfold pe_tb
        cases hd : decide (x.toInt < lo) with
        | true => rfl
        | false =>
          have := of_decide_eq_false hd
          rw [pe_at_eq, List.getElem?_eq_none (by omega)]
          rfl
      rw [e]; exact h2
    · cases h
  · cases h
theorem pe_lda_inv {α : Type} {i : Nat} {L : pm_L} {k : Value → Option α} {r : α} (h : pe_lda i L k = some r) : ∃ v, pm_get L i = some v ∧ pm_isR v = true ∧ k v = some r := by
  unfold pe_lda at h
  rw [pe_gl_eq] at h
  split at h
  · obtain ⟨h1, h2⟩ := pe_bif_inv h
    exact ⟨_, by assumption, h1, h2⟩
  · cases h
theorem pe_ari_inv {α : Type} {h : pe_H} {a : Nat} {k : Nat → Nat → List (Nat × Int32) → Option α} {r : α} (hg : pe_ari h a k = some r) : ∃ t n c, pe_at h a = some (.inl (t, n, c)) ∧ k t n c = some r := by
  unfold pe_ari at hg
  split at hg
  · exact ⟨_, _, _, by assumption, hg⟩
  · cases hg
theorem pe_arl_inv {α : Type} {h : pe_H} {a : Nat} {k : Nat → Nat → List (Nat × Int64) → Option α} {r : α} (hg : pe_arl h a k = some r) : ∃ t n c, pe_at h a = some (.inr (.inr (.inr ((t, n, c))))) ∧ k t n c = some r := by
  unfold pe_arl at hg
  split at hg
  · exact ⟨_, _, _, by assumption, hg⟩
  · cases hg
theorem pe_arr_inv {α : Type} {h : pe_H} {a : Nat} {k : Nat → Nat → List (Nat × Option Nat) → Option α} {r : α} (hg : pe_arr h a k = some r) : ∃ t n c, pe_at h a = some (.inr (.inr (.inl (t, n, c)))) ∧ k t n c = some r := by
  unfold pe_arr at hg
  split at hg
  · exact ⟨_, _, _, by assumption, hg⟩
  · cases hg
theorem pe_obj_inv {α : Type} {h : pe_H} {a ci : Nat} {k : List Value → Option α} {r : α} (hg : pe_obj h a ci k = some r) : ∃ vs, pe_at h a = some (.inr (.inl (ci, vs))) ∧ k vs = some r := by
  unfold pe_obj at hg
  split at hg
  · rename_i c vs hc
    obtain ⟨h1, h2⟩ := pe_bif_inv hg
    have := Nat.eq_of_beq_eq_true h1
    subst this
    exact ⟨_, hc, h2⟩
  · cases hg
theorem pe_lenk_inv {α : Type} {h : pe_H} {a : Nat} {k : Nat → Option α} {r : α} (hg : pe_lenk h a k = some r) : ∃ t x, (pe_D h)[a]? = some (.inl (t, x)) ∧ pe_tOK t = true ∧ k (pm_len x) = some r := by
  unfold pe_lenk at hg
  split at hg
  · rename_i hc; obtain ⟨q, hg⟩ := pe_bif_inv hg; exact ⟨_, _, pe_D_at hc, q, hg⟩
  · rename_i hc; obtain ⟨q, hg⟩ := pe_bif_inv hg; exact ⟨_, _, pe_D_at hc, q, hg⟩
  · rename_i hc; obtain ⟨q, hg⟩ := pe_bif_inv hg; exact ⟨_, _, pe_D_at hc, q, hg⟩
  · cases hg
theorem pe_rfk_eq {α : Type} (r : Option Nat) (k : Value → Option α) : pe_rfk r k = k (pm_r r) := by cases r <;> rfl
theorem pe_newk_inv {α : Type} {ty : ArrayType} {N : Nat} {k : pe_E → Option α} {r : α} (hg : pe_newk ty N k = some r) : ∃ x, k x = some r ∧ ((ty = .int ∧ x = .inl (0, N, [])) ∨ (ty = .long ∧ x = .inr (.inr (.inr ((1, N, []))))) ∨ (ty = .byte ∧ x = .inl (2, N, [])) ∨ (ty = .boolean ∧ x = .inl (3, N, []))) := by
  cases ty
  all_goals first | (cases hg; done) | exact ⟨_, hg, by simp⟩
theorem pe_phk_inv {α : Type} {n : Nat} {k : Value → Option α} {r : α} (h : pe_phk n k = some r) : ∃ v, k v = some r ∧ ∀ (ex : Nat → Nat) (B : Nat), pm_v ex B v = pm_ph ex n ∧ ∃ x : Int32, pm_ph ex n = .int x := by
  unfold pe_phk at h
  split at h
  · rename_i lo hi hq
    cases hd : decide (lo = hi) with
    | true =>
      rw [hd] at h
      replace h : pe_fi (Int32.ofInt lo) (fun z => k (.int z)) = some r := h
      rw [pe_fi_eq] at h
      refine ⟨_, h, fun ex B => ?_⟩
      obtain ⟨x, q1, q2, q3⟩ := pe_fv_ok ex hq
      have := of_decide_eq_true hd
      refine ⟨?_, x, q1⟩
      rw [q1]
      show Value.int (Int32.ofInt lo) = .int x
      rw [show lo = x.toInt by omega, Int32.ofInt_toInt]
    | false =>
      rw [hd] at h
      obtain ⟨h1, h2⟩ := pe_bif_inv h
      refine ⟨_, h2, fun ex B => ?_⟩
      obtain ⟨x, q1, q2, q3⟩ := pe_fv_ok ex hq
      refine ⟨?_, x, q1⟩
      show pm_ph ex (UInt32.ofNat n).toNat = _
      rw [UInt32.toNat_ofNat_of_lt' (of_decide_eq_true h1)]
  · obtain ⟨h1, h2⟩ := pe_bif_inv h
    rw [Bool.and_eq_true, Bool.and_eq_true, Bool.not_eq_true', decide_eq_true_eq] at h1
    refine ⟨_, h2, fun ex B => ?_⟩
    obtain ⟨x, q1, q2⟩ := pm_ph_md ex h1.1 h1.2.1
    refine ⟨?_, x, q1⟩
    show pm_ph ex (UInt32.ofNat n).toNat = _
    rw [UInt32.toNat_ofNat_of_lt' h1.2.2]
theorem pe_iak_inv {α : Type} {u v : Value} {k : Value → Option α} {r : α} (h : pe_iak u v k = some r) : ∃ w, k w = some r ∧ ∀ (ex : Nat → Nat) (B : Nat), ∃ x y : Int32, pm_v ex B u = .int x ∧ pm_v ex B v = .int y ∧ pm_v ex B w = .int (x &&& y) := by
  unfold pe_iak at h
  split at h
  · rw [pe_fi_eq] at h
    exact ⟨_, h, fun ex B => ⟨_, _, rfl, rfl, rfl⟩⟩
  · rename_i b y
    obtain ⟨h1, h2⟩ := pe_bif_inv h
    rw [pe_fi_eq] at h2
    rw [Bool.and_eq_true, Bool.and_eq_true, Bool.not_eq_true', decide_eq_true_eq] at h1
    refine ⟨_, h2, fun ex B => ?_⟩
    obtain ⟨x, q1, q2⟩ := pm_ph_md ex h1.2.1 h1.2.2
    refine ⟨x, y, q1, rfl, ?_⟩
    rw [h1.1, q2]; rfl
  · cases h
theorem pe_xi_inv {α : Type} {xs : List (Nat × List Int32)} {st : List Value} {k : Value → List Value → Option α} {e : Option α} {r : α} (hg : pe_xi xs st k e = some r) : (∃ i j st2 tx z v, st = .int i :: .retAddr j :: st2 ∧ pe_inb i tx.length = true ∧ pe_at tx i.toNatClampNeg = some z ∧ k v st2 = some r ∧ ((pe_at xs j = some (1, tx) ∧ v = .int z) ∨ (pe_at xs j = some (2, tx) ∧ ∀ (ex : Nat → Nat) (B : Nat), pm_v ex B v = pm_ph ex z.toNatClampNeg ∧ ∃ x : Int32, pm_ph ex z.toNatClampNeg = .int x))) ∨ e = some r := by
  unfold pe_xi at hg
  split at hg
  · split at hg
    · obtain ⟨h1, h2⟩ := pe_bif_inv hg
      split at h2
      · exact Or.inl ⟨_, _, _, _, _, _, rfl, h1, by assumption, h2, Or.inl ⟨by assumption, rfl⟩⟩
      · cases h2
    · obtain ⟨h1, h2⟩ := pe_bif_inv hg
      split at h2
      · obtain ⟨v, g1, g2⟩ := pe_phk_inv h2
        exact Or.inl ⟨_, _, _, _, _, v, rfl, h1, by assumption, g1, Or.inr ⟨by assumption, g2⟩⟩
      · cases h2
    · cases hg
  · exact Or.inr hg
theorem pe_xb_inv {α : Type} {xs : List (Nat × List Int32)} {st : List Value} {k : Int32 → List Value → Option α} {e : Option α} {r : α} (hg : pe_xb xs st k e = some r) : (∃ i j st2 tx z, st = .int i :: .retAddr j :: st2 ∧ pe_inb i tx.length = true ∧ pe_at tx i.toNatClampNeg = some z ∧ k z st2 = some r ∧ pe_at xs j = some (3, tx)) ∨ e = some r := by
  unfold pe_xb at hg
  split at hg
  · split at hg
    · obtain ⟨h1, h2⟩ := pe_bif_inv hg
      split at h2
      · exact Or.inl ⟨_, _, _, _, _, rfl, h1, by assumption, h2, by assumption⟩
      · cases h2
    · cases hg
  · exact Or.inr hg
theorem pe_xn_inv {α : Type} {xs : List (Nat × List Int32)} {st : List Value} {k : Nat → List Value → Option α} {e : Option α} {r : α} (hg : pe_xn xs st k e = some r) : (∃ j st2 tx, st = .retAddr j :: st2 ∧ (pe_at xs j = some (1, tx) ∨ pe_at xs j = some (2, tx)) ∧ k tx.length st2 = some r) ∨ e = some r := by
  unfold pe_xn at hg
  split at hg
  · split at hg
    · exact Or.inl ⟨_, _, _, rfl, Or.inl (by assumption), hg⟩
    · exact Or.inl ⟨_, _, _, rfl, Or.inr (by assumption), hg⟩
    · cases hg
  · exact Or.inr hg
/-- what an operation leads to: the same, or a set cell, or a new one -/
theorem pe_op_mono {α : Type} {xs : List (Nat × List Int32)} {mx : Nat} {i : Instr} {L : pm_L} {st : List Value} {h : pe_H} {k : pm_L → List Value → pe_H → Option α} {r : α} (hg : pe_op xs mx i L st h k = some r) : ∃ L2 st2 h2, k L2 st2 h2 = some r ∧ pe_le h h2 := by
  cases i with
  | iadd =>
    obtain ⟨x, y, st2, rfl, g0⟩ := pe_2i_inv hg
    rw [pe_fi_eq] at g0
    exact ⟨_, _, _, g0, pe_le.rf⟩
  | imul =>
    obtain ⟨x, y, st2, rfl, g0⟩ := pe_2i_inv hg
    rw [pe_fi_eq] at g0
    exact ⟨_, _, _, g0, pe_le.rf⟩
  | ior =>
    obtain ⟨x, y, st2, rfl, g0⟩ := pe_2i_inv hg
    rw [pe_fi_eq] at g0
    exact ⟨_, _, _, g0, pe_le.rf⟩
  | ixor =>
    obtain ⟨x, y, st2, rfl, g0⟩ := pe_2i_inv hg
    rw [pe_fi_eq] at g0
    exact ⟨_, _, _, g0, pe_le.rf⟩
  | ishl =>
    obtain ⟨x, y, st2, rfl, g0⟩ := pe_2i_inv hg
    rw [pe_fi_eq] at g0
    exact ⟨_, _, _, g0, pe_le.rf⟩
  | ishr =>
    obtain ⟨x, y, st2, rfl, g0⟩ := pe_2i_inv hg
    rw [pe_fi_eq] at g0
    exact ⟨_, _, _, g0, pe_le.rf⟩
  | iushr =>
    obtain ⟨x, y, st2, rfl, g0⟩ := pe_2i_inv hg
    rw [pe_fi_eq] at g0
    exact ⟨_, _, _, g0, pe_le.rf⟩
  | ladd =>
    obtain ⟨x, y, st2, rfl, g0⟩ := pe_2l_inv hg
    rw [pe_fl_eq] at g0
    exact ⟨_, _, _, g0, pe_le.rf⟩
  | lsub =>
    obtain ⟨x, y, st2, rfl, g0⟩ := pe_2l_inv hg
    rw [pe_fl_eq] at g0
    exact ⟨_, _, _, g0, pe_le.rf⟩
  | lmul =>
    obtain ⟨x, y, st2, rfl, g0⟩ := pe_2l_inv hg
    rw [pe_fl_eq] at g0
    exact ⟨_, _, _, g0, pe_le.rf⟩
  | land =>
    obtain ⟨x, y, st2, rfl, g0⟩ := pe_2l_inv hg
    rw [pe_fl_eq] at g0
    exact ⟨_, _, _, g0, pe_le.rf⟩
  | lor =>
    obtain ⟨x, y, st2, rfl, g0⟩ := pe_2l_inv hg
    rw [pe_fl_eq] at g0
    exact ⟨_, _, _, g0, pe_le.rf⟩
  | lxor =>
    obtain ⟨x, y, st2, rfl, g0⟩ := pe_2l_inv hg
    rw [pe_fl_eq] at g0
    exact ⟨_, _, _, g0, pe_le.rf⟩
  | idiv =>
    obtain ⟨x, y, st2, rfl, g0⟩ := pe_2i_inv hg
    obtain ⟨b1, g1⟩ := pe_bif_inv2 g0
    rw [pe_fi_eq] at g1
    exact ⟨_, _, _, g1, pe_le.rf⟩
  | irem =>
    obtain ⟨x, y, st2, rfl, g0⟩ := pe_2i_inv hg
    obtain ⟨b1, g1⟩ := pe_bif_inv2 g0
    rw [pe_fi_eq] at g1
    exact ⟨_, _, _, g1, pe_le.rf⟩
  | ldiv =>
    obtain ⟨x, y, st2, rfl, g0⟩ := pe_2l_inv hg
    obtain ⟨b1, g1⟩ := pe_bif_inv2 g0
    rw [pe_fl_eq] at g1
    exact ⟨_, _, _, g1, pe_le.rf⟩
  | lrem =>
    obtain ⟨x, y, st2, rfl, g0⟩ := pe_2l_inv hg
    obtain ⟨b1, g1⟩ := pe_bif_inv2 g0
    rw [pe_fl_eq] at g1
    exact ⟨_, _, _, g1, pe_le.rf⟩
  | ineg =>
    obtain ⟨x, st2, rfl, g0⟩ := pe_1i_inv hg
    rw [pe_fi_eq] at g0
    exact ⟨_, _, _, g0, pe_le.rf⟩
  | lneg =>
    obtain ⟨x, st2, rfl, g0⟩ := pe_1l_inv hg
    rw [pe_fl_eq] at g0
    exact ⟨_, _, _, g0, pe_le.rf⟩
  | lushr =>
    obtain ⟨x, y, st2, rfl, g0⟩ := pe_li_inv hg
    rw [pe_fl_eq] at g0
    exact ⟨_, _, _, g0, pe_le.rf⟩
  | lshl =>
    obtain ⟨x, y, st2, rfl, g0⟩ := pe_li_inv hg
    rw [pe_fl_eq] at g0
    exact ⟨_, _, _, g0, pe_le.rf⟩
  | lshr =>
    obtain ⟨x, y, st2, rfl, g0⟩ := pe_li_inv hg
    rw [pe_fl_eq] at g0
    exact ⟨_, _, _, g0, pe_le.rf⟩
  | iand =>
    obtain ⟨u, v, st2, rfl, g0⟩ := pe_vv_inv hg
    obtain ⟨w, g1, hq⟩ := pe_iak_inv g0
    exact ⟨_, _, _, g1, pe_le.rf⟩
  | isub =>
    obtain ⟨u, v, st2, rfl, g0⟩ := pe_vv_inv hg
    obtain ⟨w, g1, hq⟩ := pe_isbk_inv g0
    exact ⟨_, _, _, g1, pe_le.rf⟩
  | i2l =>
    obtain ⟨v, st2, rfl, g0⟩ := pe_v_inv hg
    obtain ⟨u, g1, hq⟩ := pe_i2lk_inv g0
    exact ⟨_, _, _, g1, pe_le.rf⟩
  | l2i =>
    obtain ⟨x, st2, rfl, g0⟩ := pe_1l_inv hg
    rw [pe_fi_eq] at g0
    exact ⟨_, _, _, g0, pe_le.rf⟩
  | i2b =>
    obtain ⟨x, st2, rfl, g0⟩ := pe_1i_inv hg
    rw [pe_fi_eq] at g0
    exact ⟨_, _, _, g0, pe_le.rf⟩
  | i2c =>
    obtain ⟨x, st2, rfl, g0⟩ := pe_1i_inv hg
    rw [pe_fi_eq] at g0
    exact ⟨_, _, _, g0, pe_le.rf⟩
  | lcmp =>
    obtain ⟨u, v, st2, rfl, g0⟩ := pe_vv_inv hg
    obtain ⟨w, g1, hq⟩ := pe_lck_inv g0
    exact ⟨_, _, _, g1, pe_le.rf⟩
  | iconst n =>
    replace hg : (pe_fi (Int32.ofInt n) fun z => k L (.int z :: st) h) = some r := hg
    rw [pe_fi_eq] at hg
    exact ⟨_, _, _, hg, pe_le.rf⟩
  | bipush n =>
    replace hg : (pe_fi (Int8.ofInt n).toInt32 fun z => k L (.int z :: st) h) = some r := hg
    rw [pe_fi_eq] at hg
    exact ⟨_, _, _, hg, pe_le.rf⟩
  | sipush n =>
    replace hg : (pe_fi (Int16.ofInt n).toInt32 fun z => k L (.int z :: st) h) = some r := hg
    rw [pe_fi_eq] at hg
    exact ⟨_, _, _, hg, pe_le.rf⟩
  | lconst n =>
    replace hg : (pe_fl (Int64.ofNat n.val) fun z => k L (.long z :: st) h) = some r := hg
    rw [pe_fl_eq] at hg
    exact ⟨_, _, _, hg, pe_le.rf⟩
  | aconst_null =>
    exact ⟨_, _, _, hg, pe_le.rf⟩
  | dup =>
    obtain ⟨v, st2, rfl, g0⟩ := pe_v_inv hg
    obtain ⟨b1, g1⟩ := pe_bif_inv g0
    exact ⟨_, _, _, g1, pe_le.rf⟩
  | pop =>
    obtain ⟨v, st2, rfl, g0⟩ := pe_v_inv hg
    obtain ⟨b1, g1⟩ := pe_bif_inv g0
    exact ⟨_, _, _, g1, pe_le.rf⟩
  | dup2 =>
    obtain ⟨v, st2, rfl, g0⟩ := pe_v_inv hg
    cases hb : Nat.beq v.category 2
    · rw [hb] at g0
      obtain ⟨u, st3, rfl, g1⟩ := pe_v_inv g0
      obtain ⟨_, g2⟩ := pe_bif_inv g1
      exact ⟨_, _, _, g2, pe_le.rf⟩
    · rw [hb] at g0
      exact ⟨_, _, _, g0, pe_le.rf⟩
  | dup_x1 =>
    obtain ⟨u, v, st2, rfl, g0⟩ := pe_vv_inv hg
    obtain ⟨b1, g1⟩ := pe_bif_inv g0
    exact ⟨_, _, _, g1, pe_le.rf⟩
  | iload_n n =>
    obtain ⟨v, e0, r0, g0⟩ := pe_ldv_inv hg
    exact ⟨_, _, _, g0, pe_le.rf⟩
  | lload_n n =>
    obtain ⟨v, e0, r0, g0⟩ := pe_ldw_inv hg
    exact ⟨_, _, _, g0, pe_le.rf⟩
  | aload_n n =>
    obtain ⟨v, e0, r0, g0⟩ := pe_lda_inv hg
    exact ⟨_, _, _, g0, pe_le.rf⟩
  | istore_n n =>
    obtain ⟨v, st2, rfl, g0⟩ := pe_v_inv hg
    obtain ⟨b1, g1⟩ := pe_bif_inv g0
    rw [pe_st1k_eq] at g1
    exact ⟨_, _, _, g1, pe_le.rf⟩
  | lstore_n n =>
    obtain ⟨x, st2, rfl, g0⟩ := pe_1l_inv hg
    obtain ⟨b1, g1⟩ := pe_bif_inv g0
    rw [pe_st2k_eq] at g1
    exact ⟨_, _, _, g1, pe_le.rf⟩
  | astore_n n =>
    obtain ⟨v, st2, rfl, g0⟩ := pe_v_inv hg
    obtain ⟨b1, g1⟩ := pe_bif_inv g0
    rw [pe_st1k_eq] at g1
    exact ⟨_, _, _, g1, pe_le.rf⟩
  | iload n =>
    obtain ⟨v, e0, r0, g0⟩ := pe_ldv_inv hg
    exact ⟨_, _, _, g0, pe_le.rf⟩
  | lload n =>
    obtain ⟨v, e0, r0, g0⟩ := pe_ldw_inv hg
    exact ⟨_, _, _, g0, pe_le.rf⟩
  | aload n =>
    obtain ⟨v, e0, r0, g0⟩ := pe_lda_inv hg
    exact ⟨_, _, _, g0, pe_le.rf⟩
  | istore n =>
    obtain ⟨v, st2, rfl, g0⟩ := pe_v_inv hg
    obtain ⟨b1, g1⟩ := pe_bif_inv g0
    rw [pe_st1k_eq] at g1
    exact ⟨_, _, _, g1, pe_le.rf⟩
  | lstore n =>
    obtain ⟨x, st2, rfl, g0⟩ := pe_1l_inv hg
    obtain ⟨b1, g1⟩ := pe_bif_inv g0
    rw [pe_st2k_eq] at g1
    exact ⟨_, _, _, g1, pe_le.rf⟩
  | astore n =>
    obtain ⟨v, st2, rfl, g0⟩ := pe_v_inv hg
    obtain ⟨b1, g1⟩ := pe_bif_inv g0
    rw [pe_st1k_eq] at g1
    exact ⟨_, _, _, g1, pe_le.rf⟩
  | iinc i n =>
    obtain ⟨x, e0, g0⟩ := pe_ldi_inv hg
    obtain ⟨b1, g1⟩ := pe_bif_inv g0
    rw [pe_fi_eq] at g1
    rw [pe_st1k_eq] at g1
    exact ⟨_, _, _, g1, pe_le.rf⟩
  | iaload =>
    replace hg : (pe_xi xs st (fun v st => k L (v :: st) h) (pe_ix st fun a i st => pe_ari h a fun t n c => bif Nat.beq t 0 && pe_inb i n then pe_fi (pe_lk 0 i.toNatClampNeg c) fun z => k L (.int z :: st) h else none)) = some r := hg
    rcases pe_xi_inv hg with ⟨i, j, st2, tx, z, v, rfl, _, _, g, _⟩ | hg
    · exact ⟨_, _, _, g, pe_le.rf⟩
    · obtain ⟨a, i, st2, rfl, g0⟩ := pe_ix_inv hg
      obtain ⟨t, n, c, e1, g1⟩ := pe_ari_inv g0
      obtain ⟨_, g2⟩ := pe_bif_inv g1
      rw [pe_fi_eq] at g2
      exact ⟨_, _, _, g2, pe_le.rf⟩
  | baload =>
    replace hg : (pe_xb xs st (fun z st => k L (.int z :: st) h) (pe_ix st fun a i st => pe_ari h a fun t n c => bif (Nat.beq t 2 || Nat.beq t 3) && pe_inb i n then pe_fi (pe_lk 0 i.toNatClampNeg c) fun z => k L (.int z :: st) h else none)) = some r := hg
    rcases pe_xb_inv hg with ⟨i, j, st2, tx, z, rfl, _, _, g, _⟩ | hg
    · exact ⟨_, _, _, g, pe_le.rf⟩
    · obtain ⟨a, i, st2, rfl, g0⟩ := pe_ix_inv hg
      obtain ⟨t, n, c, e1, g1⟩ := pe_ari_inv g0
      obtain ⟨_, g2⟩ := pe_bif_inv g1
      rw [pe_fi_eq] at g2
      exact ⟨_, _, _, g2, pe_le.rf⟩
  | laload =>
    obtain ⟨a0, i0, st2, rfl, g0⟩ := pe_ix_inv hg
    obtain ⟨t0, n0c, c0, e1, g1⟩ := pe_arl_inv g0
    obtain ⟨b2, g2⟩ := pe_bif_inv g1
    rw [pe_fl_eq] at g2
    exact ⟨_, _, _, g2, pe_le.rf⟩
  | aaload =>
    obtain ⟨a0, i0, st2, rfl, g0⟩ := pe_ix_inv hg
    obtain ⟨t0, n0c, c0, e1, g1⟩ := pe_arr_inv g0
    obtain ⟨b2, g2⟩ := pe_bif_inv g1
    rw [pe_rfk_eq] at g2
    exact ⟨_, _, _, g2, pe_le.rf⟩
  | iastore =>
    obtain ⟨a0, i0, x, st2, rfl, g0⟩ := pe_ixi_inv hg
    obtain ⟨t0, n0c, c0, e1, g1⟩ := pe_ari_inv g0
    obtain ⟨b2, g2⟩ := pe_bif_inv g1
    rw [pe_fi_eq] at g2
    rw [pe_insk_eq] at g2
    rw [pe_setk_eq] at g2
    exact ⟨_, _, _, g2, pe_le.set e1 rfl⟩
  | bastore =>
    obtain ⟨a, i, x, st2, rfl, g0⟩ := pe_ixi_inv hg
    obtain ⟨t, n, c, e1, g1⟩ := pe_ari_inv g0
    cases hb : Nat.beq t 2 && pe_inb i n
    · rw [hb] at g1
      obtain ⟨_, g2⟩ := pe_bif_inv g1
      rw [pe_fi_eq, pe_insk_eq, pe_setk_eq] at g2
      exact ⟨_, _, _, g2, pe_le.set e1 rfl⟩
    · rw [hb] at g1
      have g2 : pe_fi (vp_nar .byte x) (fun z => pe_insk (decide (z = 0)) i.toNatClampNeg z c fun c => pe_setk (.inl (t, n, c)) h a fun h => k L st2 h) = some r := g1
      rw [pe_fi_eq, pe_insk_eq, pe_setk_eq] at g2
      exact ⟨_, _, _, g2, pe_le.set e1 rfl⟩
  | lastore =>
    obtain ⟨a0, i0, x, st2, rfl, g0⟩ := pe_ixl_inv hg
    obtain ⟨t0, n0c, c0, e1, g1⟩ := pe_arl_inv g0
    obtain ⟨b2, g2⟩ := pe_bif_inv g1
    rw [pe_insk_eq] at g2
    rw [pe_setk_eq] at g2
    exact ⟨_, _, _, g2, pe_le.set e1 rfl⟩
  | aastore =>
    obtain ⟨a0, i0, x, st2, rfl, g0⟩ := pe_ixr_inv hg
    obtain ⟨t0, n0c, c0, e1, g1⟩ := pe_arr_inv g0
    obtain ⟨b2, g2⟩ := pe_bif_inv g1
    rw [pe_insk_eq] at g2
    rw [pe_setk_eq] at g2
    exact ⟨_, _, _, g2, pe_le.set e1 rfl⟩
  | arraylength =>
    replace hg : (pe_xn xs st (fun n st => pe_fi (Int32.ofNat n) fun z => k L (.int z :: st) h) (pe_rf st fun a st => pe_lenk h a fun n => pe_fi (Int32.ofNat n) fun z => k L (.int z :: st) h)) = some r := hg
    rcases pe_xn_inv hg with ⟨j, st2, tx, rfl, _, g⟩ | hg
    · rw [pe_fi_eq] at g
      exact ⟨_, _, _, g, pe_le.rf⟩
    · obtain ⟨a, st2, rfl, g0⟩ := pe_rf_inv hg
      obtain ⟨t, x, _, _, g1⟩ := pe_lenk_inv g0
      rw [pe_fi_eq] at g1
      exact ⟨_, _, _, g1, pe_le.rf⟩
  | newarray ty =>
    obtain ⟨n, st2, rfl, g0⟩ := pe_1i_inv hg
    obtain ⟨_, g1⟩ := pe_bif_inv g0
    rw [pe_fn_eq, pe_fn_eq] at g1
    obtain ⟨x0, g2, _⟩ := pe_newk_inv g1
    rw [pe_pushk_eq] at g2
    exact ⟨_, _, _, g2, pe_le.push⟩
  | _ => cases hg
theorem pe_jmp_inv {α : Type} {mt : pe_Mt} {tb : Nat} {k : List pe_I → Option α} {r : α} (hg : pe_jmp mt tb k = some r) : ∃ p is, pe_at mt.bl tb = some (p, is) ∧ k is = some r := by
  unfold pe_jmp at hg
  split at hg
  · exact ⟨_, _, by assumption, hg⟩
  · cases hg
theorem pe_pop_inv0 {α : Type} (n : Nat) : ∀ (acc st : List Value) (k : List Value → List Value → Option α) (r : α), pe_pop n acc st k = some r → ∃ As st2, As.length = n ∧ st = As ++ st2 ∧ k (As.reverse ++ acc) st2 = some r := by
  induction n with
  | zero => intro acc st k r hg; exact ⟨[], st, rfl, rfl, hg⟩
  | succ n ih =>
    intro acc st k r hg
    cases st with
    | nil => cases hg
    | cons v st =>
      obtain ⟨As, st2, h1, h2, h3⟩ := ih (v :: acc) st k r hg
      refine ⟨v :: As, st2, by rw [List.length_cons, h1], by rw [h2]; rfl, ?_⟩
      rw [List.reverse_cons, List.append_assoc]
      exact h3
theorem pe_pop_inv {α : Type} {n : Nat} {st : List Value} {k : List Value → List Value → Option α} {r : α} (hg : pe_pop n [] st k = some r) : ∃ As st2, As.length = n ∧ st = As.reverse ++ st2 ∧ k As st2 = some r := by
  obtain ⟨As, st2, h1, h2, h3⟩ := pe_pop_inv0 n [] st k r hg
  exact ⟨As.reverse, st2, by rw [List.length_reverse, h1], by rw [List.reverse_reverse, h2], by rw [List.append_nil] at h3; exact h3⟩
theorem pe_calx_inv {α : Type} {rc : Nat → pe_Mt → List pe_I → pm_L → List Value → pe_H → Option (pm_O × pe_H)} {ms : List pe_Mt} {d mi : Nat} {av st : List Value} {h : pe_H} {k : List Value → pe_H → Option α} {kt : Nat → pe_H → Option α} {r : α} (hg : pe_calx rc ms d mi av st h k kt = some r) : ∃ m2 d2 p0 is o3 h3, pe_at ms mi = some m2 ∧ d = d2 + 1 ∧ pe_cat st ≤ 8 ∧ m2.mx ≤ 41 ∧ pe_cat av ≤ m2.mx ∧ pe_at m2.bl 0 = some (p0, is) ∧ rc d2 m2 is (pm_args 0 av) [] h = some (o3, h3) ∧ ((∃ v : Option Value, o3 = .inl v ∧ k (v.toList ++ st) h3 = some r) ∨ ∃ x : Nat, o3 = .inr x ∧ kt x h3 = some r) := by
  unfold pe_calx at hg
  split at hg
  · obtain ⟨h1, h2⟩ := pe_bif_inv hg
    rw [Bool.and_eq_true, Bool.and_eq_true] at h1
    obtain ⟨p0, is, h3, h4⟩ := pe_jmp_inv h2
    rw [pe_argk_eq] at h4
    split at h4
    · exact ⟨_, _, _, _, _, _, by assumption, rfl, Nat.le_of_ble_eq_true h1.1, Nat.le_of_ble_eq_true h1.2.1, Nat.le_of_ble_eq_true h1.2.2, h3, by assumption, Or.inl ⟨none, rfl, h4⟩⟩
    · exact ⟨_, _, _, _, _, _, by assumption, rfl, Nat.le_of_ble_eq_true h1.1, Nat.le_of_ble_eq_true h1.2.1, Nat.le_of_ble_eq_true h1.2.2, h3, by assumption, Or.inl ⟨some _, rfl, h4⟩⟩
    · exact ⟨_, _, _, _, _, _, by assumption, rfl, Nat.le_of_ble_eq_true h1.1, Nat.le_of_ble_eq_true h1.2.1, Nat.le_of_ble_eq_true h1.2.2, h3, by assumption, Or.inr ⟨_, rfl, h4⟩⟩
    · cases h4
  · cases hg
theorem pe_ctk_inv {α : Type} {hdl : pe_HS} {x : Nat} {h : pe_H} {k : Nat → Option α} {r : α} (hg : pe_ctk hdl x h k = some r) : ∃ vs q, q ∈ hdl ∧ pe_at h x = some (.inr (.inl (q.1, vs))) ∧ k q.2.1 = some r := by
  unfold pe_ctk at hg
  split at hg
  · rename_i ci vs he
    split at hg
    · rename_i q hq
      have h1 := List.find?_some hq
      have h2 : q.1 = ci := Nat.eq_of_beq_eq_true h1
      exact ⟨vs, q, List.mem_of_find?_eq_some hq, by rw [h2]; exact he, hg⟩
    · cases hg
  · cases hg
theorem pe_cd_inv {α : Type} {i : Instr} {st : List Value} {k : Bool → List Value → Option α} {r : α} (hg : pe_cd i st k = some r) : ∃ b st2, k b st2 = some r := by
  cases i with
  | goto _ => exact ⟨_, _, hg⟩
  | ifCond c _ => obtain ⟨v, x, st2, rfl, _, g⟩ := pe_cd1_inv (show pe_cd1 c st k = some r from hg) (fun _ => 0) 0; exact ⟨_, _, g⟩
  | if_icmp c _ => obtain ⟨u, v, x, y, st2, rfl, _, _, g⟩ := pe_cd2_inv (show pe_cd2 c st k = some r from hg) (fun _ => 0) 0; exact ⟨_, _, g⟩
  | ifnull _ => obtain ⟨v, st2, rfl, g⟩ := pe_v_inv hg; obtain ⟨_, g⟩ := pe_bif_inv g; exact ⟨_, _, g⟩
  | ifnonnull _ => obtain ⟨v, st2, rfl, g⟩ := pe_v_inv hg; obtain ⟨_, g⟩ := pe_bif_inv g; exact ⟨_, _, g⟩
  | _ => cases hg
theorem pe_cpk_eq {β : Type} (src : List (Nat × Int32)) (sp dp n : Nat) : ∀ (c : List (Nat × Int32)), ∃ c2, (∀ k2 : List (Nat × Int32) → β, pe_cpk src sp dp n c k2 = k2 c2) ∧ ∀ j, pe_lk 0 j c2 = if dp ≤ j ∧ j < dp + n then pe_lk 0 (sp + (j - dp)) src else pe_lk 0 j c := by
  induction n with
  | zero =>
    intro c
    exact ⟨c, fun _ => rfl, fun j => by rw [if_neg (by omega)]⟩
  | succ n ih =>
    intro c
    obtain ⟨c2, h1, h2⟩ := ih c
    refine ⟨pe_ins (decide (pe_lk 0 (sp + n) src = 0)) (dp + n) (pe_lk 0 (sp + n) src) c2, fun k2 => ?_, fun j => ?_⟩
    · show pe_cpk src sp dp n c (fun c => pe_fi (pe_lk 0 (sp + n) src) fun x => pe_insk (decide (x = 0)) (dp + n) x c k2) = _
      rw [h1, pe_fi_eq, pe_insk_eq]
    · rw [pe_lk_ins _ _ _ _ (fun q => of_decide_eq_true q), h2]
      by_cases h3 : j = dp + n
      · subst h3
        rw [if_pos rfl, if_pos (by omega), Nat.add_sub_cancel_left]
      · rw [if_neg h3]
        by_cases h4 : dp ≤ j ∧ j < dp + n
        · rw [if_pos h4, if_pos (by omega)]
        · rw [if_neg h4, if_neg (by omega)]
theorem pe_cplk_eq {β : Type} (src : List (Nat × Int64)) (sp dp n : Nat) : ∀ (c : List (Nat × Int64)), ∃ c2, (∀ k2 : List (Nat × Int64) → β, pe_cplk src sp dp n c k2 = k2 c2) ∧ ∀ j, pe_lk 0 j c2 = if dp ≤ j ∧ j < dp + n then pe_lk 0 (sp + (j - dp)) src else pe_lk 0 j c := by
  induction n with
  | zero =>
    intro c
    exact ⟨c, fun _ => rfl, fun j => by rw [if_neg (by omega)]⟩
  | succ n ih =>
    intro c
    obtain ⟨c2, h1, h2⟩ := ih c
    refine ⟨pe_ins (decide (pe_lk 0 (sp + n) src = 0)) (dp + n) (pe_lk 0 (sp + n) src) c2, fun k2 => ?_, fun j => ?_⟩
    · show pe_cplk src sp dp n c (fun c => pe_fl (pe_lk 0 (sp + n) src) fun x => pe_insk (decide (x = 0)) (dp + n) x c k2) = _
      rw [h1, pe_fl_eq, pe_insk_eq]
    · rw [pe_lk_ins _ _ _ _ (fun q => of_decide_eq_true q), h2]
      by_cases h3 : j = dp + n
      · subst h3
        rw [if_pos rfl, if_pos (by omega), Nat.add_sub_cancel_left]
      · rw [if_neg h3]
        by_cases h4 : dp ≤ j ∧ j < dp + n
        · rw [if_pos h4, if_pos (by omega)]
        · rw [if_neg h4, if_neg (by omega)]
theorem pe_slk_inv {α : Type} {xs : List (Nat × List Int32)} {st : List Value} {k : Int32 → List Value → Option α} {r : α} (hg : pe_slk xs st k = some r) : ∃ j st2 tx, st = .retAddr j :: st2 ∧ pe_at xs j = some (0, tx) ∧ k (Int32.ofNat tx.length) st2 = some r := by
  unfold pe_slk at hg
  split at hg
  · split at hg
    · rw [pe_fi_eq] at hg; exact ⟨_, _, _, rfl, by assumption, hg⟩
    · cases hg
  · cases hg
theorem pe_sck_inv {α : Type} {xs : List (Nat × List Int32)} {st : List Value} {k : Int32 → List Value → Option α} {r : α} (hg : pe_sck xs st k = some r) : ∃ i j st2 tx z, st = .int i :: .retAddr j :: st2 ∧ pe_at xs j = some (0, tx) ∧ pe_inb i tx.length = true ∧ pe_at tx i.toNatClampNeg = some z ∧ k z st2 = some r := by
  unfold pe_sck at hg
  split at hg
  · split at hg
    · obtain ⟨h1, h2⟩ := pe_bif_inv hg
      split at h2
      · exact ⟨_, _, _, _, _, rfl, by assumption, h1, by assumption, h2⟩
      · cases h2
    · cases hg
  · cases hg
theorem pe_sik_inv {α : Type} {xs : List (Nat × List Int32)} {st : List Value} {k : Int32 → List Value → Option α} {r : α} (hg : pe_sik xs st k = some r) : ∃ i j st2 tx, st = .int i :: .retAddr j :: st2 ∧ pe_at xs j = some (0, tx) ∧ pe_inb i 128 = true ∧ 0 < tx.length ∧ k (pe_ixo i tx) st2 = some r := by
  unfold pe_sik at hg
  split at hg
  · split at hg
    · obtain ⟨h1, h2⟩ := pe_bif_inv hg
      rw [Bool.and_eq_true] at h1
      rw [pe_fi_eq] at h2
      exact ⟨_, _, _, _, rfl, by assumption, h1.1, by have q := h1.2; rw [Nat.blt_eq] at q; exact q, h2⟩
    · cases hg
  · cases hg
theorem pe_fB_ok (c : List (Nat × Int32)) (sp n : Nat) (h : pe_fB c sp n = true) : ∀ i, i < n → fits .byte (.int (pe_lk 0 (sp + i) c)) = true := by
  induction n with
  | zero => intro i hi; omega
  | succ n ih =>
    intro i hi
    unfold pe_fB at h
    rw [Bool.and_eq_true] at h
    by_cases h1 : i = n
    · subst h1; exact h.1
    · exact ih h.2 i (by omega)
theorem pe_okc_ok {d : Nat} {n sp dp : Int32} {n1 n2 : Nat} {st : List Value} (q : pe_okc d n sp dp n1 n2 st = true) : ¬ n < 0 ∧ ¬ sp < 0 ∧ ¬ dp < 0 ∧ sp.toNatClampNeg + n.toNatClampNeg ≤ n1 ∧ dp.toNatClampNeg + n.toNatClampNeg ≤ n2 ∧ 0 < d ∧ pe_cat st ≤ 8 := by
  unfold pe_okc at q
  simp only [Bool.and_eq_true, Bool.not_eq_true', decide_eq_false_iff_not] at q
  obtain ⟨q3, q4, q5, q6, q7, q9, q10⟩ := q
  rw [Nat.blt_eq] at q9
  exact ⟨q3, q4, q5, Nat.le_of_ble_eq_true q6, Nat.le_of_ble_eq_true q7, q9, Nat.le_of_ble_eq_true q10⟩
theorem pe_ack_inv {α : Type} {d : Nat} {h : pe_H} {st : List Value} {k : List Value → pe_H → Option α} {r : α} (hg : pe_ack d h st k = some r) : ∃ (n dp : Int32) (b : Nat) (sp : Int32) (a : Nat) (st2 : List Value) (n1 n2 : Nat), st = .int n :: .int dp :: .ref b :: .int sp :: .ref a :: st2 ∧ ¬ n < 0 ∧ ¬ sp < 0 ∧ ¬ dp < 0 ∧ sp.toNatClampNeg + n.toNatClampNeg ≤ n1 ∧ dp.toNatClampNeg + n.toNatClampNeg ≤ n2 ∧ 0 < d ∧ pe_cat st2 ≤ 8 ∧ ((∃ (t : Nat) (c1 c2 c3 : List (Nat × Int32)), pe_at h a = some (.inl (t, n1, c1)) ∧ pe_at h b = some (.inl (t, n2, c2)) ∧ (t = 0 ∨ (t = 2 ∧ ∀ i, i < n.toNatClampNeg → fits .byte (.int (pe_lk 0 (sp.toNatClampNeg + i) c1)) = true)) ∧ (∀ j, pe_lk 0 j c3 = if dp.toNatClampNeg ≤ j ∧ j < dp.toNatClampNeg + n.toNatClampNeg then pe_lk 0 (sp.toNatClampNeg + (j - dp.toNatClampNeg)) c1 else pe_lk 0 j c2) ∧ k st2 (h.set b (.inl (t, n2, c3))) = some r) ∨ (∃ (c1 c2 c3 : List (Nat × Int64)), pe_at h a = some (.inr (.inr (.inr ((1, n1, c1))))) ∧ pe_at h b = some (.inr (.inr (.inr ((1, n2, c2))))) ∧ (∀ j, pe_lk 0 j c3 = if dp.toNatClampNeg ≤ j ∧ j < dp.toNatClampNeg + n.toNatClampNeg then pe_lk 0 (sp.toNatClampNeg + (j - dp.toNatClampNeg)) c1 else pe_lk 0 j c2) ∧ k st2 (h.set b (.inr (.inr (.inr ((1, n2, c3)))))) = some r)) := by
  unfold pe_ack at hg
  split at hg
  · rename_i n dp b sp a st2
    cases hl : pe_isl h a
    · rw [hl] at hg
      obtain ⟨t1, n1, c1, e1, g1⟩ := pe_ari_inv hg
      obtain ⟨t2, n2, c2, e2, g2⟩ := pe_ari_inv g1
      obtain ⟨q, g3⟩ := pe_bif_inv g2
      rw [Bool.and_eq_true, Bool.and_eq_true] at q
      obtain ⟨q1, q2, q3⟩ := q
      have q1 := Nat.eq_of_beq_eq_true q1
      subst q1
      obtain ⟨w3, w4, w5, w6, w7, w8, w9⟩ := pe_okc_ok q3
      obtain ⟨c3, v1, v2⟩ := pe_cpk_eq (β := Option α) c1 sp.toNatClampNeg dp.toNatClampNeg n.toNatClampNeg c2
      rw [v1, pe_setk_eq] at g3
      refine ⟨_, _, _, _, _, _, _, _, rfl, w3, w4, w5, w6, w7, w8, w9, Or.inl ⟨_, _, _, c3, e1, e2, ?_, v2, g3⟩⟩
      rw [Bool.or_eq_true, Bool.and_eq_true] at q2
      rcases q2 with q2 | q2
      · exact Or.inl (Nat.eq_of_beq_eq_true q2)
      · exact Or.inr ⟨Nat.eq_of_beq_eq_true q2.1, pe_fB_ok _ _ _ q2.2⟩
    · rw [hl] at hg
      obtain ⟨t1, n1, c1, e1, g1⟩ := pe_arl_inv hg
      obtain ⟨t2, n2, c2, e2, g2⟩ := pe_arl_inv g1
      obtain ⟨q, g3⟩ := pe_bif_inv g2
      rw [Bool.and_eq_true, Bool.and_eq_true] at q
      obtain ⟨q1, q2, q3⟩ := q
      have q1 := Nat.eq_of_beq_eq_true q1
      have q2 := Nat.eq_of_beq_eq_true q2
      subst q1
      subst q2
      obtain ⟨w3, w4, w5, w6, w7, w8, w9⟩ := pe_okc_ok q3
      obtain ⟨c3, v1, v2⟩ := pe_cplk_eq (β := Option α) c1 sp.toNatClampNeg dp.toNatClampNeg n.toNatClampNeg c2
      rw [v1, pe_setk_eq] at g3
      exact ⟨_, _, _, _, _, _, _, _, rfl, w3, w4, w5, w6, w7, w8, w9, Or.inr ⟨_, _, c3, e1, e2, v2, g3⟩⟩
  · cases hg
theorem pe_lkk_inv {α : Type} {i : Instr} {ofs : List (Int × Nat)} {x : Int32} {k : Nat → Option α} {r : α} (hg : pe_lkk i ofs x k = some r) : ∃ tb, k tb = some r := by
  unfold pe_lkk at hg
  split at hg
  · split at hg
    · exact ⟨_, hg⟩
    · cases hg
  · cases hg
theorem pe_rt_inv {ret : Option FieldType} {i : Instr} {st : List Value} {h h2 : pe_H} {o : pm_O} (hg : pe_rt ret i st h = some (o, h2)) : h2 = h := by
  unfold pe_rt at hg
  split at hg
  all_goals first | (cases hg; rfl) | (obtain ⟨_, hg⟩ := pe_bif_inv hg; cases hg; rfl) | cases hg
theorem pe_le.app {h : pe_H} {g : pe_H} : pe_le h (h ++ g) := by
  refine ⟨by simp, ?_⟩
  simp [pe_D, pm_sz]
theorem pe_thk_inv {st : List Value} {h h2 : pe_H} {o : pm_O} (hg : pe_thk st h = some (o, h2)) : ∃ x st2, st = .ref x :: st2 ∧ o = .inr x ∧ h2 = h := by
  unfold pe_thk at hg
  split at hg
  · cases hg
    exact ⟨_, _, rfl, rfl, rfl⟩
  · cases hg
theorem pe_lk_out {c : List (Nat × Int32)} {N : Nat} (hc : c.all (fun q => Nat.blt q.1 N) = true) {j : Nat} (hj : N ≤ j) : pe_lk 0 j c = 0 := by
  induction c with
  | nil => rfl
  | cons a r ih =>
    obtain ⟨a, v⟩ := a
    rw [List.all_cons, Bool.and_eq_true] at hc
    have h1 : a < N := by have q := hc.1; rw [Nat.blt_eq] at q; exact q
    show (bif Nat.beq a j then v else pe_lk 0 j r) = 0
    cases hb : Nat.beq a j
    · exact ih hc.2
    · have := Nat.eq_of_beq_eq_true hb; omega
theorem pe_zlk_inv {α : Type} {L : pm_L} {h : pe_H} {k : pe_H → Option α} {r : α} (hg : pe_zlk L h k = some r) : ∃ a b vs c, L = [(1, .int 0), (0, .ref a)] ∧ pe_at h a = some (.inr (.inl (15, vs))) ∧ pe_at vs 97 = some (.ref b) ∧ pe_at h b = some (.inl (3, 4000, c)) ∧ (∀ j, 4000 ≤ j → pe_lk 0 j c = 0) ∧ k (h.set b (.inl (3, 4000, []))) = some r := by
  unfold pe_zlk at hg
  split at hg
  · obtain ⟨hz, g0⟩ := pe_bif_inv hg
    have hz := of_decide_eq_true hz
    subst hz
    obtain ⟨vs, e1, g1⟩ := pe_obj_inv g0
    split at g1
    · rename_i hb
      obtain ⟨t, n, c, e2, g2⟩ := pe_ari_inv g1
      obtain ⟨hq, g⟩ := pe_bif_inv g2
      clear g2 g1 g0
      rw [Bool.and_eq_true, Bool.and_eq_true] at hq
      have ht := Nat.eq_of_beq_eq_true hq.1
      have hn := Nat.eq_of_beq_eq_true hq.2.1
      subst ht hn
      rw [pe_setk_eq] at g
      exact ⟨_, _, _, _, rfl, e1, hb, e2, fun j hj => pe_lk_out hq.2.2 hj, g⟩
    · cases g1
  · cases hg
theorem pe_spk_mono {α : Type} {xs : List (Nat × List Int32)} {d : Nat} {i : pe_S} {L : pm_L} {st : List Value} {h : pe_H} {k : List Value → pe_H → Option α} {r : α} (hg : pe_spk xs d i L st h k = some r) : ∃ st2 h2, k st2 h2 = some r ∧ pe_le h h2 := by
  rcases i with ⟨wide, ix, j⟩ | ⟨ix, ws⟩ | ⟨ix, ws⟩ | ⟨ix, ws⟩ | ⟨ix, j, host, wd⟩ | ⟨ix, ws⟩ | ⟨ix, ic, ws⟩ | ⟨ix, ws⟩ | ⟨wide, ix, ic, kx, j, ci, ws⟩ | ⟨ix, ws⟩
  · exact ⟨_, _, hg, pe_le.rf⟩
  · obtain ⟨_, g⟩ := pe_bif_inv hg
    obtain ⟨i, j, st3, tx, z, rfl, _, _, _, g⟩ := pe_sck_inv g
    obtain ⟨_, g⟩ := pe_bif_inv g
    exact ⟨_, _, g, pe_le.rf⟩
  · obtain ⟨n, dp, b, sp, a, st3, n1, n2, rfl, _, _, _, _, _, _, _, g⟩ := pe_ack_inv hg
    rcases g with ⟨t, c1, c2, c3, _, e2, _, _, g⟩ | ⟨c1, c2, c3, _, e2, _, g⟩
    · exact ⟨_, _, g, pe_le.set (y := .inl (t, n2, c3)) e2 rfl⟩
    · exact ⟨_, _, g, pe_le.set (y := .inr (.inr (.inr ((1, n2, c3))))) e2 rfl⟩
  · obtain ⟨_, g⟩ := pe_bif_inv hg
    obtain ⟨j, st3, tx, rfl, _, g⟩ := pe_slk_inv g
    obtain ⟨_, g⟩ := pe_bif_inv g
    exact ⟨_, _, g, pe_le.rf⟩
  · exact ⟨_, _, hg, pe_le.rf⟩
  · obtain ⟨m, n, st3, rfl, g⟩ := pe_2i_inv hg
    obtain ⟨_, g⟩ := pe_bif_inv g
    rw [pe_fn_eq, pe_fn_eq, pe_fn_eq, pe_rowk_eq, pe_pushk_eq, pe_repk_eq] at g
    exact ⟨_, _, g, pe_le.push.tr pe_le.app⟩
  · obtain ⟨_, g⟩ := pe_bif_inv hg
    rw [pe_fn_eq, pe_pushk_eq] at g
    exact ⟨_, _, g, pe_le.push⟩
  · obtain ⟨a, b, vs, c, _, _, _, e2, _, g⟩ := pe_zlk_inv hg
    exact ⟨_, _, g, pe_le.set (y := .inl (3, 4000, [])) e2 rfl⟩
  · obtain ⟨_, g⟩ := pe_bif_inv hg
    rw [pe_fn_eq, pe_pushk_eq] at g
    exact ⟨_, _, g, pe_le.push⟩
  · obtain ⟨_, g⟩ := pe_bif_inv hg
    obtain ⟨i, j, st3, tx, rfl, _, _, _, g⟩ := pe_sik_inv g
    obtain ⟨_, g⟩ := pe_bif_inv g
    exact ⟨_, _, g, pe_le.rf⟩
theorem pe_mono (G : pe_G) : ∀ (f d : Nat) (mt : pe_Mt) (is : List pe_I) (L : pm_L) (st : List Value) (h : pe_H) (o : pm_O) (h2 : pe_H), pe_go G f d mt is L st h = some (o, h2) → pe_le h h2 := by
  intro f
  induction f with
  | zero => intro d mt is L st h o h2 hg; cases hg
  | succ f ih =>
    intro d mt is L st h o h2 hg
    cases is with
    | nil => cases hg
    | cons i rest =>
      rcases i with i | ⟨ix, ci, k0, host, wd⟩ | ⟨i, tb⟩ | ⟨wide, ix, v, wd⟩ | ⟨ix, ci, k0, tk, host, wd⟩ | ⟨ix, mi, n, rc, ws⟩ | ⟨ix, mi, n, ws⟩ | ⟨ix, mi, n, ws⟩ | tb | i | ⟨ix, v, wd⟩ | ⟨i, n, lo, ts, df⟩ | ⟨ix, ci, ws⟩ | ⟨ix, t, wd⟩ | ⟨ix, ws⟩ | i | ⟨i, n, ofs⟩ | u | ⟨ix, mi, n, rc, ws, hdl⟩ | hdl
      · obtain ⟨L3, st3, h3, g, q⟩ := pe_op_mono hg
        exact q.tr (ih _ _ _ _ _ _ _ _ g)
      · obtain ⟨a, st3, rfl, g⟩ := pe_rf_inv hg
        obtain ⟨vs, _, g⟩ := pe_obj_inv g
        split at g
        · exact ih _ _ _ _ _ _ _ _ g
        · cases g
      · replace hg : (pe_cd i st (fun b st => bif b then pe_jmp mt tb (fun is => pe_go G f d mt is L st h) else pe_go G f d mt rest L st h)) = some (o, h2) := hg
        obtain ⟨b, st3, g⟩ := pe_cd_inv hg
        cases b
        · exact ih _ _ _ _ _ _ _ _ g
        · obtain ⟨p, is, _, g⟩ := pe_jmp_inv g
          exact ih _ _ _ _ _ _ _ _ g
      · exact ih _ _ _ _ _ _ _ _ hg
      · obtain ⟨a, v, st3, rfl, g⟩ := pe_irf_inv hg
        obtain ⟨_, g⟩ := pe_bif_inv g
        obtain ⟨vs, e1, g⟩ := pe_obj_inv g
        obtain ⟨_, g⟩ := pe_bif_inv g
        rw [pe_setk_eq, pe_setk_eq] at g
        exact (pe_le.set e1 (by simp [pe_d, pm_n])).tr (ih _ _ _ _ _ _ _ _ g)
      · obtain ⟨As, st3, _, rfl, g⟩ := pe_pop_inv hg
        obtain ⟨b, st4, rfl, g⟩ := pe_rf_inv g
        obtain ⟨_, _, g⟩ := pe_obj_inv g
        obtain ⟨m2, d2, p0, is, o3, h3, _, _, _, _, _, _, g1, g2⟩ := pe_calx_inv g
        rcases g2 with ⟨v, rfl, g2⟩ | ⟨x, rfl, g2⟩
        · exact (ih _ _ _ _ _ _ _ _ g1).tr (ih _ _ _ _ _ _ _ _ g2)
        · obtain ⟨_, g2⟩ := pe_bif_inv g2
          cases g2
          exact ih _ _ _ _ _ _ _ _ g1
      · obtain ⟨As, st3, _, rfl, g⟩ := pe_pop_inv hg
        obtain ⟨m2, d2, p0, is, o3, h3, _, _, _, _, _, _, g1, g2⟩ := pe_calx_inv g
        rcases g2 with ⟨v, rfl, g2⟩ | ⟨x, rfl, g2⟩
        · exact (ih _ _ _ _ _ _ _ _ g1).tr (ih _ _ _ _ _ _ _ _ g2)
        · obtain ⟨_, g2⟩ := pe_bif_inv g2
          cases g2
          exact ih _ _ _ _ _ _ _ _ g1
      · obtain ⟨As, st3, _, rfl, g⟩ := pe_pop_inv hg
        obtain ⟨b, st4, rfl, g⟩ := pe_rf_inv g
        obtain ⟨m2, d2, p0, is, o3, h3, _, _, _, _, _, _, g1, g2⟩ := pe_calx_inv g
        rcases g2 with ⟨v, rfl, g2⟩ | ⟨x, rfl, g2⟩
        · exact (ih _ _ _ _ _ _ _ _ g1).tr (ih _ _ _ _ _ _ _ _ g2)
        · obtain ⟨_, g2⟩ := pe_bif_inv g2
          cases g2
          exact ih _ _ _ _ _ _ _ _ g1
      · obtain ⟨p, is, _, g⟩ := pe_jmp_inv hg
        exact ih _ _ _ _ _ _ _ _ g
      · rw [pe_rt_inv (show pe_rt mt.ret i st h = some (o, h2) from hg)]
        exact pe_le.rf
      · exact ih _ _ _ _ _ _ _ _ hg
      · replace hg : (pe_swk lo ts df st (fun tb st => pe_jmp mt tb (fun is => pe_go G f d mt is L st h))) = some (o, h2) := hg
        obtain ⟨v, x, st3, rfl, _, g⟩ := pe_swk_inv hg (fun _ => 0) 0
        obtain ⟨p, is, _, g⟩ := pe_jmp_inv g
        exact ih _ _ _ _ _ _ _ _ g
      · replace hg : (match pe_at G.dv ci with
        | some vs => pe_fn h.length (fun a => pe_pushk (.inr (.inl (ci, vs))) h (fun h => pe_go G f d mt rest L (.ref a :: st) h))
        | none => none) = some (o, h2) := hg
        split at hg
        · rw [pe_fn_eq, pe_pushk_eq] at hg
          exact pe_le.push.tr (ih _ _ _ _ _ _ _ _ hg)
        · cases hg
      · obtain ⟨n, st3, rfl, g⟩ := pe_1i_inv hg
        obtain ⟨_, g⟩ := pe_bif_inv g
        rw [pe_fn_eq, pe_fn_eq, pe_pushk_eq] at g
        exact pe_le.push.tr (ih _ _ _ _ _ _ _ _ g)
      · obtain ⟨a, st3, rfl, g⟩ := pe_rf_inv hg
        obtain ⟨_, g⟩ := pe_bif_inv g
        exact ih _ _ _ _ _ _ _ _ g
      · obtain ⟨st3, h3, g, q⟩ := pe_spk_mono hg
        exact q.tr (ih _ _ _ _ _ _ _ _ g)
      · obtain ⟨x, st3, rfl, g⟩ := pe_1i_inv hg
        obtain ⟨tb, g⟩ := pe_lkk_inv g
        obtain ⟨p, is, _, g⟩ := pe_jmp_inv g
        exact ih _ _ _ _ _ _ _ _ g
      · obtain ⟨x, st3, rfl, rfl, rfl⟩ := pe_thk_inv (show pe_thk st h = some (o, h2) from hg)
        exact pe_le.rf
      · obtain ⟨As, st3, _, rfl, g⟩ := pe_pop_inv hg
        obtain ⟨b, st4, rfl, g⟩ := pe_rf_inv g
        obtain ⟨_, _, g⟩ := pe_obj_inv g
        obtain ⟨m2, d2, p0, is, o3, h3, _, _, _, _, _, _, g1, g2⟩ := pe_calx_inv g
        rcases g2 with ⟨v, rfl, g2⟩ | ⟨x, rfl, g2⟩
        · exact (ih _ _ _ _ _ _ _ _ g1).tr (ih _ _ _ _ _ _ _ _ g2)
        · obtain ⟨vs, q, _, _, g2⟩ := pe_ctk_inv g2
          obtain ⟨p, is, _, g2⟩ := pe_jmp_inv g2
          exact (ih _ _ _ _ _ _ _ _ g1).tr (ih _ _ _ _ _ _ _ _ g2)
      · obtain ⟨x, st3, rfl, g⟩ := pe_rf_inv hg
        obtain ⟨vs, q, _, _, g⟩ := pe_ctk_inv g
        obtain ⟨p, is, _, g⟩ := pe_jmp_inv g
        exact ih _ _ _ _ _ _ _ _ g
