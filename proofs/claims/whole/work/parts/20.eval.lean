/-! PART 20: an evaluator of the pure machine: what a method does from a given start, by computing. -/
section EV
def pe_fn {β : Type} (n : Nat) (k : Nat → β) : β := Nat.casesOn (motive := fun _ => β) n (k 0) (fun m => k (Nat.succ m))
theorem pe_fn_eq {β : Type} (n : Nat) (k : Nat → β) : pe_fn n k = k n := by cases n <;> rfl
def pe_fi {β : Type} (x : Int32) (k : Int32 → β) : β := pe_fn x.toUInt32.toNat (fun n => k ⟨UInt32.ofNat n⟩)
theorem pe_fi_eq {β : Type} (x : Int32) (k : Int32 → β) : pe_fi x k = k x := by
  unfold pe_fi
  rw [pe_fn_eq, UInt32.ofNat_toNat]
def pe_fl {β : Type} (x : Int64) (k : Int64 → β) : β := pe_fn x.toUInt64.toNat (fun n => k ⟨UInt64.ofNat n⟩)
theorem pe_fl_eq {β : Type} (x : Int64) (k : Int64 → β) : pe_fl x k = k x := by
  unfold pe_fl
  rw [pe_fn_eq, UInt64.ofNat_toNat]
/-- a cell: an object, ints by a tag, longs, references; what isn't listed is 0 or null -/
abbrev pe_E : Type := (Nat × Nat × List (Nat × Int32)) ⊕ (Nat × List Value) ⊕ (Nat × Nat × List (Nat × Option Nat)) ⊕ (Nat × Nat × List (Nat × Int64))
abbrev pe_H : Type := List pe_E
def pe_lk {α : Type} (d : α) (j : Nat) : List (Nat × α) → α
  | [] => d
  | (k, v) :: r => bif Nat.beq k j then v else pe_lk d j r
def pe_ins {α : Type} (zb : Bool) (i : Nat) (x : α) : List (Nat × α) → List (Nat × α)
  | [] => bif zb then [] else [(i, x)]
  | (k, v) :: r => bif Nat.beq k i then (i, x) :: r else (k, v) :: pe_ins zb i x r
def pe_insk {α β : Type} (zb : Bool) (i : Nat) (x : α) : List (Nat × α) → (List (Nat × α) → β) → β
  | [], k => bif zb then k [] else k [(i, x)]
  | (a, v) :: r, k => bif Nat.beq a i then k ((i, x) :: r) else pe_insk zb i x r (fun r2 => k ((a, v) :: r2))
theorem pe_insk_eq {α β : Type} (zb : Bool) (i : Nat) (x : α) (c : List (Nat × α)) : ∀ k : List (Nat × α) → β, pe_insk zb i x c k = k (pe_ins zb i x c) := by
  induction c with
  | nil => intro k; cases zb <;> rfl
  | cons a r ih =>
    intro k
    obtain ⟨a, v⟩ := a
    unfold pe_insk pe_ins
    cases Nat.beq a i
    · exact ih _
    · rfl
theorem pe_lk_ins {α : Type} (d : α) (zb : Bool) (i : Nat) (x : α) (hz : zb = true → x = d) (c : List (Nat × α)) (j : Nat) : pe_lk d j (pe_ins zb i x c) = if j = i then x else pe_lk d j c := by
  induction c with
  | nil =>
    cases hzb : zb
    · show (bif Nat.beq i j then x else d) = _
      by_cases h : j = i
      · subst h; rw [if_pos rfl, Nat.beq_refl]; rfl
      · rw [if_neg h]
        cases hb : Nat.beq i j
        · rfl
        · exact absurd (Nat.eq_of_beq_eq_true hb).symm h
    · show d = if j = i then x else d
      rw [hz hzb]
      split <;> rfl
  | cons a r ih =>
    obtain ⟨a, v⟩ := a
    unfold pe_ins
    cases hb : Nat.beq a i
    · show (bif Nat.beq a j then v else pe_lk d j (pe_ins zb i x r)) = if j = i then x else (bif Nat.beq a j then v else pe_lk d j r)
      rw [ih]
      cases hc : Nat.beq a j
      · rfl
      · have := Nat.eq_of_beq_eq_true hc
        subst this
        have h2 : a ≠ i := fun q => by rw [q, Nat.beq_refl] at hb; cases hb
        show v = if a = i then x else v
        rw [if_neg h2]
    · have := Nat.eq_of_beq_eq_true hb
      subst this
      show (bif Nat.beq a j then x else pe_lk d j r) = if j = a then x else (bif Nat.beq a j then v else pe_lk d j r)
      by_cases h : j = a
      · subst h; rw [if_pos rfl, Nat.beq_refl]; rfl
      · rw [if_neg h]
        cases hc : Nat.beq a j
        · rfl
        · exact absurd (Nat.eq_of_beq_eq_true hc).symm h
def pe_dr {α : Type} : Nat → List α → List α
  | 0, l => l
  | n + 1, l => pe_dr n (match l with
    | [] => []
    | _ :: r => r)
theorem pe_dr_eq {α : Type} (n : Nat) : ∀ l : List α, pe_dr n l = l.drop n := by
  induction n with
  | zero => intro l; rfl
  | succ n ih =>
    intro l
    cases l with
    | nil =>
      show pe_dr n [] = _
      rw [ih]; simp
    | cons a r =>
      show pe_dr n r = _
      rw [ih]; rfl
def pe_sk {α : Type} (l : List α) : List α := match l with
  | _ :: _ :: _ :: _ :: _ :: _ :: _ :: _ :: r => r
  | _ => []
theorem pe_sk_eq {α : Type} (l : List α) : pe_sk l = l.drop 8 := match l with
  | [] => rfl
  | [_] => rfl
  | [_, _] => rfl
  | [_, _, _] => rfl
  | [_, _, _, _] => rfl
  | [_, _, _, _, _] => rfl
  | [_, _, _, _, _, _] => rfl
  | [_, _, _, _, _, _, _] => rfl
  | _ :: _ :: _ :: _ :: _ :: _ :: _ :: _ :: _ => rfl
def pe_d8 {α : Type} : Nat → List α → List α
  | 0, l => l
  | n + 1, l => pe_d8 n (pe_sk l)
theorem pe_d8_eq {α : Type} (n : Nat) : ∀ l : List α, pe_d8 n l = l.drop (8 * n) := by
  induction n with
  | zero => intro l; rfl
  | succ n ih =>
    intro l
    show pe_d8 n (pe_sk l) = _
    rw [ih, pe_sk_eq, List.drop_drop]
    congr 1
    omega
def pe_hd {α : Type} (l : List α) : Option α := match l with
  | [] => none
  | a :: _ => some a
def pe_at {α : Type} (l : List α) (n : Nat) : Option α := pe_hd (pe_dr (n % 8) (pe_d8 (n / 8) l))
theorem pe_at_eq {α : Type} (l : List α) (n : Nat) : pe_at l n = l[n]? := by
  unfold pe_at
  rw [pe_dr_eq, pe_d8_eq, List.drop_drop, Nat.div_add_mod, ← List.head?_drop]
  cases l.drop n <;> rfl
def pe_set1 {α β : Type} (y : α) : List α → Nat → (List α → β) → β
  | [], _, k => k []
  | _ :: r, 0, k => k (y :: r)
  | a :: r, n + 1, k => pe_set1 y r n (fun r2 => k (a :: r2))
theorem pe_set1_eq {α β : Type} (y : α) (l : List α) : ∀ n (k : List α → β), pe_set1 y l n k = k (l.set n y) := by
  induction l with
  | nil => intro n k; rfl
  | cons a r ih =>
    intro n k
    cases n with
    | zero => rfl
    | succ n => exact ih n _
def pe_set8 {α β : Type} (y : α) (m : Nat) : Nat → List α → (List α → β) → β
  | 0, l, k => pe_set1 y l m k
  | q + 1, l, k => match l with
    | a1 :: a2 :: a3 :: a4 :: a5 :: a6 :: a7 :: a8 :: r => pe_set8 y m q r (fun r2 => k (a1 :: a2 :: a3 :: a4 :: a5 :: a6 :: a7 :: a8 :: r2))
    | l => k l
theorem pe_set8_eq {α β : Type} (y : α) (m q : Nat) : ∀ (l : List α) (k : List α → β), pe_set8 y m q l k = k (l.set (8 * q + m) y) := by
  induction q with
  | zero => intro l k; rw [Nat.mul_zero, Nat.zero_add]; exact pe_set1_eq y l m k
  | succ q ih =>
    intro l k
    unfold pe_set8
    split
    · rw [ih, show 8 * (q + 1) + m = 8 * q + m + 1 + 1 + 1 + 1 + 1 + 1 + 1 + 1 by omega]
      rfl
    · rename_i hn
      rw [List.set_eq_of_length_le]
      rcases l with _ | ⟨a1, _ | ⟨a2, _ | ⟨a3, _ | ⟨a4, _ | ⟨a5, _ | ⟨a6, _ | ⟨a7, _ | ⟨a8, r⟩⟩⟩⟩⟩⟩⟩⟩
      all_goals first | (exact absurd rfl (hn _ _ _ _ _ _ _ _ _)) | (simp only [List.length_cons, List.length_nil]; omega)
def pe_setk {α β : Type} (y : α) (l : List α) (n : Nat) (k : List α → β) : β := pe_set8 y (n % 8) (n / 8) l k
theorem pe_setk_eq {α β : Type} (y : α) (l : List α) (n : Nat) (k : List α → β) : pe_setk y l n k = k (l.set n y) := by
  unfold pe_setk
  rw [pe_set8_eq, Nat.div_add_mod]
def pe_push1 {α β : Type} (y : α) : List α → (List α → β) → β
  | [], k => k [y]
  | a :: r, k => pe_push1 y r (fun r2 => k (a :: r2))
theorem pe_push1_eq {α β : Type} (y : α) (l : List α) : ∀ (k : List α → β), pe_push1 y l k = k (l ++ [y]) := by
  induction l with
  | nil => intro k; rfl
  | cons a r ih => intro k; exact ih _
def pe_push8 {α β : Type} (y : α) : Nat → List α → (List α → β) → β
  | 0, l, k => pe_push1 y l k
  | q + 1, l, k => match l with
    | a1 :: a2 :: a3 :: a4 :: a5 :: a6 :: a7 :: a8 :: r => pe_push8 y q r (fun r2 => k (a1 :: a2 :: a3 :: a4 :: a5 :: a6 :: a7 :: a8 :: r2))
    | l => pe_push1 y l k
theorem pe_push8_eq {α β : Type} (y : α) (q : Nat) : ∀ (l : List α) (k : List α → β), pe_push8 y q l k = k (l ++ [y]) := by
  induction q with
  | zero => intro l k; exact pe_push1_eq y l k
  | succ q ih =>
    intro l k
    unfold pe_push8
    split
    · rw [ih]; rfl
    · exact pe_push1_eq y _ k
def pe_pushk {α β : Type} (y : α) (l : List α) (k : List α → β) : β := pe_push8 y 200 l k
theorem pe_pushk_eq {α β : Type} (y : α) (l : List α) (k : List α → β) : pe_pushk y l k = k (l ++ [y]) := pe_push8_eq y 200 l k
def pe_flk {α β : Type} (p : α → Bool) : List α → (List α → β) → β
  | [], k => k []
  | a :: r, k => bif p a then pe_flk p r (fun r2 => k (a :: r2)) else pe_flk p r k
theorem pe_flk_eq {α β : Type} (p : α → Bool) (l : List α) : ∀ k : List α → β, pe_flk p l k = k (l.filter p) := by
  induction l with
  | nil => intro k; rfl
  | cons a r ih =>
    intro k
    unfold pe_flk
    cases h : p a
    · rw [List.filter_cons_of_neg (by simp [h])]; exact ih k
    · rw [List.filter_cons_of_pos h]; exact ih _
def pe_st1k {β : Type} (i : Nat) (v : Value) (L : pm_L) (k : pm_L → β) : β := pe_flk (fun (q : Nat × Value) => !(q.1 == i) && !(q.1 + 1 == i && q.2.category == 2)) L (fun r => k ((i, v) :: r))
theorem pe_st1k_eq {β : Type} (i : Nat) (v : Value) (L : pm_L) (k : pm_L → β) : pe_st1k i v L k = k (pm_st1 i v L) := pe_flk_eq _ _ _
def pe_st2k {β : Type} (i : Nat) (v : Value) (L : pm_L) (k : pm_L → β) : β := pe_flk (fun (q : Nat × Value) => !(q.1 == i) && (!(q.1 == i + 1) && !(q.1 + 1 == i && q.2.category == 2))) L (fun r => k ((i, v) :: r))
theorem pe_st2k_eq {β : Type} (i : Nat) (v : Value) (L : pm_L) (k : pm_L → β) : pe_st2k i v L k = k (pm_st2 i v L) := pe_flk_eq _ _ _
def pe_gl (i : Nat) : pm_L → Option Value
  | [] => none
  | (k, v) :: r => bif Nat.beq k i then some v else pe_gl i r
theorem pe_gl_eq (i : Nat) (L : pm_L) : pe_gl i L = pm_get L i := by
  induction L with
  | nil => rfl
  | cons a r ih =>
    obtain ⟨a, v⟩ := a
    unfold pe_gl pm_get
    cases h : Nat.beq a i
    · rw [List.find?_cons_of_neg (fun q => Nat.ne_of_beq_eq_false h (by simpa using q))]
      exact ih
    · rw [List.find?_cons_of_pos (by have q2 := Nat.eq_of_beq_eq_true h; simpa using q2)]
      rfl
def pe_inb (i : Int32) (n : Nat) : Bool := !(decide (i < 0)) && Nat.blt i.toNatClampNeg n
def pe_1i {α : Type} (st : List Value) (k : Int32 → List Value → Option α) : Option α := match st with
  | .int x :: st => k x st
  | _ => none
theorem pe_1i_inv {α : Type} {st : List Value} {k : Int32 → List Value → Option α} {r : α} (h : pe_1i st k = some r) : ∃ x st2, st = .int x :: st2 ∧ k x st2 = some r := by
  unfold pe_1i at h
  split at h
  · exact ⟨_, _, rfl, h⟩
  · cases h
def pe_2i {α : Type} (st : List Value) (k : Int32 → Int32 → List Value → Option α) : Option α := match st with
  | .int y :: .int x :: st => k x y st
  | _ => none
theorem pe_2i_inv {α : Type} {st : List Value} {k : Int32 → Int32 → List Value → Option α} {r : α} (h : pe_2i st k = some r) : ∃ x y st2, st = .int y :: .int x :: st2 ∧ k x y st2 = some r := by
  unfold pe_2i at h
  split at h
  · exact ⟨_, _, _, rfl, h⟩
  · cases h
def pe_1l {α : Type} (st : List Value) (k : Int64 → List Value → Option α) : Option α := match st with
  | .long x :: st => k x st
  | _ => none
theorem pe_1l_inv {α : Type} {st : List Value} {k : Int64 → List Value → Option α} {r : α} (h : pe_1l st k = some r) : ∃ x st2, st = .long x :: st2 ∧ k x st2 = some r := by
  unfold pe_1l at h
  split at h
  · exact ⟨_, _, rfl, h⟩
  · cases h
def pe_2l {α : Type} (st : List Value) (k : Int64 → Int64 → List Value → Option α) : Option α := match st with
  | .long y :: .long x :: st => k x y st
  | _ => none
theorem pe_2l_inv {α : Type} {st : List Value} {k : Int64 → Int64 → List Value → Option α} {r : α} (h : pe_2l st k = some r) : ∃ x y st2, st = .long y :: .long x :: st2 ∧ k x y st2 = some r := by
  unfold pe_2l at h
  split at h
  · exact ⟨_, _, _, rfl, h⟩
  · cases h
def pe_li {α : Type} (st : List Value) (k : Int64 → Int32 → List Value → Option α) : Option α := match st with
  | .int y :: .long x :: st => k x y st
  | _ => none
theorem pe_li_inv {α : Type} {st : List Value} {k : Int64 → Int32 → List Value → Option α} {r : α} (h : pe_li st k = some r) : ∃ x y st2, st = .int y :: .long x :: st2 ∧ k x y st2 = some r := by
  unfold pe_li at h
  split at h
  · exact ⟨_, _, _, rfl, h⟩
  · cases h
def pe_ix {α : Type} (st : List Value) (k : Nat → Int32 → List Value → Option α) : Option α := match st with
  | .int i :: .ref a :: st => k a i st
  | _ => none
theorem pe_ix_inv {α : Type} {st : List Value} {k : Nat → Int32 → List Value → Option α} {r : α} (h : pe_ix st k = some r) : ∃ a i st2, st = .int i :: .ref a :: st2 ∧ k a i st2 = some r := by
  unfold pe_ix at h
  split at h
  · exact ⟨_, _, _, rfl, h⟩
  · cases h
def pe_ixi {α : Type} (st : List Value) (k : Nat → Int32 → Int32 → List Value → Option α) : Option α := match st with
  | .int x :: .int i :: .ref a :: st => k a i x st
  | _ => none
theorem pe_ixi_inv {α : Type} {st : List Value} {k : Nat → Int32 → Int32 → List Value → Option α} {r : α} (h : pe_ixi st k = some r) : ∃ a i x st2, st = .int x :: .int i :: .ref a :: st2 ∧ k a i x st2 = some r := by
  unfold pe_ixi at h
  split at h
  · exact ⟨_, _, _, _, rfl, h⟩
  · cases h
def pe_ixl {α : Type} (st : List Value) (k : Nat → Int32 → Int64 → List Value → Option α) : Option α := match st with
  | .long x :: .int i :: .ref a :: st => k a i x st
  | _ => none
theorem pe_ixl_inv {α : Type} {st : List Value} {k : Nat → Int32 → Int64 → List Value → Option α} {r : α} (h : pe_ixl st k = some r) : ∃ a i x st2, st = .long x :: .int i :: .ref a :: st2 ∧ k a i x st2 = some r := by
  unfold pe_ixl at h
  split at h
  · exact ⟨_, _, _, _, rfl, h⟩
  · cases h
def pe_ixr {α : Type} (st : List Value) (k : Nat → Int32 → Nat → List Value → Option α) : Option α := match st with
  | .ref x :: .int i :: .ref a :: st => k a i x st
  | _ => none
theorem pe_ixr_inv {α : Type} {st : List Value} {k : Nat → Int32 → Nat → List Value → Option α} {r : α} (h : pe_ixr st k = some r) : ∃ a i x st2, st = .ref x :: .int i :: .ref a :: st2 ∧ k a i x st2 = some r := by
  unfold pe_ixr at h
  split at h
  · exact ⟨_, _, _, _, rfl, h⟩
  · cases h
def pe_rf {α : Type} (st : List Value) (k : Nat → List Value → Option α) : Option α := match st with
  | .ref a :: st => k a st
  | _ => none
theorem pe_rf_inv {α : Type} {st : List Value} {k : Nat → List Value → Option α} {r : α} (h : pe_rf st k = some r) : ∃ a st2, st = .ref a :: st2 ∧ k a st2 = some r := by
  unfold pe_rf at h
  split at h
  · exact ⟨_, _, rfl, h⟩
  · cases h
def pe_irf {α : Type} (st : List Value) (k : Nat → Value → List Value → Option α) : Option α := match st with
  | v :: .ref a :: st => k a v st
  | _ => none
theorem pe_irf_inv {α : Type} {st : List Value} {k : Nat → Value → List Value → Option α} {r : α} (h : pe_irf st k = some r) : ∃ a v st2, st = v :: .ref a :: st2 ∧ k a v st2 = some r := by
  unfold pe_irf at h
  split at h
  · exact ⟨_, _, _, rfl, h⟩
  · cases h
def pe_v {α : Type} (st : List Value) (k : Value → List Value → Option α) : Option α := match st with
  | v :: st => k v st
  | _ => none
theorem pe_v_inv {α : Type} {st : List Value} {k : Value → List Value → Option α} {r : α} (h : pe_v st k = some r) : ∃ v st2, st = v :: st2 ∧ k v st2 = some r := by
  unfold pe_v at h
  split at h
  · exact ⟨_, _, rfl, h⟩
  · cases h
def pe_vv {α : Type} (st : List Value) (k : Value → Value → List Value → Option α) : Option α := match st with
  | v :: u :: st => k u v st
  | _ => none
theorem pe_vv_inv {α : Type} {st : List Value} {k : Value → Value → List Value → Option α} {r : α} (h : pe_vv st k = some r) : ∃ u v st2, st = v :: u :: st2 ∧ k u v st2 = some r := by
  unfold pe_vv at h
  split at h
  · exact ⟨_, _, _, rfl, h⟩
  · cases h
/-- the tags of arrays: 0 int, 1 long, 2 byte, 3 boolean, 4 char, 5 int[], 6 + k objects of class k -/
def pe_ta : List Nat := [0, 1, 2, 3, 5, 14, 20]
def pe_tOK (t : Nat) : Bool := pe_ta.any (fun q => Nat.beq q t)
def pe_ldi {α : Type} (i : Nat) (L : pm_L) (k : Int32 → Option α) : Option α := match pe_gl i L with
  | some (.int x) => k x
  | _ => none
/-- the bounds of a place holder of an int -/
def pe_fv (n : Nat) : Option (Int × Int) := match pe_at pm_ki (n / 8 % 128) with
  | some (lo, hi) => bif decide (-2147483648 ≤ lo - ((n / 1024 : Nat) : Int)) then some (lo - ((n / 1024 : Nat) : Int), hi - ((n / 1024 : Nat) : Int)) else none
  | none => none
def pe_isI (v : Value) : Bool := match v with
  | .int _ => true
  | .float b => (pe_fv b.toNat).isSome
  | _ => false
def pe_isL (v : Value) : Bool := match v with
  | .long _ => true
  | .double b => (pe_fv b.toNat).isSome
  | _ => false
def pe_ldv {α : Type} (i : Nat) (L : pm_L) (k : Value → Option α) : Option α := match pe_gl i L with
  | some v => bif pe_isI v then k v else none
  | _ => none
def pe_ldw {α : Type} (i : Nat) (L : pm_L) (k : Value → Option α) : Option α := match pe_gl i L with
  | some v => bif pe_isL v then k v else none
  | _ => none
def pe_i2lk {α : Type} (v : Value) (k : Value → Option α) : Option α := match v with
  | .int x => pe_fl x.toInt64 fun z => k (.long z)
  | .float b => bif (pe_fv b.toNat).isSome then k (.double (UInt64.ofNat b.toNat)) else none
  | _ => none
def pe_isbk {α : Type} (u v : Value) (k : Value → Option α) : Option α := match u, v with
  | .int x, .int y => pe_fi (x - y) fun z => k (.int z)
  | .float b, .int y => bif decide (0 ≤ y.toInt) && (decide (b.toNat + 1024 * y.toInt.toNat < 4294967296) && ((pe_fv b.toNat).isSome && (pe_fv (b.toNat + 1024 * y.toInt.toNat)).isSome)) then pe_fn (b.toNat + 1024 * y.toInt.toNat) (fun n => k (.float (UInt32.ofNat n))) else none
  | _, _ => none
def pe_lck {α : Type} (u v : Value) (k : Value → Option α) : Option α := match u, v with
  | .long x, .long y => pe_fi (lg_cmp x y) fun z => k (.int z)
  | .double b, .long y => (match pe_fv b.toNat with
    | some (lo, hi) => bif decide (hi < y.toInt) then k (.int (-1)) else bif decide (y.toInt < lo) then k (.int 1) else none
    | none => none)
  | _, _ => none
def pe_iak {α : Type} (u v : Value) (k : Value → Option α) : Option α := match u, v with
  | .int x, .int y => pe_fi (x &&& y) fun z => k (.int z)
  | .float b, .int y => bif decide (y = 31) && (Nat.ble 64 (b.toNat / 8 % 128) && !(Nat.ble 96 (b.toNat / 8 % 128))) then pe_fi (Int32.ofNat (b.toNat / 8 % 128 - 64)) fun z => k (.int z) else none
  | _, _ => none
/-- the value of a place holder's number -/
def pe_phk {α : Type} (n : Nat) (k : Value → Option α) : Option α := match pe_fv n with
  | some (lo, hi) => bif decide (lo = hi) then pe_fi (Int32.ofInt lo) (fun z => k (.int z)) else bif decide (n < 4294967296) then k (.float (UInt32.ofNat n)) else none
  | none => bif Nat.ble 64 (n / 8 % 128) && (!(Nat.ble 96 (n / 8 % 128)) && decide (n < 4294967296)) then k (.float (UInt32.ofNat n)) else none
/-- the bounds of an int, be it a place holder -/
def pe_ivv (v : Value) : Option (Int × Int) := match v with
  | .int x => some (x.toInt, x.toInt)
  | .float b => pe_fv b.toNat
  | _ => none
def pe_lda {α : Type} (i : Nat) (L : pm_L) (k : Value → Option α) : Option α := match pe_gl i L with
  | some v => bif pm_isR v then k v else none
  | _ => none
def pe_ari {α : Type} (h : pe_H) (a : Nat) (k : Nat → Nat → List (Nat × Int32) → Option α) : Option α := match pe_at h a with
  | some (.inl (t, n, c)) => k t n c
  | _ => none
def pe_arl {α : Type} (h : pe_H) (a : Nat) (k : Nat → Nat → List (Nat × Int64) → Option α) : Option α := match pe_at h a with
  | some (.inr (.inr (.inr ((t, n, c))))) => k t n c
  | _ => none
def pe_arr {α : Type} (h : pe_H) (a : Nat) (k : Nat → Nat → List (Nat × Option Nat) → Option α) : Option α := match pe_at h a with
  | some (.inr (.inr (.inl (t, n, c)))) => k t n c
  | _ => none
def pe_obj {α : Type} (h : pe_H) (a ci : Nat) (k : List Value → Option α) : Option α := match pe_at h a with
  | some (.inr (.inl (c, vs))) => bif Nat.beq c ci then k vs else none
  | _ => none
def pe_rfk {α : Type} (r : Option Nat) (k : Value → Option α) : Option α := match r with
  | none => k .null
  | some a => k (.ref a)
def pe_lenk {α : Type} (h : pe_H) (a : Nat) (k : Nat → Option α) : Option α := match pe_at h a with
  | some (.inl (t, n, _)) => bif pe_tOK t then k n else none
  | some (.inr (.inr (.inr ((t, n, _))))) => bif pe_tOK t then k n else none
  | some (.inr (.inr (.inl (t, n, _)))) => bif pe_tOK t then k n else none
  | _ => none
/-- an object into an array of its class -/
def pe_fitA (h : pe_H) (t x : Nat) : Bool := match pe_at h x with
  | some (.inr (.inl (c, _))) => Nat.beq t (c + 6) && pe_tOK t
  | some (.inl (t2, _, _)) => Nat.beq t 5 && Nat.beq t2 0
  | _ => false
def pe_newk {α : Type} (ty : ArrayType) (N : Nat) (k : pe_E → Option α) : Option α := match ty with
  | .int => k (.inl (0, N, []))
  | .long => k (.inr (.inr (.inr ((1, N, [])))))
  | .byte => k (.inl (2, N, []))
  | .boolean => k (.inl (3, N, []))
  | _ => none
/-- an outer array of ints: an element, its length; or else -/
def pe_xi {α : Type} (xs : List (Nat × List Int32)) (st : List Value) (k : Value → List Value → Option α) (e : Option α) : Option α := match st with
  | .int i :: .retAddr j :: st => (match pe_at xs j with
    | some (1, tx) => bif pe_inb i tx.length then (match pe_at tx i.toNatClampNeg with
      | some z => k (.int z) st
      | none => none) else none
    | some (2, tx) => bif pe_inb i tx.length then (match pe_at tx i.toNatClampNeg with
      | some z => pe_phk z.toNatClampNeg fun v => k v st
      | none => none) else none
    | _ => none)
  | _ => e
/-- an outer array of bytes: an element; or else -/
def pe_xb {α : Type} (xs : List (Nat × List Int32)) (st : List Value) (k : Int32 → List Value → Option α) (e : Option α) : Option α := match st with
  | .int i :: .retAddr j :: st => (match pe_at xs j with
    | some (3, tx) => bif pe_inb i tx.length then (match pe_at tx i.toNatClampNeg with
      | some z => k z st
      | none => none) else none
    | _ => none)
  | _ => e
def pe_xn {α : Type} (xs : List (Nat × List Int32)) (st : List Value) (k : Nat → List Value → Option α) (e : Option α) : Option α := match st with
  | .retAddr j :: st => (match pe_at xs j with
    | some (1, tx) => k tx.length st
    | some (2, tx) => k tx.length st
    | _ => none)
  | _ => e
/-- an instruction that needs no word and goes on behind itself -/
def pe_f_no {α : Type} (_ : List (Nat × List Int32)) (_ : Nat) (_ : pm_L) (_ : List Value) (_ : pe_H) (_ : pm_L → List Value → pe_H → Option α) : Option α := none
def pe_f_iadd {α : Type}  (xs : List (Nat × List Int32)) (mx : Nat) (L : pm_L) (st : List Value) (h : pe_H) (k : pm_L → List Value → pe_H → Option α) : Option α := pe_2i st fun x y st => pe_fi (x + y) fun z => k L (.int z :: st) h
def pe_f_imul {α : Type}  (xs : List (Nat × List Int32)) (mx : Nat) (L : pm_L) (st : List Value) (h : pe_H) (k : pm_L → List Value → pe_H → Option α) : Option α := pe_2i st fun x y st => pe_fi (x * y) fun z => k L (.int z :: st) h
def pe_f_ior {α : Type}  (xs : List (Nat × List Int32)) (mx : Nat) (L : pm_L) (st : List Value) (h : pe_H) (k : pm_L → List Value → pe_H → Option α) : Option α := pe_2i st fun x y st => pe_fi (x ||| y) fun z => k L (.int z :: st) h
def pe_f_ixor {α : Type}  (xs : List (Nat × List Int32)) (mx : Nat) (L : pm_L) (st : List Value) (h : pe_H) (k : pm_L → List Value → pe_H → Option α) : Option α := pe_2i st fun x y st => pe_fi (x ^^^ y) fun z => k L (.int z :: st) h
def pe_f_ishl {α : Type}  (xs : List (Nat × List Int32)) (mx : Nat) (L : pm_L) (st : List Value) (h : pe_H) (k : pm_L → List Value → pe_H → Option α) : Option α := pe_2i st fun x y st => pe_fi (x <<< (y &&& 31)) fun z => k L (.int z :: st) h
def pe_f_ishr {α : Type}  (xs : List (Nat × List Int32)) (mx : Nat) (L : pm_L) (st : List Value) (h : pe_H) (k : pm_L → List Value → pe_H → Option α) : Option α := pe_2i st fun x y st => pe_fi (x >>> (y &&& 31)) fun z => k L (.int z :: st) h
def pe_f_iushr {α : Type}  (xs : List (Nat × List Int32)) (mx : Nat) (L : pm_L) (st : List Value) (h : pe_H) (k : pm_L → List Value → pe_H → Option α) : Option α := pe_2i st fun x y st => pe_fi ((x.toUInt32 >>> (y.toUInt32 &&& Int32.toUInt32 31)).toInt32) fun z => k L (.int z :: st) h
def pe_f_ladd {α : Type}  (xs : List (Nat × List Int32)) (mx : Nat) (L : pm_L) (st : List Value) (h : pe_H) (k : pm_L → List Value → pe_H → Option α) : Option α := pe_2l st fun x y st => pe_fl (x + y) fun z => k L (.long z :: st) h
def pe_f_lsub {α : Type}  (xs : List (Nat × List Int32)) (mx : Nat) (L : pm_L) (st : List Value) (h : pe_H) (k : pm_L → List Value → pe_H → Option α) : Option α := pe_2l st fun x y st => pe_fl (x - y) fun z => k L (.long z :: st) h
def pe_f_lmul {α : Type}  (xs : List (Nat × List Int32)) (mx : Nat) (L : pm_L) (st : List Value) (h : pe_H) (k : pm_L → List Value → pe_H → Option α) : Option α := pe_2l st fun x y st => pe_fl (x * y) fun z => k L (.long z :: st) h
def pe_f_land {α : Type}  (xs : List (Nat × List Int32)) (mx : Nat) (L : pm_L) (st : List Value) (h : pe_H) (k : pm_L → List Value → pe_H → Option α) : Option α := pe_2l st fun x y st => pe_fl (x &&& y) fun z => k L (.long z :: st) h
def pe_f_lor {α : Type}  (xs : List (Nat × List Int32)) (mx : Nat) (L : pm_L) (st : List Value) (h : pe_H) (k : pm_L → List Value → pe_H → Option α) : Option α := pe_2l st fun x y st => pe_fl (x ||| y) fun z => k L (.long z :: st) h
def pe_f_lxor {α : Type}  (xs : List (Nat × List Int32)) (mx : Nat) (L : pm_L) (st : List Value) (h : pe_H) (k : pm_L → List Value → pe_H → Option α) : Option α := pe_2l st fun x y st => pe_fl (x ^^^ y) fun z => k L (.long z :: st) h
def pe_f_idiv {α : Type}  (xs : List (Nat × List Int32)) (mx : Nat) (L : pm_L) (st : List Value) (h : pe_H) (k : pm_L → List Value → pe_H → Option α) : Option α := pe_2i st fun x y st => bif decide (y = 0) then none else pe_fi (x / y) fun z => k L (.int z :: st) h
def pe_f_irem {α : Type}  (xs : List (Nat × List Int32)) (mx : Nat) (L : pm_L) (st : List Value) (h : pe_H) (k : pm_L → List Value → pe_H → Option α) : Option α := pe_2i st fun x y st => bif decide (y = 0) then none else pe_fi (x - x / y * y) fun z => k L (.int z :: st) h
def pe_f_ldiv {α : Type}  (xs : List (Nat × List Int32)) (mx : Nat) (L : pm_L) (st : List Value) (h : pe_H) (k : pm_L → List Value → pe_H → Option α) : Option α := pe_2l st fun x y st => bif decide (y = 0) then none else pe_fl (x / y) fun z => k L (.long z :: st) h
def pe_f_lrem {α : Type}  (xs : List (Nat × List Int32)) (mx : Nat) (L : pm_L) (st : List Value) (h : pe_H) (k : pm_L → List Value → pe_H → Option α) : Option α := pe_2l st fun x y st => bif decide (y = 0) then none else pe_fl (x - x / y * y) fun z => k L (.long z :: st) h
def pe_f_ineg {α : Type}  (xs : List (Nat × List Int32)) (mx : Nat) (L : pm_L) (st : List Value) (h : pe_H) (k : pm_L → List Value → pe_H → Option α) : Option α := pe_1i st fun x st => pe_fi (-x) fun z => k L (.int z :: st) h
def pe_f_lneg {α : Type}  (xs : List (Nat × List Int32)) (mx : Nat) (L : pm_L) (st : List Value) (h : pe_H) (k : pm_L → List Value → pe_H → Option α) : Option α := pe_1l st fun x st => pe_fl (-x) fun z => k L (.long z :: st) h
def pe_f_lushr {α : Type}  (xs : List (Nat × List Int32)) (mx : Nat) (L : pm_L) (st : List Value) (h : pe_H) (k : pm_L → List Value → pe_H → Option α) : Option α := pe_li st fun x y st => pe_fl ((x.toUInt64 >>> (y.toInt64.toUInt64 &&& Int64.toUInt64 63)).toInt64) fun z => k L (.long z :: st) h
def pe_f_lshl {α : Type}  (xs : List (Nat × List Int32)) (mx : Nat) (L : pm_L) (st : List Value) (h : pe_H) (k : pm_L → List Value → pe_H → Option α) : Option α := pe_li st fun x y st => pe_fl (x <<< (y.toInt64 &&& 63)) fun z => k L (.long z :: st) h
def pe_f_lshr {α : Type}  (xs : List (Nat × List Int32)) (mx : Nat) (L : pm_L) (st : List Value) (h : pe_H) (k : pm_L → List Value → pe_H → Option α) : Option α := pe_li st fun x y st => pe_fl (x >>> (y.toInt64 &&& 63)) fun z => k L (.long z :: st) h
def pe_f_iand {α : Type}  (xs : List (Nat × List Int32)) (mx : Nat) (L : pm_L) (st : List Value) (h : pe_H) (k : pm_L → List Value → pe_H → Option α) : Option α := pe_vv st fun u v st => pe_iak u v fun w => k L (w :: st) h
def pe_f_isub {α : Type}  (xs : List (Nat × List Int32)) (mx : Nat) (L : pm_L) (st : List Value) (h : pe_H) (k : pm_L → List Value → pe_H → Option α) : Option α := pe_vv st fun u v st => pe_isbk u v fun w => k L (w :: st) h
def pe_f_i2l {α : Type}  (xs : List (Nat × List Int32)) (mx : Nat) (L : pm_L) (st : List Value) (h : pe_H) (k : pm_L → List Value → pe_H → Option α) : Option α := pe_v st fun v st => pe_i2lk v fun u => k L (u :: st) h
def pe_f_l2i {α : Type}  (xs : List (Nat × List Int32)) (mx : Nat) (L : pm_L) (st : List Value) (h : pe_H) (k : pm_L → List Value → pe_H → Option α) : Option α := pe_1l st fun x st => pe_fi x.toInt32 fun z => k L (.int z :: st) h
def pe_f_i2b {α : Type}  (xs : List (Nat × List Int32)) (mx : Nat) (L : pm_L) (st : List Value) (h : pe_H) (k : pm_L → List Value → pe_H → Option α) : Option α := pe_1i st fun x st => pe_fi x.toInt8.toInt32 fun z => k L (.int z :: st) h
def pe_f_i2c {α : Type}  (xs : List (Nat × List Int32)) (mx : Nat) (L : pm_L) (st : List Value) (h : pe_H) (k : pm_L → List Value → pe_H → Option α) : Option α := pe_1i st fun x st => pe_fi (x.toUInt32 % 65536).toInt32 fun z => k L (.int z :: st) h
def pe_f_lcmp {α : Type}  (xs : List (Nat × List Int32)) (mx : Nat) (L : pm_L) (st : List Value) (h : pe_H) (k : pm_L → List Value → pe_H → Option α) : Option α := pe_vv st fun u v st => pe_lck u v fun w => k L (w :: st) h
def pe_f_iconst {α : Type} (n : Int) (xs : List (Nat × List Int32)) (mx : Nat) (L : pm_L) (st : List Value) (h : pe_H) (k : pm_L → List Value → pe_H → Option α) : Option α := pe_fi (Int32.ofInt n) fun z => k L (.int z :: st) h
def pe_f_bipush {α : Type} (n : Int) (xs : List (Nat × List Int32)) (mx : Nat) (L : pm_L) (st : List Value) (h : pe_H) (k : pm_L → List Value → pe_H → Option α) : Option α := pe_fi (Int8.ofInt n).toInt32 fun z => k L (.int z :: st) h
def pe_f_sipush {α : Type} (n : Int) (xs : List (Nat × List Int32)) (mx : Nat) (L : pm_L) (st : List Value) (h : pe_H) (k : pm_L → List Value → pe_H → Option α) : Option α := pe_fi (Int16.ofInt n).toInt32 fun z => k L (.int z :: st) h
def pe_f_lconst {α : Type} (n : Fin 2) (xs : List (Nat × List Int32)) (mx : Nat) (L : pm_L) (st : List Value) (h : pe_H) (k : pm_L → List Value → pe_H → Option α) : Option α := pe_fl (Int64.ofNat n.val) fun z => k L (.long z :: st) h
def pe_f_aconst_null {α : Type}  (xs : List (Nat × List Int32)) (mx : Nat) (L : pm_L) (st : List Value) (h : pe_H) (k : pm_L → List Value → pe_H → Option α) : Option α := k L (.null :: st) h
def pe_f_dup {α : Type}  (xs : List (Nat × List Int32)) (mx : Nat) (L : pm_L) (st : List Value) (h : pe_H) (k : pm_L → List Value → pe_H → Option α) : Option α := pe_v st fun v st => bif Nat.beq v.category 1 then k L (v :: v :: st) h else none
def pe_f_pop {α : Type}  (xs : List (Nat × List Int32)) (mx : Nat) (L : pm_L) (st : List Value) (h : pe_H) (k : pm_L → List Value → pe_H → Option α) : Option α := pe_v st fun v st => bif Nat.beq v.category 1 then k L st h else none
def pe_f_dup2 {α : Type}  (xs : List (Nat × List Int32)) (mx : Nat) (L : pm_L) (st : List Value) (h : pe_H) (k : pm_L → List Value → pe_H → Option α) : Option α := pe_v st fun v st => bif Nat.beq v.category 2 then k L (v :: v :: st) h else pe_v st fun u st => bif Nat.beq v.category 1 && Nat.beq u.category 1 then k L (v :: u :: v :: u :: st) h else none
def pe_f_dup_x1 {α : Type}  (xs : List (Nat × List Int32)) (mx : Nat) (L : pm_L) (st : List Value) (h : pe_H) (k : pm_L → List Value → pe_H → Option α) : Option α := pe_vv st fun u v st => bif Nat.beq v.category 1 && Nat.beq u.category 1 then k L (v :: u :: v :: st) h else none
def pe_f_iload_n {α : Type} (n : Fin 4) (xs : List (Nat × List Int32)) (mx : Nat) (L : pm_L) (st : List Value) (h : pe_H) (k : pm_L → List Value → pe_H → Option α) : Option α := pe_ldv n.val L fun v => k L (v :: st) h
def pe_f_lload_n {α : Type} (n : Fin 4) (xs : List (Nat × List Int32)) (mx : Nat) (L : pm_L) (st : List Value) (h : pe_H) (k : pm_L → List Value → pe_H → Option α) : Option α := pe_ldw n.val L fun v => k L (v :: st) h
def pe_f_aload_n {α : Type} (n : Fin 4) (xs : List (Nat × List Int32)) (mx : Nat) (L : pm_L) (st : List Value) (h : pe_H) (k : pm_L → List Value → pe_H → Option α) : Option α := pe_lda n.val L fun v => k L (v :: st) h
def pe_f_istore_n {α : Type} (n : Fin 4) (xs : List (Nat × List Int32)) (mx : Nat) (L : pm_L) (st : List Value) (h : pe_H) (k : pm_L → List Value → pe_H → Option α) : Option α := pe_v st fun v st => bif pe_isI v && Nat.blt n.val mx then pe_st1k n.val v L fun L => k L st h else none
def pe_f_lstore_n {α : Type} (n : Fin 4) (xs : List (Nat × List Int32)) (mx : Nat) (L : pm_L) (st : List Value) (h : pe_H) (k : pm_L → List Value → pe_H → Option α) : Option α := pe_1l st fun x st => bif Nat.blt (n.val + 1) mx then pe_st2k n.val (.long x) L fun L => k L st h else none
def pe_f_astore_n {α : Type} (n : Fin 4) (xs : List (Nat × List Int32)) (mx : Nat) (L : pm_L) (st : List Value) (h : pe_H) (k : pm_L → List Value → pe_H → Option α) : Option α := pe_v st fun v st => bif pm_isR v && Nat.blt n.val mx then pe_st1k n.val v L fun L => k L st h else none
def pe_f_iload {α : Type} (n : Nat) (xs : List (Nat × List Int32)) (mx : Nat) (L : pm_L) (st : List Value) (h : pe_H) (k : pm_L → List Value → pe_H → Option α) : Option α := pe_ldv n L fun v => k L (v :: st) h
def pe_f_lload {α : Type} (n : Nat) (xs : List (Nat × List Int32)) (mx : Nat) (L : pm_L) (st : List Value) (h : pe_H) (k : pm_L → List Value → pe_H → Option α) : Option α := pe_ldw n L fun v => k L (v :: st) h
def pe_f_aload {α : Type} (n : Nat) (xs : List (Nat × List Int32)) (mx : Nat) (L : pm_L) (st : List Value) (h : pe_H) (k : pm_L → List Value → pe_H → Option α) : Option α := pe_lda n L fun v => k L (v :: st) h
def pe_f_istore {α : Type} (n : Nat) (xs : List (Nat × List Int32)) (mx : Nat) (L : pm_L) (st : List Value) (h : pe_H) (k : pm_L → List Value → pe_H → Option α) : Option α := pe_v st fun v st => bif pe_isI v && Nat.blt n mx then pe_st1k n v L fun L => k L st h else none
def pe_f_lstore {α : Type} (n : Nat) (xs : List (Nat × List Int32)) (mx : Nat) (L : pm_L) (st : List Value) (h : pe_H) (k : pm_L → List Value → pe_H → Option α) : Option α := pe_1l st fun x st => bif Nat.blt (n + 1) mx then pe_st2k n (.long x) L fun L => k L st h else none
def pe_f_astore {α : Type} (n : Nat) (xs : List (Nat × List Int32)) (mx : Nat) (L : pm_L) (st : List Value) (h : pe_H) (k : pm_L → List Value → pe_H → Option α) : Option α := pe_v st fun v st => bif pm_isR v && Nat.blt n mx then pe_st1k n v L fun L => k L st h else none
def pe_f_iinc {α : Type} (i : Nat) (n : Int) (xs : List (Nat × List Int32)) (mx : Nat) (L : pm_L) (st : List Value) (h : pe_H) (k : pm_L → List Value → pe_H → Option α) : Option α := pe_ldi i L fun x => bif Nat.blt i mx then pe_fi (x + Int32.ofInt n) fun z => pe_st1k i (.int z) L fun L => k L st h else none
def pe_f_iaload {α : Type}  (xs : List (Nat × List Int32)) (mx : Nat) (L : pm_L) (st : List Value) (h : pe_H) (k : pm_L → List Value → pe_H → Option α) : Option α := pe_xi xs st (fun v st => k L (v :: st) h) (pe_ix st fun a i st => pe_ari h a fun t n c => bif Nat.beq t 0 && pe_inb i n then pe_fi (pe_lk 0 i.toNatClampNeg c) fun z => k L (.int z :: st) h else none)
def pe_f_baload {α : Type}  (xs : List (Nat × List Int32)) (mx : Nat) (L : pm_L) (st : List Value) (h : pe_H) (k : pm_L → List Value → pe_H → Option α) : Option α := pe_xb xs st (fun z st => k L (.int z :: st) h) (pe_ix st fun a i st => pe_ari h a fun t n c => bif (Nat.beq t 2 || Nat.beq t 3) && pe_inb i n then pe_fi (pe_lk 0 i.toNatClampNeg c) fun z => k L (.int z :: st) h else none)
def pe_f_laload {α : Type}  (xs : List (Nat × List Int32)) (mx : Nat) (L : pm_L) (st : List Value) (h : pe_H) (k : pm_L → List Value → pe_H → Option α) : Option α := pe_ix st fun a i st => pe_arl h a fun t n c => bif Nat.beq t 1 && pe_inb i n then pe_fl (pe_lk 0 i.toNatClampNeg c) fun z => k L (.long z :: st) h else none
def pe_f_aaload {α : Type}  (xs : List (Nat × List Int32)) (mx : Nat) (L : pm_L) (st : List Value) (h : pe_H) (k : pm_L → List Value → pe_H → Option α) : Option α := pe_ix st fun a i st => pe_arr h a fun t n c => bif (Nat.ble 5 t && pe_tOK t) && pe_inb i n then pe_rfk (pe_lk none i.toNatClampNeg c) fun v => k L (v :: st) h else none
def pe_f_iastore {α : Type}  (xs : List (Nat × List Int32)) (mx : Nat) (L : pm_L) (st : List Value) (h : pe_H) (k : pm_L → List Value → pe_H → Option α) : Option α := pe_ixi st fun a i x st => pe_ari h a fun t n c => bif Nat.beq t 0 && pe_inb i n then pe_fi (x) fun z => pe_insk (decide (z = 0)) i.toNatClampNeg z c fun c => pe_setk (.inl (t, n, c)) h a fun h => k L st h else none
def pe_f_bastore {α : Type}  (xs : List (Nat × List Int32)) (mx : Nat) (L : pm_L) (st : List Value) (h : pe_H) (k : pm_L → List Value → pe_H → Option α) : Option α := pe_ixi st fun a i x st => pe_ari h a fun t n c => bif Nat.beq t 2 && pe_inb i n then pe_fi (vp_nar .byte x) fun z => pe_insk (decide (z = 0)) i.toNatClampNeg z c fun c => pe_setk (.inl (t, n, c)) h a fun h => k L st h else bif Nat.beq t 3 && pe_inb i n then pe_fi (vp_nar .boolean x) fun z => pe_insk (decide (z = 0)) i.toNatClampNeg z c fun c => pe_setk (.inl (t, n, c)) h a fun h => k L st h else none
def pe_f_lastore {α : Type}  (xs : List (Nat × List Int32)) (mx : Nat) (L : pm_L) (st : List Value) (h : pe_H) (k : pm_L → List Value → pe_H → Option α) : Option α := pe_ixl st fun a i x st => pe_arl h a fun t n c => bif Nat.beq t 1 && pe_inb i n then pe_insk (decide (x = 0)) i.toNatClampNeg x c fun c => pe_setk (.inr (.inr (.inr ((t, n, c))))) h a fun h => k L st h else none
def pe_f_aastore {α : Type}  (xs : List (Nat × List Int32)) (mx : Nat) (L : pm_L) (st : List Value) (h : pe_H) (k : pm_L → List Value → pe_H → Option α) : Option α := pe_ixr st fun a i x st => pe_arr h a fun t n c => bif pe_inb i n && pe_fitA h t x then pe_insk false i.toNatClampNeg (some x) c fun c => pe_setk (.inr (.inr (.inl (t, n, c)))) h a fun h => k L st h else none
def pe_f_arraylength {α : Type}  (xs : List (Nat × List Int32)) (mx : Nat) (L : pm_L) (st : List Value) (h : pe_H) (k : pm_L → List Value → pe_H → Option α) : Option α := pe_xn xs st (fun n st => pe_fi (Int32.ofNat n) fun z => k L (.int z :: st) h) (pe_rf st fun a st => pe_lenk h a fun n => pe_fi (Int32.ofNat n) fun z => k L (.int z :: st) h)
def pe_f_newarray {α : Type} (ty : ArrayType) (xs : List (Nat × List Int32)) (mx : Nat) (L : pm_L) (st : List Value) (h : pe_H) (k : pm_L → List Value → pe_H → Option α) : Option α := pe_1i st fun n st => bif !(decide (n < 0)) && Nat.ble (n.toNatClampNeg * 8) 536870912 then pe_fn n.toNatClampNeg fun N => pe_fn h.length fun a => pe_newk ty N fun c => pe_pushk c h fun h => k L (.ref a :: st) h else none
def pe_sel {α : Type} (i : Instr) : List (Nat × List Int32) → Nat → pm_L → List Value → pe_H → (pm_L → List Value → pe_H → Option α) → Option α := match i with
  | .iadd => pe_f_iadd
  | .imul => pe_f_imul
  | .ior => pe_f_ior
  | .ixor => pe_f_ixor
  | .ishl => pe_f_ishl
  | .ishr => pe_f_ishr
  | .iushr => pe_f_iushr
  | .ladd => pe_f_ladd
  | .lsub => pe_f_lsub
  | .lmul => pe_f_lmul
  | .land => pe_f_land
  | .lor => pe_f_lor
  | .lxor => pe_f_lxor
  | .idiv => pe_f_idiv
  | .irem => pe_f_irem
  | .ldiv => pe_f_ldiv
  | .lrem => pe_f_lrem
  | .ineg => pe_f_ineg
  | .lneg => pe_f_lneg
  | .lushr => pe_f_lushr
  | .lshl => pe_f_lshl
  | .lshr => pe_f_lshr
  | .iand => pe_f_iand
  | .isub => pe_f_isub
  | .i2l => pe_f_i2l
  | .l2i => pe_f_l2i
  | .i2b => pe_f_i2b
  | .i2c => pe_f_i2c
  | .lcmp => pe_f_lcmp
  | .iconst n => pe_f_iconst n
  | .bipush n => pe_f_bipush n
  | .sipush n => pe_f_sipush n
  | .lconst n => pe_f_lconst n
  | .aconst_null => pe_f_aconst_null
  | .dup => pe_f_dup
  | .pop => pe_f_pop
  | .dup2 => pe_f_dup2
  | .dup_x1 => pe_f_dup_x1
  | .iload_n n => pe_f_iload_n n
  | .lload_n n => pe_f_lload_n n
  | .aload_n n => pe_f_aload_n n
  | .istore_n n => pe_f_istore_n n
  | .lstore_n n => pe_f_lstore_n n
  | .astore_n n => pe_f_astore_n n
  | .iload n => pe_f_iload n
  | .lload n => pe_f_lload n
  | .aload n => pe_f_aload n
  | .istore n => pe_f_istore n
  | .lstore n => pe_f_lstore n
  | .astore n => pe_f_astore n
  | .iinc i n => pe_f_iinc i n
  | .iaload => pe_f_iaload
  | .baload => pe_f_baload
  | .laload => pe_f_laload
  | .aaload => pe_f_aaload
  | .iastore => pe_f_iastore
  | .bastore => pe_f_bastore
  | .lastore => pe_f_lastore
  | .aastore => pe_f_aastore
  | .arraylength => pe_f_arraylength
  | .newarray ty => pe_f_newarray ty
  | _ => pe_f_no
def pe_op {α : Type} (xs : List (Nat × List Int32)) (mx : Nat) (i : Instr) (L : pm_L) (st : List Value) (h : pe_H) (k : pm_L → List Value → pe_H → Option α) : Option α := pe_sel i xs mx L st h k
def pe_c1 (c : ClassFile.Cond) (x : Int32) : Bool := match c with
  | .eq => decide (x = 0)
  | .ne => !(decide (x = 0))
  | .lt => decide (x < 0)
  | .ge => decide (0 ≤ x)
  | .gt => decide (0 < x)
  | .le => decide (x ≤ 0)
def pe_c2 (c : ClassFile.Cond) (x y : Int32) : Bool := match c with
  | .eq => decide (x = y)
  | .ne => !(decide (x = y))
  | .lt => decide (x < y)
  | .ge => decide (y ≤ x)
  | .gt => decide (y < x)
  | .le => decide (x ≤ y)
/-- what bounds say of a comparison with 0 -/
def pe_i1 (c : ClassFile.Cond) (lo hi : Int) : Option Bool := match c with
  | .eq => bif decide (0 < lo) || decide (hi < 0) then some false else none
  | .ne => bif decide (0 < lo) || decide (hi < 0) then some true else none
  | .lt => bif decide (hi < 0) then some true else bif decide (0 ≤ lo) then some false else none
  | .ge => bif decide (0 ≤ lo) then some true else bif decide (hi < 0) then some false else none
  | .gt => bif decide (0 < lo) then some true else bif decide (hi ≤ 0) then some false else none
  | .le => bif decide (hi ≤ 0) then some true else bif decide (0 < lo) then some false else none
def pe_cd1 {α : Type} (c : ClassFile.Cond) (st : List Value) (k : Bool → List Value → Option α) : Option α := match st with
  | .int x :: st => k (pe_c1 c x) st
  | .float b :: st => (match pe_fv b.toNat with
    | some (lo, hi) => (match pe_i1 c lo hi with
      | some r => k r st
      | none => none)
    | none => none)
  | _ => none
def pe_cd2 {α : Type} (c : ClassFile.Cond) (st : List Value) (k : Bool → List Value → Option α) : Option α := match st with
  | .int y :: .int x :: st => k (pe_c2 c x y) st
  | u :: v :: st => (match pe_ivv v, pe_ivv u with
    | some (l1, h1), some (l2, h2) => (match pe_i1 c (l1 - h2) (h1 - l2) with
      | some r => k r st
      | none => none)
    | _, _ => none)
  | _ => none
/-- a jump: whether it is taken -/
def pe_cd {α : Type} (i : Instr) (st : List Value) (k : Bool → List Value → Option α) : Option α := match i with
  | .goto _ => k true st
  | .ifCond c _ => pe_cd1 c st k
  | .if_icmp c _ => pe_cd2 c st k
  | .ifnull _ => pe_v st fun v st => bif pm_isR v then k (decide (v = .null)) st else none
  | .ifnonnull _ => pe_v st fun v st => bif pm_isR v then k (!(decide (v = .null))) st else none
  | _ => none
abbrev pe_S : Type := (Bool × Nat × Nat) ⊕ (Nat × List Nat) ⊕ (Nat × List Nat) ⊕ (Nat × List Nat) ⊕ (Nat × Nat × Option String × Nat) ⊕ (Nat × List Nat) ⊕ (Nat × Nat × List Nat) ⊕ (Nat × List Nat) ⊕ (Bool × Nat × Nat × Nat × Nat × Nat × List Nat) ⊕ (Nat × List Nat)
abbrev pe_HS : Type := List (Nat × Nat × List (Nat × Bool × String × Nat × Nat))
abbrev pe_I : Type := Instr ⊕ (Nat × Nat × Nat × Option String × Nat) ⊕ (Instr × Nat) ⊕ (Bool × Nat × Int32 × Nat) ⊕ (Nat × Nat × Nat × Nat × Option String × Nat) ⊕ (Nat × Nat × Nat × Nat × List Nat) ⊕ (Nat × Nat × Nat × List Nat) ⊕ (Nat × Nat × Nat × List Nat) ⊕ Nat ⊕ Instr ⊕ (Nat × Int64 × Nat) ⊕ (Instr × Nat × Int × List Nat × Nat) ⊕ (Nat × Nat × List Nat) ⊕ (Nat × Nat × List Nat) ⊕ (Nat × List Nat) ⊕ pe_S ⊕ (Instr × Nat × List (Int × Nat)) ⊕ Unit ⊕ (Nat × Nat × Nat × Nat × List Nat × pe_HS) ⊕ pe_HS
def pe_Mt : Type := MethodName × ByteArray × Nat × Option FieldType × List (Nat × Nat × Nat × Nat) × Nat × List (Nat × List pe_I)
def pe_Mt.y (m : pe_Mt) : MethodName := m.1
def pe_Mt.cc (m : pe_Mt) : ByteArray := m.2.1
def pe_Mt.mx (m : pe_Mt) : Nat := m.2.2.1
def pe_Mt.ret (m : pe_Mt) : Option FieldType := m.2.2.2.1
def pe_Mt.hh (m : pe_Mt) : List (Nat × Nat × Nat × Nat) := m.2.2.2.2.1
def pe_Mt.wp (m : pe_Mt) : Nat := m.2.2.2.2.2.1
def pe_Mt.bl (m : pe_Mt) : List (Nat × List pe_I) := m.2.2.2.2.2.2
def pe_jmp {α : Type} (mt : pe_Mt) (tb : Nat) (k : List pe_I → Option α) : Option α := match pe_at mt.bl tb with
  | some (_, is) => k is
  | none => none
def pe_tb (lo : Int) (ts : List Nat) (df : Nat) (x : Int32) : Nat := bif decide (x.toInt < lo) then df else match pe_at ts (x.toInt - lo).toNat with
  | some b => b
  | none => df
def pe_swk {α : Type} (lo : Int) (ts : List Nat) (df : Nat) (st : List Value) (k : Nat → List Value → Option α) : Option α := match st with
  | .int x :: st => k (pe_tb lo ts df x) st
  | .float b :: st => (match pe_fv b.toNat with
    | some (l1, h1) => bif decide (h1 < lo) || decide (lo + (ts.length : Int) ≤ l1) then k df st else none
    | none => none)
  | _ => none
def pe_lkk {α : Type} (i : Instr) (ofs : List (Int × Nat)) (x : Int32) (k : Nat → Option α) : Option α := match i with
  | .lookupswitch df ps => (match ofs.find? (fun q => q.1 == Op.lookupswitch.offset ps.toList df x.toInt) with
    | some q => k q.2
    | none => none)
  | _ => none
def pe_ft (tk : Nat) (v : Value) : Bool := match tk, v with
  | 0, .int _ => true
  | 1, .long _ => true
  | 2, .ref _ => true
  | 2, .null => true
  | 2, .retAddr _ => true
  | 3, .int x => decide (x = 0) || decide (x = 1)
  | _, _ => false
def pe_pop {α : Type} : Nat → List Value → List Value → (List Value → List Value → Option α) → Option α
  | 0, acc, st, k => k acc st
  | n + 1, acc, v :: st, k => pe_pop n (v :: acc) st k
  | _ + 1, _, [], _ => none
def pe_argk {α : Type} : Nat → List Value → (pm_L → Option α) → Option α
  | _, [], k => k []
  | i, v :: vs, k => pe_argk (bif Nat.beq v.category 2 then i + 2 else i + 1) vs (fun r => k ((i, v) :: r))
def pe_cat : List Value → Nat
  | [] => 0
  | v :: r => v.category + pe_cat r
def pe_rt (ret : Option FieldType) (i : Instr) (st : List Value) (h : pe_H) : Option (pm_O × pe_H) := match i, ret, st with
  | .return_, none, [] => some (.inl none, h)
  | .ireturn, some .int, [.int x] => some (.inl (some (.int x)), h)
  | .ireturn, some .boolean, [.int x] => bif decide (x = 0) || decide (x = 1) then some (.inl (some (.int x)), h) else none
  | .lreturn, some .long, [.long x] => some (.inl (some (.long x)), h)
  | .areturn, some (.object _), [v] => bif pm_isR v then some (.inl (some v), h) else none
  | .areturn, some (.array _), [v] => bif pm_isR v then some (.inl (some v), h) else none
  | _, _, _ => none
def pe_cpk {β : Type} (src : List (Nat × Int32)) (sp dp : Nat) : Nat → List (Nat × Int32) → (List (Nat × Int32) → β) → β
  | 0, c, k => k c
  | n + 1, c, k => pe_cpk src sp dp n c fun c => pe_fi (pe_lk 0 (sp + n) src) fun x => pe_insk (decide (x = 0)) (dp + n) x c k
def pe_cplk {β : Type} (src : List (Nat × Int64)) (sp dp : Nat) : Nat → List (Nat × Int64) → (List (Nat × Int64) → β) → β
  | 0, c, k => k c
  | n + 1, c, k => pe_cplk src sp dp n c fun c => pe_fl (pe_lk 0 (sp + n) src) fun x => pe_insk (decide (x = 0)) (dp + n) x c k
def pe_rowk {β : Type} (a : Nat) : Nat → List (Nat × Option Nat) → (List (Nat × Option Nat) → β) → β
  | 0, c, k => k c
  | m + 1, c, k => pe_fn (a + m) fun x => pe_rowk a m ((m, some x) :: c) k
def pe_row (a : Nat) : Nat → List (Nat × Option Nat) → List (Nat × Option Nat)
  | 0, c => c
  | m + 1, c => pe_row a m ((m, some (a + m)) :: c)
theorem pe_rowk_eq {β : Type} (a m : Nat) : ∀ (c : List (Nat × Option Nat)) (k : List (Nat × Option Nat) → β), pe_rowk a m c k = k (pe_row a m c) := by
  induction m with
  | zero => intro c k; rfl
  | succ m ih =>
    intro c k
    unfold pe_rowk pe_row
    rw [pe_fn_eq]
    exact ih _ k
theorem pe_row_lk (a m : Nat) : ∀ (c : List (Nat × Option Nat)) (j : Nat), (∀ q ∈ c, m ≤ q.1) → pe_lk none j (pe_row a m c) = if j < m then some (a + j) else pe_lk none j c := by
  induction m with
  | zero => intro c j _; rfl
  | succ m ih =>
    intro c j hc
    unfold pe_row
    rw [ih _ j (fun q hq => by
      rcases List.mem_cons.mp hq with rfl | hq
      · exact Nat.le_refl _
      · exact Nat.le_of_succ_le (hc q hq))]
    by_cases h1 : j < m
    · rw [if_pos h1, if_pos (Nat.lt_succ_of_lt h1)]
    · rw [if_neg h1]
      show (bif Nat.beq m j then some (a + m) else pe_lk none j c) = _
      by_cases h2 : j = m
      · subst h2; rw [Nat.beq_refl, if_pos (Nat.lt_succ_self _)]; rfl
      · rw [if_neg (by omega)]
        cases hb : Nat.beq m j
        · rfl
        · exact absurd (Nat.eq_of_beq_eq_true hb).symm h2
def pe_repk {β : Type} (y : pe_E) : Nat → pe_H → (pe_H → β) → β
  | 0, h, k => k h
  | m + 1, h, k => pe_pushk y h fun h => pe_repk y m h k
theorem pe_repk_eq {β : Type} (y : pe_E) (m : Nat) : ∀ (h : pe_H) (k : pe_H → β), pe_repk y m h k = k (h ++ List.replicate m y) := by
  induction m with
  | zero => intro h k; show k h = _; rw [List.replicate_zero, List.append_nil]
  | succ m ih =>
    intro h k
    unfold pe_repk
    rw [pe_pushk_eq, ih, List.append_assoc]
    rfl
theorem pe_argk_eq {α : Type} (vs : List Value) : ∀ (i : Nat) (k : pm_L → Option α), pe_argk i vs k = k (pm_args i vs) := by
  induction vs with
  | nil => intro i k; rfl
  | cons v t ih =>
    intro i k
    unfold pe_argk
    rw [ih]
    have h1 : (bif Nat.beq v.category 2 then i + 2 else i + 1) = if v.category = 2 then i + 2 else i + 1 := by
      cases hb : Nat.beq v.category 2
      · rw [if_neg (Nat.ne_of_beq_eq_false hb)]; rfl
      · rw [if_pos (Nat.eq_of_beq_eq_true hb)]; rfl
    rw [h1]
    rfl
/-- a call whose throw is caught here -/
def pe_calx {α : Type} (rc : Nat → pe_Mt → List pe_I → pm_L → List Value → pe_H → Option (pm_O × pe_H)) (ms : List pe_Mt) (d mi : Nat) (av st : List Value) (h : pe_H) (k : List Value → pe_H → Option α) (kt : Nat → pe_H → Option α) : Option α := match pe_at ms mi, d with
  | some m2, d2 + 1 => bif Nat.ble (pe_cat st) 8 && (Nat.ble m2.mx 41 && Nat.ble (pe_cat av) m2.mx) then pe_jmp m2 0 (fun is => pe_argk 0 av (fun L2 => match rc d2 m2 is L2 [] h with
    | some (.inl none, h) => k st h
    | some (.inl (some v), h) => k (v :: st) h
    | some (.inr x, h) => kt x h
    | none => none)) else none
  | _, _ => none
/-- where a thrown object goes on -/
def pe_ctk {α : Type} (hdl : pe_HS) (x : Nat) (h : pe_H) (k : Nat → Option α) : Option α := match pe_at h x with
  | some (.inr (.inl (ci, _))) => (match hdl.find? (fun q => Nat.beq q.1 ci) with
    | some q => k q.2.1
    | none => none)
  | _ => none
/-- the length and the signs of an outer text; a copy of bytes -/
def pe_slk {α : Type} (xs : List (Nat × List Int32)) (st : List Value) (k : Int32 → List Value → Option α) : Option α := match st with
  | .retAddr j :: st => (match pe_at xs j with
    | some (0, tx) => pe_fi (Int32.ofNat tx.length) (fun z => k z st)
    | _ => none)
  | _ => none
def pe_sck {α : Type} (xs : List (Nat × List Int32)) (st : List Value) (k : Int32 → List Value → Option α) : Option α := match st with
  | .int i :: .retAddr j :: st => (match pe_at xs j with
    | some (0, tx) => bif pe_inb i tx.length then (match pe_at tx i.toNatClampNeg with
      | some z => k z st
      | none => none) else none
    | _ => none)
  | _ => none
/-- the first place of a sign in an outer text -/
def pe_ixf (z : Int32) : List Int32 → Nat → Option Nat
  | [], _ => none
  | a :: r, n => bif decide (a = z) then some n else pe_ixf z r (n + 1)
def pe_ixo (z : Int32) (tx : List Int32) : Int32 := match pe_ixf z tx 0 with
  | some n => Int32.ofNat n
  | none => -1
def pe_sik {α : Type} (xs : List (Nat × List Int32)) (st : List Value) (k : Int32 → List Value → Option α) : Option α := match st with
  | .int i :: .retAddr j :: st => (match pe_at xs j with
    | some (0, tx) => bif pe_inb i 128 && Nat.blt 0 tx.length then pe_fi (pe_ixo i tx) (fun z => k z st) else none
    | _ => none)
  | _ => none
def pe_fB (c : List (Nat × Int32)) (sp : Nat) : Nat → Bool
  | 0 => true
  | n + 1 => fits .byte (.int (pe_lk 0 (sp + n) c)) && pe_fB c sp n
def pe_okc (d : Nat) (n sp dp : Int32) (n1 n2 : Nat) (st : List Value) : Bool := !(decide (n < 0)) && (!(decide (sp < 0)) && (!(decide (dp < 0)) && (Nat.ble (sp.toNatClampNeg + n.toNatClampNeg) n1 && (Nat.ble (dp.toNatClampNeg + n.toNatClampNeg) n2 && (Nat.blt 0 d && Nat.ble (pe_cat st) 8)))))
def pe_isl (h : pe_H) (a : Nat) : Bool := match pe_at h a with
  | some (.inr (.inr (.inr ((_, _, _))))) => true
  | _ => false
def pe_ack {α : Type} (d : Nat) (h : pe_H) (st : List Value) (k : List Value → pe_H → Option α) : Option α := match st with
  | .int n :: .int dp :: .ref b :: .int sp :: .ref a :: st => bif pe_isl h a then pe_arl h a (fun t1 n1 c1 => pe_arl h b (fun t2 n2 c2 => bif Nat.beq t1 1 && (Nat.beq t2 1 && pe_okc d n sp dp n1 n2 st) then pe_cplk c1 sp.toNatClampNeg dp.toNatClampNeg n.toNatClampNeg c2 (fun c2 => pe_setk (.inr (.inr (.inr ((t2, n2, c2))))) h b (fun h => k st h)) else none)) else pe_ari h a (fun t1 n1 c1 => pe_ari h b (fun t2 n2 c2 => bif Nat.beq t1 t2 && ((Nat.beq t1 0 || (Nat.beq t1 2 && pe_fB c1 sp.toNatClampNeg n.toNatClampNeg)) && pe_okc d n sp dp n1 n2 st) then pe_cpk c1 sp.toNatClampNeg dp.toNatClampNeg n.toNatClampNeg c2 (fun c2 => pe_setk (.inl (t2, n2, c2)) h b (fun h => k st h)) else none))
  | _ => none
/-- a loop that sets the elements of one boolean array to false -/
def pe_zlk {α : Type} (L : pm_L) (h : pe_H) (k : pe_H → Option α) : Option α := match L with
  | [(1, .int z), (0, .ref a)] => bif decide (z = 0) then pe_obj h a 15 (fun vs => match pe_at vs 97 with
    | some (.ref b) => pe_ari h b (fun t n c => bif Nat.beq t 3 && (Nat.beq n 4000 && c.all (fun q => Nat.blt q.1 4000)) then pe_setk (.inl (3, 4000, [])) h b k else none)
    | _ => none) else none
  | _ => none
/-- a throw out of the method -/
def pe_thk (st : List Value) (h : pe_H) : Option (pm_O × pe_H) := match st with
  | .ref x :: _ => some (.inr x, h)
  | _ => none
/-- instructions of their own kind: texts, statics, rows of rows, copies -/
def pe_spk {α : Type} (xs : List (Nat × List Int32)) (d : Nat) (i : pe_S) (L : pm_L) (st : List Value) (h : pe_H) (k : List Value → pe_H → Option α) : Option α := match i with
  | .inl (_, _, j) => k (.retAddr j :: st) h
  | .inr (.inr (.inr (.inr (.inl (_, j, _, _))))) => k (.retAddr j :: st) h
  | .inr (.inr (.inr (.inr (.inr (.inl (_, _)))))) => pe_2i st (fun m n st => bif !(decide (n < 0)) && (!(decide (m < 0)) && (Nat.ble (n.toNatClampNeg * 8) 536870912 && Nat.ble (m.toNatClampNeg * 8) 536870912)) then pe_fn n.toNatClampNeg (fun N => pe_fn m.toNatClampNeg (fun M => pe_fn h.length (fun a => pe_rowk (a + 1) M [] (fun c => pe_pushk (.inr (.inr (.inl (5, M, c)))) h (fun h => pe_repk (.inl (0, N, [])) M h (fun h => k (.ref a :: st) h)))))) else none)
  | .inr (.inr (.inr (.inl (_, _)))) => bif Nat.ble 2 d then pe_slk xs st (fun z st => bif Nat.ble (pe_cat st) 8 then k (.int z :: st) h else none) else none
  | .inr (.inl (_, _)) => bif Nat.ble 4 d then pe_sck xs st (fun z st => bif Nat.ble (pe_cat st) 8 then k (.int z :: st) h else none) else none
  | .inr (.inr (.inl (_, _))) => pe_ack d h st k
  | .inr (.inr (.inr (.inr (.inr (.inr (.inr (.inr (.inr ((_, _)))))))))) => bif Nat.ble 4 d then pe_sik xs st (fun z st => bif Nat.ble (pe_cat st) 8 then k (.int z :: st) h else none) else none
  | .inr (.inr (.inr (.inr (.inr (.inr (.inl (_, _, _))))))) => bif Nat.ble 6 d && Nat.ble (pe_cat st + 81) (d * 60) then pe_fn h.length (fun a => pe_pushk (.inr (.inl (11, [.ref a, .float 774, .float 775, .null, .null, .int 0, .int 0, .int 0]))) h (fun h => k (.ref a :: st) h)) else none
  | .inr (.inr (.inr (.inr (.inr (.inr (.inr (.inl (_, _)))))))) => pe_zlk L h (fun h => k st h)
  | .inr (.inr (.inr (.inr (.inr (.inr (.inr (.inr (.inl (_, _, _, _, j, ci, _))))))))) => bif Nat.ble 6 d && Nat.ble (pe_cat st + 82) (d * 60) then pe_fn h.length (fun a => pe_pushk (.inr (.inl (ci, [.ref a, .float 774, .float 775, .retAddr j, .null, .int 0]))) h (fun h => k (.ref a :: st) h)) else none
def pe_G : Type := List pe_Mt × List (List Value) × List (Nat × List Int32)
def pe_G.ms (G : pe_G) : List pe_Mt := G.1
def pe_G.dv (G : pe_G) : List (List Value) := G.2.1
def pe_G.xs (G : pe_G) : List (Nat × List Int32) := G.2.2
def pe_a_o (i : Instr) (G : pe_G) (rk : Nat → pe_Mt → List pe_I → pm_L → List Value → pe_H → Option (pm_O × pe_H)) (d : Nat) (mt : pe_Mt) (rest : List pe_I) (L : pm_L) (st : List Value) (h : pe_H) : Option (pm_O × pe_H) := pe_op G.xs mt.mx i L st h (fun L st h => rk d mt rest L st h)
def pe_a_br (i : Instr) (tb : Nat) (G : pe_G) (rk : Nat → pe_Mt → List pe_I → pm_L → List Value → pe_H → Option (pm_O × pe_H)) (d : Nat) (mt : pe_Mt) (rest : List pe_I) (L : pm_L) (st : List Value) (h : pe_H) : Option (pm_O × pe_H) := pe_cd i st (fun b st => bif b then pe_jmp mt tb (fun is => rk d mt is L st h) else rk d mt rest L st h)
def pe_a_fall (tb : Nat) (G : pe_G) (rk : Nat → pe_Mt → List pe_I → pm_L → List Value → pe_H → Option (pm_O × pe_H)) (d : Nat) (mt : pe_Mt) (rest : List pe_I) (L : pm_L) (st : List Value) (h : pe_H) : Option (pm_O × pe_H) := pe_jmp mt tb (fun is => rk d mt is L st h)
def pe_a_sw (lo : Int) (ts : List Nat) (df : Nat) (G : pe_G) (rk : Nat → pe_Mt → List pe_I → pm_L → List Value → pe_H → Option (pm_O × pe_H)) (d : Nat) (mt : pe_Mt) (rest : List pe_I) (L : pm_L) (st : List Value) (h : pe_H) : Option (pm_O × pe_H) := pe_swk lo ts df st (fun tb st => pe_jmp mt tb (fun is => rk d mt is L st h))
def pe_a_gf (ci : Nat) (k0 : Nat) (G : pe_G) (rk : Nat → pe_Mt → List pe_I → pm_L → List Value → pe_H → Option (pm_O × pe_H)) (d : Nat) (mt : pe_Mt) (rest : List pe_I) (L : pm_L) (st : List Value) (h : pe_H) : Option (pm_O × pe_H) := pe_rf st (fun a st => pe_obj h a ci (fun vs => match pe_at vs k0 with
        | some v => rk d mt rest L (v :: st) h
        | none => none))
def pe_a_pf (ci : Nat) (k0 : Nat) (tk : Nat) (G : pe_G) (rk : Nat → pe_Mt → List pe_I → pm_L → List Value → pe_H → Option (pm_O × pe_H)) (d : Nat) (mt : pe_Mt) (rest : List pe_I) (L : pm_L) (st : List Value) (h : pe_H) : Option (pm_O × pe_H) := pe_irf st (fun a v st => bif pe_ft tk v then pe_obj h a ci (fun vs => bif Nat.blt k0 vs.length then pe_setk v vs k0 (fun vs => pe_setk (.inr (.inl (ci, vs))) h a (fun h => rk d mt rest L st h)) else none) else none)
def pe_a_ki (v : Int32) (G : pe_G) (rk : Nat → pe_Mt → List pe_I → pm_L → List Value → pe_H → Option (pm_O × pe_H)) (d : Nat) (mt : pe_Mt) (rest : List pe_I) (L : pm_L) (st : List Value) (h : pe_H) : Option (pm_O × pe_H) := rk d mt rest L (.int v :: st) h
def pe_a_kl (v : Int64) (G : pe_G) (rk : Nat → pe_Mt → List pe_I → pm_L → List Value → pe_H → Option (pm_O × pe_H)) (d : Nat) (mt : pe_Mt) (rest : List pe_I) (L : pm_L) (st : List Value) (h : pe_H) : Option (pm_O × pe_H) := rk d mt rest L (.long v :: st) h
def pe_a_nw (ci : Nat) (G : pe_G) (rk : Nat → pe_Mt → List pe_I → pm_L → List Value → pe_H → Option (pm_O × pe_H)) (d : Nat) (mt : pe_Mt) (rest : List pe_I) (L : pm_L) (st : List Value) (h : pe_H) : Option (pm_O × pe_H) := match pe_at G.dv ci with
        | some vs => pe_fn h.length (fun a => pe_pushk (.inr (.inl (ci, vs))) h (fun h => rk d mt rest L (.ref a :: st) h))
        | none => none
def pe_a_nq (t : Nat) (G : pe_G) (rk : Nat → pe_Mt → List pe_I → pm_L → List Value → pe_H → Option (pm_O × pe_H)) (d : Nat) (mt : pe_Mt) (rest : List pe_I) (L : pm_L) (st : List Value) (h : pe_H) : Option (pm_O × pe_H) := pe_1i st (fun n st => bif !(decide (n < 0)) && Nat.ble (n.toNatClampNeg * 8) 536870912 then pe_fn n.toNatClampNeg (fun N => pe_fn h.length (fun a => pe_pushk (.inr (.inr (.inl (t, N, [])))) h (fun h => rk d mt rest L (.ref a :: st) h))) else none)
def pe_a_obj  (G : pe_G) (rk : Nat → pe_Mt → List pe_I → pm_L → List Value → pe_H → Option (pm_O × pe_H)) (d : Nat) (mt : pe_Mt) (rest : List pe_I) (L : pm_L) (st : List Value) (h : pe_H) : Option (pm_O × pe_H) := pe_rf st (fun _ st => bif Nat.blt 0 d && Nat.ble (pe_cat st + 12) (d * 60) then rk d mt rest L st h else none)
def pe_a_cs (mi : Nat) (n : Nat) (G : pe_G) (rk : Nat → pe_Mt → List pe_I → pm_L → List Value → pe_H → Option (pm_O × pe_H)) (d : Nat) (mt : pe_Mt) (rest : List pe_I) (L : pm_L) (st : List Value) (h : pe_H) : Option (pm_O × pe_H) := pe_pop n [] st (fun As st => pe_calx (fun d m is L st h => rk d m is L st h) G.ms d mi As st h (fun st h => rk d mt rest L st h) (fun x h => bif mt.hh.isEmpty then some (.inr x, h) else none))
def pe_a_cv (mi : Nat) (n : Nat) (rc : Nat) (G : pe_G) (rk : Nat → pe_Mt → List pe_I → pm_L → List Value → pe_H → Option (pm_O × pe_H)) (d : Nat) (mt : pe_Mt) (rest : List pe_I) (L : pm_L) (st : List Value) (h : pe_H) : Option (pm_O × pe_H) := pe_pop n [] st (fun As st => pe_rf st (fun b st => pe_obj h b rc (fun _ => pe_calx (fun d m is L st h => rk d m is L st h) G.ms d mi (.ref b :: As) st h (fun st h => rk d mt rest L st h) (fun x h => bif mt.hh.isEmpty then some (.inr x, h) else none))))
def pe_a_ci (mi : Nat) (n : Nat) (G : pe_G) (rk : Nat → pe_Mt → List pe_I → pm_L → List Value → pe_H → Option (pm_O × pe_H)) (d : Nat) (mt : pe_Mt) (rest : List pe_I) (L : pm_L) (st : List Value) (h : pe_H) : Option (pm_O × pe_H) := pe_pop n [] st (fun As st => pe_rf st (fun b st => pe_calx (fun d m is L st h => rk d m is L st h) G.ms d mi (.ref b :: As) st h (fun st h => rk d mt rest L st h) (fun x h => bif mt.hh.isEmpty then some (.inr x, h) else none)))
def pe_a_lw (i : Instr) (ofs : List (Int × Nat)) (G : pe_G) (rk : Nat → pe_Mt → List pe_I → pm_L → List Value → pe_H → Option (pm_O × pe_H)) (d : Nat) (mt : pe_Mt) (rest : List pe_I) (L : pm_L) (st : List Value) (h : pe_H) : Option (pm_O × pe_H) := pe_1i st (fun x st => pe_lkk i ofs x (fun tb => pe_jmp mt tb (fun is => rk d mt is L st h)))
def pe_a_sp (i : pe_S) (G : pe_G) (rk : Nat → pe_Mt → List pe_I → pm_L → List Value → pe_H → Option (pm_O × pe_H)) (d : Nat) (mt : pe_Mt) (rest : List pe_I) (L : pm_L) (st : List Value) (h : pe_H) : Option (pm_O × pe_H) := pe_spk G.xs d i L st h (fun st h => rk d mt rest L st h)
def pe_a_rt (i : Instr) (G : pe_G) (rk : Nat → pe_Mt → List pe_I → pm_L → List Value → pe_H → Option (pm_O × pe_H)) (d : Nat) (mt : pe_Mt) (rest : List pe_I) (L : pm_L) (st : List Value) (h : pe_H) : Option (pm_O × pe_H) := pe_rt mt.ret i st h
def pe_a_th  (G : pe_G) (rk : Nat → pe_Mt → List pe_I → pm_L → List Value → pe_H → Option (pm_O × pe_H)) (d : Nat) (mt : pe_Mt) (rest : List pe_I) (L : pm_L) (st : List Value) (h : pe_H) : Option (pm_O × pe_H) := pe_thk st h
def pe_a_tc (hdl : pe_HS) (G : pe_G) (rk : Nat → pe_Mt → List pe_I → pm_L → List Value → pe_H → Option (pm_O × pe_H)) (d : Nat) (mt : pe_Mt) (rest : List pe_I) (L : pm_L) (st : List Value) (h : pe_H) : Option (pm_O × pe_H) := pe_rf st (fun x _ => pe_ctk hdl x h (fun tb => pe_jmp mt tb (fun is => rk d mt is L [.ref x] h)))
def pe_a_cx (mi : Nat) (n : Nat) (rc : Nat) (hdl : pe_HS) (G : pe_G) (rk : Nat → pe_Mt → List pe_I → pm_L → List Value → pe_H → Option (pm_O × pe_H)) (d : Nat) (mt : pe_Mt) (rest : List pe_I) (L : pm_L) (st : List Value) (h : pe_H) : Option (pm_O × pe_H) := pe_pop n [] st (fun As st => pe_rf st (fun b st => pe_obj h b rc (fun _ => pe_calx (fun d m is L st h => rk d m is L st h) G.ms d mi (.ref b :: As) st h (fun st h => rk d mt rest L st h) (fun x h => pe_ctk hdl x h (fun tb => pe_jmp mt tb (fun is => rk d mt is L [.ref x] h))))))
def pe_alt (i : pe_I) : pe_G → (Nat → pe_Mt → List pe_I → pm_L → List Value → pe_H → Option (pm_O × pe_H)) → Nat → pe_Mt → List pe_I → pm_L → List Value → pe_H → Option (pm_O × pe_H) := match i with
  | .inl i => pe_a_o i
  | .inr (.inr (.inl (i, tb))) => pe_a_br i tb
  | .inr (.inr (.inr (.inr (.inr (.inr (.inr (.inr (.inl tb)))))))) => pe_a_fall tb
  | .inr (.inr (.inr (.inr (.inr (.inr (.inr (.inr (.inr (.inr (.inr (.inl (_, _, lo, ts, df)))))))))))) => pe_a_sw lo ts df
  | .inr (.inl (_, ci, k0, _, _)) => pe_a_gf ci k0
  | .inr (.inr (.inr (.inr (.inl (_, ci, k0, tk, _, _))))) => pe_a_pf ci k0 tk
  | .inr (.inr (.inr (.inl (_, _, v, _)))) => pe_a_ki v
  | .inr (.inr (.inr (.inr (.inr (.inr (.inr (.inr (.inr (.inr (.inl (_, v, _))))))))))) => pe_a_kl v
  | .inr (.inr (.inr (.inr (.inr (.inr (.inr (.inr (.inr (.inr (.inr (.inr (.inl (_, ci, _))))))))))))) => pe_a_nw ci
  | .inr (.inr (.inr (.inr (.inr (.inr (.inr (.inr (.inr (.inr (.inr (.inr (.inr (.inl (_, t, _)))))))))))))) => pe_a_nq t
  | .inr (.inr (.inr (.inr (.inr (.inr (.inr (.inr (.inr (.inr (.inr (.inr (.inr (.inr (.inl (_, _))))))))))))))) => pe_a_obj
  | .inr (.inr (.inr (.inr (.inr (.inr (.inl (_, mi, n, _))))))) => pe_a_cs mi n
  | .inr (.inr (.inr (.inr (.inr (.inl (_, mi, n, rc, _)))))) => pe_a_cv mi n rc
  | .inr (.inr (.inr (.inr (.inr (.inr (.inr (.inl (_, mi, n, _)))))))) => pe_a_ci mi n
  | .inr (.inr (.inr (.inr (.inr (.inr (.inr (.inr (.inr (.inr (.inr (.inr (.inr (.inr (.inr (.inr (.inl (i, _, ofs))))))))))))))))) => pe_a_lw i ofs
  | .inr (.inr (.inr (.inr (.inr (.inr (.inr (.inr (.inr (.inr (.inr (.inr (.inr (.inr (.inr (.inl i))))))))))))))) => pe_a_sp i
  | .inr (.inr (.inr (.inr (.inr (.inr (.inr (.inr (.inr (.inl i))))))))) => pe_a_rt i
  | .inr (.inr (.inr (.inr (.inr (.inr (.inr (.inr (.inr (.inr (.inr (.inr (.inr (.inr (.inr (.inr (.inr (.inl ())))))))))))))))))  => pe_a_th
  | .inr (.inr (.inr (.inr (.inr (.inr (.inr (.inr (.inr (.inr (.inr (.inr (.inr (.inr (.inr (.inr (.inr (.inr (.inr hdl)))))))))))))))))) => pe_a_tc hdl
  | .inr (.inr (.inr (.inr (.inr (.inr (.inr (.inr (.inr (.inr (.inr (.inr (.inr (.inr (.inr (.inr (.inr (.inr (.inl (_, mi, n, rc, _, hdl))))))))))))))))))) => pe_a_cx mi n rc hdl
def pe_go (G : pe_G) : Nat → Nat → pe_Mt → List pe_I → pm_L → List Value → pe_H → Option (pm_O × pe_H)
  | 0, _, _, _, _, _, _ => none
  | f + 1, d, mt, is, L, st, h => match is with
    | [] => none
    | i :: rest => pe_alt i G (fun d m is L st h => pe_go G f d m is L st h) d mt rest L st h
end EV
