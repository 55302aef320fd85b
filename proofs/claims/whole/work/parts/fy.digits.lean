/-! PART fy: how numbers are spelled. -/
section Wfy
variable {n m k f : Nat} {b : Bool} {x y v : Int}
/-- a number by sign and size -/
def sgV (b : Bool) (n : Nat) : Int := if b = true then -(n : Int) else (n : Int)
theorem sgV_of (v : Int) : v = sgV (decide (v < 0)) v.natAbs := by
  unfold sgV
  by_cases c : v < 0
  · rw [if_pos (decide_eq_true c)]; omega
  · rw [if_neg (by rw [decide_eq_false c]; decide)]; omega
theorem sgV_rg (h : n ≤ 9223372036854775807) : -9223372036854775808 ≤ sgV b n ∧ sgV b n ≤ 9223372036854775807 := by
  unfold sgV
  split <;> omega
def sgR (b : Bool) (n : Nat) : Prop := -9223372036854775808 ≤ sgV b n ∧ sgV b n ≤ 9223372036854775807
theorem sgR_le (h : sgR b n) (hm : m ≤ n) : sgR b m := by
  unfold sgR sgV at h ⊢
  cases b with
  | true => rw [if_pos rfl] at h ⊢; omega
  | false => rw [if_neg (by decide)] at h ⊢; omega
theorem td_s : Int.tdiv (sgV b n) (m : Int) = sgV b (n / m) := by
  unfold sgV
  cases b with
  | true => rw [if_pos rfl, if_pos rfl, Int.neg_tdiv, ← Int.ofNat_tdiv]
  | false => rw [if_neg (by decide), if_neg (by decide), ← Int.ofNat_tdiv]
/-- division and remainder of longs -/
theorem ld_s (h : sgR b n) (hm : 1 ≤ m ∧ m ≤ 9223372036854775807) : wb_ldiv (sgV b n) (m : Int) = sgV b (n / m) := by
  have h2 := sgR_le h (Nat.div_le_self n m)
  show (Int64.ofInt (sgV b n) / Int64.ofInt (m : Int)).toInt = _
  rw [Int64.toInt_div, Int64.toInt_ofInt_of_le (n := sgV b n) (by have := h.1; omega) (by have := h.2; omega), Int64.toInt_ofInt_of_le (n := (m : Int)) (by omega) (by omega), td_s]
  exact (Int64.toInt_ofInt (n := sgV b (n / m))).symm.trans (w64_id h2)
theorem lr_s (h : sgR b n) (hm : 1 ≤ m ∧ m ≤ 9223372036854775807) : wb_lrem (sgV b n) (m : Int) = sgV b (n % m) := by
  have h1 : Int64.ofInt (sgV b n) / Int64.ofInt (m : Int) = Int64.ofInt (sgV b (n / m)) := Int64.toInt_inj.1 ((ld_s h hm).trans (w64_id (sgR_le h (Nat.div_le_self n m))).symm)
  show (Int64.ofInt (sgV b n) - Int64.ofInt (sgV b n) / Int64.ofInt (m : Int) * Int64.ofInt (m : Int)).toInt = _
  have e : sgV b n - sgV b (n / m) * (m : Int) = sgV b (n % m) := by
    have d := Nat.div_add_mod n m
    have d2 : ((n / m : Nat) : Int) * (m : Int) + ((n % m : Nat) : Int) = (n : Int) := by
      rw [Int.mul_comm]; exact_mod_cast d
    unfold sgV
    cases b with
    | true => rw [if_pos rfl, if_pos rfl, if_pos rfl, Int.neg_mul]; omega
    | false => rw [if_neg (by decide), if_neg (by decide), if_neg (by decide)]; omega
  rw [h1, ← Int64.ofInt_mul, ← Int64.ofInt_sub, e]
  exact w64_id (sgR_le h (Nat.mod_le n m))
/-- digits, from the right -/
def dgF : Nat → Nat → List Int
  | 0, _ => []
  | f + 1, n => if n < 10 then [48 + (n : Int)] else dgF f (n / 10) ++ [48 + ((n % 10 : Nat) : Int)]
theorem dgF_1 (h : n < 10) : dgF (f + 1) n = [48 + (n : Int)] := if_pos h
theorem dgF_n (h : ¬ n < 10) : dgF (f + 1) n = dgF f (n / 10) ++ [48 + ((n % 10 : Nat) : Int)] := if_neg h
theorem dgF_len : ∀ (f n : Nat), (dgF f n).length ≤ f
  | 0, _ => Nat.le_refl _
  | f + 1, n => by
    by_cases c : n < 10
    · rw [dgF_1 c]; exact Nat.succ_le_succ (Nat.zero_le _)
    · rw [dgF_n c, List.length_append]; exact Nat.succ_le_succ (dgF_len f (n / 10))
theorem dgF_rg : ∀ (f n : Nat) (x : Int), x ∈ dgF f n → 48 ≤ x ∧ x ≤ 57
  | 0, _, _, h => absurd h List.not_mem_nil
  | f + 1, n, x, h => by
    by_cases c : n < 10
    · rw [dgF_1 c] at h
      rw [List.mem_singleton.mp h]; omega
    · rw [dgF_n c] at h
      rcases List.mem_append.mp h with z | z
      · exact dgF_rg f (n / 10) x z
      · rw [List.mem_singleton.mp z]; omega
/-- what a number prints -/
def shN (v : Int) : List Int := (if v < 0 then [45] else []) ++ dgF 20 v.natAbs
/-- digits of k + 1 places -/
def dgU : Nat → Nat → List Int
  | 0, n => [48 + ((n % 10 : Nat) : Int)]
  | k + 1, n => dgU k (n / 10) ++ [48 + ((n % 10 : Nat) : Int)]
theorem dgU_c : ∀ k n : Nat, dgU (k + 1) n = (48 + ((n / 10 ^ (k + 1) % 10 : Nat) : Int)) :: dgU k n
  | 0, n => rfl
  | k + 1, n => by
    have e : 10 * 10 ^ (k + 1) = 10 ^ (k + 1 + 1) := by rw [Nat.pow_succ 10 (k + 1), Nat.mul_comm]
    show dgU (k + 1) (n / 10) ++ [48 + ((n % 10 : Nat) : Int)] = _
    rw [dgU_c k (n / 10), Nat.div_div_eq_div_mul, e]
    rfl
theorem dgF_U : ∀ k f n : Nat, k < f → n / 10 ^ k < 10 → (k = 0 ∨ 10 ^ k ≤ n) → dgF f n = dgU k n
  | _, 0, _, h, _, _ => absurd h (Nat.not_lt_zero _)
  | 0, f + 1, n, _, h, _ => by
    have h2 : n < 10 := by
      rw [Nat.pow_zero, Nat.div_one] at h
      exact h
    rw [dgF_1 h2]
    show [48 + (n : Int)] = [48 + ((n % 10 : Nat) : Int)]
    rw [Nat.mod_eq_of_lt h2]
  | k + 1, f + 1, n, hf, h, hk => by
    have h1 : 10 ^ (k + 1) ≤ n := hk.elim (fun z => absurd z (Nat.succ_ne_zero k)) id
    have e : 10 ^ (k + 1) = 10 ^ k * 10 := Nat.pow_succ 10 k
    have p := (Nat.pow_pos (by decide) : 0 < 10 ^ k)
    have h3 : ¬ n < 10 := by omega
    rw [dgF_n h3]
    show dgF f (n / 10) ++ [48 + ((n % 10 : Nat) : Int)] = dgU k (n / 10) ++ [48 + ((n % 10 : Nat) : Int)]
    rw [dgF_U k f (n / 10) (Nat.lt_of_succ_lt_succ hf) (by rw [Nat.div_div_eq_div_mul, Nat.mul_comm, ← e]; exact h) (Or.inr (by omega))]
end Wfy
