/-! PART 41: feed's answers are the same. -/
def fb_U (v : Int64) : Nat → Int32 → List Int32
  | 0, _ => []
  | f + 1, k => rf_by v k :: fb_U v f (k + Int32.ofInt 8)
def fb_D (v : Int64) : Nat → Int32 → List Int32
  | 0, _ => []
  | f + 1, k => rf_by v k :: fb_D v f (k + Int32.ofInt (-8))
def fb_C (x y : Int64) : Nat → Int32 → List Int32
  | 0, _ => []
  | f + 1, i => cf_by x y i :: fb_C x y f (i + Int32.ofInt 1)
def fb_z (b : Int32) : Bool := !(decide (b = 0))
def fb_b (b : Int32) : Bool := fb_z b && !(cf_sg b)
theorem fb_sg (v : Int64) : ∀ (f : Nat) (k n : Int32), rf_sg v f k n = if (fb_U v f k).any rf_bad = true then Int32.ofInt (-1) else n + nI ((fb_U v f k).countP fb_z) := by
  intro f
  induction f with
  | zero =>
    intro k n
    rw [if_neg (by intro q; cases q)]
    show n = n + nI 0
    rw [nI_0, Int32.add_zero]
  | succ f ih =>
    intro k n
    show (if rf_bad (rf_by v k) = true then Int32.ofInt (-1) else rf_sg v f (k + Int32.ofInt 8) (n + if rf_by v k = 0 then Int32.ofInt 0 else Int32.ofInt 1)) = if ((rf_by v k :: fb_U v f (k + Int32.ofInt 8)).any rf_bad) = true then Int32.ofInt (-1) else n + nI ((rf_by v k :: fb_U v f (k + Int32.ofInt 8)).countP fb_z)
    rw [List.any_cons, List.countP_cons]
    cases hb : rf_bad (rf_by v k) with
    | true => rw [if_pos rfl, Bool.true_or, if_pos rfl]
    | false =>
      rw [if_neg (by intro q; cases q), ih, Bool.false_or]
      by_cases ha : (fb_U v f (k + Int32.ofInt 8)).any rf_bad = true
      · rw [if_pos ha, if_pos ha]
      · rw [if_neg ha, if_neg ha]
        by_cases hz : rf_by v k = 0
        · rw [if_pos hz, if_neg (by unfold fb_z; rw [decide_eq_true hz]; intro q; cases q), Nat.add_zero, show Int32.ofInt 0 = 0 from rfl, Int32.add_zero]
        · rw [if_neg hz, if_pos (by unfold fb_z; rw [decide_eq_false hz]; rfl), show Int32.ofInt 1 = 1 from rfl, nI_succ, Int32.add_assoc, Int32.add_comm 1]
theorem fb_ty (v : Int64) : ∀ (f : Nat) (k : Int32) (n : Nat) (g : Nat → Int32), (rf_ty v f k n g).1 = n + (fb_D v f k).countP fb_z := by
  intro f
  induction f with
  | zero => intro k n g; rfl
  | succ f ih =>
    intro k n g
    show (if rf_by v k = 0 then rf_ty v f (k + Int32.ofInt (-8)) n g else rf_ty v f (k + Int32.ofInt (-8)) (n + 1) (upd g n (rf_by v k).toInt8.toInt32)).1 = n + (rf_by v k :: fb_D v f (k + Int32.ofInt (-8))).countP fb_z
    rw [List.countP_cons]
    by_cases hz : rf_by v k = 0
    · rw [if_pos hz, if_neg (by unfold fb_z; rw [decide_eq_true hz]; intro q; cases q), ih, Nat.add_zero]
    · rw [if_neg hz, if_pos (by unfold fb_z; rw [decide_eq_false hz]; rfl), ih]
      omega
theorem fb_c (x y : Int64) : ∀ (f : Nat) (i : Int32) (n : Nat), cf_c x y f i n = if (fb_C x y f i).any fb_b = true then none else some (n + (fb_C x y f i).countP fb_z) := by
  intro f
  induction f with
  | zero =>
    intro i n
    rw [if_neg (by intro q; cases q)]
    rfl
  | succ f ih =>
    intro i n
    show (if cf_by x y i = 0 then cf_c x y f (i + Int32.ofInt 1) n else if cf_sg (cf_by x y i) = true then cf_c x y f (i + Int32.ofInt 1) (n + 1) else none) = if ((cf_by x y i :: fb_C x y f (i + Int32.ofInt 1)).any fb_b) = true then none else some (n + (cf_by x y i :: fb_C x y f (i + Int32.ofInt 1)).countP fb_z)
    rw [List.any_cons, List.countP_cons]
    by_cases hz : cf_by x y i = 0
    · have e1 : fb_z (cf_by x y i) = false := by unfold fb_z; rw [decide_eq_true hz]; rfl
      have e2 : fb_b (cf_by x y i) = false := by unfold fb_b; rw [e1]; rfl
      rw [if_pos hz, ih, e1, e2, Bool.false_or, if_neg (show ¬ false = true by decide), Nat.add_zero]
    · have e1 : fb_z (cf_by x y i) = true := by unfold fb_z; rw [decide_eq_false hz]; rfl
      rw [if_neg hz]
      cases hs : cf_sg (cf_by x y i) with
      | true =>
        have e2 : fb_b (cf_by x y i) = false := by unfold fb_b; rw [e1, hs]; rfl
        rw [if_pos rfl, ih, e1, e2, Bool.false_or, if_pos (show true = true from rfl), show n + 1 + List.countP fb_z (fb_C x y f (i + Int32.ofInt 1)) = n + (List.countP fb_z (fb_C x y f (i + Int32.ofInt 1)) + 1) by omega]
      | false =>
        have e2 : fb_b (cf_by x y i) = true := by unfold fb_b; rw [e1, hs]; rfl
        rw [if_neg (show ¬ false = true by decide), e2, Bool.true_or, if_pos rfl]
theorem fb_s (x y : Int64) : ∀ (f : Nat) (i : Int32) (n : Nat) (g : Nat → Int32), (cf_s x y f i n g).1 = n + (fb_C x y f i).countP fb_z := by
  intro f
  induction f with
  | zero => intro i n g; rfl
  | succ f ih =>
    intro i n g
    show (if cf_by x y i = 0 then cf_s x y f (i + Int32.ofInt 1) n g else cf_s x y f (i + Int32.ofInt 1) (n + 1) (upd g n (cf_by x y i).toInt8.toInt32)).1 = n + (cf_by x y i :: fb_C x y f (i + Int32.ofInt 1)).countP fb_z
    rw [List.countP_cons]
    by_cases hz : cf_by x y i = 0
    · rw [if_pos hz, if_neg (by unfold fb_z; rw [decide_eq_true hz]; intro q; cases q), ih, Nat.add_zero]
    · rw [if_neg hz, if_pos (by unfold fb_z; rw [decide_eq_false hz]; rfl), ih]
      omega
theorem fb_x {x y : Int64} {i k : Int32} (h1 : ¬ (Int8.ofInt 8).toInt32 ≤ i) (h2 : (Int8.ofInt 56).toInt32 - (Int8.ofInt 8).toInt32 * i = k) : cf_by x y i = rf_by x k := by
  unfold cf_by rf_by
  rw [if_neg h1, h2, Int64.toInt32_and]
  rfl
theorem fb_y {x y : Int64} {i k : Int32} (h1 : (Int8.ofInt 8).toInt32 ≤ i) (h2 : (Int8.ofInt 120).toInt32 - (Int8.ofInt 8).toInt32 * i = k) : cf_by x y i = rf_by y k := by
  unfold cf_by rf_by
  rw [if_pos h1, h2, Int64.toInt32_and]
  rfl
theorem fb_U8 (v : Int64) : fb_U v 8 0 = [rf_by v 0, rf_by v 8, rf_by v 16, rf_by v 24, rf_by v 32, rf_by v 40, rf_by v 48, rf_by v 56] := by
  simp only [fb_U]
  rw [show (0 : Int32) + Int32.ofInt 8 = (8 : Int32) by decide, show (8 : Int32) + Int32.ofInt 8 = (16 : Int32) by decide, show (16 : Int32) + Int32.ofInt 8 = (24 : Int32) by decide, show (24 : Int32) + Int32.ofInt 8 = (32 : Int32) by decide, show (32 : Int32) + Int32.ofInt 8 = (40 : Int32) by decide, show (40 : Int32) + Int32.ofInt 8 = (48 : Int32) by decide, show (48 : Int32) + Int32.ofInt 8 = (56 : Int32) by decide]
theorem fb_D8 (v : Int64) : fb_D v 8 56 = [rf_by v 56, rf_by v 48, rf_by v 40, rf_by v 32, rf_by v 24, rf_by v 16, rf_by v 8, rf_by v 0] := by
  simp only [fb_D]
  rw [show (56 : Int32) + Int32.ofInt (-8) = (48 : Int32) by decide, show (48 : Int32) + Int32.ofInt (-8) = (40 : Int32) by decide, show (40 : Int32) + Int32.ofInt (-8) = (32 : Int32) by decide, show (32 : Int32) + Int32.ofInt (-8) = (24 : Int32) by decide, show (24 : Int32) + Int32.ofInt (-8) = (16 : Int32) by decide, show (16 : Int32) + Int32.ofInt (-8) = (8 : Int32) by decide, show (8 : Int32) + Int32.ofInt (-8) = (0 : Int32) by decide]
theorem fb_C16 (x y : Int64) : fb_C x y 16 (nI 0) = fb_D x 8 56 ++ fb_D y 8 56 := by
  rw [fb_D8, fb_D8]
  simp only [fb_C]
  rw [show nI 0 = (0 : Int32) by decide, show (0 : Int32) + Int32.ofInt 1 = (1 : Int32) by decide, show (1 : Int32) + Int32.ofInt 1 = (2 : Int32) by decide, show (2 : Int32) + Int32.ofInt 1 = (3 : Int32) by decide, show (3 : Int32) + Int32.ofInt 1 = (4 : Int32) by decide, show (4 : Int32) + Int32.ofInt 1 = (5 : Int32) by decide, show (5 : Int32) + Int32.ofInt 1 = (6 : Int32) by decide, show (6 : Int32) + Int32.ofInt 1 = (7 : Int32) by decide, show (7 : Int32) + Int32.ofInt 1 = (8 : Int32) by decide, show (8 : Int32) + Int32.ofInt 1 = (9 : Int32) by decide, show (9 : Int32) + Int32.ofInt 1 = (10 : Int32) by decide, show (10 : Int32) + Int32.ofInt 1 = (11 : Int32) by decide, show (11 : Int32) + Int32.ofInt 1 = (12 : Int32) by decide, show (12 : Int32) + Int32.ofInt 1 = (13 : Int32) by decide, show (13 : Int32) + Int32.ofInt 1 = (14 : Int32) by decide, show (14 : Int32) + Int32.ofInt 1 = (15 : Int32) by decide, fb_x (x := x) (y := y) (i := 0) (k := 56) (by decide) (by decide), fb_x (x := x) (y := y) (i := 1) (k := 48) (by decide) (by decide), fb_x (x := x) (y := y) (i := 2) (k := 40) (by decide) (by decide), fb_x (x := x) (y := y) (i := 3) (k := 32) (by decide) (by decide), fb_x (x := x) (y := y) (i := 4) (k := 24) (by decide) (by decide), fb_x (x := x) (y := y) (i := 5) (k := 16) (by decide) (by decide), fb_x (x := x) (y := y) (i := 6) (k := 8) (by decide) (by decide), fb_x (x := x) (y := y) (i := 7) (k := 0) (by decide) (by decide), fb_y (x := x) (y := y) (i := 8) (k := 56) (by decide) (by decide), fb_y (x := x) (y := y) (i := 9) (k := 48) (by decide) (by decide), fb_y (x := x) (y := y) (i := 10) (k := 40) (by decide) (by decide), fb_y (x := x) (y := y) (i := 11) (k := 32) (by decide) (by decide), fb_y (x := x) (y := y) (i := 12) (k := 24) (by decide) (by decide), fb_y (x := x) (y := y) (i := 13) (k := 16) (by decide) (by decide), fb_y (x := x) (y := y) (i := 14) (k := 8) (by decide) (by decide), fb_y (x := x) (y := y) (i := 15) (k := 0) (by decide) (by decide)]
  rfl
theorem fb_UD (v : Int64) : fb_U v 8 0 = (fb_D v 8 56).reverse := by rw [fb_U8, fb_D8]; rfl
theorem fb_bad (b : Int32) : rf_bad b = fb_b b := by
  have e1 : decide ((32 : Int64) ≤ b.toInt64) = !(decide (b < (Int8.ofInt 32).toInt32)) := by
    rw [← decide_not]
    apply decide_eq_decide.mpr
    rw [Int64.le_iff_toInt_le, Int32.toInt_toInt64, Int32.lt_iff_toInt_lt, show (32 : Int64).toInt = 32 by decide, show ((Int8.ofInt 32).toInt32).toInt = 32 by decide]
    omega
  have e2 : decide (b.toInt64 ≤ (126 : Int64)) = !(decide ((Int8.ofInt 126).toInt32 < b)) := by
    rw [← decide_not]
    apply decide_eq_decide.mpr
    rw [Int64.le_iff_toInt_le, Int32.toInt_toInt64, Int32.lt_iff_toInt_lt, show (126 : Int64).toInt = 126 by decide, show ((Int8.ofInt 126).toInt32).toInt = 126 by decide]
    omega
  unfold rf_bad fb_b fb_z cf_sg rf_in
  rw [e1, e2, decide_not, decide_not, Bool.not_or, Bool.and_assoc]
theorem fb_badf : rf_bad = fb_b := funext fb_bad
theorem fb_le (v : Int64) : (fb_D v 8 56).countP fb_z ≤ 8 := by
  have h1 := List.countP_le_length (p := fb_z) (l := fb_D v 8 56)
  rw [show (fb_D v 8 56).length = 8 by rw [fb_D8]; rfl] at h1
  exact h1
/-- the same answer -/
theorem fb_eq (x y : Int64) (g g2 : Nat → Int32) : (cf_feed x y 0 g).1 = (rf_feed x y 0 g2).1 := by
  have hx := fb_le x
  have hy := fb_le y
  have s1 := fb_sg x 8 0 0
  have s2 := fb_sg y 8 0 0
  rw [fb_UD, fb_badf, List.any_reverse, List.countP_reverse, Int32.zero_add] at s1 s2
  unfold cf_feed
  rw [fb_c, fb_C16, List.any_append, List.countP_append]
  unfold rf_feed
  cases hX : (fb_D x 8 56).any fb_b with
  | true =>
    rw [hX, if_pos rfl] at s1
    rw [Bool.true_or, if_pos rfl, if_pos (Or.inl (by rw [s1]; decide))]
  | false =>
    rw [hX, if_neg (by intro q; cases q)] at s1
    cases hY : (fb_D y 8 56).any fb_b with
    | true =>
      rw [hY, if_pos rfl] at s2
      rw [Bool.or_true, if_pos rfl, if_pos (Or.inr (Or.inl (by rw [s2]; decide)))]
    | false =>
      rw [hY, if_neg (by intro q; cases q)] at s2
      have hgood : ¬ (rf_sg x 8 0 0 < 0 ∨ rf_sg y 8 0 0 < 0 ∨ ¬ nI 0 + rf_sg x 8 0 0 + rf_sg y 8 0 0 ≤ 65536) := by
        rw [s1, s2]
        intro q
        rcases q with q | q | q
        · exact nI_pos (by omega) q
        · exact nI_pos (by omega) q
        · apply q
          rw [nI_add, nI_add, show (65536 : Int32) = nI 65536 by decide]
          exact nI_le (by omega) (by decide)
      rw [if_neg hgood, Bool.or_self, if_neg (by intro q; cases q)]
      show nI (cf_s x y 16 (nI 0) 0 g).1 = nI (rf_ty y 8 56 (rf_ty x 8 56 0 g2).1 (rf_ty x 8 56 0 g2).2).1
      rw [fb_s, fb_ty, fb_ty, fb_C16, List.countP_append]
      congr 1
      omega
