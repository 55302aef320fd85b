/-! PART 71: a token as a function of its place. -/
section W71
variable {xs : List (Nat × List Int32)} {M : Nat → Prop} {d : Nat} {S : wS} {Q : wO → wS → Prop}
/-- token, sign and length of signs -/
def lx_sf (c d e h : Int) : Int × Int × Int := if d = 61 ∧ c = 61 then (4, 256, 2) else if d = 61 ∧ c = 33 then (4, 257, 2) else if d = 61 ∧ c = 60 then (4, 258, 2) else if d = 61 ∧ c = 62 then (4, 259, 2) else if c = 38 ∧ d = 38 then (4, 260, 2) else if c = 124 ∧ d = 124 then (4, 261, 2) else if c = 46 ∧ d = 46 ∧ e = 46 ∧ h ≠ 0 then (4, 262, 3) else if c = 40 ∨ c = 41 ∨ c = 123 ∨ c = 125 ∨ c = 91 ∨ c = 93 ∨ c = 44 ∨ c = 59 ∨ c = 46 ∨ c = 58 ∨ c = 61 ∨ c = 60 ∨ c = 62 ∨ c = 43 ∨ c = 45 ∨ c = 42 ∨ c = 47 ∨ c = 37 ∨ c = 33 then (4, c, 1) else (5, c, 1)
theorem lx_sf_of {c d e h tk sg ln : Int} (q : lx_sg c d e h tk sg ln) : lx_sf c d e h = (tk, sg, ln) := by
  unfold lx_sf
  rcases q with ⟨rfl, rfl, q⟩ | ⟨rfl, rfl, rfl, q1, q2, q3, q4⟩ | ⟨rfl, rfl, n2, n3, q⟩
  · rcases q with ⟨q1, q2, q3⟩ | ⟨q1, q2, q3⟩ | ⟨q1, q2, q3⟩ | ⟨q1, q2, q3⟩ | ⟨q1, q2, q3⟩ | ⟨q1, q2, q3⟩
    · rw [if_pos ⟨q1, q2⟩, q3]
    · rw [if_neg (by omega), if_pos ⟨q1, q2⟩, q3]
    · rw [if_neg (by omega), if_neg (by omega), if_pos ⟨q1, q2⟩, q3]
    · rw [if_neg (by omega), if_neg (by omega), if_neg (by omega), if_pos ⟨q1, q2⟩, q3]
    · rw [if_neg (by omega), if_neg (by omega), if_neg (by omega), if_neg (by omega), if_pos ⟨q1, q2⟩, q3]
    · rw [if_neg (by omega), if_neg (by omega), if_neg (by omega), if_neg (by omega), if_neg (by omega), if_pos ⟨q1, q2⟩, q3]
  · rw [if_neg (by omega), if_neg (by omega), if_neg (by omega), if_neg (by omega), if_neg (by omega), if_neg (by omega), if_pos ⟨q1, q2, q3, q4⟩]
  · unfold sg_n2 at n2
    obtain ⟨m1, m2, m3⟩ := n2
    rw [if_neg (fun z => m1 ⟨z.1, Or.inl z.2⟩), if_neg (fun z => m1 ⟨z.1, Or.inr (Or.inl z.2)⟩), if_neg (fun z => m1 ⟨z.1, Or.inr (Or.inr (Or.inl z.2))⟩), if_neg (fun z => m1 ⟨z.1, Or.inr (Or.inr (Or.inr z.2))⟩), if_neg m2, if_neg m3, if_neg n3]
    rcases q with ⟨q1, q2⟩ | ⟨q1, q2⟩
    · unfold lx_one at q2; rw [if_pos q2, q1]
    · unfold lx_one at q2; rw [if_neg q2, q1]
/-- the token at p: its kind, its end, its sign -/
def lx_tk (T : Int → Int) (n h p : Int) : Int := if n ≤ p then 0 else if lx_le (T p) = true then (if lx_nm T n ((n - p).toNat + 1) p - p ≤ 30 then 1 else 5) else if lx_di (T p) = true then (if (lx_nu T n p ((n - p).toNat + 1) p 0).1 - p ≤ 10 ∧ (lx_nu T n p ((n - p).toNat + 1) p 0).2 ≤ 2147483647 then 2 else 5) else if T p = 34 then (lx_tx T n ((n - p).toNat + 1) (p + 1) []).1 else (lx_sf (T p) (lx_at T n (p + 1)) (lx_at T n (p + 2)) h).1
def lx_en (T : Int → Int) (n h p : Int) : Int := if n ≤ p then p else if lx_le (T p) = true then lx_nm T n ((n - p).toNat + 1) p else if lx_di (T p) = true then (lx_nu T n p ((n - p).toNat + 1) p 0).1 else if T p = 34 then (lx_tx T n ((n - p).toNat + 1) (p + 1) []).2.1 + 1 else p + (lx_sf (T p) (lx_at T n (p + 1)) (lx_at T n (p + 2)) h).2.2
def lx_si (T : Int → Int) (n h p : Int) : Int := (lx_sf (T p) (lx_at T n (p + 1)) (lx_at T n (p + 2)) h).2.1
def lx_va (T : Int → Int) (n p : Int) : Int := (lx_nu T n p ((n - p).toNat + 1) p 0).2
def lx_by (T : Int → Int) (n p : Int) : List Int := (lx_tx T n ((n - p).toNat + 1) (p + 1) []).2.2
/-- behind the blanks from t on -/
def lx_go (T : Int → Int) (n t : Int) : Int := lx_bl T n ((n - t).toNat + 1) t
theorem lx_tx_tk (T : Int → Int) (n : Int) : ∀ (f : Nat) (t : Int) (l : List Int), (lx_tx T n f t l).1 = 3 ∨ (lx_tx T n f t l).1 = 5 := by
  intro f
  induction f with
  | zero => intro t l; exact Or.inr rfl
  | succ f ih =>
    intro t l
    rw [lx_tx_s]
    split
    · exact Or.inl rfl
    · split
      · exact Or.inr rfl
      · exact ih _ _
theorem lx_sf_tk (c d e h : Int) : (lx_sf c d e h).1 = 4 ∨ (lx_sf c d e h).1 = 5 := by
  unfold lx_sf
  repeat' split
  all_goals first | exact Or.inl rfl | exact Or.inr rfl
/-- the state's lexer stands at the token that begins at p -/
def lx_St (S : wS) (p : Int) : Prop := S 237 7 = p ∧ S 237 6 = lx_tk (S 239) (S 237 4) (S 237 5) p ∧ S 237 8 = lx_en (S 239) (S 237 4) (S 237 5) p ∧ (S 237 6 = 4 → S 237 9 = lx_si (S 239) (S 237 4) (S 237 5) p) ∧ (S 237 6 = 2 → S 237 10 = wb_l2i (lx_va (S 239) (S 237 4) p)) ∧ (S 237 6 = 3 → lx_tl S (lx_by (S 239) (S 237 4) p))
theorem lx_nx_St {Z : wS} {p : Int} (h7 : Z 237 7 = p) (h : lx_nx (Z 239) (Z 237 4) (Z 237 5) p Z) : lx_St Z p := by
  refine ⟨h7, ?_⟩
  rcases h with ⟨q1, q2, q3⟩ | ⟨q1, q2, q3, q4⟩ | ⟨q1, q2, q3, e, u, q4, q5, q6, q7⟩ | ⟨q1, q2, tk, e, l, q3, q4, q5, q6⟩ | ⟨q1, q2, q3, q4, tk, sg, ln, q5, q6, q7, q8⟩
  · refine ⟨?_, ?_, fun z => by omega, fun z => by omega, fun z => by omega⟩
    · unfold lx_tk; rw [if_pos q1, q2]
    · unfold lx_en; rw [if_pos q1, q3]
  · have h56 : Z 237 6 = 1 ∨ Z 237 6 = 5 := by rw [q4]; split <;> omega
    refine ⟨?_, ?_, fun z => by omega, fun z => by omega, fun z => by omega⟩
    · unfold lx_tk; rw [if_neg (by omega), if_pos q2, q4]
    · unfold lx_en; rw [if_neg (by omega), if_pos q2, q3]
  · have h56 : Z 237 6 = 2 ∨ Z 237 6 = 5 := by rw [q6]; split <;> omega
    have q2' : ¬ lx_le (Z 239 p) = true := by rw [q2]; decide
    refine ⟨?_, ?_, fun z => by omega, fun z => ?_, fun z => by omega⟩
    · unfold lx_tk; rw [if_neg (by omega), if_neg q2', if_pos q3, q4, q6]
    · unfold lx_en; rw [if_neg (by omega), if_neg q2', if_pos q3, q4, q5]
    · unfold lx_va; rw [q4, q7]
  · have h56 := lx_tx_tk (Z 239) (Z 237 4) ((Z 237 4 - p).toNat + 1) (p + 1) []
    rw [q3] at h56
    have h56' : tk = 3 ∨ tk = 5 := h56
    have q2' : ¬ lx_le (Z 239 p) = true := by rw [q2]; decide
    have q3' : ¬ lx_di (Z 239 p) = true := by rw [q2]; decide
    refine ⟨?_, ?_, fun z => by omega, fun z => by omega, fun z => ?_⟩
    · unfold lx_tk; rw [if_neg (by omega), if_neg q2', if_neg q3', if_pos q2, q3, q4]
    · unfold lx_en; rw [if_neg (by omega), if_neg q2', if_neg q3', if_pos q2, q3, q5]
    · unfold lx_by; rw [q3]; exact q6
  · have q2' : ¬ lx_le (Z 239 p) = true := by rw [q2]; decide
    have q3' : ¬ lx_di (Z 239 p) = true := by rw [q3]; decide
    have hs := lx_sf_of q5
    have h56 := lx_sf_tk (Z 239 p) (lx_at (Z 239) (Z 237 4) (p + 1)) (lx_at (Z 239) (Z 237 4) (p + 2)) (Z 237 5)
    rw [hs] at h56
    have h56' : tk = 4 ∨ tk = 5 := h56
    refine ⟨?_, ?_, fun z => ?_, fun z => by omega, fun z => by omega⟩
    · unfold lx_tk; rw [if_neg (by omega), if_neg q2', if_neg q3', if_neg q4, hs, q6]
    · unfold lx_en; rw [if_neg (by omega), if_neg q2', if_neg q3', if_neg q4, hs, q8]
    · unfold lx_si; rw [hs, q7]
theorem lx_nm_le (T : Int → Int) (n : Int) : ∀ (f : Nat) (t : Int), t ≤ n → t ≤ lx_nm T n f t ∧ lx_nm T n f t ≤ n := by
  intro f
  induction f with
  | zero => intro t h; exact ⟨Int.le_refl _, h⟩
  | succ f ih =>
    intro t h
    rw [lx_nm_s]
    split
    · rename_i q
      have hz : lx_at T n t ≠ 0 := by
        rw [Bool.or_eq_true] at q
        rcases q with q | q
        · exact lx_le_nz q
        · have := lx_di_rg q; omega
      have h1 := lx_at_lt hz
      have := ih (t + 1) (by omega)
      omega
    · exact ⟨Int.le_refl _, h⟩
theorem lx_nu_le (T : Int → Int) (n p : Int) : ∀ (f : Nat) (t v : Int), t ≤ n → t ≤ (lx_nu T n p f t v).1 ∧ (lx_nu T n p f t v).1 ≤ n := by
  intro f
  induction f with
  | zero => intro t v h; exact ⟨Int.le_refl _, h⟩
  | succ f ih =>
    intro t v h
    rw [lx_nu_s]
    split
    · rename_i q
      have hz : lx_at T n t ≠ 0 := by have := lx_di_rg q; omega
      have h1 := lx_at_lt hz
      have := ih (t + 1) (if t - p < 11 then 10 * v + lx_at T n t - 48 else v) (by omega)
      omega
    · exact ⟨Int.le_refl _, h⟩
theorem lx_tx_le (T : Int → Int) (n : Int) : ∀ (f : Nat) (t : Int) (l : List Int), t ≤ n → t ≤ (lx_tx T n f t l).2.1 ∧ (lx_tx T n f t l).2.1 ≤ n + 1 ∧ ((lx_tx T n f t l).1 = 3 → (lx_tx T n f t l).2.1 < n) := by
  intro f
  induction f with
  | zero => intro t l h; exact ⟨Int.le_refl _, by show t ≤ n + 1; omega, fun z => by cases z⟩
  | succ f ih =>
    intro t l h
    rw [lx_tx_s]
    split
    · rename_i q
      have := lx_at_lt (T := T) (n := n) (k := t) (by omega)
      exact ⟨Int.le_refl _, by show t ≤ n + 1; omega, fun _ => this⟩
    · split
      · refine ⟨?_, ?_, fun z => by cases z⟩
        · show t ≤ lx_t2 T n t; unfold lx_t2; split <;> omega
        · show lx_t2 T n t ≤ n + 1; unfold lx_t2; split <;> omega
      · rename_i q1 q2
        have h2 : lx_t2 T n t < n ∧ t ≤ lx_t2 T n t := by
          unfold lx_t2
          unfold lx_tc at q2
          split
          · rename_i q3
            rw [if_pos q3] at q2
            have := lx_at_lt (T := T) (n := n) (k := t + 1) (fun z => by
              rw [z] at q2
              exact q2 (Or.inl rfl))
            omega
          · rename_i q3
            rw [if_neg q3] at q2
            have := lx_at_lt (T := T) (n := n) (k := t) (fun z => by
              rw [z] at q2
              exact q2 (Or.inl rfl))
            omega
        have := ih (lx_t2 T n t + 1) (l ++ [lx_tc T n t]) (by omega)
        omega
theorem lx_sf_ln (c d e h : Int) : 1 ≤ (lx_sf c d e h).2.2 ∧ ((lx_sf c d e h).2.2 ≤ 1 ∨ ((lx_sf c d e h).2.2 = 2 ∧ d ≠ 0) ∨ ((lx_sf c d e h).2.2 = 3 ∧ e ≠ 0)) := by
  unfold lx_sf
  repeat' split
  all_goals (dsimp only; omega)
/-- a token that is none of a fault or the end lies within the text -/
theorem lx_en_le {T : Int → Int} {n h p : Int} (hp : p ≤ n) : p ≤ lx_en T n h p ∧ (lx_tk T n h p ≠ 5 → lx_en T n h p ≤ n) ∧ lx_en T n h p ≤ n + 2 := by
  unfold lx_en lx_tk
  by_cases h1 : n ≤ p
  · rw [if_pos h1, if_pos h1]; omega
  · rw [if_neg h1, if_neg h1]
    by_cases h2 : lx_le (T p) = true
    · rw [if_pos h2, if_pos h2]
      have := lx_nm_le T n ((n - p).toNat + 1) p hp
      omega
    · rw [if_neg h2, if_neg h2]
      by_cases h3 : lx_di (T p) = true
      · rw [if_pos h3, if_pos h3]
        have := lx_nu_le T n p ((n - p).toNat + 1) p 0 hp
        omega
      · rw [if_neg h3, if_neg h3]
        by_cases h4 : T p = 34
        · rw [if_pos h4, if_pos h4]
          have h5 := lx_tx_le T n ((n - p).toNat + 1) (p + 1) [] (by omega)
          have h6 := lx_tx_tk T n ((n - p).toNat + 1) (p + 1) []
          omega
        · rw [if_neg h4, if_neg h4]
          have h5 := lx_sf_ln (T p) (lx_at T n (p + 1)) (lx_at T n (p + 2)) h
          have h6 := @lx_at_lt T n (p + 1)
          have h7 := @lx_at_lt T n (p + 2)
          omega
theorem lx_bl_rg (T : Int → Int) (n : Int) : ∀ (f : Nat) (t : Int), t ≤ n → t ≤ lx_bl T n f t ∧ lx_bl T n f t ≤ n := by
  intro f
  induction f with
  | zero => intro t h; exact ⟨Int.le_refl _, h⟩
  | succ f ih =>
    intro t h
    rw [lx_bl_s]
    split
    · rename_i q
      have := lx_at_lt (T := T) (n := n) (k := t) (by omega)
      have := ih (t + 1) (by omega)
      omega
    · split
      · have h1 := lx_cm_ge T n (n - t + 1).toNat t h
        have := ih (lx_cm T n (n - t + 1).toNat t) h1.2
        omega
      · exact ⟨Int.le_refl _, h⟩
theorem lx_ag_T {A B : wS} (h : lx_ag A B) : B 239 = A 239 ∧ B 237 4 = A 237 4 ∧ B 237 5 = A 237 5 := ⟨funext fun i => h 239 i (by omega) (by omega), h 237 4 (by omega) (by omega), h 237 5 (by omega) (by omega)⟩
theorem nx_St {p : Int} (hM0 : w_ML S) (hn : 0 ≤ S 237 4 ∧ S 237 4 ≤ 65536) (hp : 0 ≤ p ∧ p ≤ S 237 4) (hs : lx_St S p) (h5 : S 237 6 ≠ 5) : wJ (pe_GA xs) wY0 M (d + 2) t_M_next ((pe_at t_M_next.bl 0).getD (0, [])).2 [(0, (2, 237))] [] S (fun o S2 => o = .inl none ∧ lx_ag S S2 ∧ lx_St S2 (lx_go (S 239) (S 237 4) (lx_en (S 239) (S 237 4) (S 237 5) p)) ∧ 0 ≤ lx_go (S 239) (S 237 4) (lx_en (S 239) (S 237 4) (S 237 5) p) ∧ lx_go (S 239) (S 237 4) (lx_en (S 239) (S 237 4) (S 237 5) p) ≤ S 237 4) := by
  have he := lx_en_le (T := S 239) (h := S 237 5) hp.2
  have h8 := hs.2.2.1
  have h6 := hs.2.1
  have hle : lx_en (S 239) (S 237 4) (S 237 5) p ≤ S 237 4 := he.2.1 (by rw [← h6]; exact h5)
  have hg := lx_bl_rg (S 239) (S 237 4) ((S 237 4 - lx_en (S 239) (S 237 4) (S 237 5) p).toNat + 1) (lx_en (S 239) (S 237 4) (S 237 5) p) hle
  refine wJ_mono (nx_ok (p := lx_go (S 239) (S 237 4) (lx_en (S 239) (S 237 4) (S 237 5) p)) hM0 hn (by omega) (by rw [h8]; rfl)) ?_
  rintro o S2 ⟨q1, q2, q3, q4⟩
  obtain ⟨e1, e2, e3⟩ := lx_ag_T q2
  refine ⟨q1, q2, lx_nx_St q3 (by rw [e1, e2, e3]; exact q4), ?_, ?_⟩
  · show 0 ≤ lx_bl _ _ _ _; omega
  · exact hg.2
end W71
