/-! PART 78: what a parser asks at a token, as a function of the token's place. -/
section W78
variable {xs : List (Nat × List Int32)} {M : Nat → Prop} {d : Nat} {S A : wS} {Q : wO → wS → Prop} {b : Nat} {p : Int}
/-- the state A with its lexer at p -/
def zq (A : wS) (p : Int) : wS := fun j i => if j = 237 then (if i = 6 then lx_tk (A 239) (A 237 4) (A 237 5) p else if i = 7 then p else if i = 8 then lx_en (A 239) (A 237 4) (A 237 5) p else if i = 9 then lx_si (A 239) (A 237 4) (A 237 5) p else A 237 i) else A j i
theorem zq_o {j : Nat} (h : j ≠ 237) : zq A p j = A j := funext fun _ => if_neg h
theorem zq_6 : zq A p 237 6 = lx_tk (A 239) (A 237 4) (A 237 5) p := rfl
theorem zq_7 : zq A p 237 7 = p := rfl
theorem zq_8 : zq A p 237 8 = lx_en (A 239) (A 237 4) (A 237 5) p := rfl
theorem zq_9 : zq A p 237 9 = lx_si (A 239) (A 237 4) (A 237 5) p := rfl
theorem zq_4 : zq A p 237 4 = A 237 4 := rfl
theorem zq_5 : zq A p 237 5 = A 237 5 := rfl
/-- the same text, and the lexer stands at p -/
def lx_E (S A : wS) (p : Int) : Prop := lx_I S p ∧ S 239 = A 239 ∧ S 237 4 = A 237 4 ∧ S 237 5 = A 237 5
theorem lx_E_6 (h : lx_E S A p) : S 237 6 = zq A p 237 6 := by rw [h.1.2.2.2.2.1, zq_6, h.2.1, h.2.2.1, h.2.2.2]
theorem lx_E_7 (h : lx_E S A p) : S 237 7 = zq A p 237 7 := h.1.2.2.2.1
theorem lx_E_8 (h : lx_E S A p) : S 237 8 = zq A p 237 8 := by rw [h.1.2.2.2.2.2.1, zq_8, h.2.1, h.2.2.1, h.2.2.2]
theorem lx_E_T (h : lx_E S A p) : S 239 = zq A p 239 := by rw [zq_o (by decide)]; exact h.2.1
theorem lx_E_ne (h : lx_E S A p) : lx_ne S p = lx_ne (zq A p) p := by
  unfold lx_ne
  rw [zq_o (by decide), zq_4, zq_5, h.2.1, h.2.2.1, h.2.2.2]
theorem lx_E_is (h : lx_E S A p) (c : Int) : lx_is S c = lx_is (zq A p) c := by
  have h6 := lx_E_6 h
  have h9 : S 237 6 = 4 → S 237 9 = zq A p 237 9 := fun z => by rw [h.1.2.2.2.2.2.2.1 z, zq_9, h.2.1, h.2.2.1, h.2.2.2]
  unfold lx_is
  by_cases h4 : S 237 6 = 4
  · rw [h9 h4, h6]
  · rw [decide_eq_false (fun z => h4 z.1), decide_eq_false (fun z => h4 (h6.trans z.1))]
theorem lx_E_w (h : lx_E S A p) (tx : List Int32) : lx_w S tx = lx_w (zq A p) tx := by
  unfold lx_w
  rw [lx_E_6 h, lx_E_7 h, lx_E_8 h, lx_E_T h]
theorem pl_f_congr {S A : wS} (h6 : S 237 6 = A 237 6) (h7 : S 237 7 = A 237 7) (h8 : S 237 8 = A 237 8) (hT : S 239 = A 239) (tx : List Int32) : ∀ (f : Nat) (n k : Int), pl_f S tx f n k = pl_f A tx f n k := by
  intro f
  induction f with
  | zero => intro n k; rfl
  | succ f ih =>
    intro n k
    have hq : ∀ e, pl_q S tx k e = pl_q A tx k e := fun e => by unfold pl_q; rw [h6, h7, h8, hT]
    rw [pl_f_s, pl_f_s, hq, ih]
theorem lx_E_pl (h : lx_E S A p) (tx : List Int32) : pl_of S tx = pl_of (zq A p) tx := pl_f_congr (lx_E_6 h) (lx_E_7 h) (lx_E_8 h) (lx_E_T h) tx _ _ _
theorem lx_E_oo (h : lx_E S A p) (tx : List Int32) : lx_oo S tx = lx_oo (zq A p) tx := by
  unfold lx_oo
  rw [lx_E_6 h, lx_E_pl h]
theorem lx_E_ch (h : lx_E S A p) (hb : b ≠ 237 ∧ b + 9 ≠ 237 ∧ b + 10 ≠ 237) (h1 : S b 1 = A b 1) (h9 : S (b + 9) = A (b + 9)) (h10 : S (b + 10) = A (b + 10)) : ch_of S b = ch_of (zq A p) b := by
  unfold ch_of
  rw [lx_E_6 h, lx_E_7 h, lx_E_8 h, lx_E_T h, zq_o hb.1, zq_o hb.2.1, zq_o hb.2.2, h1, h9, h10]
theorem lx_E_type (h : lx_E S A p) (hb : b ≠ 237 ∧ b + 9 ≠ 237 ∧ b + 10 ≠ 237) (h1 : S b 1 = A b 1) (h9 : S (b + 9) = A (b + 9)) (h10 : S (b + 10) = A (b + 10)) (av : Int) : hy_type S b p av = hy_type (zq A p) b p av := by
  unfold hy_type
  rw [lx_E_6 h, lx_E_pl h, lx_E_ch h hb h1 h9 h10, lx_E_ne h]
theorem lx_E_ag {B : wS} {q : Int} (h : lx_E S A p) (hag : lx_ag S B) (hI : lx_I B q) : lx_E B A q := by
  obtain ⟨e1, e2, e3⟩ := lx_ag_T hag
  exact ⟨hI, e1.trans h.2.1, e2.trans h.2.2.1, e3.trans h.2.2.2⟩
theorem lx_E_up {j : Nat} {i x : Int} (h : lx_E S A p) (hj : j ≠ 237 ∧ j ≠ 239 ∧ j ≠ 240) (hi : 0 ≤ i) : lx_E (w_up S j i x) A p := by
  refine ⟨lx_I_up h.1 hj hi, ?_, ?_, ?_⟩
  · rw [w_up_row (fun z => hj.2.1 z.symm)]; exact h.2.1
  · rw [w_up_row (fun z => hj.1 z.symm)]; exact h.2.2.1
  · rw [w_up_row (fun z => hj.1 z.symm)]; exact h.2.2.2
/-- the states are the same but for the lexer's places, the halt's, and rows of the member m of the Host at b -/
def hm_ag (b : Nat) (m : Int) (S Z : wS) : Prop := ∀ (j : Nat) (i : Int), (j ≠ 240 ∨ i < 0) → (j ≠ 237 ∨ (i ≠ 6 ∧ i ≠ 7 ∧ i ≠ 8 ∧ i ≠ 9 ∧ i ≠ 10 ∧ i ≠ 12)) → (j ≠ 238 ∨ (i ≠ 5 ∧ i ≠ 6)) → (j < b + 11 ∨ b + 19 < j ∨ (j ≠ b + 17 ∧ i ≠ m) ∨ (j = b + 17 ∧ (i < 8 * m ∨ 8 * m + 8 ≤ i))) → Z j i = S j i
theorem hm_ag_rf {m : Int} : hm_ag b m S S := fun _ _ _ _ _ _ => rfl
theorem hm_ag_tr {m : Int} {A B C : wS} (h : hm_ag b m A B) (h2 : hm_ag b m B C) : hm_ag b m A C := fun j i a c e g => (h2 j i a c e g).trans (h j i a c e g)
theorem hm_ag_lx {m : Int} {A B C : wS} (h : hm_ag b m A B) (h2 : lx_ag B C) : hm_ag b m A C := fun j i a c e g => (h2 j i a c).trans (h j i a c e g)
theorem hm_ag_hl {m n q : Int} {A B : wS} (h : hm_ag b m A B) : hm_ag b m A (w_hl B n q) := by
  intro j i a c e g
  rw [← h j i a c e g]
  unfold w_hl
  have h1 : ¬ (j = 238 ∧ i = 6) := by omega
  have h2 : ¬ (j = 238 ∧ i = 5) := by omega
  exact (if_neg h1).trans (if_neg h2)
theorem hm_ag_up {m x : Int} {A B : wS} {k : Nat} {u : Int} (h : hm_ag b m A B) (hk : b + 11 ≤ k ∧ k ≤ b + 19) (hu : (k ≠ b + 17 ∧ u = m) ∨ (k = b + 17 ∧ 8 * m ≤ u ∧ u < 8 * m + 8)) (hb : b = 241 ∨ b = 261) : hm_ag b m A (w_up B k u x) := by
  intro j i a c e g
  rw [← h j i a c e g]
  exact if_neg (fun q => by omega)
theorem hm_ag_ML {m : Int} {A B : wS} (h : hm_ag b m A B) (hm : 0 ≤ m) (hM : w_ML A) : w_ML B := fun q hq => (h q.1 (-1) (by omega) (by omega) (by omega) (by omega)).trans (hM q hq)
theorem hm_ag_row {m : Int} {A B : wS} (h : hm_ag b m A B) {j : Nat} (hj : j ≠ 240 ∧ j ≠ 237 ∧ j ≠ 238 ∧ (j < b + 11 ∨ b + 19 < j)) : B j = A j := funext fun i => h j i (by omega) (by omega) (by omega) (by omega)
/-- the states are the same but for the lexer's places, the halt's, and the parameters of the member m of the Host at b -/
def hp_ag (b : Nat) (m : Int) (S Z : wS) : Prop := ∀ (j : Nat) (i : Int), (j ≠ 240 ∨ i < 0) → (j ≠ 237 ∨ (i ≠ 6 ∧ i ≠ 7 ∧ i ≠ 8 ∧ i ≠ 9 ∧ i ≠ 10 ∧ i ≠ 12)) → (j ≠ 238 ∨ (i ≠ 5 ∧ i ≠ 6)) → (j < b + 15 ∨ b + 17 < j ∨ (j ≠ b + 17 ∧ i ≠ m) ∨ (j = b + 17 ∧ (i < 8 * m ∨ 8 * m + 8 ≤ i))) → Z j i = S j i
theorem hp_ag_rf {m : Int} : hp_ag b m S S := fun _ _ _ _ _ _ => rfl
theorem hp_ag_tr {m : Int} {A B C : wS} (h : hp_ag b m A B) (h2 : hp_ag b m B C) : hp_ag b m A C := fun j i a c e g => (h2 j i a c e g).trans (h j i a c e g)
theorem hp_ag_lx {m : Int} {A B C : wS} (h : hp_ag b m A B) (h2 : lx_ag B C) : hp_ag b m A C := fun j i a c e g => (h2 j i a c).trans (h j i a c e g)
theorem hp_ag_hl {m n q : Int} {A B : wS} (h : hp_ag b m A B) : hp_ag b m A (w_hl B n q) := by
  intro j i a c e g
  rw [← h j i a c e g]
  unfold w_hl
  have h1 : ¬ (j = 238 ∧ i = 6) := by omega
  have h2 : ¬ (j = 238 ∧ i = 5) := by omega
  exact (if_neg h1).trans (if_neg h2)
theorem hp_ag_up {m x : Int} {A B : wS} {k : Nat} {u : Int} (h : hp_ag b m A B) (hk : b + 15 ≤ k ∧ k ≤ b + 17) (hu : (k ≠ b + 17 ∧ u = m) ∨ (k = b + 17 ∧ 8 * m ≤ u ∧ u < 8 * m + 8)) (hb : b = 241 ∨ b = 261) : hp_ag b m A (w_up B k u x) := by
  intro j i a c e g
  rw [← h j i a c e g]
  exact if_neg (fun q => by omega)
theorem hp_ag_ML {m : Int} {A B : wS} (h : hp_ag b m A B) (hm : 0 ≤ m) (hM : w_ML A) : w_ML B := fun q hq => (h q.1 (-1) (by omega) (by omega) (by omega) (by omega)).trans (hM q hq)
theorem hp_ag_row {m : Int} {A B : wS} (h : hp_ag b m A B) {j : Nat} (hj : j ≠ 240 ∧ j ≠ 237 ∧ j ≠ 238 ∧ (j < b + 15 ∨ b + 17 < j)) : B j = A j := funext fun i => h j i (by omega) (by omega) (by omega) (by omega)
theorem hp_hm {m : Int} {A B : wS} (h : hp_ag b m A B) : hm_ag b m A B := fun j i a c e g => h j i a c e (by omega)
end W78
