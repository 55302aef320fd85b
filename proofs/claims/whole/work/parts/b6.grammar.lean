/-! PART b6: a program's grammar, with what is noted. -/
section Wb6
/-- an instruction: what, A, B, whose -/
abbrev pz_I : Type := Int × Int × Int × Int
/-- a function: around, parameters, variables (the newest ahead) -/
abbrev pz_F : Type := Int × Int × List Int
/-- what comes out: a fault; or where the reader stands, instructions, functions, a number -/
abbrev pz_O : Type := Sum Int (Nat × List pz_I × List pz_F × Int)
/-- a thing of the grammar (which, a number, numbers) at a place, a depth, in a function, behind instructions and functions, comes to this -/
abbrev pz_R : Type := Nat → Int → List Int → Nat → Int → Int → List pz_I → List pz_F → pz_O → Prop
/-- how many instructions are a function's -/
def pz_h (I : List pz_I) (u : Int) : Int := ((I.countP (fun x => x.2.2.2 == u) : Nat) : Int)
/-- how many are sites -/
def pz_s (I : List pz_I) : Int := ((I.countP (fun x => x.1 == 27) : Nat) : Int)
/-- with another A -/
def pz_a (I : List pz_I) (j : Nat) (v : Int) : List pz_I := I.set j ((I.getD j (0, 0, 0, 0)).1, v, (I.getD j (0, 0, 0, 0)).2.2)
/-- with another A at all of these -/
def pz_aa (I : List pz_I) (v : Int) : List Int → List pz_I
  | [] => I
  | j :: J => pz_aa (pz_a I j.toNat v) v J
/-- the function u, of which the first is f -/
def pz_f (f : Int) (F : List pz_F) (u : Int) : pz_F := F.getD (u - f).toNat (-1, 0, [])
/-- with one more variable -/
def pz_v (f : Int) (F : List pz_F) (u y : Int) : List pz_F := F.set (u - f).toNat ((pz_f f F u).1, (pz_f f F u).2.1, y :: (pz_f f F u).2.2)
/-- its variables so far are its parameters -/
def pz_p (f : Int) (F : List pz_F) (u : Int) : List pz_F := F.set (u - f).toNat ((pz_f f F u).1, ((pz_f f F u).2.2.length : Int), (pz_f f F u).2.2)
/-- first this, then that -/
def pz_q (p : pz_O → Prop) (k : Nat → List pz_I → List pz_F → Int → pz_O → Prop) (o : pz_O) : Prop := (∃ v : Int, p (.inl v) ∧ o = .inl v) ∨ ∃ i I F t, p (.inr (i, I, F, t)) ∧ k i I F t o
def pz_qf (p : pz_O) (k : Nat → List pz_I → List pz_F → Int → pz_O → Prop) (o : pz_O) : Prop := pz_q (fun z => z = p) k o
theorem pz_qo {p : pz_O → Prop} {k : Nat → List pz_I → List pz_F → Int → pz_O → Prop} {o : pz_O} {i : Nat} {I : List pz_I} {F : List pz_F} {t : Int} (h : p (.inr (i, I, F, t))) (h2 : k i I F t o) : pz_q p k o := Or.inr ⟨i, I, F, t, h, h2⟩
theorem pz_qi {p : pz_O → Prop} {k : Nat → List pz_I → List pz_F → Int → pz_O → Prop} {v : Int} (h : p (.inl v)) : pz_q p k (.inl v) := Or.inl ⟨v, h, rfl⟩
theorem pz_fo {p : pz_O} {k : Nat → List pz_I → List pz_F → Int → pz_O → Prop} {o : pz_O} {i : Nat} {I : List pz_I} {F : List pz_F} {t : Int} (h : p = .inr (i, I, F, t)) (h2 : k i I F t o) : pz_qf p k o := Or.inr ⟨i, I, F, t, h.symm, h2⟩
theorem pz_fi {p : pz_O} {k : Nat → List pz_I → List pz_F → Int → pz_O → Prop} {v : Int} (h : p = .inl v) : pz_qf p k (.inl v) := Or.inl ⟨v, h.symm, rfl⟩
section G
variable (K V P : Nat → Int) (f : Int)
def pz_fa (k : Int) (i : Nat) : pz_O := .inl (k + 16 * P i)
/-- takes this kind -/
def pz_tk (k : Int) (i : Nat) (I : List pz_I) (F : List pz_F) : pz_O := if K i = k then .inr (i + 1, I, F, 0) else pz_fa P 1 i
/-- takes what holds what is behind it -/
def pz_op (k dp : Int) (i : Nat) (I : List pz_I) (F : List pz_F) : pz_O := if K i ≠ k then pz_fa P 1 i else if 50 ≤ dp then pz_fa P 4 i else .inr (i + 1, I, F, 0)
/-- takes a name -/
def pz_nm (i : Nat) (I : List pz_I) (F : List pz_F) : pz_O := if K i ≠ 5 ∧ K i ≠ 6 then pz_fa P 1 i else if K i = 6 then pz_fa P 7 i else .inr (i + 1, I, F, V i)
/-- takes a name that is a variable -/
def pz_dc (i : Nat) (u : Int) (I : List pz_I) (F : List pz_F) : pz_O := if K i ≠ 5 ∧ K i ≠ 6 then pz_fa P 1 i else if K i = 6 then pz_fa P 7 i else if (pz_f f F u).1 ≠ -1 ∧ vix (pz_f f F u).2.2 (V i) = -1 then (if (pz_f f F u).2.2.length = 60 then pz_fa P 7 i else .inr (i + 1, I, pz_v f F u (V i), V i)) else .inr (i + 1, I, F, V i)
/-- begins an expression -/
def pz_bx (k : Int) : Prop := (2 ≤ k ∧ k ≤ 6) ∨ k = 10 ∨ k = 14 ∨ k = 12 ∨ k = 24 ∨ k = 28 ∨ k = 41 ∨ (49 ≤ k ∧ k < 62)
/-- how close an operator binds; its instruction -/
def pz_lv (k : Int) : Int := if k = 34 then 1 else if k = 33 then 2 else if k = 29 ∨ k = 30 then 3 else if k = 21 ∨ k = 31 ∨ k = 22 ∨ k = 32 then 4 else if k = 23 ∨ k = 24 then 5 else if k = 25 ∨ k = 26 ∨ k = 27 then 6 else 0
def pz_or (k : Int) : Int := if k = 29 then 14 else if k = 30 then 15 else if k = 21 then 16 else if k = 31 then 17 else if k = 22 then 18 else if k = 32 then 19 else 7 + k - 23
def pz_wa (k : Int) : Int := if k = 57 ∨ k = 58 ∨ k = 59 then 2 else 1
variable (R : pz_R)
/-- { statements } -/
def pz_bk (i : Nat) (dp u : Int) (I : List pz_I) (F : List pz_F) : pz_O → Prop := pz_qf (pz_op K P 12 dp i I F) (fun i I F _ => pz_q (R 0 0 [] i (dp + 1) u I F) (fun i I F _ o => o = pz_tk K P 13 i I F))
/-- ( e ) -/
def pz_cd (i : Nat) (dp u : Int) (I : List pz_I) (F : List pz_F) : pz_O → Prop := pz_qf (pz_op K P 10 dp i I F) (fun i I F _ => pz_q (R 4 0 [] i (dp + 1) u I F) (fun i I F _ o => o = pz_tk K P 11 i I F))
/-- ( ES, up to the ) -/
def pz_es (i : Nat) (dp u : Int) (I : List pz_I) (F : List pz_F) : pz_O → Prop := pz_qf (pz_op K P 10 dp i I F) (fun i I F _ o => if K i = 11 then o = .inr (i, I, F, 0) else R 11 0 [] i (dp + 1) u I F o)
/-- a function from its ( on -/
def pz_fn (i : Nat) (dp u : Int) (I : List pz_I) (F : List pz_F) : pz_O → Prop := pz_qf (pz_op K P 10 dp i I (F ++ [(u, 0, [])])) (fun i I F1 _ => pz_q (fun o => if K i = 11 then o = .inr (i, I, F1, 0) else R 2 0 [] i dp (f + F.length) I F1 o) (fun i I F1 _ => pz_qf (pz_tk K P 11 i I F1) (fun i I F1 _ => pz_qf (pz_op K P 12 dp i I (pz_p f F1 (f + F.length))) (fun i I F1 _ => pz_q (R 0 0 [] i (dp + 1) (f + F.length) I F1) (fun i I F1 _ => pz_qf (pz_tk K P 13 i I F1) (fun i I F1 _ o => o = .inr (i, I ++ [(0, 0, 0, f + F.length)] ++ [(29, 0, 0, f + F.length)], F1, f + F.length)))))))
/-- 0: statements -/
def pz_SS (i : Nat) (dp u : Int) (I : List pz_I) (F : List pz_F) (o : pz_O) : Prop := if K i = 0 ∨ K i = 13 then o = .inr (i, I, F, 0) else pz_q (R 1 0 [] i dp u I F) (fun i I F _ => R 0 0 [] i dp u I F) o
def pz_ST40 (i : Nat) (dp u : Int) (I : List pz_I) (F : List pz_F) : pz_O → Prop := pz_qf (pz_dc K V P f (i + 1) u I F) (fun i I F y o => if K i = 20 then pz_q (R 4 0 [] (i + 1) dp u I F) (fun i I F _ o => o = pz_tk K P 17 i (I ++ [(4, y, 0, u)] ++ [(5, 0, 0, u)]) F) o else o = pz_tk K P 17 i I F)
def pz_ST41 (i : Nat) (dp u : Int) (I : List pz_I) (F : List pz_F) (o : pz_O) : Prop := if 400 ≤ f + F.length then o = pz_fa P 7 i else pz_qf (pz_dc K V P f (i + 1) u I F) (fun i I F y => pz_q (pz_fn K P f R i dp u I F) (fun i I F g o => o = .inr (i, I ++ [(24, g, 0, u)] ++ [(4, y, 0, u)] ++ [(5, 0, 0, u)], F, 0))) o
def pz_ST44 (i : Nat) (dp u : Int) (I0 : List pz_I) (F : List pz_F) : pz_O → Prop := pz_q (pz_cd K P R (i + 1) dp u I0 F) (fun i I1 F _ => pz_q (pz_bk K P R i dp u (I1 ++ [(21, 0, 0, u)]) F) (fun i I F _ o => o = .inr (i, pz_a (I ++ [(20, pz_h I0 u, 0, u)]) I1.length (pz_h (I ++ [(20, pz_h I0 u, 0, u)]) u), F, 0)))
def pz_ST45 (i : Nat) (dp u : Int) (I : List pz_I) (F : List pz_F) (o : pz_O) : Prop := if K i = 45 ∧ K (i + 1) = 17 then o = .inr (i + 2, I ++ [(0, 0, 0, u)] ++ [(29, 0, 0, u)], F, 0) else pz_q (R 4 0 [] (i + 1) dp u I F) (fun j I F _ => pz_qf (pz_tk K P 17 j I F) (fun j I F _ o => o = .inr (j, I ++ [(if K i = 45 then 29 else 30, 0, 0, u)], F, 0))) o
def pz_ST47 (i : Nat) (dp u : Int) (I0 : List pz_I) (F : List pz_F) : pz_O → Prop := pz_q (pz_bk K P R (i + 1) dp u (I0 ++ [(31, 0, 0, u)]) F) (fun i I1 F _ => pz_qf (pz_tk K P 48 i (pz_a (I1 ++ [(32, 0, 0, u)] ++ [(20, 0, 0, u)]) I0.length (pz_h (I1 ++ [(32, 0, 0, u)] ++ [(20, 0, 0, u)]) u)) F) (fun i I F _ => pz_qf (pz_op K P 10 dp i I F) (fun i I F _ => pz_qf (pz_dc K V P f i u I F) (fun i I F y => pz_qf (pz_tk K P 11 i (I ++ [(4, y, 0, u)] ++ [(5, 0, 0, u)]) F) (fun i I F _ => pz_q (pz_bk K P R i dp u I F) (fun i I F _ o => o = .inr (i, pz_a I (I1.length + 1) (pz_h I u), F, 0)))))))
def pz_STe (i : Nat) (dp u : Int) (I : List pz_I) (F : List pz_F) (o : pz_O) : Prop := if K i = 12 then o = pz_fa P 1 i else pz_q (R 4 0 [] i dp u I F) (fun i I F _ => pz_qf (pz_tk K P 17 i I F) (fun i I F _ o => o = .inr (i, I ++ [(5, 0, 0, u)], F, 0))) o
/-- 1: a statement -/
def pz_ST (i : Nat) (dp u : Int) (I : List pz_I) (F : List pz_F) (o : pz_O) : Prop := if K i = 40 then pz_ST40 K V P f R i dp u I F o else if K i = 41 then pz_ST41 K V P f R i dp u I F o else if K i = 42 then R 3 0 [] i dp u I F o else if K i = 44 then pz_ST44 K P R i dp u I F o else if K i = 45 ∨ K i = 46 then pz_ST45 K P R i dp u I F o else if K i = 47 then pz_ST47 K V P f R i dp u I F o else pz_STe K P R i dp u I F o
/-- 2: parameters, x of them have come -/
def pz_PM (x : Int) (i : Nat) (dp u : Int) (I : List pz_I) (F : List pz_F) (o : pz_O) : Prop := if K i ≠ 5 ∧ K i ≠ 6 then o = pz_fa P 1 i else if vix (pz_f f F u).2.2 (V i) ≠ -1 then o = pz_fa P 3 i else if x = 8 then o = pz_fa P 6 i else if K i = 6 then o = pz_fa P 7 i else if K (i + 1) = 16 then R 2 (x + 1) [] (i + 2) dp u I (pz_v f F u (V i)) o else o = .inr (i + 1, I, pz_v f F u (V i), 0)
/-- 3: if; J are the jumps to the end -/
def pz_CH (J : List Int) (i : Nat) (dp u : Int) (I : List pz_I) (F : List pz_F) : pz_O → Prop := pz_q (pz_cd K P R (i + 1) dp u I F) (fun i I1 F _ => pz_q (pz_bk K P R i dp u (I1 ++ [(21, 0, 0, u)]) F) (fun i I F _ o => if K i = 43 then (if K (i + 1) = 42 then R 3 0 ((I.length : Int) :: J) (i + 1) dp u (pz_a (I ++ [(20, -9, 0, u)]) I1.length (pz_h (I ++ [(20, -9, 0, u)]) u)) F o else pz_q (pz_bk K P R (i + 1) dp u (pz_a (I ++ [(20, -9, 0, u)]) I1.length (pz_h (I ++ [(20, -9, 0, u)]) u)) F) (fun i I2 F _ o => o = .inr (i, pz_aa I2 (pz_h I2 u) ((I.length : Int) :: J), F, 0)) o) else o = .inr (i, pz_aa (pz_a I I1.length (pz_h I u)) (pz_h I u) J, F, 0)))
/-- 4: a value -/
def pz_VA (i : Nat) (dp u : Int) (I : List pz_I) (F : List pz_F) : pz_O → Prop := pz_q (R 5 1 [] i dp u I F) (fun i I F t o => if K i ≠ 20 then o = .inr (i, I, F, 0) else if t = 0 then o = pz_fa P 2 i else if 50 ≤ dp then o = pz_fa P 4 i else pz_q (R 4 0 [] (i + 1) (dp + 1) u I.dropLast F) (fun i I2 F _ o => o = .inr (i, I2 ++ [if t = 1 then (4, (I.getD (I.length - 1) (0, 0, 0, 0)).2.1, 0, u) else (27, (if t = 2 then 1 else 3), (I.getD (I.length - 1) (0, 0, 0, 0)).2.2.1, u)], F, 0)) o)
/-- 5: what binds at least as close as l -/
def pz_E (l : Int) (i : Nat) (dp u : Int) (I : List pz_I) (F : List pz_F) (o : pz_O) : Prop := if l = 7 then R 7 0 [] i dp u I F o else pz_q (R 5 (l + 1) [] i dp u I F) (fun i I F t => R 6 l [t] i dp u I F) o
/-- 6: the operators of level l behind what has been read -/
def pz_L (l t : Int) (i : Nat) (dp u : Int) (I : List pz_I) (F : List pz_F) (o : pz_O) : Prop := if pz_lv (K i) ≠ l then o = .inr (i, I, F, t) else if l ≤ 2 then pz_q (R 5 (l + 1) [] (i + 1) dp u (I ++ [(if l = 1 then 22 else 23, 0, 0, u)]) F) (fun j I2 F _ => R 6 l [0] j dp u (pz_a I2 I.length (pz_h I2 u)) F) o else pz_q (R 5 (l + 1) [] (i + 1) dp u I F) (fun j I F _ => R 6 l [0] j dp u (I ++ [(pz_or (K i), 0, 0, u)]) F) o
/-- 7: fronts -/
def pz_FR (i : Nat) (dp u : Int) (I : List pz_I) (F : List pz_F) (o : pz_O) : Prop := if K i = 24 ∨ K i = 28 then (if 50 ≤ dp then o = pz_fa P 4 i else pz_q (R 7 0 [] (i + 1) (dp + 1) u I F) (fun j I F _ o => o = .inr (j, I ++ [(if K i = 24 then 12 else 13, 0, 0, u)], F, 0)) o) else R 8 0 [] i dp u I F o
/-- 8: behind -/
def pz_BH (i : Nat) (dp u : Int) (I : List pz_I) (F : List pz_F) : pz_O → Prop := pz_q (R 9 1 [] i dp u I F) (fun i I F t => R 10 0 [t] i dp u I F)
/-- [ e ] -/
def pz_el (i : Nat) (dp u : Int) (I : List pz_I) (F : List pz_F) : pz_O → Prop := pz_qf (pz_op K P 14 dp i I F) (fun i I F _ => pz_q (R 4 0 [] i (dp + 1) u I F) (fun i I F _ o => o = pz_tk K P 15 i (I ++ [(27, 2, -1, u)]) F))
def pz_FI49 (i : Nat) (dp u : Int) (I : List pz_I) (F : List pz_F) : pz_O → Prop := pz_q (R 9 0 [] (i + 1) dp u I F) (fun i I F _ => pz_q (R 14 0 [] i dp u I F) (fun i I F _ => pz_q (pz_es K P R i dp u I F) (fun i I F t o => o = .inr (i + 1, I ++ [(27, 6 + 16 * t, -1, u)], F, 0))))
def pz_FI54 (i : Nat) (dp u : Int) (I : List pz_I) (F : List pz_F) : pz_O → Prop := pz_q (pz_es K P R (i + 1) dp u I F) (fun j I F t o => o = if t ≠ pz_wa (K i) then pz_fa P 5 j else .inr (j + 1, I ++ [(28, K i - 54, 0, u)], F, 0))
def pz_FI14 (i : Nat) (dp u : Int) (I : List pz_I) (F : List pz_F) : pz_O → Prop := pz_qf (pz_op K P 14 dp i I F) (fun i I F _ => pz_q (fun o => if K i = 15 then o = .inr (i, I, F, 0) else R 12 0 [] i (dp + 1) u I F o) (fun i I F t => pz_qf (pz_tk K P 15 i I F) (fun i I F _ o => o = .inr (i, I ++ [(25, t, 0, u)], F, 0))))
def pz_FI12 (i : Nat) (dp u : Int) (I : List pz_I) (F : List pz_F) : pz_O → Prop := pz_qf (pz_op K P 12 dp i I F) (fun i I F _ => pz_q (fun o => if K i = 13 then o = .inr (i, I ++ [(26, 0, 0, u)], F, 0) else R 13 0 [] i (dp + 1) u (I ++ [(26, 0, 0, u)]) F o) (fun i I F _ => pz_qf (pz_tk K P 13 i I F) (fun i I F _ o => o = .inr (i, I, F, 0))))
/-- 9: first; x = 1: new may come -/
def pz_FI (x : Int) (i : Nat) (dp u : Int) (I : List pz_I) (F : List pz_F) (o : pz_O) : Prop := if K i = 2 then o = .inr (i + 1, I ++ [(0, 3, V i, u)], F, 0) else if K i = 3 then o = .inr (i + 1, I ++ [(0, 4, V i, u)], F, 0) else if K i = 4 then o = pz_fa P 7 i else if K i = 5 then o = .inr (i + 1, I ++ [(3, V i, 0, u)], F, 1) else if K i = 6 then o = pz_fa P 7 i else if K i = 10 then pz_q (pz_cd K P R i dp u I F) (fun i I F _ o => o = .inr (i, I, F, 0)) o else if K i = 14 then pz_FI14 K P R i dp u I F o else if K i = 12 then pz_FI12 K P R i dp u I F o else if K i = 41 then (if 400 ≤ f + F.length then o = pz_fa P 7 i else pz_q (pz_fn K P f R (i + 1) dp u I F) (fun i I F g o => o = .inr (i, I ++ [(24, g, 0, u)], F, 0)) o) else if K i = 50 then o = .inr (i + 1, I ++ [(33, 0, 0, u)], F, 0) else if K i = 51 ∨ K i = 52 ∨ K i = 53 then o = .inr (i + 1, I ++ [(0, if K i = 51 then 0 else if K i = 53 then 1 else 2, 0, u)], F, 0) else if K i = 49 then (if x = 0 then o = pz_fa P 1 i else pz_FI49 K P R i dp u I F o) else if 54 ≤ K i ∧ K i < 62 then pz_FI54 K P R i dp u I F o else o = pz_fa P 1 i
/-- 10: what may stand behind -/
def pz_BL (t : Int) (i : Nat) (dp u : Int) (I : List pz_I) (F : List pz_F) (o : pz_O) : Prop := if K i = 18 then pz_qf (pz_nm K V P (i + 1) I F) (fun i I F y o => if K i = 10 then pz_q (pz_es K P R i dp u I F) (fun i I F e => R 10 0 [0] (i + 1) dp u (I ++ [(27, 5 + 16 * e, y, u)]) F) o else R 10 0 [2] i dp u (I ++ [(27, 0, y, u)]) F o) o else if K i = 14 then pz_q (pz_el K P R i dp u I F) (fun i I F _ => R 10 0 [3] i dp u I F) o else if K i = 10 then pz_q (pz_es K P R i dp u I F) (fun i I F e => R 10 0 [0] (i + 1) dp u (I ++ [(27, 4 + 16 * e, -1, u)]) F) o else o = .inr (i, I, F, t)
/-- 11: ES, x of them have come -/
def pz_VL (x : Int) (i : Nat) (dp u : Int) (I : List pz_I) (F : List pz_F) (o : pz_O) : Prop := if x = 8 then ((¬ pz_bx (K i) ∧ o = pz_fa P 1 i) ∨ (pz_bx (K i) ∧ o = if (K i = 10 ∨ K i = 14 ∨ K i = 12 ∨ K i = 24 ∨ K i = 28) ∧ 50 ≤ dp then pz_fa P 4 i else pz_fa P 6 i)) else pz_q (R 4 0 [] i dp u I F) (fun i I F _ o => if K i = 16 then R 11 (x + 1) [] (i + 1) dp u I F o else o = if K i = 11 then .inr (i, I, F, x + 1) else pz_fa P 1 i) o
/-- 12: a list's -/
def pz_LI (x : Int) (i : Nat) (dp u : Int) (I : List pz_I) (F : List pz_F) : pz_O → Prop := pz_q (R 4 0 [] i dp u I F) (fun i I F _ o => if K i = 16 then R 12 (x + 1) [] (i + 1) dp u I F o else o = .inr (i, I, F, x + 1))
/-- 13: an object's -/
def pz_OB (i : Nat) (dp u : Int) (I : List pz_I) (F : List pz_F) : pz_O → Prop := pz_qf (pz_nm K V P i I F) (fun i I F y => pz_qf (pz_tk K P 19 i I F) (fun i I F _ => pz_q (R 4 0 [] i dp u (I ++ [(6, 0, 0, u)]) F) (fun i I F _ o => if K i = 16 then R 13 0 [] (i + 1) dp u (I ++ [(27, 1, y, u)] ++ [(5, 0, 0, u)]) F o else o = .inr (i, I ++ [(27, 1, y, u)] ++ [(5, 0, 0, u)], F, 0))))
/-- 14: what stands behind new's first -/
def pz_ML (i : Nat) (dp u : Int) (I : List pz_I) (F : List pz_F) (o : pz_O) : Prop := if K i = 18 then pz_qf (pz_nm K V P (i + 1) I F) (fun i I F y => R 14 0 [] i dp u (I ++ [(27, 0, y, u)]) F) o else if K i = 14 then pz_q (pz_el K P R i dp u I F) (fun i I F _ => R 14 0 [] i dp u I F) o else o = .inr (i, I, F, 0)
/-- the grammar -/
def pz_C : Prop := (∀ (i : Nat) (dp u : Int) (I : List pz_I) (F : List pz_F) (o : pz_O), pz_SS K R i dp u I F o → R 0 0 [] i dp u I F o) ∧ (∀ (i : Nat) (dp u : Int) (I : List pz_I) (F : List pz_F) (o : pz_O), pz_ST K V P f R i dp u I F o → R 1 0 [] i dp u I F o) ∧ (∀ (x : Int) (i : Nat) (dp u : Int) (I : List pz_I) (F : List pz_F) (o : pz_O), pz_PM K V P f R x i dp u I F o → R 2 x [] i dp u I F o) ∧ (∀ (J : List Int) (i : Nat) (dp u : Int) (I : List pz_I) (F : List pz_F) (o : pz_O), pz_CH K P R J i dp u I F o → R 3 0 J i dp u I F o) ∧ (∀ (i : Nat) (dp u : Int) (I : List pz_I) (F : List pz_F) (o : pz_O), pz_VA K P R i dp u I F o → R 4 0 [] i dp u I F o) ∧ (∀ (l : Int) (i : Nat) (dp u : Int) (I : List pz_I) (F : List pz_F) (o : pz_O), pz_E R l i dp u I F o → R 5 l [] i dp u I F o) ∧ (∀ (l t : Int) (i : Nat) (dp u : Int) (I : List pz_I) (F : List pz_F) (o : pz_O), pz_L K R l t i dp u I F o → R 6 l [t] i dp u I F o) ∧ (∀ (i : Nat) (dp u : Int) (I : List pz_I) (F : List pz_F) (o : pz_O), pz_FR K P R i dp u I F o → R 7 0 [] i dp u I F o) ∧ (∀ (i : Nat) (dp u : Int) (I : List pz_I) (F : List pz_F) (o : pz_O), pz_BH R i dp u I F o → R 8 0 [] i dp u I F o) ∧ (∀ (x : Int) (i : Nat) (dp u : Int) (I : List pz_I) (F : List pz_F) (o : pz_O), pz_FI K V P f R x i dp u I F o → R 9 x [] i dp u I F o) ∧ (∀ (t : Int) (i : Nat) (dp u : Int) (I : List pz_I) (F : List pz_F) (o : pz_O), pz_BL K V P R t i dp u I F o → R 10 0 [t] i dp u I F o) ∧ (∀ (x : Int) (i : Nat) (dp u : Int) (I : List pz_I) (F : List pz_F) (o : pz_O), pz_VL K P R x i dp u I F o → R 11 x [] i dp u I F o) ∧ (∀ (x : Int) (i : Nat) (dp u : Int) (I : List pz_I) (F : List pz_F) (o : pz_O), pz_LI K R x i dp u I F o → R 12 x [] i dp u I F o) ∧ (∀ (i : Nat) (dp u : Int) (I : List pz_I) (F : List pz_F) (o : pz_O), pz_OB K V P R i dp u I F o → R 13 0 [] i dp u I F o) ∧ (∀ (i : Nat) (dp u : Int) (I : List pz_I) (F : List pz_F) (o : pz_O), pz_ML K V P R i dp u I F o → R 14 0 [] i dp u I F o)
end G
/-- this comes out -/
def pz_P (K V P : Nat → Int) (f : Int) (k : Nat) (x : Int) (J : List Int) (i : Nat) (dp u : Int) (I : List pz_I) (F : List pz_F) (o : pz_O) : Prop := ∀ R : pz_R, pz_C K V P f R → R k x J i dp u I F o
variable {K V P : Nat → Int} {f : Int} {R : pz_R}
theorem pz_cSS (h : pz_C K V P f R) {i : Nat} {dp u : Int} {I : List pz_I} {F : List pz_F} {o : pz_O} (q : pz_SS K R i dp u I F o) : R 0 0 [] i dp u I F o := h.1 i dp u I F o q
theorem pz_cST (h : pz_C K V P f R) {i : Nat} {dp u : Int} {I : List pz_I} {F : List pz_F} {o : pz_O} (q : pz_ST K V P f R i dp u I F o) : R 1 0 [] i dp u I F o := h.2.1 i dp u I F o q
theorem pz_cPM (h : pz_C K V P f R) {x : Int} {i : Nat} {dp u : Int} {I : List pz_I} {F : List pz_F} {o : pz_O} (q : pz_PM K V P f R x i dp u I F o) : R 2 x [] i dp u I F o := h.2.2.1 x i dp u I F o q
theorem pz_cCH (h : pz_C K V P f R) {J : List Int} {i : Nat} {dp u : Int} {I : List pz_I} {F : List pz_F} {o : pz_O} (q : pz_CH K P R J i dp u I F o) : R 3 0 J i dp u I F o := h.2.2.2.1 J i dp u I F o q
theorem pz_cVA (h : pz_C K V P f R) {i : Nat} {dp u : Int} {I : List pz_I} {F : List pz_F} {o : pz_O} (q : pz_VA K P R i dp u I F o) : R 4 0 [] i dp u I F o := h.2.2.2.2.1 i dp u I F o q
theorem pz_cE (h : pz_C K V P f R) {l : Int} {i : Nat} {dp u : Int} {I : List pz_I} {F : List pz_F} {o : pz_O} (q : pz_E R l i dp u I F o) : R 5 l [] i dp u I F o := h.2.2.2.2.2.1 l i dp u I F o q
theorem pz_cL (h : pz_C K V P f R) {l t : Int} {i : Nat} {dp u : Int} {I : List pz_I} {F : List pz_F} {o : pz_O} (q : pz_L K R l t i dp u I F o) : R 6 l [t] i dp u I F o := h.2.2.2.2.2.2.1 l t i dp u I F o q
theorem pz_cFR (h : pz_C K V P f R) {i : Nat} {dp u : Int} {I : List pz_I} {F : List pz_F} {o : pz_O} (q : pz_FR K P R i dp u I F o) : R 7 0 [] i dp u I F o := h.2.2.2.2.2.2.2.1 i dp u I F o q
theorem pz_cBH (h : pz_C K V P f R) {i : Nat} {dp u : Int} {I : List pz_I} {F : List pz_F} {o : pz_O} (q : pz_BH R i dp u I F o) : R 8 0 [] i dp u I F o := h.2.2.2.2.2.2.2.2.1 i dp u I F o q
theorem pz_cFI (h : pz_C K V P f R) {x : Int} {i : Nat} {dp u : Int} {I : List pz_I} {F : List pz_F} {o : pz_O} (q : pz_FI K V P f R x i dp u I F o) : R 9 x [] i dp u I F o := h.2.2.2.2.2.2.2.2.2.1 x i dp u I F o q
theorem pz_cBL (h : pz_C K V P f R) {t : Int} {i : Nat} {dp u : Int} {I : List pz_I} {F : List pz_F} {o : pz_O} (q : pz_BL K V P R t i dp u I F o) : R 10 0 [t] i dp u I F o := h.2.2.2.2.2.2.2.2.2.2.1 t i dp u I F o q
theorem pz_cVL (h : pz_C K V P f R) {x : Int} {i : Nat} {dp u : Int} {I : List pz_I} {F : List pz_F} {o : pz_O} (q : pz_VL K P R x i dp u I F o) : R 11 x [] i dp u I F o := h.2.2.2.2.2.2.2.2.2.2.2.1 x i dp u I F o q
theorem pz_cLI (h : pz_C K V P f R) {x : Int} {i : Nat} {dp u : Int} {I : List pz_I} {F : List pz_F} {o : pz_O} (q : pz_LI K R x i dp u I F o) : R 12 x [] i dp u I F o := h.2.2.2.2.2.2.2.2.2.2.2.2.1 x i dp u I F o q
theorem pz_cOB (h : pz_C K V P f R) {i : Nat} {dp u : Int} {I : List pz_I} {F : List pz_F} {o : pz_O} (q : pz_OB K V P R i dp u I F o) : R 13 0 [] i dp u I F o := h.2.2.2.2.2.2.2.2.2.2.2.2.2.1 i dp u I F o q
theorem pz_cML (h : pz_C K V P f R) {i : Nat} {dp u : Int} {I : List pz_I} {F : List pz_F} {o : pz_O} (q : pz_ML K V P R i dp u I F o) : R 14 0 [] i dp u I F o := h.2.2.2.2.2.2.2.2.2.2.2.2.2.2 i dp u I F o q
end Wb6
