/-! PART oa: the law's start as a state of slots. -/
section Woa
theorem nbf {a b : Nat} (h : a ≠ b) : Nat.beq a b = false := by
  cases e : Nat.beq a b with
  | false => rfl
  | true => exact absurd (Nat.eq_of_beq_eq_true e) h
/-- what stands at place i of a cell -/
def hV (x : pe_E) (i : Int) : Int := match x with
  | .inl (_, n, c) => if i = -1 then (n : Int) else (pe_lk 0 i.toNat c).toInt
  | .inr (.inl (_, vs)) => if i = -1 then 0 else (match vs[i.toNat]? with
    | some (.int v) => v.toInt
    | some (.long v) => v.toInt
    | some (.ref a) => (a : Int)
    | some .null => -1
    | _ => -2)
  | .inr (.inr (.inl (_, n, c))) => if i = -1 then (n : Int) else (match pe_lk none i.toNat c with
    | some a => (a : Int)
    | none => -1)
  | .inr (.inr (.inr (_, n, c))) => if i = -1 then (n : Int) else (pe_lk 0 i.toNat c).toInt
def hpZ0 : pe_H := pe_HC ++ pe_HT
def hpZ : pe_H := hpZ0 ++ [.inr (.inr (.inr (1, 1, [])))]
def adZ (j : Nat) : Nat := bif Nat.beq j 1000001 then 388 else j
def SZ (j : Nat) (i : Int) : Int := bif Nat.beq j wG then (bif decide (i = 0) then (pm_sz (pe_D hpZ) : Int) else bif decide (i = 1) then 389 else 0) else bif Nat.beq j 1000001 then (bif decide (i = -1) then 1 else 0) else match hpZ0[j]? with
  | some x => hV x i
  | none => -1
def oaR (t : Nat) (v : Int) : Bool := match t with
  | 0 => decide (-2147483648 ≤ v ∧ v ≤ 2147483647)
  | 1 => decide (-9223372036854775808 ≤ v ∧ v ≤ 9223372036854775807)
  | 2 => decide (-128 ≤ v ∧ v ≤ 127)
  | 3 => decide (0 ≤ v ∧ v ≤ 1)
  | _ => true
def oaS (k : Nat) (x y : Int) : Bool := match k with
  | 4 => decide (y < 0) || Nat.blt y.toNat 388
  | 5 => decide (x < 0) || (Nat.blt x.toNat 388 && Nat.ble 100 (wY0.ty x.toNat))
  | 6 => decide (x < 0) || Nat.blt x.toNat 388
  | 7 => decide (x < 0) || (Nat.blt x.toNat 388 && Nat.beq (wY0.co x.toNat) 1)
  | _ => true
def oaC (j : Nat) (x : pe_E) : Bool := match x with
  | .inl (t, n, c) => Nat.beq (wY0.ty j) t && ((Nat.blt t 4 && !(Nat.beq t 1)) && (Nat.ble n 2147483647 && c.all (fun q => oaR t q.2.toInt)))
  | .inr (.inl (ci, vs)) => Nat.beq (wY0.ty j) (100 + ci) && (Nat.ble (wY0.fk ci).length vs.length && (List.range (wY0.fk ci).length).all (fun i => match (wY0.fk ci)[i]? with
    | some k => ((Nat.beq k 6 && decide (hV x (i : Int) = -2)) || decide (vs[i]? = some (w_f adZ k (hV x (i : Int)) (wY0.ln j i)))) && (oaR k (hV x (i : Int)) && oaS k (hV x (i : Int)) (wY0.ln j i))
    | none => true))
  | .inr (.inr (.inl (t, n, c))) => Nat.beq (wY0.ty j) t && ((Nat.ble 5 t && Nat.blt t 100) && (Nat.ble n 2147483647 && (List.range n).all (fun i => decide (pm_r (pe_lk none i c) = w_r adZ (if t = 5 then wY0.ln j i else hV x (i : Int))) && oaS (if t = 5 then 4 else 5) (hV x (i : Int)) (wY0.ln j i))))
  | .inr (.inr (.inr (t, n, _))) => Nat.beq (wY0.ty j) t && (Nat.beq t 1 && Nat.ble n 2147483647)
def oaA (j : Nat) : Bool := match hpZ0[j]? with
  | some x => oaC j x
  | none => false
theorem hpZ0_len : hpZ0.length = 388 := pe_HM_len
theorem hpZ_len : hpZ.length = 389 := by
  unfold hpZ
  rw [List.length_append, hpZ0_len]
  rfl
set_option maxRecDepth 40000 in
theorem oaA_0 : (List.range 100).all oaA = true := by decide +kernel
set_option maxRecDepth 40000 in
theorem oaA_1 : (List.range 100).all (fun j => oaA (100 + j)) = true := by decide +kernel
set_option maxRecDepth 40000 in
theorem oaA_2 : (List.range 100).all (fun j => oaA (200 + j)) = true := by decide +kernel
set_option maxRecDepth 40000 in
theorem oaA_3 : (List.range 88).all (fun j => oaA (300 + j)) = true := by decide +kernel
theorem oaA_all {j : Nat} (hj : j < 388) : oaA j = true := by
  by_cases c0 : j < 100
  · exact List.all_eq_true.1 oaA_0 j (List.mem_range.2 c0)
  by_cases c1 : j < 200
  · have := List.all_eq_true.1 oaA_1 (j - 100) (List.mem_range.2 (by omega))
    rwa [show 100 + (j - 100) = j by omega] at this
  by_cases c2 : j < 300
  · have := List.all_eq_true.1 oaA_2 (j - 200) (List.mem_range.2 (by omega))
    rwa [show 200 + (j - 200) = j by omega] at this
  · have := List.all_eq_true.1 oaA_3 (j - 300) (List.mem_range.2 (by omega))
    rwa [show 300 + (j - 300) = j by omega] at this
theorem SZ_at {j : Nat} {x : pe_E} (hj : j < 388) (h : hpZ0[j]? = some x) (i : Int) : SZ j i = hV x i := by
  unfold SZ
  rw [show Nat.beq j wG = false from nbf (by unfold wG; omega) , show Nat.beq j 1000001 = false from nbf (by omega), h]
  rfl
theorem SZ_no {j : Nat} (hj : 388 ≤ j) (h1 : j ≠ wG) (h2 : j ≠ 1000001) (i : Int) : SZ j i = -1 := by
  unfold SZ
  rw [show Nat.beq j wG = false from nbf h1, show Nat.beq j 1000001 = false from nbf h2, List.getElem?_eq_none (by rw [hpZ0_len]; exact hj)]
  rfl
theorem SZ_o (i : Int) : SZ 1000001 i = if i = -1 then 1 else 0 := by
  unfold SZ
  rw [show Nat.beq 1000001 wG = false by decide +kernel, show Nat.beq 1000001 1000001 = true by decide +kernel]
  show (bif decide (i = -1) then (1 : Int) else 0) = _
  by_cases c : i = -1
  · rw [if_pos c, decide_eq_true c]; rfl
  · rw [if_neg c, decide_eq_false c]; rfl
theorem SZ_pr {j : Nat} (h : w_pr wY0 SZ j) : j < 388 ∨ j = 1000001 := by
  obtain ⟨h1, h2⟩ := h
  by_cases c : j < 388
  · exact Or.inl c
  · by_cases c2 : j = 1000001
    · exact Or.inr c2
    · exfalso
      rcases h1 with h1 | h1
      · exact c h1
      · rw [SZ_no (by omega) h2 c2] at h1
        omega
theorem pr_lt {j : Nat} (h : j < 388) : w_pr wY0 SZ j := ⟨Or.inl h, by unfold wG; omega⟩
theorem oaR_ok : ∀ {t : Nat} {v : Int}, oaR t v = true → w_rg t v
  | 0, v, h => of_decide_eq_true (p := -2147483648 ≤ v ∧ v ≤ 2147483647) h
  | 1, v, h => of_decide_eq_true (p := -9223372036854775808 ≤ v ∧ v ≤ 9223372036854775807) h
  | 2, v, h => of_decide_eq_true (p := -128 ≤ v ∧ v ≤ 127) h
  | 3, v, h => of_decide_eq_true (p := 0 ≤ v ∧ v ≤ 1) h
  | _ + 4, _, _ => trivial
theorem oaR_0 : ∀ t : Nat, w_rg t 0
  | 0 => ⟨by omega, by omega⟩
  | 1 => ⟨by omega, by omega⟩
  | 2 => ⟨by omega, by omega⟩
  | 3 => ⟨by omega, by omega⟩
  | _ + 4 => trivial
theorem oaS_ok : ∀ {k : Nat} {x y : Int}, oaS k x y = true → w_sr wY0 SZ k x y
  | 0, _, _, _ => trivial
  | 1, _, _, _ => trivial
  | 2, _, _, _ => trivial
  | 3, _, _, _ => trivial
  | 4, x, y, h => by
    replace h : (decide (y < 0) || Nat.blt y.toNat 388) = true := h
    rw [Bool.or_eq_true, decide_eq_true_eq] at h
    exact h.imp id (fun z => pr_lt (Nat.le_of_ble_eq_true z))
  | 5, x, y, h => by
    replace h : (decide (x < 0) || (Nat.blt x.toNat 388 && Nat.ble 100 (wY0.ty x.toNat))) = true := h
    rw [Bool.or_eq_true, decide_eq_true_eq, Bool.and_eq_true] at h
    exact h.imp id (fun z => ⟨pr_lt (Nat.le_of_ble_eq_true z.1), Nat.le_of_ble_eq_true z.2⟩)
  | 6, x, y, h => by
    replace h : (decide (x < 0) || Nat.blt x.toNat 388) = true := h
    rw [Bool.or_eq_true, decide_eq_true_eq] at h
    exact h.imp id (fun z => pr_lt (Nat.le_of_ble_eq_true z))
  | 7, x, y, h => by
    replace h : (decide (x < 0) || (Nat.blt x.toNat 388 && Nat.beq (wY0.co x.toNat) 1)) = true := h
    rw [Bool.or_eq_true, decide_eq_true_eq, Bool.and_eq_true] at h
    exact h.imp id (fun z => ⟨pr_lt (Nat.le_of_ble_eq_true z.1), Nat.eq_of_beq_eq_true z.2⟩)
  | _ + 8, _, _, _ => trivial
theorem lk_all {α : Type} {P : α → Prop} {d : α} (hd : P d) : ∀ (c : List (Nat × α)) (i : Nat), (∀ q ∈ c, P q.2) → P (pe_lk d i c) := by
  intro c
  induction c with
  | nil => intro i _; exact hd
  | cons a r ih =>
    intro i h
    show P (bif Nat.beq a.1 i then a.2 else pe_lk d i r)
    cases Nat.beq a.1 i with
    | true => exact h a List.mem_cons_self
    | false => exact ih i (fun q hq => h q (List.mem_cons_of_mem _ hq))
theorem oa_cell {j : Nat} {x : pe_E} (hj : j < 388) (hx : hpZ0[j]? = some x) : w_c wY0 adZ SZ j x := by
  have h := oaA_all hj
  unfold oaA at h
  rw [hx] at h
  replace h : oaC j x = true := h
  have e := SZ_at hj hx
  rcases x with ⟨t, n, c⟩ | ⟨ci, vs⟩ | ⟨t, n, c⟩ | ⟨t, n, c⟩
  · unfold oaC at h
    simp only [Bool.and_eq_true, Bool.not_eq_true', List.all_eq_true] at h
    obtain ⟨h1, ⟨h2, h3⟩, h4, h5⟩ := h
    refine ⟨Nat.eq_of_beq_eq_true h1, ⟨Nat.le_of_ble_eq_true h2, fun q => by rw [q] at h3; cases h3⟩, ⟨by rw [e]; rfl, Nat.le_of_ble_eq_true h4⟩, fun i hi => ?_⟩
    have e2 : SZ j (i : Int) = (pe_lk 0 i c).toInt := by
      rw [e]
      show (if (i : Int) = -1 then (n : Int) else (pe_lk 0 (i : Int).toNat c).toInt) = _
      rw [if_neg (by omega), Int.toNat_natCast]
    rw [e2]
    exact ⟨rfl, lk_all (P := fun v : Int32 => w_rg t v.toInt) (show w_rg t (Int32.toInt 0) from oaR_0 t) c i (fun q hq => oaR_ok (h5 q hq))⟩
  · unfold oaC at h
    simp only [Bool.and_eq_true, List.all_eq_true] at h
    obtain ⟨h1, h2, h3⟩ := h
    refine ⟨Nat.eq_of_beq_eq_true h1, Nat.le_of_ble_eq_true h2, fun i k hk => ?_⟩
    have hi := (List.getElem?_eq_some_iff.1 hk).1
    have h4 := h3 i (List.mem_range.2 hi)
    rw [hk] at h4
    simp only [Bool.and_eq_true, Bool.or_eq_true, decide_eq_true_eq] at h4
    rw [e]
    exact ⟨h4.1.imp (fun z => ⟨Nat.eq_of_beq_eq_true z.1, z.2⟩) id, oaR_ok h4.2.1, oaS_ok h4.2.2⟩
  · unfold oaC at h
    simp only [Bool.and_eq_true, List.all_eq_true] at h
    obtain ⟨h1, ⟨h2, h3⟩, h4, h5⟩ := h
    refine ⟨Nat.eq_of_beq_eq_true h1, ⟨Nat.le_of_ble_eq_true h2, Nat.le_of_ble_eq_true h3⟩, ⟨by rw [e]; rfl, Nat.le_of_ble_eq_true h4⟩, fun i hi => ?_⟩
    have h6 := h5 i (List.mem_range.2 hi)
    simp only [decide_eq_true_eq] at h6
    rw [e]
    exact ⟨h6.1, oaS_ok h6.2⟩
  · unfold oaC at h
    simp only [Bool.and_eq_true] at h
    obtain ⟨h1, h2, h3⟩ := h
    refine ⟨Nat.eq_of_beq_eq_true h1, Nat.eq_of_beq_eq_true h2, ⟨by rw [e]; rfl, Nat.le_of_ble_eq_true h3⟩, fun i hi => ?_⟩
    rw [e]
    show _ = (if (i : Int) = -1 then (n : Int) else (pe_lk 0 (i : Int).toNat c).toInt)
    rw [if_neg (by omega), Int.toNat_natCast]
/-- the heap behind the two objects and the law's row holds the start -/
theorem wE_Z : w_E wY0 adZ SZ hpZ := by
  have ad1 : ∀ j : Nat, j < 388 → adZ j = j := fun j hj => by
    unfold adZ
    rw [show Nat.beq j 1000001 = false from nbf (by omega)]
    rfl
  have ad2 : adZ 1000001 = 388 := by decide +kernel
  refine ⟨fun j hj => ?_, fun j k hj hk e => ?_, rfl, ?_, fun j hj => ?_⟩
  · rcases SZ_pr hj with c | rfl
    · have hl : j < hpZ0.length := by rw [hpZ0_len]; exact c
      refine ⟨hpZ0[j], ?_, oa_cell c (List.getElem?_eq_getElem hl)⟩
      rw [ad1 j c]
      unfold hpZ
      rw [List.getElem?_append_left hl]
      exact List.getElem?_eq_getElem hl
    · refine ⟨.inr (.inr (.inr (1, 1, []))), ?_, ?_⟩
      · rw [ad2]
        unfold hpZ
        rw [List.getElem?_append_right (by rw [hpZ0_len]; exact Nat.le_refl _), hpZ0_len]
        rfl
      · refine ⟨by decide +kernel, rfl, ⟨SZ_o _, by decide⟩, fun i hi => ?_⟩
        rw [SZ_o, if_neg (by omega)]
        rfl
  · rcases SZ_pr hj with c | rfl
    · rcases SZ_pr hk with c2 | rfl
      · rw [ad1 j c, ad1 k c2] at e; exact e
      · rw [ad1 j c, ad2] at e; omega
    · rcases SZ_pr hk with c2 | rfl
      · rw [ad1 k c2, ad2] at e; omega
      · rfl
  · rw [show SZ wG 1 = 389 by decide +kernel, hpZ_len]
    rfl
  · have e1 : SZ wG 1 = 389 := by decide +kernel
    rw [e1]
    rcases SZ_pr hj with c | rfl <;> omega
/-- from the block ahead of the loop to the loop -/
theorem go_1 {xs : List (Nat × List Int32)} {f d : Nat} (h : pe_H) : pe_go (pe_GA xs) (f + 6) d t_LL_law ((pe_at t_LL_law.bl 1).getD (0, [])).2 pe_L0 [] h = pe_go (pe_GA xs) f d t_LL_law ((pe_at t_LL_law.bl 2).getD (0, [])).2 [(4, .int 0), (3, .ref h.length), (2, .ref 237), (1, .ref 0), (0, .retAddr 6)] [] (h ++ [.inr (.inr (.inr (1, 1, [])))]) := by
  show pe_f_newarray .long (pe_GA xs).xs t_LL_law.mx pe_L0 [.int 1] h (fun L st h => pe_go (pe_GA xs) (f + 4) d t_LL_law ((((pe_at t_LL_law.bl 1).getD (0, [])).2).drop 2) L st h) = _
  unfold pe_f_newarray pe_1i
  dsimp only
  rw [show (!(decide ((1 : Int32) < 0)) && Nat.ble ((1 : Int32).toNatClampNeg * 8) 536870912) = true by decide +kernel, cond_true, pe_fn_eq, pe_fn_eq]
  show (pe_pushk (.inr (.inr (.inr (1, 1, [])))) h fun h2 => pe_go (pe_GA xs) (f + 4) d t_LL_law ((((pe_at t_LL_law.bl 1).getD (0, [])).2).drop 2) pe_L0 [.ref h.length] h2) = _
  rw [pe_pushk_eq]
  rfl
theorem go_Z {xs : List (Nat × List Int32)} {f d : Nat} {r : pm_O × pe_H} (h : pe_go (pe_GA xs) f d t_LL_law ((pe_at t_LL_law.bl 2).getD (0, [])).2 [(4, .int 0), (3, .ref 388), (2, .ref 237), (1, .ref 0), (0, .retAddr 6)] [] hpZ = some r) : pe_go (pe_GA xs) (f + 6) d t_LL_law ((pe_at t_LL_law.bl 1).getD (0, [])).2 pe_L0 [] (pe_HC ++ pe_HT) = some r := by
  rw [go_1, show (pe_HC ++ pe_HT).length = 388 from hpZ0_len]
  exact h
end Woa
