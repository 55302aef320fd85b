/-! PART br: the reference's Ints. -/
section Wbr
variable {xs : List (Nat × List Int32)} {M : Nat → Prop} {d : Nat} {A B C S Z : wS} {Q : wO → wS → Prop}
/-- the names of the f-th part -/
def nP (f : Nat) : Nat := 2000000 + 64 * f
theorem wy_pp {f c : Nat} (hf : f ≤ 1000) (hc : c < 64) : wY0.ty (nP f + c) = (bif Nat.beq c 0 then 114 else bif Nat.blt c 2 || Nat.ble 5 c then 0 else 113) := by
  have h1 : nP f + c = 2000000 + 64 * f + c := rfl
  show (bif Nat.blt (nP f + c) 388 then _ else bif Nat.ble 4000000 (nP f + c) then _ else wy_p (nP f + c)) = _
  rw [show Nat.blt (nP f + c) 388 = false from wn_ble (by omega), show Nat.ble 4000000 (nP f + c) = false from wn_ble (by omega)]
  show wy_p (nP f + c) = _
  unfold wy_p
  rw [show Nat.ble 2000000 (nP f + c) = true from Nat.ble_eq_true_of_le (by omega), show (nP f + c - 2000000) % 64 = c by omega]
  rfl
theorem wt_P0 {f : Nat} (hf : f ≤ 1000) : wY0.ty (nP f) = 114 := wy_pp (c := 0) hf (by decide)
theorem wt_P1 {f c : Nat} (hf : f ≤ 1000) (hc : c = 1 ∨ (16 ≤ c ∧ c < 64)) : wY0.ty (nP f + c) = 0 := by
  rw [wy_pp hf (by omega), wn_beq (show c ≠ 0 by omega)]
  rcases hc with rfl | hc
  · rfl
  · rw [show Nat.ble 5 c = true from Nat.ble_eq_true_of_le (by omega), Bool.or_true]; rfl
theorem wt_P2 {f c : Nat} (hf : f ≤ 1000) (hc : 2 ≤ c ∧ c ≤ 4) : wY0.ty (nP f + c) = 113 := by
  rw [wy_pp hf (by omega), wn_beq (show c ≠ 0 by omega), show Nat.blt c 2 = false from wn_ble (by omega), show Nat.ble 5 c = false from wn_ble (by omega)]; rfl
theorem wc_P1 {f c : Nat} (hf : f ≤ 1000) (hc : c = 1 ∨ (16 ≤ c ∧ c < 64)) : wY0.co (nP f + c) = 1 := by
  have h1 : nP f + c = 2000000 + 64 * f + c := rfl
  show (bif Nat.beq (nP f + c) 288 || (Nat.beq (nP f + c) 290 || (Nat.beq (nP f + c) 292 || ((Nat.ble 4000000 (nP f + c) && Nat.beq ((nP f + c - 4000000) % 64) 10) || wy_q (nP f + c)))) then 1 else 0) = 1
  have h2 : wy_q (nP f + c) = true := by
    unfold wy_q
    rw [show Nat.ble 2000000 (nP f + c) = true from Nat.ble_eq_true_of_le (by omega), show Nat.blt (nP f + c) 4000000 = true from Nat.ble_eq_true_of_le (by omega), show (nP f + c - 2000000) % 64 = c by omega]
    rcases hc with rfl | hc
    · rfl
    · rw [show Nat.ble 16 c = true from Nat.ble_eq_true_of_le hc.1, Bool.or_true]; rfl
  rw [h2, Bool.or_true, Bool.or_true, Bool.or_true, Bool.or_true]
  rfl
theorem nP_G {f c : Nat} : nP f + c ≠ wG := by unfold nP wG; omega
/-- the places of the g-th array -/
def cap : Nat → Int
  | 0 => 16
  | g + 1 => 2 * cap g
theorem cap_mo {g h : Nat} (q : g ≤ h) : cap g ≤ cap h ∧ 16 ≤ cap g := by
  have h0 : ∀ g : Nat, 16 ≤ cap g := fun g => by
    induction g with
    | zero => decide
    | succ g ih => show 16 ≤ 2 * cap g; omega
  refine ⟨?_, h0 g⟩
  induction q with
  | refl => exact Int.le_refl _
  | step q ih =>
    rename_i m
    show cap g ≤ 2 * cap m
    have := h0 m
    omega
theorem cap_le {g : Nat} (q : g ≤ 11) : 16 ≤ cap g ∧ cap g ≤ 32768 := ⟨(cap_mo q).2, (cap_mo q).1⟩
theorem cap_11 {g : Nat} (q : g ≤ 11) (h : cap g < 20000) : g ≤ 10 := by
  by_cases e : g = 11
  · subst e; exact absurd h (by decide)
  · omega
theorem cap_12 {g : Nat} (q : g ≤ 11) (h : cap g < 4096) : cap g ≤ 2048 := by
  by_cases e : 8 ≤ g
  · have h1 := (cap_mo e).1
    have h2 : cap 8 = 4096 := rfl
    omega
  · have h1 := (cap_mo (show g ≤ 7 by omega)).1
    have h2 : cap 7 = 2048 := rfl
    omega
/-- an Ints object and the names of its arrays -/
def hfam (o : Nat) (fam : Nat → Nat) : Prop := (wY0.ty o = 113 ∧ o ≠ wG ∧ o < 4000000) ∧ ∀ g : Nat, g ≤ 11 → (wY0.ty (fam g) = 0 ∧ wY0.co (fam g) = 1 ∧ fam g ≠ wG ∧ fam g < 4000000 ∧ fam g ≠ o) ∧ ∀ h : Nat, h ≤ 11 → fam g = fam h → g = h
/-- an Ints holds these -/
def iI (o : Nat) (fam : Nat → Nat) (most : Int) (l : List Int) (S : wS) : Prop := (S o 0 = most ∧ S o 2 = (l.length : Int) ∧ w_pr wY0 S o) ∧ ∃ g : Nat, g ≤ 11 ∧ S o 1 = (fam g : Int) ∧ S (fam g) (-1) = cap g ∧ w_pr wY0 S (fam g) ∧ ((l.length : Int) ≤ cap g ∨ most ≤ cap g) ∧ (∀ k : Nat, k < l.length → (k : Int) < most → S (fam g) (k : Int) = l.getD k 0) ∧ ∀ h : Nat, g < h → h ≤ 11 → ¬ w_pr wY0 S (fam h)
/-- what an Ints may still cost -/
def phi (o : Nat) (S : wS) : Int := if o < 2000000 then max (-8192) (-2 * S (S o 1).toNat (-1)) else max 0 (4 * S o 2 - 2 * S (S o 1).toNat (-1))
/-- nothing but this Ints has changed -/
def ia_f (o : Nat) (fam : Nat → Nat) (S Z : wS) : Prop := ∀ (j : Nat) (x : Int), j ≠ wG → j ≠ o → (∀ g : Nat, g ≤ 11 → j ≠ fam g) → Z j x = S j x
def ia_ag (o : Nat) (fam : Nat → Nat) (S Z : wS) : Prop := ia_f o fam S Z ∧ (((2000000 ≤ o → Z wG 0 + phi o Z ≤ S wG 0 + phi o S + 4) ∧ (o < 2000000 → S o 0 ≤ 4096 → Z wG 0 + phi o Z ≤ S wG 0 + phi o S)) ∧ S wG 0 ≤ Z wG 0 ∧ 32 * (Z wG 1 - S wG 1) ≤ Z wG 0 - S wG 0 ∧ S wG 1 ≤ Z wG 1)
variable {o : Nat} {fam : Nat → Nat} {most v : Int} {l : List Int} {g : Nat}
theorem gD_c {l : List Int} {k : Nat} {v : Int} (h : k < l.length) : (l ++ [v]).getD k 0 = l.getD k 0 := gD_l h
/-- one more that isn't kept -/
theorem ia_m (hf : hfam o fam) (h : iI o fam most l S) (hm : most ≤ (l.length : Int)) : iI o fam most (l ++ [v]) (w_up S o 2 ((l.length : Int) + 1)) ∧ ia_ag o fam S (w_up S o 2 ((l.length : Int) + 1)) := by
  obtain ⟨⟨h1, h2, h3⟩, g, g1, g2, g3, g4, g5, g6, g7⟩ := h
  have hne := (hf.2 g g1).1.2.2.2.2
  have hlen : ((l ++ [v]).length : Int) = (l.length : Int) + 1 := by rw [List.length_append]; rfl
  have e2 : w_up S o 2 ((l.length : Int) + 1) o 2 = (l.length : Int) + 1 := w_up_same _ _ _ _
  have e1 : w_up S o 2 ((l.length : Int) + 1) o 1 = (fam g : Int) := (w_up_at (by decide)).trans g2
  have ea : ∀ x : Int, w_up S o 2 ((l.length : Int) + 1) (fam g) x = S (fam g) x := fun x => w_up_slot hne
  have hl0 : ((l ++ [v]).length : Nat) = l.length + 1 := by rw [List.length_append]; rfl
  refine ⟨⟨⟨(w_up_at (by decide)).trans h1, by rw [e2, hlen], (w_up_pr (by decide)).mpr h3⟩, g, g1, e1, by rw [ea]; exact g3, (w_up_pr (by decide)).mpr g4, Or.inr (by omega), fun k k1 k2 => ?_, fun h q1 q2 q3 => g7 h q1 q2 ((w_up_pr (by decide)).mp q3)⟩, fun j x q1 q2 q3 => w_up_slot q2, ?_⟩
  · rw [ea, gD_c (by omega)]; exact g6 k (by omega) k2
  · have eG : ∀ x : Int, w_up S o 2 ((l.length : Int) + 1) wG x = S wG x := fun x => w_up_slot (Ne.symm hf.1.2.1)
    unfold phi
    rw [e2, e1, eG, eG, Int.toNat_natCast, ea, h2, g2, Int.toNat_natCast]
    omega
/-- one more that is kept: the array has room -/
theorem ia_r (hf : hfam o fam) (h : iI o fam most l S) (hm : (l.length : Int) < most) (hg : g ≤ 11) (g2 : S o 1 = (fam g : Int)) (hc : (l.length : Int) < cap g) : iI o fam most (l ++ [v]) (w_up (w_up S (fam g) (l.length : Int) v) o 2 ((l.length : Int) + 1)) ∧ ia_ag o fam S (w_up (w_up S (fam g) (l.length : Int) v) o 2 ((l.length : Int) + 1)) := by
  obtain ⟨⟨h1, h2, h3⟩, g0, g1, g20, g3, g4, g5, g6, g7⟩ := h
  have e0 : g0 = g := (hf.2 g0 g1).2 g hg (by omega)
  subst e0
  have hne := (hf.2 g0 g1).1.2.2.2.2
  have hG := (hf.2 g0 g1).1.2.2.1
  have hlen : ((l ++ [v]).length : Int) = (l.length : Int) + 1 := by rw [List.length_append]; rfl
  have hl0 : ((l ++ [v]).length : Nat) = l.length + 1 := by rw [List.length_append]; rfl
  have e2 : w_up (w_up S (fam g0) (l.length : Int) v) o 2 ((l.length : Int) + 1) o 2 = (l.length : Int) + 1 := w_up_same _ _ _ _
  have e1 : w_up (w_up S (fam g0) (l.length : Int) v) o 2 ((l.length : Int) + 1) o 1 = (fam g0 : Int) := (w_up_at (by decide)).trans ((w_up_slot (Ne.symm hne)).trans g2)
  have ea : ∀ x : Int, x ≠ (l.length : Int) → w_up (w_up S (fam g0) (l.length : Int) v) o 2 ((l.length : Int) + 1) (fam g0) x = S (fam g0) x := fun x hx => (w_up_slot hne).trans (w_up_at hx)
  refine ⟨⟨⟨(w_up_at (by decide)).trans ((w_up_slot (Ne.symm hne)).trans h1), by rw [e2, hlen], (w_up_pr (by decide)).mpr ((w_up_pr (by omega)).mpr h3)⟩, g0, g1, e1, by rw [ea _ (by omega)]; exact g3, (w_up_pr (by decide)).mpr ((w_up_pr (by omega)).mpr g4), Or.inl (by omega), fun k k1 k2 => ?_, fun h q1 q2 q3 => g7 h q1 q2 ((w_up_pr (by omega)).mp ((w_up_pr (by decide)).mp q3))⟩, fun j x q1 q2 q3 => (w_up_slot q2).trans (w_up_slot (q3 g0 g1)), ?_⟩
  · by_cases e : k = l.length
    · subst e
      rw [gD_r]
      exact (w_up_slot hne).trans (w_up_same _ _ _ _)
    · rw [ea _ (by omega), gD_c (by omega)]; exact g6 k (by omega) k2
  · have eG : ∀ x : Int, w_up (w_up S (fam g0) (l.length : Int) v) o 2 ((l.length : Int) + 1) wG x = S wG x := fun x => (w_up_slot (Ne.symm hf.1.2.1)).trans (w_up_slot (Ne.symm hG))
    unfold phi
    rw [e2, e1, eG, eG, Int.toNat_natCast, ea _ (by omega), h2, g2, Int.toNat_natCast]
    omega
theorem ia_4 (hf : hfam o fam) (hm : 16 ≤ most ∧ most ≤ 20000) (h : iI o fam most l S) (hv : -2147483648 ≤ v ∧ v ≤ 2147483647) (hl : (l.length : Int) ≤ 1000000) (hlm : (l.length : Int) < most) (hg : g ≤ 11) (q2 : S o 1 = (fam g : Int)) (hc : (l.length : Int) < cap g) : wJ (pe_GA xs) wY0 M d t_MI_add ((pe_at t_MI_add.bl 4).getD (0, [])).2 [(0, (2, (o : Int))), (1, (0, v))] [] S (fun q Z => q = .inl none ∧ iI o fam most (l ++ [v]) Z ∧ ia_ag o fam S Z) := by
  have hi := ia_r (v := v) hf h hlm hg q2 hc
  obtain ⟨⟨h1, h2, h3⟩, g0, g1, g20, g3, g4, g5, g6, g7⟩ := h
  have e0 : g0 = g := (hf.2 g0 g1).2 g hg (by omega)
  subst e0
  have g2 := q2
  have hne := (hf.2 g0 g1).1.2.2.2.2
  refine wa_aload_n (n := 0) rfl ?_
  refine wb_gf7 o rfl h3 hf.1.1 wf_13_1 (v := (fam g0 : Int)) (g2) ?_
  refine wa_aload_n (n := 0) rfl ?_
  refine wb_gfi o rfl h3 hf.1.1 wf_13_2 (v := (l.length : Int)) (h2) (fun r101 => ?_)
  refine wa_iload_n (n := 1) rfl ?_
  refine wb_iast (fam g0) rfl g4 (hf.2 g0 g1).1.1 (n := (cap g0)) (g3) (by omega) (by omega) ⟨(by omega), (by omega)⟩ ?_
  refine wa_aload_n (n := 0) rfl ?_
  refine wa_dup (by decide) ?_
  refine wb_gfi o rfl ((w_up_pr (by omega)).mpr h3) hf.1.1 wf_13_2 (v := (l.length : Int)) ((w_up_slot (by omega)).trans (h2)) (fun r102 => ?_)
  refine wa_iconst ?_
  refine wa_iadd ?_
  refine wb_pfi o rfl ((w_up_pr (by omega)).mpr h3) hf.1.1 wf_13_2 (n := 2) rfl ⟨(by omega), (by omega)⟩ ?_
  refine wa_return rfl ?_
  exact ⟨rfl, hi⟩
/-- the first k have been copied -/
def icI (a b : Nat) (k : Nat) (S Z : wS) : Prop := (∀ x : Nat, x < k → Z b (x : Int) = S a (x : Int)) ∧ ∀ (j : Nat) (y : Int), (j ≠ b ∨ y < 0 ∨ (k : Int) ≤ y) → Z j y = S j y
theorem icI_s {a b k : Nat} (h : icI a b k S Z) : icI a b (k + 1) S (w_up Z b (k : Int) (S a (k : Int))) := by
  refine ⟨fun x hx => ?_, fun j y hj => (w_up_no (by omega)).trans (h.2 j y (by omega))⟩
  by_cases e : x = k
  · subst e; exact w_up_same _ _ _ _
  · rw [w_up_at (by omega)]; exact h.1 x (by omega)
theorem ic_l {a b : Nat} {c n : Int} (hto : wY0.ty o = 113) (hta : wY0.ty a = 0) (htb : wY0.ty b = 0) (hab : a ≠ b) (hoa : o ≠ a) (hob : o ≠ b) (po : w_pr wY0 S o) (pa : w_pr wY0 S a) (pb : w_pr wY0 S b) (e1 : S o 1 = (a : Int)) (e2 : S o 2 = (l.length : Int)) (la : S a (-1) = c) (lb : S b (-1) = n) (hcn : (l.length : Int) ≤ c ∧ (l.length : Int) ≤ n) (hl : (l.length : Int) ≤ 1000000) (hkk : ∀ Z, icI a b l.length S Z → wJ (pe_GA xs) wY0 M d t_MI_add ((pe_at t_MI_add.bl 3).getD (0, [])).2 [(0, (2, (o : Int))), (1, (0, v)), (2, (2, (b : Int)))] [] Z Q) : ∀ (fu k : Nat) (Z : wS), l.length - k < fu → k ≤ l.length → icI a b k S Z → wJ (pe_GA xs) wY0 M d t_MI_add ((pe_at t_MI_add.bl 2).getD (0, [])).2 [(0, (2, (o : Int))), (1, (0, v)), (2, (2, (b : Int))), (3, (0, (k : Int)))] [] Z Q := by
  intro fu
  induction fu with
  | zero => intro k Z hm; exact absurd hm (Nat.not_lt_zero _)
  | succ fu ih =>
    intro k Z hm hk hz
    have z1 : Z o 1 = (a : Int) := (hz.2 o 1 (Or.inl hob)).trans e1
    have z2 : Z o 2 = (l.length : Int) := (hz.2 o 2 (Or.inl hob)).trans e2
    have za : Z a (-1) = c := (hz.2 a (-1) (Or.inl hab)).trans la
    have zb : Z b (-1) = n := (hz.2 b (-1) (Or.inr (Or.inl (by decide)))).trans lb
    have zx : Z a (k : Int) = S a (k : Int) := hz.2 a _ (Or.inl hab)
    have qo : w_pr wY0 Z o := ⟨by rw [hz.2 o (-1) (Or.inl hob)]; exact po.1, po.2⟩
    have qa : w_pr wY0 Z a := ⟨by rw [hz.2 a (-1) (Or.inl hab)]; exact pa.1, pa.2⟩
    have qb : w_pr wY0 Z b := ⟨by rw [hz.2 b (-1) (Or.inr (Or.inl (by decide)))]; exact pb.1, pb.2⟩
    refine wa_iload_n (n := 3) rfl ?_
    refine wa_aload_n (n := 0) rfl ?_
    refine wb_gfi o rfl qo hto wf_13_2 (v := (l.length : Int)) (z2) (fun r101 => ?_)
    refine wa_icmpge (w_rg0 (by omega) (by omega)) (w_rg0 (by omega) (by omega)) ⟨_, rfl⟩ (fun c102 => ?_) (fun c102 => ?_)
    · skip
      have ek : k = l.length := by omega
      subst ek
      exact wJ_S (hkk Z hz) ⟨rfl, rfl, rfl, trivial⟩
    · skip
      refine wa_aload_n (n := 2) rfl ?_
      refine wa_iload_n (n := 3) rfl ?_
      refine wa_aload_n (n := 0) rfl ?_
      refine wb_gf7 o rfl qo hto wf_13_1 (v := (a : Int)) (z1) ?_
      refine wa_iload_n (n := 3) rfl ?_
      refine wb_iald a rfl qa hta (n := c) (za) (by omega) (by omega) (v := (S a (k : Int))) (zx) (fun r103 => ?_)
      refine wb_iast b rfl qb htb (n := n) (zb) (by omega) (by omega) ⟨(by omega), (by omega)⟩ ?_
      refine wa_iinc rfl rfl ?_
      refine wa_goto ⟨_, rfl⟩ ?_
      have hq := icI_s hz
      rw [show ((k : Int) + 1) = ((k + 1 : Nat) : Int) by omega]
      exact wJ_S (ih (k + 1) _ (by omega) (by omega) hq) ⟨rfl, rfl, rfl, rfl, trivial⟩
/-- the array has grown -/
theorem ia_g (hf : hfam o fam) (h : iI o fam most l S) (hm : (l.length : Int) < most ∧ most ≤ 20000) (hg : g ≤ 10) (g2 : S o 1 = (fam g : Int)) (hc : (l.length : Int) = cap g) {Z1 Z2 : wS} (n1 : nI_ag S Z1 (fam (g + 1)) (2 * (l.length : Int))) (np : w_pr wY0 Z1 (fam (g + 1))) (nq : ∀ q, w_pr wY0 S q → w_pr wY0 Z1 q) (hz : icI (fam g) (fam (g + 1)) l.length Z1 Z2) : iI o fam most l (w_up Z2 o 1 (fam (g + 1) : Int)) ∧ ia_f o fam S (w_up Z2 o 1 (fam (g + 1) : Int)) ∧ w_up Z2 o 1 (fam (g + 1) : Int) wG 0 = S wG 0 + 2 * (l.length : Int) ∧ w_up Z2 o 1 (fam (g + 1) : Int) wG 1 = S wG 1 + 1 ∧ (2000000 ≤ o → phi o (w_up Z2 o 1 (fam (g + 1) : Int)) = 0 ∧ phi o S = 2 * (l.length : Int)) ∧ (o < 2000000 → (l.length : Int) < 4096 → phi o (w_up Z2 o 1 (fam (g + 1) : Int)) + 2 * (l.length : Int) = phi o S) := by
  obtain ⟨⟨h1, h2, h3⟩, g0, g1, g20, g3, g4, g5, g6, g7⟩ := h
  have e0 : g0 = g := (hf.2 g0 g1).2 g (by omega) (by omega)
  subst e0
  have hne := (hf.2 g0 g1).1.2.2.2.2
  have hn2 := (hf.2 (g0 + 1) (by omega)).1
  have hd : fam g0 ≠ fam (g0 + 1) := fun e => by have := (hf.2 g0 g1).2 (g0 + 1) (by omega) e; omega
  have hG := (hf.2 g0 g1).1.2.2.1
  obtain ⟨m1, m2, m3, m4, m5⟩ := n1
  have hcp : cap (g0 + 1) = 2 * cap g0 := rfl
  have zo : ∀ x : Int, Z2 o x = S o x := fun x => (hz.2 o x (Or.inl (Ne.symm hn2.2.2.2.2))).trans (congrFun (m3 o (Ne.symm hn2.2.2.2.2) hf.1.2.1) x)
  have zg : ∀ x : Int, Z2 (fam g0) x = S (fam g0) x := fun x => (hz.2 _ x (Or.inl hd)).trans (congrFun (m3 _ hd hG) x)
  have zl : Z2 (fam (g0 + 1)) (-1) = cap (g0 + 1) := (hz.2 _ (-1) (Or.inr (Or.inl (by decide)))).trans (m2.trans (by omega))
  have zz : ∀ (j : Nat) (x : Int), j ≠ wG → j ≠ fam (g0 + 1) → Z2 j x = S j x := fun j x q1 q2 => (hz.2 j x (Or.inl q2)).trans (congrFun (m3 j q2 q1) x)
  have zG : ∀ x : Int, Z2 wG x = Z1 wG x := fun x => hz.2 wG x (Or.inl (Ne.symm hn2.2.2.1))
  have ee : ∀ (j : Nat) (x : Int), j ≠ o → w_up Z2 o 1 (fam (g0 + 1) : Int) j x = Z2 j x := fun j x q => w_up_slot q
  have f1 : w_up Z2 o 1 (fam (g0 + 1) : Int) o 1 = (fam (g0 + 1) : Int) := w_up_same _ _ _ _
  have f2 : w_up Z2 o 1 (fam (g0 + 1) : Int) o 2 = (l.length : Int) := (w_up_at (by decide)).trans ((zo 2).trans h2)
  refine ⟨⟨⟨(w_up_at (by decide)).trans ((zo 0).trans h1), f2, (w_up_pr (by decide)).mpr ⟨by rw [zo]; exact h3.1, h3.2⟩⟩, g0 + 1, by omega, f1, by rw [ee _ _ hn2.2.2.2.2]; exact zl, (w_up_pr (by decide)).mpr ⟨by rw [zl]; have := cap_le (g := g0 + 1) (by omega); exact Or.inr (by omega), hn2.2.2.1⟩, Or.inl (by have := cap_le g1; omega), fun k k1 k2 => ?_, fun h q1 q2 q3 => ?_⟩, fun j x q1 q2 q3 => (ee j x q2).trans (zz j x q1 (q3 _ (by omega))), by rw [ee _ _ (Ne.symm hf.1.2.1), zG]; exact m4, by rw [ee _ _ (Ne.symm hf.1.2.1), zG]; exact m5, ?_, ?_⟩
  · rw [ee _ _ hn2.2.2.2.2, hz.1 k k1, congrFun (m3 _ hd hG) (k : Int)]
    exact g6 k k1 k2
  · have q4 := (w_up_pr (by decide)).mp q3
    have hh := (hf.2 h q2).1
    have hne2 : fam h ≠ fam (g0 + 1) := fun e => by have := (hf.2 h q2).2 (g0 + 1) (by omega) e; omega
    exact g7 h (by omega) q2 ⟨by rw [← zz (fam h) (-1) hh.2.2.1 hne2]; exact q4.1, q4.2⟩
  · intro ho
    have h9 : ¬ o < 2000000 := by omega
    have := cap_le g1
    unfold phi
    rw [if_neg h9, if_neg h9, f1, f2, Int.toNat_natCast, ee _ _ hn2.2.2.2.2, zl, h2, g2, Int.toNat_natCast, g3]
    omega
  · intro h9 hl4
    have := cap_12 g1 (by omega)
    unfold phi
    rw [if_pos h9, if_pos h9, f1, Int.toNat_natCast, ee _ _ hn2.2.2.2.2, zl, g2, Int.toNat_natCast, g3]
    omega
theorem ia_ok (hf : hfam o fam) (hm : 16 ≤ most ∧ most ≤ 20000) (h : iI o fam most l S) (hv : -2147483648 ≤ v ∧ v ≤ 2147483647) (hl : (l.length : Int) ≤ 1000000) : wJ (pe_GA xs) wY0 M d t_MI_add ((pe_at t_MI_add.bl 0).getD (0, [])).2 [(0, (2, (o : Int))), (1, (0, v))] [] S (fun q Z => q = .inl none ∧ iI o fam most (l ++ [v]) Z ∧ ia_ag o fam S Z) := by
  have hh := h
  obtain ⟨⟨h1, h2, h3⟩, g, g1, g2, g3, g4, g5, g6, g7⟩ := h
  have hcl := cap_le g1
  have hne := (hf.2 g g1).1.2.2.2.2
  refine wa_aload_n (n := 0) rfl ?_
  refine wb_gfi o rfl h3 hf.1.1 wf_13_2 (v := (l.length : Int)) (h2) (fun r101 => ?_)
  refine wa_aload_n (n := 0) rfl ?_
  refine wb_gfi o rfl h3 hf.1.1 wf_13_0 (v := most) (h1) (fun r102 => ?_)
  refine wa_icmplt (w_rg0 (by omega) (by omega)) (w_rg0 (by omega) (by omega)) ⟨_, rfl⟩ (fun c103 => ?_) (fun c103 => ?_)
  · skip
    refine wa_aload_n (n := 0) rfl ?_
    refine wb_gfi o rfl h3 hf.1.1 wf_13_2 (v := (l.length : Int)) (h2) (fun r104 => ?_)
    refine wa_aload_n (n := 0) rfl ?_
    refine wb_gf7 o rfl h3 hf.1.1 wf_13_1 (v := (fam g : Int)) (g2) ?_
    refine wb_alen (fam g) rfl g4 (by rw [(hf.2 g g1).1.1]; rfl) (v := (cap g)) (g3) (fun r105 => ?_)
    refine wa_icmpne (w_rg0 (by omega) (by omega)) (w_rg0 (by omega) (by omega)) ⟨_, rfl⟩ (fun c106 => ?_) (fun c106 => ?_)
    · skip
      exact ia_4 hf hm hh hv hl (by omega) g1 g2 (by omega)
    · skip
      refine wa_iconst ?_
      refine wa_aload_n (n := 0) rfl ?_
      refine wb_gfi o rfl h3 hf.1.1 wf_13_2 (v := (l.length : Int)) (h2) (fun r107 => ?_)
      refine wa_imul ?_
      have hg10 : g ≤ 10 := cap_11 g1 (by omega)
      have hn2 := (hf.2 (g + 1) (by omega)).1
      have hd : fam g ≠ fam (g + 1) := fun e => by have := (hf.2 g g1).2 (g + 1) (by omega) e; omega
      refine wb_nI (fam (g + 1)) ⟨by omega, by omega⟩ hn2.1 (g7 (g + 1) (by omega) (by omega)) hn2.2.2.1 hn2.2.2.2.1 ⟨(Or.inr ⟨h3, fun q => q⟩), trivial, trivial⟩ trivial (fun Z1 n1 np nq => ?_)
      refine wa_astore_n (n := 2) rfl ?_
      refine wa_iconst ?_
      refine wa_istore_n (n := 3) rfl ?_
      refine wa_fall ⟨_, rfl⟩ ?_
      have ko : o ≠ fam (g + 1) := Ne.symm hn2.2.2.2.2
      have c1 := fun j hj hG => n1.2.2.1 j hj hG
      refine wJ_S (ic_l (S := Z1) (l := l) (a := fam g) (b := fam (g + 1)) (c := cap g) (n := 2 * (l.length : Int)) hf.1.1 (hf.2 g g1).1.1 hn2.1 hd (Ne.symm hne) ko (nq _ h3) (nq _ g4) np (by rw [c1 o ko hf.1.2.1]; exact g2) (by rw [c1 o ko hf.1.2.1]; exact h2) (by rw [c1 _ hd (hf.2 g g1).1.2.2.1]; exact g3) n1.2.1 ⟨by omega, by omega⟩ hl (fun Z2 hz2 => ?_) (l.length + 1) 0 Z1 (by omega) (Nat.zero_le _) ⟨fun x hx => absurd hx (Nat.not_lt_zero _), fun _ _ _ => rfl⟩) ⟨rfl, rfl, rfl, rfl, trivial⟩
      obtain ⟨k1, k2, k3, k4, k5, k6⟩ := ia_g hf hh ⟨by omega, hm.2⟩ hg10 g2 (by omega) n1 np nq hz2
      have z1 : w_pr wY0 Z2 o := ⟨by rw [hz2.2 o (-1) (Or.inl ko)]; exact (nq _ h3).1, h3.2⟩
      have z2 : w_pr wY0 Z2 (fam (g + 1)) := ⟨by rw [hz2.2 _ (-1) (Or.inr (Or.inl (by decide)))]; exact np.1, np.2⟩
      refine wa_aload_n (n := 0) rfl ?_
      refine wa_aload_n (n := 2) rfl ?_
      refine wb_pf7 o rfl z1 hf.1.1 wf_13_1 (n := 1) rfl (Or.inr ⟨by rw [Int.toNat_natCast]; exact z2, by rw [Int.toNat_natCast]; exact hn2.2.1⟩) ?_
      refine wa_fall ⟨_, rfl⟩ ?_
      refine wJ_mono (wJ_S (ia_4 hf hm k1 hv hl (by omega) (show g + 1 ≤ 11 by omega) (w_up_same _ _ _ _) (by show _ < 2 * cap g; omega)) ⟨rfl, rfl, trivial⟩) (fun q Z hq => ?_)
      obtain ⟨q1, q2, q3, q4, q5, q6, q7⟩ := hq
      have k10 := k1.1.1
      refine ⟨q1, q2, fun j x j1 j2 j3 => (q3 j x j1 j2 j3).trans (k2 j x j1 j2 j3), ⟨fun ho => ?_, fun ho hm4 => ?_⟩, ?_, ?_, ?_⟩
      · have q41 := q4.1 ho
        have k51 := k5 ho
        omega
      · have q42 := q4.2 ho (by omega)
        have k61 := k6 ho (by omega)
        omega
      all_goals omega
  · skip
    refine wa_aload_n (n := 0) rfl ?_
    refine wa_dup (by decide) ?_
    refine wb_gfi o rfl h3 hf.1.1 wf_13_2 (v := (l.length : Int)) (h2) (fun r108 => ?_)
    refine wa_iconst ?_
    refine wa_iadd ?_
    refine wb_pfi o rfl h3 hf.1.1 wf_13_2 (n := 2) rfl ⟨(by omega), (by omega)⟩ ?_
    refine wa_return rfl ?_
    exact ⟨rfl, ia_m hf hh (by omega)⟩
/-- an element is set, if it is there -/
def is_S (o : Nat) (most : Int) (S : wS) (k v : Int) : wS := if k < most ∧ k < S (S o 1).toNat (-1) then w_up S (S o 1).toNat k v else S
theorem is_ok {k : Int} (hf : hfam o fam) (h : iI o fam most l S) (hm : 16 ≤ most ∧ most ≤ 20000) (hk : 0 ≤ k ∧ k ≤ 2147483647) (hv : -2147483648 ≤ v ∧ v ≤ 2147483647) : wJ (pe_GA xs) wY0 M d t_MI_set ((pe_at t_MI_set.bl 0).getD (0, [])).2 [(0, (2, (o : Int))), (1, (0, k)), (2, (0, v))] [] S (fun q Z => q = .inl none ∧ is_S o most S k v = Z) := by
  obtain ⟨⟨h1, h2, h3⟩, g, g1, g2, g3, g4, g5, g6, g7⟩ := h
  have hcl := cap_le g1
  have es : is_S o most S k v = if k < most ∧ k < cap g then w_up S (fam g) k v else S := by
    unfold is_S
    rw [g2, Int.toNat_natCast, g3]
  refine wa_iload_n (n := 1) rfl ?_
  refine wa_aload_n (n := 0) rfl ?_
  refine wb_gfi o rfl h3 hf.1.1 wf_13_0 (v := most) (h1) (fun r101 => ?_)
  refine wa_icmpge (w_rg0 (by omega) (by omega)) (w_rg0 (by omega) (by omega)) ⟨_, rfl⟩ (fun c102 => ?_) (fun c102 => ?_)
  · skip
    refine wa_return rfl ?_
    refine ⟨rfl, ?_⟩
    rw [es]; first | rw [if_pos (by omega)] | rw [if_neg (by omega)]
  · skip
    refine wa_iload_n (n := 1) rfl ?_
    refine wa_aload_n (n := 0) rfl ?_
    refine wb_gf7 o rfl h3 hf.1.1 wf_13_1 (v := (fam g : Int)) (g2) ?_
    refine wb_alen (fam g) rfl g4 (by rw [(hf.2 g g1).1.1]; rfl) (v := (cap g)) (g3) (fun r103 => ?_)
    refine wa_icmpge (w_rg0 (by omega) (by omega)) (w_rg0 (by omega) (by omega)) ⟨_, rfl⟩ (fun c104 => ?_) (fun c104 => ?_)
    · skip
      refine wa_return rfl ?_
      refine ⟨rfl, ?_⟩
      rw [es]; first | rw [if_pos (by omega)] | rw [if_neg (by omega)]
    · skip
      refine wa_aload_n (n := 0) rfl ?_
      refine wb_gf7 o rfl h3 hf.1.1 wf_13_1 (v := (fam g : Int)) (g2) ?_
      refine wa_iload_n (n := 1) rfl ?_
      refine wa_iload_n (n := 2) rfl ?_
      refine wb_iast (fam g) rfl g4 (hf.2 g g1).1.1 (n := (cap g)) (g3) (by omega) (by omega) ⟨(by omega), (by omega)⟩ ?_
      refine wa_fall ⟨_, rfl⟩ ?_
      refine wa_return rfl ?_
      refine ⟨rfl, ?_⟩
      rw [es]; first | rw [if_pos (by omega)] | rw [if_neg (by omega)]
/-- an element that is there -/
theorem is_I {k : Nat} (hf : hfam o fam) (h : iI o fam most l S) : iI o fam most (l.set k v) (is_S o most S (k : Int) v) ∧ ia_f o fam S (is_S o most S (k : Int) v) ∧ (∀ x : Int, is_S o most S (k : Int) v wG x = S wG x) ∧ phi o (is_S o most S (k : Int) v) = phi o S := by
  have hh := h
  obtain ⟨⟨h1, h2, h3⟩, g, g1, g2, g3, g4, g5, g6, g7⟩ := h
  have hne := (hf.2 g g1).1.2.2.2.2
  have hG := (hf.2 g g1).1.2.2.1
  have es : is_S o most S (k : Int) v = if (k : Int) < most ∧ (k : Int) < cap g then w_up S (fam g) (k : Int) v else S := by
    unfold is_S
    rw [g2, Int.toNat_natCast, g3]
  rw [es]
  by_cases hc : (k : Int) < most ∧ (k : Int) < cap g
  · rw [if_pos hc]
    have eo : ∀ x : Int, w_up S (fam g) (k : Int) v o x = S o x := fun x => w_up_slot (Ne.symm hne)
    have el : w_up S (fam g) (k : Int) v (fam g) (-1) = cap g := (w_up_at (by omega)).trans g3
    refine ⟨⟨⟨(eo 0).trans h1, by rw [List.length_set]; exact (eo 2).trans h2, (w_up_pr (by omega)).mpr h3⟩, g, g1, (eo 1).trans g2, el, (w_up_pr (by omega)).mpr g4, by rw [List.length_set]; exact g5, fun x x1 x2 => ?_, fun h q1 q2 q3 => g7 h q1 q2 ((w_up_pr (by omega)).mp q3)⟩, fun j x j1 j2 j3 => w_up_slot (j3 g g1), fun x => w_up_slot (Ne.symm hG), ?_⟩
    · rw [List.length_set] at x1
      rw [gD_s x1]
      by_cases e : x = k
      · subst e; rw [if_pos rfl]; exact w_up_same _ _ _ _
      · rw [if_neg e, w_up_at (by omega)]; exact g6 x x1 x2
    · unfold phi
      rw [eo, eo, g2, Int.toNat_natCast, el, g3]
  · rw [if_neg hc]
    refine ⟨⟨⟨h1, by rw [List.length_set]; exact h2, h3⟩, g, g1, g2, g3, g4, by rw [List.length_set]; exact g5, fun x x1 x2 => ?_, g7⟩, fun _ _ _ _ _ => rfl, fun _ => rfl, rfl⟩
    rw [List.length_set] at x1
    rw [gD_s x1, if_neg (by omega)]
    exact g6 x x1 x2
end Wbr
