/-! PART cv: the reference's keepsPart. -/
section Wcv
variable {xs : List (Nat × List Int32)} {M : Nat → Prop} {d : Nat} {A B C S Z : wS} {Q : wO → wS → Prop}
variable {f0 u a b op : Int} {I : List pz_I} {F : List pz_F} {x : pz_I} {k r : Nat}
variable {p sb un s : Int}
/-- the t-th instruction of the function u; how many sites are ahead of it there -/
def ox (u : Int) (I : List pz_I) (t : Nat) : pz_I := (on u I).getD t (0, 0, 0, 0)
def os (u : Int) (I : List pz_I) (t : Nat) : Int := pz_s ((on u I).take t)
theorem take_s {l : List pz_I} : ∀ {r : Nat}, r < l.length → l.take (r + 1) = l.take r ++ [l.getD r (0, 0, 0, 0)] := by
  induction l with
  | nil => intro r h; exact absurd h (Nat.not_lt_zero _)
  | cons y l ih =>
    intro r h
    cases r with
    | zero => rfl
    | succ r =>
      show y :: l.take (r + 1) = y :: (l.take r ++ [l.getD r (0, 0, 0, 0)])
      rw [ih (Nat.lt_of_succ_lt_succ h)]
theorem os_s (h : r < (on u I).length) : os u I (r + 1) = os u I r + (if (ox u I r).1 = 27 then 1 else 0) := by
  unfold os ox
  rw [take_s h, pz_s_ap, pz_s_x]
theorem os_nn (u : Int) (I : List pz_I) (t : Nat) : 0 ≤ os u I t := pz_s_nn _
theorem os_le (u : Int) (I : List pz_I) (t : Nat) : os u I t ≤ pz_s (on u I) := by
  have h : pz_s ((on u I).take t ++ (on u I).drop t) = pz_s (on u I) := by rw [List.take_append_drop]
  rw [pz_s_ap] at h
  have := pz_s_nn ((on u I).drop t)
  unfold os
  omega
theorem os_all (u : Int) (I : List pz_I) : os u I (on u I).length = pz_s (on u I) := by
  unfold os
  rw [List.take_length]
theorem os_lt (h : r < (on u I).length) (hx : (ox u I r).1 = 27) : os u I r < pz_s (on u I) := by
  have h1 := os_s h
  have h2 := os_le u I (r + 1)
  rw [if_pos hx] at h1
  omega
/-- a site's row in the reference -/
def sRow (Z : wS) (s : Int) (x : pz_I) (u t : Int) : Prop := Z 304 s = x.2.1 % 16 ∧ Z 305 s = x.2.2.1 ∧ Z 306 s = x.2.1 / 16 ∧ Z 307 s = u ∧ Z 308 s = t ∧ Z 310 s = 0 ∧ Z 311 s = 0 ∧ Z 312 s = 0 ∧ Z 313 s = 0 ∧ Z 376 s = 0
/-- the first r instructions of a function lie there, with their sites -/
def kpD (f0 : Int) (I : List pz_I) (F : List pz_F) (u p sb : Int) (r : Nat) (Z : wS) : Prop := ∀ t : Nat, t < r → (Z 301 (p + (t : Int)) = (fx f0 F u (sb + os u I t) (ox u I t).1 (ox u I t).2.1 (ox u I t).2.2.1).1 ∧ Z 302 (p + (t : Int)) = (fx f0 F u (sb + os u I t) (ox u I t).1 (ox u I t).2.1 (ox u I t).2.2.1).2.1 ∧ Z 303 (p + (t : Int)) = (fx f0 F u (sb + os u I t) (ox u I t).1 (ox u I t).2.1 (ox u I t).2.2.1).2.2) ∧ ((ox u I t).1 = 27 → sRow Z (sb + os u I t) (ox u I t) u (t : Int))
/-- what has stayed -/
def kpK (p sb : Int) (S Z : wS) : Prop := ∀ (j : Nat) (x : Int), ((301 ≤ j ∧ j ≤ 303 ∧ x < p) ∨ (((304 ≤ j ∧ j ≤ 313) ∨ j = 376) ∧ x < sb) ∨ ((j < 301 ∨ 313 < j) ∧ j ≠ 376)) → (j ≠ 237 ∨ (x ≠ 43 ∧ x ≠ 47 ∧ x ≠ 48)) → Z j x = S j x
def kpI (f0 : Int) (I : List pz_I) (F : List pz_F) (u p sb : Int) (r : Nat) (S Z : wS) : Prop := (Z 237 43 = p + (r : Int) ∧ Z 237 47 = sb + os u I r) ∧ kpD f0 I F u p sb r Z ∧ kpK p sb S Z ∧ rD Z
theorem kpI_kpf (hp : 0 ≤ p) (hsb : 0 ≤ sb) (h : kpI f0 I F u p sb r S Z) : kpf S Z := fun j x q1 q2 => h.2.2.1 j x (by omega) q2
theorem rD_ag (h : rD S) (e : ∀ (j : Nat) (x : Int), ((304 ≤ j ∧ j ≤ 309) ∨ (j = 237 ∧ (x = 47 ∨ x = 48))) → Z j x = S j x) : rD Z := by
  have r : ∀ j : Nat, 304 ≤ j → j ≤ 309 → Z j = S j := fun j j0 j1 => funext fun x => e j x (Or.inl ⟨j0, j1⟩)
  unfold rD
  rw [r 304 (by decide) (by decide), r 305 (by decide) (by decide), r 306 (by decide) (by decide), r 309 (by decide) (by decide), e 237 47 (by omega), e 237 48 (by omega)]
  exact h
theorem sRow_ag {t : Int} (h : sRow S s x u t) (e : ∀ j : Nat, ((304 ≤ j ∧ j ≤ 313) ∨ j = 376) → Z j s = S j s) : sRow Z s x u t := by
  obtain ⟨a1, a2, a3, a4, a5, a6, a7, a8, a9, a10⟩ := h
  exact ⟨(e 304 (by omega)).trans a1, (e 305 (by omega)).trans a2, (e 306 (by omega)).trans a3, (e 307 (by omega)).trans a4, (e 308 (by omega)).trans a5, (e 310 (by omega)).trans a6, (e 311 (by omega)).trans a7, (e 312 (by omega)).trans a8, (e 313 (by omega)).trans a9, (e 376 (by omega)).trans a10⟩
/-- one more instruction -/
theorem kpI_st {v1 v2 v3 : Int} {Z1 : wS} (hp : 0 ≤ p) (hsb : 0 ≤ sb) (hr : r < (on u I).length) (h : kpI f0 I F u p sb r S Z) (hz : ((ox u I r).1 ≠ 27 ∧ Z1 = Z) ∨ ((ox u I r).1 = 27 ∧ kS_P ((ox u I r).2.1 % 16) (ox u I r).2.2.1 ((ox u I r).2.1 / 16) u (r : Int) (sb + os u I r) Z Z1)) (hfx : (fx f0 F u (sb + os u I r) (ox u I r).1 (ox u I r).2.1 (ox u I r).2.2.1) = (v1, v2, v3)) : kpI f0 I F u p sb (r + 1) S (w_up (w_up (w_up (w_up Z1 301 (p + (r : Int)) v1) 302 (p + (r : Int)) v2) 303 (p + (r : Int)) v3) 237 43 (p + (r : Int) + 1)) := by
  obtain ⟨⟨h1, h2⟩, h3, h4, h5⟩ := h
  have hos := os_s hr
  have hnn := os_nn u I r
  have f : Z1 237 47 = sb + os u I (r + 1) ∧ (∀ (j : Nat) (x : Int), (((304 ≤ j ∧ j ≤ 313) ∨ j = 376) → x < sb + os u I r) → (j ≠ 237 ∨ (x ≠ 47 ∧ x ≠ 48)) → Z1 j x = Z j x) ∧ ((ox u I r).1 = 27 → sRow Z1 (sb + os u I r) (ox u I r) u (r : Int)) ∧ rD Z1 := by
    rcases hz with ⟨e, rfl⟩ | ⟨e, ⟨c1, c2, c3, c4, c5, c6, c7, c8, c9, c10, c11⟩, d1, d2⟩
    · rw [if_neg e] at hos
      exact ⟨by omega, fun _ _ _ _ => rfl, fun q => absurd q e, h5⟩
    · rw [if_pos e] at hos
      exact ⟨by omega, fun j x q1 q2 => d1 j x (by omega) q2, fun _ => ⟨c2, c3, c4, c5, c6, c7, c8, c9, c10, c11⟩, d2⟩
  obtain ⟨f1, f2, f3, f4⟩ := f
  have e : ∀ (j : Nat) (x : Int), (j < 301 ∨ 303 < j ∨ x ≠ p + (r : Int)) → (j ≠ 237 ∨ x ≠ 43) → (w_up (w_up (w_up (w_up Z1 301 (p + (r : Int)) v1) 302 (p + (r : Int)) v2) 303 (p + (r : Int)) v3) 237 43 (p + (r : Int) + 1)) j x = Z1 j x := fun j x q1 q2 => (w_up_no (by omega)).trans ((w_up_no (by omega)).trans ((w_up_no (by omega)).trans (w_up_no (by omega))))
  refine ⟨⟨(w_up_same _ _ _ _).trans (by omega), (e 237 47 (by omega) (by omega)).trans f1⟩, fun t ht => ?_, fun j x q1 q2 => (e j x (by omega) (by omega)).trans ((f2 j x (by omega) (by omega)).trans (h4 j x q1 q2)), rD_ag f4 (fun j x q => e j x (by omega) (by omega))⟩
  by_cases et : t = r
  · subst et
    rw [hfx]
    exact ⟨⟨(w_up_slot (by decide)).trans ((w_up_slot (by decide)).trans ((w_up_slot (by decide)).trans (w_up_same _ _ _ _))), (w_up_slot (by decide)).trans ((w_up_slot (by decide)).trans (w_up_same _ _ _ _)), (w_up_slot (by decide)).trans (w_up_same _ _ _ _)⟩, fun q => sRow_ag (f3 q) (fun j hj => e j _ (by omega) (by omega))⟩
  · obtain ⟨⟨a1, a2, a3⟩, a4⟩ := h3 t (by omega)
    refine ⟨⟨(e 301 _ (by omega) (by omega)).trans ((f2 301 _ (by omega) (by omega)).trans a1), (e 302 _ (by omega) (by omega)).trans ((f2 302 _ (by omega) (by omega)).trans a2), (e 303 _ (by omega) (by omega)).trans ((f2 303 _ (by omega) (by omega)).trans a3)⟩, fun q => sRow_ag (a4 q) (fun j hj => (e j _ (by omega) (by omega)).trans (f2 j _ (fun _ => ?_) (by omega)))⟩
    have m1 := os_s (u := u) (I := I) (r := t) (by omega)
    rw [if_pos q] at m1
    have m2 : os u I (t + 1) ≤ os u I r := by
      unfold os
      have m3 : ((on u I).take r).take (t + 1) = (on u I).take (t + 1) := by rw [List.take_take, Nat.min_eq_left (by omega)]
      have m4 : pz_s (((on u I).take r).take (t + 1) ++ ((on u I).take r).drop (t + 1)) = pz_s ((on u I).take r) := by rw [List.take_append_drop]
      rw [pz_s_ap, m3] at m4
      have := pz_s_nn (((on u I).take r).drop (t + 1))
      omega
    omega
theorem fx_27 {a b s : Int} : fx f0 F u s 27 a b = (27, s, 0) := if_pos rfl
theorem fx_o {o a b s : Int} (h : o ≠ 27 ∧ o ≠ 3 ∧ o ≠ 4) : fx f0 F u s o a b = (o, a, b) := by
  unfold fx
  rw [if_neg h.1, if_neg (by omega)]
theorem fx_n {o a b s : Int} (h : o = 3 ∨ o = 4) (hR : rvf f0 F a F.length u 0 = none) : fx f0 F u s o a b = (o, a, b) := by
  unfold fx
  rw [if_neg (by omega), if_pos h, hR]
theorem fx_s {o a b s up v : Int} (h : o = 3 ∨ o = 4) (hR : rvf f0 F a F.length u 0 = some (up, v)) : fx f0 F u s o a b = (if o = 3 then 1 else 2, up, v) := by
  unfold fx
  rw [if_neg (by omega), if_pos h, hR]
/-- an instruction x as a part has it: o, a, b; its site's number, if it is one -/
def kX (f0 : Int) (I : List pz_I) (x : pz_I) (o a b : Int) : Prop := rlx f0 I x (o, a, b) ∧ 0 ≤ x.1 ∧ (x.1 = 24 → f0 ≤ x.2.1 ∧ x.2.1 < 400) ∧ ((x.1 = 3 ∨ x.1 = 4) → x.2.2.1 = 0) ∧ (x.1 = 27 → 0 ≤ x.2.1 ∧ x.2.1 < 1000)
theorem kX_e {o : Int} (h : kX f0 I x o a b) : ∃ s0 : Int, o = (if x.1 = 3 then -1 else if x.1 = 4 then -2 else x.1) ∧ a = (if x.1 = 27 then s0 else if x.1 = 24 then x.2.1 - f0 else x.2.1) ∧ b = (if x.1 = 27 then 0 else x.2.2.1) := by
  obtain ⟨⟨s0, h1, -⟩, -⟩ := h
  exact ⟨s0, congrArg (fun z => z.1) h1, congrArg (fun z => z.2.1) h1, congrArg (fun z => z.2.2) h1⟩
theorem kX_nm {o : Int} (h : kX f0 I x o a b) (ho : o = -1 ∨ o = -2) : (o = -1 ∧ x.1 = 3 ∨ o = -2 ∧ x.1 = 4) ∧ a = x.2.1 ∧ x.2.2.1 = 0 := by
  obtain ⟨s0, h1, h2, h3⟩ := kX_e h
  have h0 := h.2.1
  have hn := h.2.2.2.1
  by_cases e3 : x.1 = 3
  · rw [if_pos e3] at h1
    rw [if_neg (by omega), if_neg (by omega)] at h2
    exact ⟨Or.inl ⟨h1, e3⟩, h2, hn (Or.inl e3)⟩
  · rw [if_neg e3] at h1
    by_cases e4 : x.1 = 4
    · rw [if_pos e4] at h1
      rw [if_neg (by omega), if_neg (by omega)] at h2
      exact ⟨Or.inr ⟨h1, e4⟩, h2, hn (Or.inr e4)⟩
    · rw [if_neg e4] at h1; omega
theorem kX_no {o : Int} (h : kX f0 I x o a b) (ho : o ≠ -1 ∧ o ≠ -2) : x.1 = o ∧ o ≠ 3 ∧ o ≠ 4 := by
  obtain ⟨s0, h1, h2, h3⟩ := kX_e h
  by_cases e3 : x.1 = 3
  · rw [if_pos e3] at h1; omega
  · rw [if_neg e3] at h1
    by_cases e4 : x.1 = 4
    · rw [if_pos e4] at h1; omega
    · rw [if_neg e4] at h1; exact ⟨h1.symm, by omega, by omega⟩
theorem kX_fn (h : kX f0 I x 24 a b) : x.1 = 24 ∧ a = x.2.1 - f0 ∧ b = x.2.2.1 ∧ f0 ≤ x.2.1 ∧ x.2.1 < 400 := by
  obtain ⟨h4, -, -⟩ := kX_no h ⟨by decide, by decide⟩
  obtain ⟨s0, h1, h2, h3⟩ := kX_e h
  rw [if_neg (by omega), if_pos h4] at h2
  rw [if_neg (by omega)] at h3
  exact ⟨h4, h2, h3, h.2.2.1 h4⟩
theorem kX_si (h : kX f0 I x 27 a b) : x.1 = 27 ∧ b = 0 ∧ (0 ≤ a ∧ a < pz_s I) ∧ (sk1 I).getD a.toNat 0 = x.2.1 % 16 ∧ (sk2 I).getD a.toNat 0 = x.2.2.1 ∧ (sk3 I).getD a.toNat 0 = x.2.1 / 16 := by
  obtain ⟨h4, -, -⟩ := kX_no h ⟨by decide, by decide⟩
  obtain ⟨⟨s0, h1, hs⟩, -⟩ := h
  have h2 : a = (if x.1 = 27 then s0 else if x.1 = 24 then x.2.1 - f0 else x.2.1) := congrArg (fun z => z.2.1) h1
  have h3 : b = (if x.1 = 27 then 0 else x.2.2.1) := congrArg (fun z => z.2.2) h1
  rw [if_pos h4] at h2 h3
  rw [h2]
  exact ⟨h4, h3, hs h4⟩
theorem kX_ot {o : Int} (h : kX f0 I x o a b) (ho : o ≠ -1 ∧ o ≠ -2 ∧ o ≠ 24 ∧ o ≠ 27) : x.1 = o ∧ a = x.2.1 ∧ b = x.2.2.1 ∧ o ≠ 3 ∧ o ≠ 4 := by
  obtain ⟨h4, h5, h6⟩ := kX_no h ⟨ho.1, ho.2.1⟩
  obtain ⟨s0, h1, h2, h3⟩ := kX_e h
  rw [if_neg (by omega), if_neg (by omega)] at h2
  rw [if_neg (by omega)] at h3
  exact ⟨h4, h2, h3, h5, h6⟩
/-- what it comes to -/
theorem kF_g {o : Int} (h : kX f0 I x o a b) (ho : o = -1 ∨ o = -2) (hR : rvf f0 F a F.length u 0 = none) : x.1 ≠ 27 ∧ fx f0 F u s x.1 x.2.1 x.2.2.1 = (if o = -1 then 3 else 4, a, 0) := by
  obtain ⟨h1, h2, h3⟩ := kX_nm h ho
  refine ⟨by omega, ?_⟩
  rw [← h2, h3, fx_n (by omega) hR]
  rcases h1 with ⟨q1, q2⟩ | ⟨q1, q2⟩
  · rw [q2, if_pos q1]
  · rw [q2, if_neg (by omega)]
theorem kF_l {o up v : Int} (h : kX f0 I x o a b) (ho : o = -1 ∨ o = -2) (hR : rvf f0 F a F.length u 0 = some (up, v)) : x.1 ≠ 27 ∧ fx f0 F u s x.1 x.2.1 x.2.2.1 = (if o = -1 then 1 else 2, up, v) := by
  obtain ⟨h1, h2, h3⟩ := kX_nm h ho
  refine ⟨by omega, ?_⟩
  rw [← h2, fx_s (by omega) hR]
  rcases h1 with ⟨q1, q2⟩ | ⟨q1, q2⟩
  · rw [if_pos q2, if_pos q1]
  · rw [if_neg (by omega), if_neg (by omega)]
theorem kF_f (h : kX f0 I x 24 a b) : x.1 ≠ 27 ∧ fx f0 F u s x.1 x.2.1 x.2.2.1 = (24, f0 + a, b) := by
  obtain ⟨h1, h2, h3, h4⟩ := kX_fn h
  refine ⟨by omega, ?_⟩
  rw [h1, fx_o ⟨by decide, by decide, by decide⟩, h2, h3, show f0 + (x.2.1 - f0) = x.2.1 by omega]
theorem kF_s (h : kX f0 I x 27 a b) : fx f0 F u s x.1 x.2.1 x.2.2.1 = (27, s, b) := by
  obtain ⟨h1, h2, -⟩ := kX_si h
  rw [h1, fx_27, h2]
theorem kF_o {o : Int} (h : kX f0 I x o a b) (ho : o ≠ -1 ∧ o ≠ -2 ∧ o ≠ 24 ∧ o ≠ 27) : x.1 ≠ 27 ∧ fx f0 F u s x.1 x.2.1 x.2.2.1 = (o, a, b) := by
  obtain ⟨h1, h2, h3, h5, h6⟩ := kX_ot h ho
  refine ⟨by omega, ?_⟩
  rw [h1, ← h2, ← h3, fx_o ⟨ho.2.2.2, h5, h6⟩]
set_option maxHeartbeats 8000000 in
theorem kp_l (hQ : kQ f0 I F S) (hk : k < F.length) (hp : 0 ≤ p ∧ p + ((on (f0 + (k : Int)) I).length : Int) ≤ 20000) (hsb : 0 ≤ sb ∧ sb + pz_s (on (f0 + (k : Int)) I) ≤ 4000) (hend : ∀ Z : wS, kpI f0 I F (f0 + (k : Int)) p sb (on (f0 + (k : Int)) I).length S Z → wJ (pe_GA xs) wY0 M (d + 3) t_M_keepsPart ((pe_at t_M_keepsPart.bl 19).getD (0, [])).2 [(0, (2, 237)), (3, (0, (f0 + (k : Int))))] [] Z Q) : ∀ (m r : Nat) (Z : wS), (on (f0 + (k : Int)) I).length - r < m → r ≤ (on (f0 + (k : Int)) I).length → kpI f0 I F (f0 + (k : Int)) p sb r S Z → wJ (pe_GA xs) wY0 M (d + 3) t_M_keepsPart ((pe_at t_M_keepsPart.bl 2).getD (0, [])).2 [(0, (2, 237)), (1, (0, (k : Int))), (2, (2, (nP k : Int))), (3, (0, f0 + (k : Int))), (4, (0, (r : Int)))] [] Z Q := by
  intro m
  induction m with
  | zero => intro r Z hm; exact absurd hm (Nat.not_lt_zero _)
  | succ m ih =>
    intro r Z hm hr hz
    have hQz := kQ_ag hQ (kpI_kpf hp.1 hsb.1 hz)
    have hMz := hQz.1.1
    have hF := hQz.1.2.1
    obtain ⟨lo, la, lb, a1, ⟨l1, l2, l3⟩, a3⟩ := hQz.2.1 k hk
    have hpk := a1.2.1.1
    have h286 := hQz.2.2.1.1
    have hl286 := hQz.2.2.1.2
    have h34 := hQz.2.2.2.2.2
    have h43 := hz.1.1
    have h47 := hz.1.2
    have hwk : nP k = 2000000 + 64 * k := rfl
    obtain ⟨-, g0, g01, g02, g03, g04, g05, g06, -⟩ := a1.2.2.2.2.1
    have hc0 := cap_le g01
    obtain ⟨-, g1, g11, g12, g13, g14, g15, g16, -⟩ := a1.2.2.2.2.2.1
    have hc1 := cap_le g11
    obtain ⟨-, g2, g21, g22, g23, g24, g25, g26, -⟩ := a1.2.2.2.2.2.2
    have hc2 := cap_le g21
    refine wa_iload (n := 4) rfl ?_
    refine wa_aload_n (n := 2) rfl ?_
    refine wa_cv (nP k) rfl hpk (wt_P0 (by omega)) (M2 := fun _ => False) rfl at_MP_here ⟨_, rfl⟩ rfl rfl ⟨(Or.inr ⟨wy_pr rfl, fun q => q⟩), trivial, (Or.inr ⟨hpk, fun q => q⟩), trivial, trivial, trivial⟩ ⟨trivial, trivial⟩ (fun _ _ q => False.elim q) (he_r (f := k) (by omega) a1) (fun oq101 Sq101 hp102 q101 => ?_)
    rcases q101 with ⟨rfl, rfl⟩
    show wJ _ _ _ _ _ _ _ _ _ _
    refine wa_icmpge (w_rg0 (by omega) (by omega)) (w_rg0 (by omega) (by omega)) ⟨_, rfl⟩ (fun c103 => ?_) (fun c103 => ?_)
    · skip
      have er : r = (on (f0 + (k : Int)) I).length := by omega
      subst er
      exact wJ_S (hend Z hz) ⟨rfl, rfl, trivial⟩
    · skip
      have hrl : r < (on (f0 + (k : Int)) I).length := by omega
      have hX : kX f0 I (ox (f0 + (k : Int)) I r) (lo.getD r 0) (la.getD r 0) (lb.getD r 0) := ⟨a3 r hrl, hQz.1.2.2.2.1 _ (on_get hrl)⟩
      have hv0 := g06 r (by omega) (by omega)
      have hv1 := g16 r (by omega) (by omega)
      have hv2 := g26 r (by omega) (by omega)
      have hcr0 : (r : Int) < cap g0 := by omega
      have hcr1 : (r : Int) < cap g1 := by omega
      have hcr2 : (r : Int) < cap g2 := by omega
      clear g05 g15 g25
      refine wa_aload_n (n := 2) rfl ?_
      refine wb_gf5 (nP k) rfl hpk (wt_P0 (by omega)) wf_14_4 (v := ((nP k + 2 : Nat) : Int)) (a1.1.2.2.2.2.1) (fun r104 => ?_)
      refine wb_gf7 (nP k + 2) rfl (a1.2.2.2.2.1).1.2.2 (wt_P2 (by omega) ⟨by decide, by decide⟩) wf_13_1 (v := (fa k 0 g0 : Int)) (g02) ?_
      refine wa_iload (n := 4) rfl ?_
      refine wb_iald (fa k 0 g0) rfl g04 ((hfam_P (f := k) (r := 0) (by omega) (by decide)).2 g0 g01).1.1 (n := (cap g0)) (g03) (by omega) (by omega) (v := (lo.getD r 0)) (hv0) (fun r105 => ?_)
      refine wa_istore (n := 5) rfl ?_
      refine wa_aload_n (n := 2) rfl ?_
      refine wb_gf5 (nP k) rfl hpk (wt_P0 (by omega)) wf_14_5 (v := ((nP k + 3 : Nat) : Int)) (a1.1.2.2.2.2.2.1) (fun r106 => ?_)
      refine wb_gf7 (nP k + 3) rfl (a1.2.2.2.2.2.1).1.2.2 (wt_P2 (by omega) ⟨by decide, by decide⟩) wf_13_1 (v := (fa k 1 g1 : Int)) (g12) ?_
      refine wa_iload (n := 4) rfl ?_
      refine wb_iald (fa k 1 g1) rfl g14 ((hfam_P (f := k) (r := 1) (by omega) (by decide)).2 g1 g11).1.1 (n := (cap g1)) (g13) (by omega) (by omega) (v := (la.getD r 0)) (hv1) (fun r107 => ?_)
      refine wa_istore (n := 6) rfl ?_
      refine wa_aload_n (n := 2) rfl ?_
      refine wb_gf5 (nP k) rfl hpk (wt_P0 (by omega)) wf_14_6 (v := ((nP k + 4 : Nat) : Int)) (a1.1.2.2.2.2.2.2.1) (fun r108 => ?_)
      refine wb_gf7 (nP k + 4) rfl (a1.2.2.2.2.2.2).1.2.2 (wt_P2 (by omega) ⟨by decide, by decide⟩) wf_13_1 (v := (fa k 2 g2 : Int)) (g22) ?_
      refine wa_iload (n := 4) rfl ?_
      refine wb_iald (fa k 2 g2) rfl g24 ((hfam_P (f := k) (r := 2) (by omega) (by decide)).2 g2 g21).1.1 (n := (cap g2)) (g23) (by omega) (by omega) (v := (lb.getD r 0)) (hv2) (fun r109 => ?_)
      refine wa_istore (n := 7) rfl ?_
      refine wa_iload (n := 5) rfl ?_
      refine wa_iconst ?_
      refine wa_icmpeq (w_rg0 (by omega) (by omega)) (w_rg0 (by omega) (by omega)) ⟨_, rfl⟩ (fun c110 => ?_) (fun c110 => ?_)
      · skip
        refine wa_iconst ?_
        refine wa_istore (n := 8) rfl ?_
        refine wa_iload_n (n := 1) rfl ?_
        refine wa_istore (n := 9) rfl ?_
        refine wa_fall ⟨_, rfl⟩ ?_
        refine wJ_S (kp_n (op := (lo.getD r 0)) (a := (la.getD r 0)) (b := (lb.getD r 0)) (R := rvf f0 F (la.getD r 0) F.length (f0 + (k : Int)) 0) hQz hpk (by omega) ⟨by omega, by omega⟩ (fun q up hq hup hqq => ?_) (k + 1) k F.length 0 (by omega) hk hk (by omega) rfl) ⟨rfl, rfl, rfl, rfl, rfl, rfl, rfl, rfl, rfl, rfl, trivial⟩
        obtain ⟨lo2, la2, lb2, b1, -, -⟩ := hQz.2.1 q hq
        have hpq := b1.2.1.1
        have hvr := vix_rg (F.getD q (-1, 0, [])).2.2 (la.getD r 0)
        have hv60 := (hQz.1.2.2.2.2 q hq).2.2
        refine wa_iload (n := 9) rfl ?_
        refine wa_ifgt (w_rg0 (by omega) (by omega)) ⟨_, rfl⟩ (fun c411 => ?_) (fun c411 => ?_)
        · skip
          refine wa_iconst ?_
          refine wa_fall ⟨_, rfl⟩ ?_
          refine wa_istore (n := 10) rfl ?_
          refine wa_iload (n := 5) rfl ?_
          refine wa_iconst ?_
          refine wa_icmpne (w_rg0 (by omega) (by omega)) (w_rg0 (by omega) (by omega)) ⟨_, rfl⟩ (fun c412 => ?_) (fun c412 => ?_)
          · skip
            refine wa_iload (n := 10) rfl ?_
            refine wa_ifeq (w_rg0 (by omega) (by omega)) ⟨_, rfl⟩ (fun c413 => ?_) (fun c413 => ?_)
            · skip
              refine wa_iconst ?_
              refine wa_fall ⟨_, rfl⟩ ?_
              refine wa_istore (n := 5) rfl ?_
              refine wa_iload (n := 10) rfl ?_
              refine wa_ifeq (w_rg0 (by omega) (by omega)) ⟨_, rfl⟩ (fun c414 => ?_) (fun c414 => ?_)
              · skip
                refine wa_aload_n (n := 0) rfl ?_
                refine wb_gf4 237 rfl (wy_pr rfl) wt_237 wf_15_24 (v := 286) wl_237_24 ?_
                refine wa_iload (n := 9) rfl ?_
                refine wb_aaldO 286 rfl (wy_pr rfl) wt_286 (by omega) (n := 400) (hl286) (by omega) (v := (nP q : Int)) ((h286 q hq)) ?_
                refine wa_iload (n := 6) rfl ?_
                refine wa_cv (nP q) rfl hpq (wt_P0 (by omega)) (M2 := fun _ => False) rfl at_MP_find ⟨_, rfl⟩ rfl rfl ⟨trivial, trivial, (Or.inr ⟨wy_pr rfl, fun q => q⟩), trivial, (Or.inr ⟨hpk, fun q => q⟩), trivial, trivial, trivial, trivial, trivial, trivial, trivial⟩ trivial (fun _ _ q => False.elim q) (fdq hQz hq ⟨by omega, by omega⟩) (fun oq415 Sq415 hp416 q415 => ?_)
                rcases q415 with ⟨rfl, rfl⟩
                show wJ _ _ _ _ _ _ _ _ _ _
                refine wa_fall ⟨_, rfl⟩ ?_
                refine wa_istore (n := 7) rfl ?_
                refine wa_iload (n := 10) rfl ?_
                refine wa_ifeq (w_rg0 (by omega) (by omega)) ⟨_, rfl⟩ (fun c417 => ?_) (fun c417 => ?_)
                · skip
                  refine wa_iload (n := 8) rfl ?_
                  refine wa_fall ⟨_, rfl⟩ ?_
                  refine wa_istore (n := 6) rfl ?_
                  refine wa_goto ⟨_, rfl⟩ ?_
                  refine wa_aload_n (n := 0) rfl ?_
                  refine wb_gf4 237 rfl (wy_pr rfl) wt_237 wf_15_44 (v := 301) wl_237_44 ?_
                  refine wa_aload_n (n := 0) rfl ?_
                  refine wb_gfi 237 rfl (wy_pr rfl) wt_237 wf_15_43 (v := (p + (r : Int))) (h43) (fun r418 => ?_)
                  refine wa_iload (n := 5) rfl ?_
                  refine wb_iast 301 rfl (wy_pr rfl) wt_301 (n := 20000) ((ml_301 hMz)) (by omega) (by omega) ⟨(by omega), (by omega)⟩ ?_
                  refine wa_aload_n (n := 0) rfl ?_
                  refine wb_gf4 237 rfl (wy_pr rfl) wt_237 wf_15_45 (v := 302) wl_237_45 ?_
                  refine wa_aload_n (n := 0) rfl ?_
                  refine wb_gfi 237 rfl (wy_pr rfl) wt_237 wf_15_43 (v := (p + (r : Int))) ((w_up_slot (by decide)).trans (h43)) (fun r419 => ?_)
                  refine wa_iload (n := 6) rfl ?_
                  refine wb_iast 302 rfl (wy_pr rfl) wt_302 (n := 20000) ((w_up_slot (by decide)).trans ((ml_302 hMz))) (by omega) (by omega) ⟨(by omega), (by omega)⟩ ?_
                  refine wa_aload_n (n := 0) rfl ?_
                  refine wb_gf4 237 rfl (wy_pr rfl) wt_237 wf_15_46 (v := 303) wl_237_46 ?_
                  refine wa_aload_n (n := 0) rfl ?_
                  refine wb_gfi 237 rfl (wy_pr rfl) wt_237 wf_15_43 (v := (p + (r : Int))) ((w_up_slot (by decide)).trans ((w_up_slot (by decide)).trans (h43))) (fun r420 => ?_)
                  refine wa_iload (n := 7) rfl ?_
                  refine wb_iast 303 rfl (wy_pr rfl) wt_303 (n := 20000) ((w_up_slot (by decide)).trans ((w_up_slot (by decide)).trans ((ml_303 hMz)))) (by omega) (by omega) ⟨(by omega), (by omega)⟩ ?_
                  refine wa_aload_n (n := 0) rfl ?_
                  refine wa_dup (by decide) ?_
                  refine wb_gfi 237 rfl (wy_pr rfl) wt_237 wf_15_43 (v := (p + (r : Int))) ((w_up_slot (by decide)).trans ((w_up_slot (by decide)).trans ((w_up_slot (by decide)).trans (h43)))) (fun r421 => ?_)
                  refine wa_iconst ?_
                  refine wa_iadd ?_
                  refine wb_pfi 237 rfl (wy_pr rfl) wt_237 wf_15_43 (n := 43) rfl ⟨(by omega), (by omega)⟩ ?_
                  refine wa_iinc rfl rfl ?_
                  refine wa_goto ⟨_, rfl⟩ ?_
                  obtain ⟨hq0, hR, hvv⟩ := hqq.resolve_left (fun z => by have := z.1; omega)
                  obtain ⟨h27, hfx⟩ := kF_l (s := sb + (os (f0 + (k : Int)) I r)) hX (by omega) hR
                  rw [if_neg (by omega)] at hfx
                  have hst := kpI_st hp.1 hsb.1 hrl hz (Or.inl ⟨h27, rfl⟩) hfx
                  rw [show ((r : Int) + 1) = ((r + 1 : Nat) : Int) by omega]
                  exact wJ_S (ih (r + 1) _ (by omega) (by omega) hst) ⟨rfl, rfl, rfl, rfl, rfl, trivial⟩
                · skip
                  exact absurd c417 (by omega)
              · skip
                exact absurd c414 (by omega)
            · skip
              exact absurd c413 (by omega)
          · skip
            refine wa_iload (n := 10) rfl ?_
            refine wa_ifeq (w_rg0 (by omega) (by omega)) ⟨_, rfl⟩ (fun c422 => ?_) (fun c422 => ?_)
            · skip
              refine wa_iconst ?_
              refine wa_goto ⟨_, rfl⟩ ?_
              refine wa_istore (n := 5) rfl ?_
              refine wa_iload (n := 10) rfl ?_
              refine wa_ifeq (w_rg0 (by omega) (by omega)) ⟨_, rfl⟩ (fun c423 => ?_) (fun c423 => ?_)
              · skip
                refine wa_aload_n (n := 0) rfl ?_
                refine wb_gf4 237 rfl (wy_pr rfl) wt_237 wf_15_24 (v := 286) wl_237_24 ?_
                refine wa_iload (n := 9) rfl ?_
                refine wb_aaldO 286 rfl (wy_pr rfl) wt_286 (by omega) (n := 400) (hl286) (by omega) (v := (nP q : Int)) ((h286 q hq)) ?_
                refine wa_iload (n := 6) rfl ?_
                refine wa_cv (nP q) rfl hpq (wt_P0 (by omega)) (M2 := fun _ => False) rfl at_MP_find ⟨_, rfl⟩ rfl rfl ⟨trivial, trivial, (Or.inr ⟨wy_pr rfl, fun q => q⟩), trivial, (Or.inr ⟨hpk, fun q => q⟩), trivial, trivial, trivial, trivial, trivial, trivial, trivial⟩ trivial (fun _ _ q => False.elim q) (fdq hQz hq ⟨by omega, by omega⟩) (fun oq424 Sq424 hp425 q424 => ?_)
                rcases q424 with ⟨rfl, rfl⟩
                show wJ _ _ _ _ _ _ _ _ _ _
                refine wa_fall ⟨_, rfl⟩ ?_
                refine wa_istore (n := 7) rfl ?_
                refine wa_iload (n := 10) rfl ?_
                refine wa_ifeq (w_rg0 (by omega) (by omega)) ⟨_, rfl⟩ (fun c426 => ?_) (fun c426 => ?_)
                · skip
                  refine wa_iload (n := 8) rfl ?_
                  refine wa_fall ⟨_, rfl⟩ ?_
                  refine wa_istore (n := 6) rfl ?_
                  refine wa_goto ⟨_, rfl⟩ ?_
                  refine wa_aload_n (n := 0) rfl ?_
                  refine wb_gf4 237 rfl (wy_pr rfl) wt_237 wf_15_44 (v := 301) wl_237_44 ?_
                  refine wa_aload_n (n := 0) rfl ?_
                  refine wb_gfi 237 rfl (wy_pr rfl) wt_237 wf_15_43 (v := (p + (r : Int))) (h43) (fun r427 => ?_)
                  refine wa_iload (n := 5) rfl ?_
                  refine wb_iast 301 rfl (wy_pr rfl) wt_301 (n := 20000) ((ml_301 hMz)) (by omega) (by omega) ⟨(by omega), (by omega)⟩ ?_
                  refine wa_aload_n (n := 0) rfl ?_
                  refine wb_gf4 237 rfl (wy_pr rfl) wt_237 wf_15_45 (v := 302) wl_237_45 ?_
                  refine wa_aload_n (n := 0) rfl ?_
                  refine wb_gfi 237 rfl (wy_pr rfl) wt_237 wf_15_43 (v := (p + (r : Int))) ((w_up_slot (by decide)).trans (h43)) (fun r428 => ?_)
                  refine wa_iload (n := 6) rfl ?_
                  refine wb_iast 302 rfl (wy_pr rfl) wt_302 (n := 20000) ((w_up_slot (by decide)).trans ((ml_302 hMz))) (by omega) (by omega) ⟨(by omega), (by omega)⟩ ?_
                  refine wa_aload_n (n := 0) rfl ?_
                  refine wb_gf4 237 rfl (wy_pr rfl) wt_237 wf_15_46 (v := 303) wl_237_46 ?_
                  refine wa_aload_n (n := 0) rfl ?_
                  refine wb_gfi 237 rfl (wy_pr rfl) wt_237 wf_15_43 (v := (p + (r : Int))) ((w_up_slot (by decide)).trans ((w_up_slot (by decide)).trans (h43))) (fun r429 => ?_)
                  refine wa_iload (n := 7) rfl ?_
                  refine wb_iast 303 rfl (wy_pr rfl) wt_303 (n := 20000) ((w_up_slot (by decide)).trans ((w_up_slot (by decide)).trans ((ml_303 hMz)))) (by omega) (by omega) ⟨(by omega), (by omega)⟩ ?_
                  refine wa_aload_n (n := 0) rfl ?_
                  refine wa_dup (by decide) ?_
                  refine wb_gfi 237 rfl (wy_pr rfl) wt_237 wf_15_43 (v := (p + (r : Int))) ((w_up_slot (by decide)).trans ((w_up_slot (by decide)).trans ((w_up_slot (by decide)).trans (h43)))) (fun r430 => ?_)
                  refine wa_iconst ?_
                  refine wa_iadd ?_
                  refine wb_pfi 237 rfl (wy_pr rfl) wt_237 wf_15_43 (n := 43) rfl ⟨(by omega), (by omega)⟩ ?_
                  refine wa_iinc rfl rfl ?_
                  refine wa_goto ⟨_, rfl⟩ ?_
                  obtain ⟨hq0, hR, hvv⟩ := hqq.resolve_left (fun z => by have := z.1; omega)
                  obtain ⟨h27, hfx⟩ := kF_l (s := sb + (os (f0 + (k : Int)) I r)) hX (by omega) hR
                  rw [if_pos (by omega)] at hfx
                  have hst := kpI_st hp.1 hsb.1 hrl hz (Or.inl ⟨h27, rfl⟩) hfx
                  rw [show ((r : Int) + 1) = ((r + 1 : Nat) : Int) by omega]
                  exact wJ_S (ih (r + 1) _ (by omega) (by omega) hst) ⟨rfl, rfl, rfl, rfl, rfl, trivial⟩
                · skip
                  exact absurd c426 (by omega)
              · skip
                exact absurd c423 (by omega)
            · skip
              exact absurd c422 (by omega)
        · skip
          refine wa_iconst ?_
          refine wa_goto ⟨_, rfl⟩ ?_
          refine wa_istore (n := 10) rfl ?_
          refine wa_iload (n := 5) rfl ?_
          refine wa_iconst ?_
          refine wa_icmpne (w_rg0 (by omega) (by omega)) (w_rg0 (by omega) (by omega)) ⟨_, rfl⟩ (fun c431 => ?_) (fun c431 => ?_)
          · skip
            refine wa_iload (n := 10) rfl ?_
            refine wa_ifeq (w_rg0 (by omega) (by omega)) ⟨_, rfl⟩ (fun c432 => ?_) (fun c432 => ?_)
            · skip
              exact absurd c432 (by omega)
            · skip
              refine wa_iconst ?_
              refine wa_goto ⟨_, rfl⟩ ?_
              refine wa_istore (n := 5) rfl ?_
              refine wa_iload (n := 10) rfl ?_
              refine wa_ifeq (w_rg0 (by omega) (by omega)) ⟨_, rfl⟩ (fun c433 => ?_) (fun c433 => ?_)
              · skip
                exact absurd c433 (by omega)
              · skip
                refine wa_iconst ?_
                refine wa_goto ⟨_, rfl⟩ ?_
                refine wa_istore (n := 7) rfl ?_
                refine wa_iload (n := 10) rfl ?_
                refine wa_ifeq (w_rg0 (by omega) (by omega)) ⟨_, rfl⟩ (fun c434 => ?_) (fun c434 => ?_)
                · skip
                  exact absurd c434 (by omega)
                · skip
                  refine wa_iload (n := 6) rfl ?_
                  refine wa_goto ⟨_, rfl⟩ ?_
                  refine wa_istore (n := 6) rfl ?_
                  refine wa_goto ⟨_, rfl⟩ ?_
                  refine wa_aload_n (n := 0) rfl ?_
                  refine wb_gf4 237 rfl (wy_pr rfl) wt_237 wf_15_44 (v := 301) wl_237_44 ?_
                  refine wa_aload_n (n := 0) rfl ?_
                  refine wb_gfi 237 rfl (wy_pr rfl) wt_237 wf_15_43 (v := (p + (r : Int))) (h43) (fun r435 => ?_)
                  refine wa_iload (n := 5) rfl ?_
                  refine wb_iast 301 rfl (wy_pr rfl) wt_301 (n := 20000) ((ml_301 hMz)) (by omega) (by omega) ⟨(by omega), (by omega)⟩ ?_
                  refine wa_aload_n (n := 0) rfl ?_
                  refine wb_gf4 237 rfl (wy_pr rfl) wt_237 wf_15_45 (v := 302) wl_237_45 ?_
                  refine wa_aload_n (n := 0) rfl ?_
                  refine wb_gfi 237 rfl (wy_pr rfl) wt_237 wf_15_43 (v := (p + (r : Int))) ((w_up_slot (by decide)).trans (h43)) (fun r436 => ?_)
                  refine wa_iload (n := 6) rfl ?_
                  refine wb_iast 302 rfl (wy_pr rfl) wt_302 (n := 20000) ((w_up_slot (by decide)).trans ((ml_302 hMz))) (by omega) (by omega) ⟨(by omega), (by omega)⟩ ?_
                  refine wa_aload_n (n := 0) rfl ?_
                  refine wb_gf4 237 rfl (wy_pr rfl) wt_237 wf_15_46 (v := 303) wl_237_46 ?_
                  refine wa_aload_n (n := 0) rfl ?_
                  refine wb_gfi 237 rfl (wy_pr rfl) wt_237 wf_15_43 (v := (p + (r : Int))) ((w_up_slot (by decide)).trans ((w_up_slot (by decide)).trans (h43))) (fun r437 => ?_)
                  refine wa_iload (n := 7) rfl ?_
                  refine wb_iast 303 rfl (wy_pr rfl) wt_303 (n := 20000) ((w_up_slot (by decide)).trans ((w_up_slot (by decide)).trans ((ml_303 hMz)))) (by omega) (by omega) ⟨(by omega), (by omega)⟩ ?_
                  refine wa_aload_n (n := 0) rfl ?_
                  refine wa_dup (by decide) ?_
                  refine wb_gfi 237 rfl (wy_pr rfl) wt_237 wf_15_43 (v := (p + (r : Int))) ((w_up_slot (by decide)).trans ((w_up_slot (by decide)).trans ((w_up_slot (by decide)).trans (h43)))) (fun r438 => ?_)
                  refine wa_iconst ?_
                  refine wa_iadd ?_
                  refine wb_pfi 237 rfl (wy_pr rfl) wt_237 wf_15_43 (n := 43) rfl ⟨(by omega), (by omega)⟩ ?_
                  refine wa_iinc rfl rfl ?_
                  refine wa_goto ⟨_, rfl⟩ ?_
                  obtain ⟨hq0, hR⟩ := hqq.resolve_right (fun z => by have := z.1; omega)
                  obtain ⟨h27, hfx⟩ := kF_g (s := sb + (os (f0 + (k : Int)) I r)) hX (by omega) hR
                  rw [if_neg (by omega)] at hfx
                  have hst := kpI_st hp.1 hsb.1 hrl hz (Or.inl ⟨h27, rfl⟩) hfx
                  rw [show ((r : Int) + 1) = ((r + 1 : Nat) : Int) by omega]
                  exact wJ_S (ih (r + 1) _ (by omega) (by omega) hst) ⟨rfl, rfl, rfl, rfl, rfl, trivial⟩
          · skip
            refine wa_iload (n := 10) rfl ?_
            refine wa_ifeq (w_rg0 (by omega) (by omega)) ⟨_, rfl⟩ (fun c439 => ?_) (fun c439 => ?_)
            · skip
              exact absurd c439 (by omega)
            · skip
              refine wa_iconst ?_
              refine wa_goto ⟨_, rfl⟩ ?_
              refine wa_istore (n := 5) rfl ?_
              refine wa_iload (n := 10) rfl ?_
              refine wa_ifeq (w_rg0 (by omega) (by omega)) ⟨_, rfl⟩ (fun c440 => ?_) (fun c440 => ?_)
              · skip
                exact absurd c440 (by omega)
              · skip
                refine wa_iconst ?_
                refine wa_goto ⟨_, rfl⟩ ?_
                refine wa_istore (n := 7) rfl ?_
                refine wa_iload (n := 10) rfl ?_
                refine wa_ifeq (w_rg0 (by omega) (by omega)) ⟨_, rfl⟩ (fun c441 => ?_) (fun c441 => ?_)
                · skip
                  exact absurd c441 (by omega)
                · skip
                  refine wa_iload (n := 6) rfl ?_
                  refine wa_goto ⟨_, rfl⟩ ?_
                  refine wa_istore (n := 6) rfl ?_
                  refine wa_goto ⟨_, rfl⟩ ?_
                  refine wa_aload_n (n := 0) rfl ?_
                  refine wb_gf4 237 rfl (wy_pr rfl) wt_237 wf_15_44 (v := 301) wl_237_44 ?_
                  refine wa_aload_n (n := 0) rfl ?_
                  refine wb_gfi 237 rfl (wy_pr rfl) wt_237 wf_15_43 (v := (p + (r : Int))) (h43) (fun r442 => ?_)
                  refine wa_iload (n := 5) rfl ?_
                  refine wb_iast 301 rfl (wy_pr rfl) wt_301 (n := 20000) ((ml_301 hMz)) (by omega) (by omega) ⟨(by omega), (by omega)⟩ ?_
                  refine wa_aload_n (n := 0) rfl ?_
                  refine wb_gf4 237 rfl (wy_pr rfl) wt_237 wf_15_45 (v := 302) wl_237_45 ?_
                  refine wa_aload_n (n := 0) rfl ?_
                  refine wb_gfi 237 rfl (wy_pr rfl) wt_237 wf_15_43 (v := (p + (r : Int))) ((w_up_slot (by decide)).trans (h43)) (fun r443 => ?_)
                  refine wa_iload (n := 6) rfl ?_
                  refine wb_iast 302 rfl (wy_pr rfl) wt_302 (n := 20000) ((w_up_slot (by decide)).trans ((ml_302 hMz))) (by omega) (by omega) ⟨(by omega), (by omega)⟩ ?_
                  refine wa_aload_n (n := 0) rfl ?_
                  refine wb_gf4 237 rfl (wy_pr rfl) wt_237 wf_15_46 (v := 303) wl_237_46 ?_
                  refine wa_aload_n (n := 0) rfl ?_
                  refine wb_gfi 237 rfl (wy_pr rfl) wt_237 wf_15_43 (v := (p + (r : Int))) ((w_up_slot (by decide)).trans ((w_up_slot (by decide)).trans (h43))) (fun r444 => ?_)
                  refine wa_iload (n := 7) rfl ?_
                  refine wb_iast 303 rfl (wy_pr rfl) wt_303 (n := 20000) ((w_up_slot (by decide)).trans ((w_up_slot (by decide)).trans ((ml_303 hMz)))) (by omega) (by omega) ⟨(by omega), (by omega)⟩ ?_
                  refine wa_aload_n (n := 0) rfl ?_
                  refine wa_dup (by decide) ?_
                  refine wb_gfi 237 rfl (wy_pr rfl) wt_237 wf_15_43 (v := (p + (r : Int))) ((w_up_slot (by decide)).trans ((w_up_slot (by decide)).trans ((w_up_slot (by decide)).trans (h43)))) (fun r445 => ?_)
                  refine wa_iconst ?_
                  refine wa_iadd ?_
                  refine wb_pfi 237 rfl (wy_pr rfl) wt_237 wf_15_43 (n := 43) rfl ⟨(by omega), (by omega)⟩ ?_
                  refine wa_iinc rfl rfl ?_
                  refine wa_goto ⟨_, rfl⟩ ?_
                  obtain ⟨hq0, hR⟩ := hqq.resolve_right (fun z => by have := z.1; omega)
                  obtain ⟨h27, hfx⟩ := kF_g (s := sb + (os (f0 + (k : Int)) I r)) hX (by omega) hR
                  rw [if_pos (by omega)] at hfx
                  have hst := kpI_st hp.1 hsb.1 hrl hz (Or.inl ⟨h27, rfl⟩) hfx
                  rw [show ((r : Int) + 1) = ((r + 1 : Nat) : Int) by omega]
                  exact wJ_S (ih (r + 1) _ (by omega) (by omega) hst) ⟨rfl, rfl, rfl, rfl, rfl, trivial⟩
      · skip
        refine wa_iload (n := 5) rfl ?_
        refine wa_bipush (w_rg2 (by omega) (by omega)) ?_
        refine wa_icmpne (w_rg0 (by omega) (by omega)) (w_rg0 (by omega) (by omega)) ⟨_, rfl⟩ (fun c111 => ?_) (fun c111 => ?_)
        · skip
          refine wa_iload (n := 5) rfl ?_
          refine wa_bipush (w_rg2 (by omega) (by omega)) ?_
          refine wa_icmpne (w_rg0 (by omega) (by omega)) (w_rg0 (by omega) (by omega)) ⟨_, rfl⟩ (fun c112 => ?_) (fun c112 => ?_)
          · skip
            refine wa_iload (n := 5) rfl ?_
            refine wa_bipush (w_rg2 (by omega) (by omega)) ?_
            refine wa_icmpne (w_rg0 (by omega) (by omega)) (w_rg0 (by omega) (by omega)) ⟨_, rfl⟩ (fun c113 => ?_) (fun c113 => ?_)
            · skip
              refine wa_aload_n (n := 0) rfl ?_
              refine wb_gf4 237 rfl (wy_pr rfl) wt_237 wf_15_44 (v := 301) wl_237_44 ?_
              refine wa_aload_n (n := 0) rfl ?_
              refine wb_gfi 237 rfl (wy_pr rfl) wt_237 wf_15_43 (v := (p + (r : Int))) (h43) (fun r114 => ?_)
              refine wa_iload (n := 5) rfl ?_
              refine wb_iast 301 rfl (wy_pr rfl) wt_301 (n := 20000) ((ml_301 hMz)) (by omega) (by omega) ⟨(by omega), (by omega)⟩ ?_
              refine wa_aload_n (n := 0) rfl ?_
              refine wb_gf4 237 rfl (wy_pr rfl) wt_237 wf_15_45 (v := 302) wl_237_45 ?_
              refine wa_aload_n (n := 0) rfl ?_
              refine wb_gfi 237 rfl (wy_pr rfl) wt_237 wf_15_43 (v := (p + (r : Int))) ((w_up_slot (by decide)).trans (h43)) (fun r115 => ?_)
              refine wa_iload (n := 6) rfl ?_
              refine wb_iast 302 rfl (wy_pr rfl) wt_302 (n := 20000) ((w_up_slot (by decide)).trans ((ml_302 hMz))) (by omega) (by omega) ⟨(by omega), (by omega)⟩ ?_
              refine wa_aload_n (n := 0) rfl ?_
              refine wb_gf4 237 rfl (wy_pr rfl) wt_237 wf_15_46 (v := 303) wl_237_46 ?_
              refine wa_aload_n (n := 0) rfl ?_
              refine wb_gfi 237 rfl (wy_pr rfl) wt_237 wf_15_43 (v := (p + (r : Int))) ((w_up_slot (by decide)).trans ((w_up_slot (by decide)).trans (h43))) (fun r116 => ?_)
              refine wa_iload (n := 7) rfl ?_
              refine wb_iast 303 rfl (wy_pr rfl) wt_303 (n := 20000) ((w_up_slot (by decide)).trans ((w_up_slot (by decide)).trans ((ml_303 hMz)))) (by omega) (by omega) ⟨(by omega), (by omega)⟩ ?_
              refine wa_aload_n (n := 0) rfl ?_
              refine wa_dup (by decide) ?_
              refine wb_gfi 237 rfl (wy_pr rfl) wt_237 wf_15_43 (v := (p + (r : Int))) ((w_up_slot (by decide)).trans ((w_up_slot (by decide)).trans ((w_up_slot (by decide)).trans (h43)))) (fun r117 => ?_)
              refine wa_iconst ?_
              refine wa_iadd ?_
              refine wb_pfi 237 rfl (wy_pr rfl) wt_237 wf_15_43 (n := 43) rfl ⟨(by omega), (by omega)⟩ ?_
              refine wa_iinc rfl rfl ?_
              refine wa_goto ⟨_, rfl⟩ ?_
              obtain ⟨h27, hfx⟩ := kF_o (s := sb + (os (f0 + (k : Int)) I r)) (u := (f0 + (k : Int))) (F := F) hX ⟨by omega, by omega, by omega, by omega⟩
              have hst := kpI_st hp.1 hsb.1 hrl hz (Or.inl ⟨h27, rfl⟩) hfx
              rw [show ((r : Int) + 1) = ((r + 1 : Nat) : Int) by omega]
              exact wJ_S (ih (r + 1) _ (by omega) (by omega) hst) ⟨rfl, rfl, rfl, rfl, rfl, trivial⟩
            · skip
              refine wa_aload_n (n := 0) rfl ?_
              refine wa_iload_n (n := 3) rfl ?_
              refine wa_iload (n := 4) rfl ?_
              refine wa_iload (n := 6) rfl ?_
              have hX27 := hX
              rw [show lo.getD r 0 = 27 by omega] at hX27
              obtain ⟨e27, eb0, ea, hs1, hs2, hs3⟩ := kX_si hX27
              have hlt := os_lt hrl e27
              have hos := os_nn (f0 + (k : Int)) I r
              obtain ⟨k1, k2, k3⟩ := sk_len I
              have ha0 : la.getD r 0 = (((la.getD r 0).toNat : Nat) : Int) := by omega
              have hs4 := hQz.1.2.2.1.2
              refine wa_cv 237 rfl (wy_pr rfl) wt_237 (M2 := fun _ => False) rfl at_M_keepsSite ⟨_, rfl⟩ rfl rfl ⟨trivial, trivial, trivial, (Or.inr ⟨wy_pr rfl, fun q => q⟩), trivial, (Or.inr ⟨hpk, fun q => q⟩), trivial, trivial, trivial⟩ trivial (fun _ _ q => False.elim q) ((by have q := ks_ok (xs := xs) (M := fun _ => False) (d := d + 2) (S := Z) (s := sb + (os (f0 + (k : Int)) I r)) (f := (f0 + (k : Int))) (i := (r : Int)) (k := (la.getD r 0).toNat) hMz h47 ⟨by omega, by omega⟩ hz.2.2.2 ⟨by omega, by omega⟩ ⟨by omega, by omega⟩ hQz.2.2.2.1.1 hQz.2.2.2.1.2.1 hQz.2.2.2.1.2.2 ⟨by omega, by omega, by omega, by omega⟩; rw [hs1, hs2, hs3, ← ha0] at q; exact q)) (fun oq118 Sq118 hp119 q118 => ?_)
              rcases q118 with ⟨rfl, hks⟩
              show wJ _ _ _ _ _ _ _ _ _ _
              refine wa_aload_n (n := 0) rfl ?_
              refine wb_gfi 237 rfl (wy_pr rfl) wt_237 wf_15_47 (v := (sb + (os (f0 + (k : Int)) I r) + 1)) (hks.1.1) (fun r120 => ?_)
              refine wa_iconst ?_
              refine wa_isub ?_
              refine wa_istore (n := 6) rfl ?_
              refine wa_fall ⟨_, rfl⟩ ?_
              refine wa_aload_n (n := 0) rfl ?_
              refine wb_gf4 237 rfl (wy_pr rfl) wt_237 wf_15_44 (v := 301) wl_237_44 ?_
              refine wa_aload_n (n := 0) rfl ?_
              refine wb_gfi 237 rfl (wy_pr rfl) wt_237 wf_15_43 (v := (p + (r : Int))) (((hks.2.1 237 43 (by omega) (by omega)).trans (h43))) (fun r121 => ?_)
              refine wa_iload (n := 5) rfl ?_
              refine wb_iast 301 rfl (wy_pr rfl) wt_301 (n := 20000) (((hks.2.1 301 (-1) (by omega) (by omega)).trans ((ml_301 hMz)))) (by omega) (by omega) ⟨(by omega), (by omega)⟩ ?_
              refine wa_aload_n (n := 0) rfl ?_
              refine wb_gf4 237 rfl (wy_pr rfl) wt_237 wf_15_45 (v := 302) wl_237_45 ?_
              refine wa_aload_n (n := 0) rfl ?_
              refine wb_gfi 237 rfl (wy_pr rfl) wt_237 wf_15_43 (v := (p + (r : Int))) ((w_up_slot (by decide)).trans (((hks.2.1 237 43 (by omega) (by omega)).trans (h43)))) (fun r122 => ?_)
              refine wa_iload (n := 6) rfl ?_
              refine wb_iast 302 rfl (wy_pr rfl) wt_302 (n := 20000) ((w_up_slot (by decide)).trans (((hks.2.1 302 (-1) (by omega) (by omega)).trans ((ml_302 hMz))))) (by omega) (by omega) ⟨(by omega), (by omega)⟩ ?_
              refine wa_aload_n (n := 0) rfl ?_
              refine wb_gf4 237 rfl (wy_pr rfl) wt_237 wf_15_46 (v := 303) wl_237_46 ?_
              refine wa_aload_n (n := 0) rfl ?_
              refine wb_gfi 237 rfl (wy_pr rfl) wt_237 wf_15_43 (v := (p + (r : Int))) ((w_up_slot (by decide)).trans ((w_up_slot (by decide)).trans (((hks.2.1 237 43 (by omega) (by omega)).trans (h43))))) (fun r123 => ?_)
              refine wa_iload (n := 7) rfl ?_
              refine wb_iast 303 rfl (wy_pr rfl) wt_303 (n := 20000) ((w_up_slot (by decide)).trans ((w_up_slot (by decide)).trans (((hks.2.1 303 (-1) (by omega) (by omega)).trans ((ml_303 hMz)))))) (by omega) (by omega) ⟨(by omega), (by omega)⟩ ?_
              refine wa_aload_n (n := 0) rfl ?_
              refine wa_dup (by decide) ?_
              refine wb_gfi 237 rfl (wy_pr rfl) wt_237 wf_15_43 (v := (p + (r : Int))) ((w_up_slot (by decide)).trans ((w_up_slot (by decide)).trans ((w_up_slot (by decide)).trans (((hks.2.1 237 43 (by omega) (by omega)).trans (h43)))))) (fun r124 => ?_)
              refine wa_iconst ?_
              refine wa_iadd ?_
              refine wb_pfi 237 rfl (wy_pr rfl) wt_237 wf_15_43 (n := 43) rfl ⟨(by omega), (by omega)⟩ ?_
              refine wa_iinc rfl rfl ?_
              refine wa_goto ⟨_, rfl⟩ ?_
              have hfx : fx f0 F (f0 + (k : Int)) (sb + (os (f0 + (k : Int)) I r)) (ox (f0 + (k : Int)) I r).1 (ox (f0 + (k : Int)) I r).2.1 (ox (f0 + (k : Int)) I r).2.2.1 = ((lo.getD r 0), ((sb + (os (f0 + (k : Int)) I r) + 1) - 1), (lb.getD r 0)) := by
                rw [kF_s hX27]
                exact Prod.ext (by dsimp only; omega) (Prod.ext (by dsimp only; omega) rfl)
              have hst := kpI_st hp.1 hsb.1 hrl hz (Or.inr ⟨e27, hks⟩) hfx
              rw [show ((r : Int) + 1) = ((r + 1 : Nat) : Int) by omega]
              exact wJ_S (ih (r + 1) _ (by omega) (by omega) hst) ⟨rfl, rfl, rfl, rfl, rfl, trivial⟩
          · skip
            have ho24 : lo.getD r 0 = 24 := by omega
            have hX24 := hX
            rw [ho24] at hX24
            have hfn := kX_fn hX24
            refine wa_aload_n (n := 0) rfl ?_
            refine wb_gfi 237 rfl (wy_pr rfl) wt_237 wf_15_34 (v := f0) (h34) (fun r125 => ?_)
            refine wa_iload (n := 6) rfl ?_
            refine wa_iadd ?_
            refine wa_istore (n := 6) rfl ?_
            refine wa_goto ⟨_, rfl⟩ ?_
            refine wa_aload_n (n := 0) rfl ?_
            refine wb_gf4 237 rfl (wy_pr rfl) wt_237 wf_15_44 (v := 301) wl_237_44 ?_
            refine wa_aload_n (n := 0) rfl ?_
            refine wb_gfi 237 rfl (wy_pr rfl) wt_237 wf_15_43 (v := (p + (r : Int))) (h43) (fun r126 => ?_)
            refine wa_iload (n := 5) rfl ?_
            refine wb_iast 301 rfl (wy_pr rfl) wt_301 (n := 20000) ((ml_301 hMz)) (by omega) (by omega) ⟨(by omega), (by omega)⟩ ?_
            refine wa_aload_n (n := 0) rfl ?_
            refine wb_gf4 237 rfl (wy_pr rfl) wt_237 wf_15_45 (v := 302) wl_237_45 ?_
            refine wa_aload_n (n := 0) rfl ?_
            refine wb_gfi 237 rfl (wy_pr rfl) wt_237 wf_15_43 (v := (p + (r : Int))) ((w_up_slot (by decide)).trans (h43)) (fun r127 => ?_)
            refine wa_iload (n := 6) rfl ?_
            refine wb_iast 302 rfl (wy_pr rfl) wt_302 (n := 20000) ((w_up_slot (by decide)).trans ((ml_302 hMz))) (by omega) (by omega) ⟨(by omega), (by omega)⟩ ?_
            refine wa_aload_n (n := 0) rfl ?_
            refine wb_gf4 237 rfl (wy_pr rfl) wt_237 wf_15_46 (v := 303) wl_237_46 ?_
            refine wa_aload_n (n := 0) rfl ?_
            refine wb_gfi 237 rfl (wy_pr rfl) wt_237 wf_15_43 (v := (p + (r : Int))) ((w_up_slot (by decide)).trans ((w_up_slot (by decide)).trans (h43))) (fun r128 => ?_)
            refine wa_iload (n := 7) rfl ?_
            refine wb_iast 303 rfl (wy_pr rfl) wt_303 (n := 20000) ((w_up_slot (by decide)).trans ((w_up_slot (by decide)).trans ((ml_303 hMz)))) (by omega) (by omega) ⟨(by omega), (by omega)⟩ ?_
            refine wa_aload_n (n := 0) rfl ?_
            refine wa_dup (by decide) ?_
            refine wb_gfi 237 rfl (wy_pr rfl) wt_237 wf_15_43 (v := (p + (r : Int))) ((w_up_slot (by decide)).trans ((w_up_slot (by decide)).trans ((w_up_slot (by decide)).trans (h43)))) (fun r129 => ?_)
            refine wa_iconst ?_
            refine wa_iadd ?_
            refine wb_pfi 237 rfl (wy_pr rfl) wt_237 wf_15_43 (n := 43) rfl ⟨(by omega), (by omega)⟩ ?_
            refine wa_iinc rfl rfl ?_
            refine wa_goto ⟨_, rfl⟩ ?_
            obtain ⟨h27, hfx⟩ := kF_f (s := sb + (os (f0 + (k : Int)) I r)) (u := (f0 + (k : Int))) (F := F) hX24
            rw [← ho24] at hfx
            have hst := kpI_st hp.1 hsb.1 hrl hz (Or.inl ⟨h27, rfl⟩) hfx
            rw [show ((r : Int) + 1) = ((r + 1 : Nat) : Int) by omega]
            exact wJ_S (ih (r + 1) _ (by omega) (by omega) hst) ⟨rfl, rfl, rfl, rfl, rfl, trivial⟩
        · skip
          refine wa_fall ⟨_, rfl⟩ ?_
          refine wa_iconst ?_
          refine wa_istore (n := 8) rfl ?_
          refine wa_iload_n (n := 1) rfl ?_
          refine wa_istore (n := 9) rfl ?_
          refine wa_fall ⟨_, rfl⟩ ?_
          refine wJ_S (kp_n (op := (lo.getD r 0)) (a := (la.getD r 0)) (b := (lb.getD r 0)) (R := rvf f0 F (la.getD r 0) F.length (f0 + (k : Int)) 0) hQz hpk (by omega) ⟨by omega, by omega⟩ (fun q up hq hup hqq => ?_) (k + 1) k F.length 0 (by omega) hk hk (by omega) rfl) ⟨rfl, rfl, rfl, rfl, rfl, rfl, rfl, rfl, rfl, rfl, trivial⟩
          obtain ⟨lo2, la2, lb2, b1, -, -⟩ := hQz.2.1 q hq
          have hpq := b1.2.1.1
          have hvr := vix_rg (F.getD q (-1, 0, [])).2.2 (la.getD r 0)
          have hv60 := (hQz.1.2.2.2.2 q hq).2.2
          refine wa_iload (n := 9) rfl ?_
          refine wa_ifgt (w_rg0 (by omega) (by omega)) ⟨_, rfl⟩ (fun c430 => ?_) (fun c430 => ?_)
          · skip
            refine wa_iconst ?_
            refine wa_fall ⟨_, rfl⟩ ?_
            refine wa_istore (n := 10) rfl ?_
            refine wa_iload (n := 5) rfl ?_
            refine wa_iconst ?_
            refine wa_icmpne (w_rg0 (by omega) (by omega)) (w_rg0 (by omega) (by omega)) ⟨_, rfl⟩ (fun c431 => ?_) (fun c431 => ?_)
            · skip
              refine wa_iload (n := 10) rfl ?_
              refine wa_ifeq (w_rg0 (by omega) (by omega)) ⟨_, rfl⟩ (fun c432 => ?_) (fun c432 => ?_)
              · skip
                refine wa_iconst ?_
                refine wa_fall ⟨_, rfl⟩ ?_
                refine wa_istore (n := 5) rfl ?_
                refine wa_iload (n := 10) rfl ?_
                refine wa_ifeq (w_rg0 (by omega) (by omega)) ⟨_, rfl⟩ (fun c433 => ?_) (fun c433 => ?_)
                · skip
                  refine wa_aload_n (n := 0) rfl ?_
                  refine wb_gf4 237 rfl (wy_pr rfl) wt_237 wf_15_24 (v := 286) wl_237_24 ?_
                  refine wa_iload (n := 9) rfl ?_
                  refine wb_aaldO 286 rfl (wy_pr rfl) wt_286 (by omega) (n := 400) (hl286) (by omega) (v := (nP q : Int)) ((h286 q hq)) ?_
                  refine wa_iload (n := 6) rfl ?_
                  refine wa_cv (nP q) rfl hpq (wt_P0 (by omega)) (M2 := fun _ => False) rfl at_MP_find ⟨_, rfl⟩ rfl rfl ⟨trivial, trivial, (Or.inr ⟨wy_pr rfl, fun q => q⟩), trivial, (Or.inr ⟨hpk, fun q => q⟩), trivial, trivial, trivial, trivial, trivial, trivial, trivial⟩ trivial (fun _ _ q => False.elim q) (fdq hQz hq ⟨by omega, by omega⟩) (fun oq434 Sq434 hp435 q434 => ?_)
                  rcases q434 with ⟨rfl, rfl⟩
                  show wJ _ _ _ _ _ _ _ _ _ _
                  refine wa_fall ⟨_, rfl⟩ ?_
                  refine wa_istore (n := 7) rfl ?_
                  refine wa_iload (n := 10) rfl ?_
                  refine wa_ifeq (w_rg0 (by omega) (by omega)) ⟨_, rfl⟩ (fun c436 => ?_) (fun c436 => ?_)
                  · skip
                    refine wa_iload (n := 8) rfl ?_
                    refine wa_fall ⟨_, rfl⟩ ?_
                    refine wa_istore (n := 6) rfl ?_
                    refine wa_goto ⟨_, rfl⟩ ?_
                    refine wa_aload_n (n := 0) rfl ?_
                    refine wb_gf4 237 rfl (wy_pr rfl) wt_237 wf_15_44 (v := 301) wl_237_44 ?_
                    refine wa_aload_n (n := 0) rfl ?_
                    refine wb_gfi 237 rfl (wy_pr rfl) wt_237 wf_15_43 (v := (p + (r : Int))) (h43) (fun r437 => ?_)
                    refine wa_iload (n := 5) rfl ?_
                    refine wb_iast 301 rfl (wy_pr rfl) wt_301 (n := 20000) ((ml_301 hMz)) (by omega) (by omega) ⟨(by omega), (by omega)⟩ ?_
                    refine wa_aload_n (n := 0) rfl ?_
                    refine wb_gf4 237 rfl (wy_pr rfl) wt_237 wf_15_45 (v := 302) wl_237_45 ?_
                    refine wa_aload_n (n := 0) rfl ?_
                    refine wb_gfi 237 rfl (wy_pr rfl) wt_237 wf_15_43 (v := (p + (r : Int))) ((w_up_slot (by decide)).trans (h43)) (fun r438 => ?_)
                    refine wa_iload (n := 6) rfl ?_
                    refine wb_iast 302 rfl (wy_pr rfl) wt_302 (n := 20000) ((w_up_slot (by decide)).trans ((ml_302 hMz))) (by omega) (by omega) ⟨(by omega), (by omega)⟩ ?_
                    refine wa_aload_n (n := 0) rfl ?_
                    refine wb_gf4 237 rfl (wy_pr rfl) wt_237 wf_15_46 (v := 303) wl_237_46 ?_
                    refine wa_aload_n (n := 0) rfl ?_
                    refine wb_gfi 237 rfl (wy_pr rfl) wt_237 wf_15_43 (v := (p + (r : Int))) ((w_up_slot (by decide)).trans ((w_up_slot (by decide)).trans (h43))) (fun r439 => ?_)
                    refine wa_iload (n := 7) rfl ?_
                    refine wb_iast 303 rfl (wy_pr rfl) wt_303 (n := 20000) ((w_up_slot (by decide)).trans ((w_up_slot (by decide)).trans ((ml_303 hMz)))) (by omega) (by omega) ⟨(by omega), (by omega)⟩ ?_
                    refine wa_aload_n (n := 0) rfl ?_
                    refine wa_dup (by decide) ?_
                    refine wb_gfi 237 rfl (wy_pr rfl) wt_237 wf_15_43 (v := (p + (r : Int))) ((w_up_slot (by decide)).trans ((w_up_slot (by decide)).trans ((w_up_slot (by decide)).trans (h43)))) (fun r440 => ?_)
                    refine wa_iconst ?_
                    refine wa_iadd ?_
                    refine wb_pfi 237 rfl (wy_pr rfl) wt_237 wf_15_43 (n := 43) rfl ⟨(by omega), (by omega)⟩ ?_
                    refine wa_iinc rfl rfl ?_
                    refine wa_goto ⟨_, rfl⟩ ?_
                    obtain ⟨hq0, hR, hvv⟩ := hqq.resolve_left (fun z => by have := z.1; omega)
                    obtain ⟨h27, hfx⟩ := kF_l (s := sb + (os (f0 + (k : Int)) I r)) hX (by omega) hR
                    rw [if_neg (by omega)] at hfx
                    have hst := kpI_st hp.1 hsb.1 hrl hz (Or.inl ⟨h27, rfl⟩) hfx
                    rw [show ((r : Int) + 1) = ((r + 1 : Nat) : Int) by omega]
                    exact wJ_S (ih (r + 1) _ (by omega) (by omega) hst) ⟨rfl, rfl, rfl, rfl, rfl, trivial⟩
                  · skip
                    exact absurd c436 (by omega)
                · skip
                  exact absurd c433 (by omega)
              · skip
                exact absurd c432 (by omega)
            · skip
              refine wa_iload (n := 10) rfl ?_
              refine wa_ifeq (w_rg0 (by omega) (by omega)) ⟨_, rfl⟩ (fun c441 => ?_) (fun c441 => ?_)
              · skip
                refine wa_iconst ?_
                refine wa_goto ⟨_, rfl⟩ ?_
                refine wa_istore (n := 5) rfl ?_
                refine wa_iload (n := 10) rfl ?_
                refine wa_ifeq (w_rg0 (by omega) (by omega)) ⟨_, rfl⟩ (fun c442 => ?_) (fun c442 => ?_)
                · skip
                  refine wa_aload_n (n := 0) rfl ?_
                  refine wb_gf4 237 rfl (wy_pr rfl) wt_237 wf_15_24 (v := 286) wl_237_24 ?_
                  refine wa_iload (n := 9) rfl ?_
                  refine wb_aaldO 286 rfl (wy_pr rfl) wt_286 (by omega) (n := 400) (hl286) (by omega) (v := (nP q : Int)) ((h286 q hq)) ?_
                  refine wa_iload (n := 6) rfl ?_
                  refine wa_cv (nP q) rfl hpq (wt_P0 (by omega)) (M2 := fun _ => False) rfl at_MP_find ⟨_, rfl⟩ rfl rfl ⟨trivial, trivial, (Or.inr ⟨wy_pr rfl, fun q => q⟩), trivial, (Or.inr ⟨hpk, fun q => q⟩), trivial, trivial, trivial, trivial, trivial, trivial, trivial⟩ trivial (fun _ _ q => False.elim q) (fdq hQz hq ⟨by omega, by omega⟩) (fun oq443 Sq443 hp444 q443 => ?_)
                  rcases q443 with ⟨rfl, rfl⟩
                  show wJ _ _ _ _ _ _ _ _ _ _
                  refine wa_fall ⟨_, rfl⟩ ?_
                  refine wa_istore (n := 7) rfl ?_
                  refine wa_iload (n := 10) rfl ?_
                  refine wa_ifeq (w_rg0 (by omega) (by omega)) ⟨_, rfl⟩ (fun c445 => ?_) (fun c445 => ?_)
                  · skip
                    refine wa_iload (n := 8) rfl ?_
                    refine wa_fall ⟨_, rfl⟩ ?_
                    refine wa_istore (n := 6) rfl ?_
                    refine wa_goto ⟨_, rfl⟩ ?_
                    refine wa_aload_n (n := 0) rfl ?_
                    refine wb_gf4 237 rfl (wy_pr rfl) wt_237 wf_15_44 (v := 301) wl_237_44 ?_
                    refine wa_aload_n (n := 0) rfl ?_
                    refine wb_gfi 237 rfl (wy_pr rfl) wt_237 wf_15_43 (v := (p + (r : Int))) (h43) (fun r446 => ?_)
                    refine wa_iload (n := 5) rfl ?_
                    refine wb_iast 301 rfl (wy_pr rfl) wt_301 (n := 20000) ((ml_301 hMz)) (by omega) (by omega) ⟨(by omega), (by omega)⟩ ?_
                    refine wa_aload_n (n := 0) rfl ?_
                    refine wb_gf4 237 rfl (wy_pr rfl) wt_237 wf_15_45 (v := 302) wl_237_45 ?_
                    refine wa_aload_n (n := 0) rfl ?_
                    refine wb_gfi 237 rfl (wy_pr rfl) wt_237 wf_15_43 (v := (p + (r : Int))) ((w_up_slot (by decide)).trans (h43)) (fun r447 => ?_)
                    refine wa_iload (n := 6) rfl ?_
                    refine wb_iast 302 rfl (wy_pr rfl) wt_302 (n := 20000) ((w_up_slot (by decide)).trans ((ml_302 hMz))) (by omega) (by omega) ⟨(by omega), (by omega)⟩ ?_
                    refine wa_aload_n (n := 0) rfl ?_
                    refine wb_gf4 237 rfl (wy_pr rfl) wt_237 wf_15_46 (v := 303) wl_237_46 ?_
                    refine wa_aload_n (n := 0) rfl ?_
                    refine wb_gfi 237 rfl (wy_pr rfl) wt_237 wf_15_43 (v := (p + (r : Int))) ((w_up_slot (by decide)).trans ((w_up_slot (by decide)).trans (h43))) (fun r448 => ?_)
                    refine wa_iload (n := 7) rfl ?_
                    refine wb_iast 303 rfl (wy_pr rfl) wt_303 (n := 20000) ((w_up_slot (by decide)).trans ((w_up_slot (by decide)).trans ((ml_303 hMz)))) (by omega) (by omega) ⟨(by omega), (by omega)⟩ ?_
                    refine wa_aload_n (n := 0) rfl ?_
                    refine wa_dup (by decide) ?_
                    refine wb_gfi 237 rfl (wy_pr rfl) wt_237 wf_15_43 (v := (p + (r : Int))) ((w_up_slot (by decide)).trans ((w_up_slot (by decide)).trans ((w_up_slot (by decide)).trans (h43)))) (fun r449 => ?_)
                    refine wa_iconst ?_
                    refine wa_iadd ?_
                    refine wb_pfi 237 rfl (wy_pr rfl) wt_237 wf_15_43 (n := 43) rfl ⟨(by omega), (by omega)⟩ ?_
                    refine wa_iinc rfl rfl ?_
                    refine wa_goto ⟨_, rfl⟩ ?_
                    obtain ⟨hq0, hR, hvv⟩ := hqq.resolve_left (fun z => by have := z.1; omega)
                    obtain ⟨h27, hfx⟩ := kF_l (s := sb + (os (f0 + (k : Int)) I r)) hX (by omega) hR
                    rw [if_pos (by omega)] at hfx
                    have hst := kpI_st hp.1 hsb.1 hrl hz (Or.inl ⟨h27, rfl⟩) hfx
                    rw [show ((r : Int) + 1) = ((r + 1 : Nat) : Int) by omega]
                    exact wJ_S (ih (r + 1) _ (by omega) (by omega) hst) ⟨rfl, rfl, rfl, rfl, rfl, trivial⟩
                  · skip
                    exact absurd c445 (by omega)
                · skip
                  exact absurd c442 (by omega)
              · skip
                exact absurd c441 (by omega)
          · skip
            refine wa_iconst ?_
            refine wa_goto ⟨_, rfl⟩ ?_
            refine wa_istore (n := 10) rfl ?_
            refine wa_iload (n := 5) rfl ?_
            refine wa_iconst ?_
            refine wa_icmpne (w_rg0 (by omega) (by omega)) (w_rg0 (by omega) (by omega)) ⟨_, rfl⟩ (fun c450 => ?_) (fun c450 => ?_)
            · skip
              refine wa_iload (n := 10) rfl ?_
              refine wa_ifeq (w_rg0 (by omega) (by omega)) ⟨_, rfl⟩ (fun c451 => ?_) (fun c451 => ?_)
              · skip
                exact absurd c451 (by omega)
              · skip
                refine wa_iconst ?_
                refine wa_goto ⟨_, rfl⟩ ?_
                refine wa_istore (n := 5) rfl ?_
                refine wa_iload (n := 10) rfl ?_
                refine wa_ifeq (w_rg0 (by omega) (by omega)) ⟨_, rfl⟩ (fun c452 => ?_) (fun c452 => ?_)
                · skip
                  exact absurd c452 (by omega)
                · skip
                  refine wa_iconst ?_
                  refine wa_goto ⟨_, rfl⟩ ?_
                  refine wa_istore (n := 7) rfl ?_
                  refine wa_iload (n := 10) rfl ?_
                  refine wa_ifeq (w_rg0 (by omega) (by omega)) ⟨_, rfl⟩ (fun c453 => ?_) (fun c453 => ?_)
                  · skip
                    exact absurd c453 (by omega)
                  · skip
                    refine wa_iload (n := 6) rfl ?_
                    refine wa_goto ⟨_, rfl⟩ ?_
                    refine wa_istore (n := 6) rfl ?_
                    refine wa_goto ⟨_, rfl⟩ ?_
                    refine wa_aload_n (n := 0) rfl ?_
                    refine wb_gf4 237 rfl (wy_pr rfl) wt_237 wf_15_44 (v := 301) wl_237_44 ?_
                    refine wa_aload_n (n := 0) rfl ?_
                    refine wb_gfi 237 rfl (wy_pr rfl) wt_237 wf_15_43 (v := (p + (r : Int))) (h43) (fun r454 => ?_)
                    refine wa_iload (n := 5) rfl ?_
                    refine wb_iast 301 rfl (wy_pr rfl) wt_301 (n := 20000) ((ml_301 hMz)) (by omega) (by omega) ⟨(by omega), (by omega)⟩ ?_
                    refine wa_aload_n (n := 0) rfl ?_
                    refine wb_gf4 237 rfl (wy_pr rfl) wt_237 wf_15_45 (v := 302) wl_237_45 ?_
                    refine wa_aload_n (n := 0) rfl ?_
                    refine wb_gfi 237 rfl (wy_pr rfl) wt_237 wf_15_43 (v := (p + (r : Int))) ((w_up_slot (by decide)).trans (h43)) (fun r455 => ?_)
                    refine wa_iload (n := 6) rfl ?_
                    refine wb_iast 302 rfl (wy_pr rfl) wt_302 (n := 20000) ((w_up_slot (by decide)).trans ((ml_302 hMz))) (by omega) (by omega) ⟨(by omega), (by omega)⟩ ?_
                    refine wa_aload_n (n := 0) rfl ?_
                    refine wb_gf4 237 rfl (wy_pr rfl) wt_237 wf_15_46 (v := 303) wl_237_46 ?_
                    refine wa_aload_n (n := 0) rfl ?_
                    refine wb_gfi 237 rfl (wy_pr rfl) wt_237 wf_15_43 (v := (p + (r : Int))) ((w_up_slot (by decide)).trans ((w_up_slot (by decide)).trans (h43))) (fun r456 => ?_)
                    refine wa_iload (n := 7) rfl ?_
                    refine wb_iast 303 rfl (wy_pr rfl) wt_303 (n := 20000) ((w_up_slot (by decide)).trans ((w_up_slot (by decide)).trans ((ml_303 hMz)))) (by omega) (by omega) ⟨(by omega), (by omega)⟩ ?_
                    refine wa_aload_n (n := 0) rfl ?_
                    refine wa_dup (by decide) ?_
                    refine wb_gfi 237 rfl (wy_pr rfl) wt_237 wf_15_43 (v := (p + (r : Int))) ((w_up_slot (by decide)).trans ((w_up_slot (by decide)).trans ((w_up_slot (by decide)).trans (h43)))) (fun r457 => ?_)
                    refine wa_iconst ?_
                    refine wa_iadd ?_
                    refine wb_pfi 237 rfl (wy_pr rfl) wt_237 wf_15_43 (n := 43) rfl ⟨(by omega), (by omega)⟩ ?_
                    refine wa_iinc rfl rfl ?_
                    refine wa_goto ⟨_, rfl⟩ ?_
                    obtain ⟨hq0, hR⟩ := hqq.resolve_right (fun z => by have := z.1; omega)
                    obtain ⟨h27, hfx⟩ := kF_g (s := sb + (os (f0 + (k : Int)) I r)) hX (by omega) hR
                    rw [if_neg (by omega)] at hfx
                    have hst := kpI_st hp.1 hsb.1 hrl hz (Or.inl ⟨h27, rfl⟩) hfx
                    rw [show ((r : Int) + 1) = ((r + 1 : Nat) : Int) by omega]
                    exact wJ_S (ih (r + 1) _ (by omega) (by omega) hst) ⟨rfl, rfl, rfl, rfl, rfl, trivial⟩
            · skip
              refine wa_iload (n := 10) rfl ?_
              refine wa_ifeq (w_rg0 (by omega) (by omega)) ⟨_, rfl⟩ (fun c458 => ?_) (fun c458 => ?_)
              · skip
                exact absurd c458 (by omega)
              · skip
                refine wa_iconst ?_
                refine wa_goto ⟨_, rfl⟩ ?_
                refine wa_istore (n := 5) rfl ?_
                refine wa_iload (n := 10) rfl ?_
                refine wa_ifeq (w_rg0 (by omega) (by omega)) ⟨_, rfl⟩ (fun c459 => ?_) (fun c459 => ?_)
                · skip
                  exact absurd c459 (by omega)
                · skip
                  refine wa_iconst ?_
                  refine wa_goto ⟨_, rfl⟩ ?_
                  refine wa_istore (n := 7) rfl ?_
                  refine wa_iload (n := 10) rfl ?_
                  refine wa_ifeq (w_rg0 (by omega) (by omega)) ⟨_, rfl⟩ (fun c460 => ?_) (fun c460 => ?_)
                  · skip
                    exact absurd c460 (by omega)
                  · skip
                    refine wa_iload (n := 6) rfl ?_
                    refine wa_goto ⟨_, rfl⟩ ?_
                    refine wa_istore (n := 6) rfl ?_
                    refine wa_goto ⟨_, rfl⟩ ?_
                    refine wa_aload_n (n := 0) rfl ?_
                    refine wb_gf4 237 rfl (wy_pr rfl) wt_237 wf_15_44 (v := 301) wl_237_44 ?_
                    refine wa_aload_n (n := 0) rfl ?_
                    refine wb_gfi 237 rfl (wy_pr rfl) wt_237 wf_15_43 (v := (p + (r : Int))) (h43) (fun r461 => ?_)
                    refine wa_iload (n := 5) rfl ?_
                    refine wb_iast 301 rfl (wy_pr rfl) wt_301 (n := 20000) ((ml_301 hMz)) (by omega) (by omega) ⟨(by omega), (by omega)⟩ ?_
                    refine wa_aload_n (n := 0) rfl ?_
                    refine wb_gf4 237 rfl (wy_pr rfl) wt_237 wf_15_45 (v := 302) wl_237_45 ?_
                    refine wa_aload_n (n := 0) rfl ?_
                    refine wb_gfi 237 rfl (wy_pr rfl) wt_237 wf_15_43 (v := (p + (r : Int))) ((w_up_slot (by decide)).trans (h43)) (fun r462 => ?_)
                    refine wa_iload (n := 6) rfl ?_
                    refine wb_iast 302 rfl (wy_pr rfl) wt_302 (n := 20000) ((w_up_slot (by decide)).trans ((ml_302 hMz))) (by omega) (by omega) ⟨(by omega), (by omega)⟩ ?_
                    refine wa_aload_n (n := 0) rfl ?_
                    refine wb_gf4 237 rfl (wy_pr rfl) wt_237 wf_15_46 (v := 303) wl_237_46 ?_
                    refine wa_aload_n (n := 0) rfl ?_
                    refine wb_gfi 237 rfl (wy_pr rfl) wt_237 wf_15_43 (v := (p + (r : Int))) ((w_up_slot (by decide)).trans ((w_up_slot (by decide)).trans (h43))) (fun r463 => ?_)
                    refine wa_iload (n := 7) rfl ?_
                    refine wb_iast 303 rfl (wy_pr rfl) wt_303 (n := 20000) ((w_up_slot (by decide)).trans ((w_up_slot (by decide)).trans ((ml_303 hMz)))) (by omega) (by omega) ⟨(by omega), (by omega)⟩ ?_
                    refine wa_aload_n (n := 0) rfl ?_
                    refine wa_dup (by decide) ?_
                    refine wb_gfi 237 rfl (wy_pr rfl) wt_237 wf_15_43 (v := (p + (r : Int))) ((w_up_slot (by decide)).trans ((w_up_slot (by decide)).trans ((w_up_slot (by decide)).trans (h43)))) (fun r464 => ?_)
                    refine wa_iconst ?_
                    refine wa_iadd ?_
                    refine wb_pfi 237 rfl (wy_pr rfl) wt_237 wf_15_43 (n := 43) rfl ⟨(by omega), (by omega)⟩ ?_
                    refine wa_iinc rfl rfl ?_
                    refine wa_goto ⟨_, rfl⟩ ?_
                    obtain ⟨hq0, hR⟩ := hqq.resolve_right (fun z => by have := z.1; omega)
                    obtain ⟨h27, hfx⟩ := kF_g (s := sb + (os (f0 + (k : Int)) I r)) hX (by omega) hR
                    rw [if_pos (by omega)] at hfx
                    have hst := kpI_st hp.1 hsb.1 hrl hz (Or.inl ⟨h27, rfl⟩) hfx
                    rw [show ((r : Int) + 1) = ((r + 1 : Nat) : Int) by omega]
                    exact wJ_S (ih (r + 1) _ (by omega) (by omega) hst) ⟨rfl, rfl, rfl, rfl, rfl, trivial⟩
/-- a function is kept -/
def kP_P (f0 : Int) (I : List pz_I) (F : List pz_F) (k : Nat) (un p sb : Int) (S Z : wS) : Prop := (Z 293 (f0 + (k : Int)) = un ∧ Z 295 (f0 + (k : Int)) = (F.getD k (-1, 0, [])).2.1 ∧ Z 296 (f0 + (k : Int)) = ((F.getD k (-1, 0, [])).2.2.length : Int) ∧ Z 297 (f0 + (k : Int)) = p ∧ Z 298 (f0 + (k : Int)) = ((on (f0 + (k : Int)) I).length : Int) ∧ Z 299 (f0 + (k : Int)) = sb ∧ Z 300 (f0 + (k : Int)) = pz_s (on (f0 + (k : Int)) I)) ∧ (Z 237 43 = p + ((on (f0 + (k : Int)) I).length : Int) ∧ Z 237 47 = sb + pz_s (on (f0 + (k : Int)) I)) ∧ kpD f0 I F (f0 + (k : Int)) p sb (on (f0 + (k : Int)) I).length Z ∧ (∀ (j : Nat) (x : Int), (x < 0 ∨ (293 ≤ j ∧ j ≤ 300 ∧ (x ≠ (f0 + (k : Int)) ∨ j = 294)) ∨ (301 ≤ j ∧ j ≤ 303 ∧ x < p) ∨ (((304 ≤ j ∧ j ≤ 313) ∨ j = 376) ∧ x < sb) ∨ ((j < 293 ∨ 313 < j) ∧ j ≠ 376)) → (j ≠ 237 ∨ (x ≠ 43 ∧ x ≠ 47 ∧ x ≠ 48)) → Z j x = S j x) ∧ rD Z
theorem kp_ok (hQ : kQ f0 I F S) (hk : k < F.length) (hp : 0 ≤ p ∧ p + ((on (f0 + (k : Int)) I).length : Int) ≤ 20000) (hsb : 0 ≤ sb ∧ sb + pz_s (on (f0 + (k : Int)) I) ≤ 4000) (hun : S 237 33 = un) (h43 : S 237 43 = p) (h47 : S 237 47 = sb) (hd : rD S) : wJ (pe_GA xs) wY0 M (d + 3) t_M_keepsPart ((pe_at t_M_keepsPart.bl 0).getD (0, [])).2 [(0, (2, 237)), (1, (0, (k : Int)))] [] S (fun q Z => q = .inl none ∧ kP_P f0 I F k un p sb S Z) := by
  have hM := hQ.1.1
  have hF := hQ.1.2.1
  obtain ⟨lo, la, lb, a1, ⟨l1, l2, l3⟩, a3⟩ := hQ.2.1 k hk
  have hpk := a1.2.1.1
  have h286 := hQ.2.2.1.1 k hk
  have hl286 := hQ.2.2.1.2
  have h34 := hQ.2.2.2.2.2
  have hwk : nP k = 2000000 + 64 * k := rfl
  have hvl : (((F.getD k (-1, 0, [])).2.2.reverse.length : Nat) : Int) = ((F.getD k (-1, 0, [])).2.2.length : Int) := by rw [List.length_reverse]
  have hl60 := (hQ.1.2.2.2.2 k hk).2.2
  refine wa_aload_n (n := 0) rfl ?_
  refine wb_gf4 237 rfl (wy_pr rfl) wt_237 wf_15_24 (v := 286) wl_237_24 ?_
  refine wa_iload_n (n := 1) rfl ?_
  refine wb_aaldO 286 rfl (wy_pr rfl) wt_286 (by omega) (n := 400) (hl286) (by omega) (v := (nP k : Int)) (h286) ?_
  refine wa_astore_n (n := 2) rfl ?_
  refine wa_aload_n (n := 0) rfl ?_
  refine wb_gfi 237 rfl (wy_pr rfl) wt_237 wf_15_34 (v := f0) (h34) (fun r101 => ?_)
  refine wa_iload_n (n := 1) rfl ?_
  refine wa_iadd ?_
  refine wa_istore_n (n := 3) rfl ?_
  refine wa_aload_n (n := 0) rfl ?_
  refine wb_gf4 237 rfl (wy_pr rfl) wt_237 wf_15_35 (v := 293) wl_237_35 ?_
  refine wa_iload_n (n := 3) rfl ?_
  refine wa_aload_n (n := 0) rfl ?_
  refine wb_gfi 237 rfl (wy_pr rfl) wt_237 wf_15_33 (v := un) (hun) (fun r102 => ?_)
  refine wb_iast 293 rfl (wy_pr rfl) wt_293 (n := 400) ((ml_293 hM)) (by omega) (by omega) ⟨(by omega), (by omega)⟩ ?_
  refine wa_aload_n (n := 0) rfl ?_
  refine wb_gf4 237 rfl (wy_pr rfl) wt_237 wf_15_37 (v := 295) wl_237_37 ?_
  refine wa_iload_n (n := 3) rfl ?_
  refine wa_aload_n (n := 2) rfl ?_
  refine wb_gfi (nP k) rfl ((w_up_pr (by omega)).mpr hpk) (wt_P0 (by omega)) wf_14_1 (v := (F.getD k (-1, 0, [])).2.1) ((w_up_slot (by omega)).trans (a1.1.2.1)) (fun r103 => ?_)
  refine wb_iast 295 rfl (wy_pr rfl) wt_295 (n := 400) ((w_up_slot (by decide)).trans ((ml_295 hM))) (by omega) (by omega) ⟨(by omega), (by omega)⟩ ?_
  refine wa_aload_n (n := 0) rfl ?_
  refine wb_gf4 237 rfl (wy_pr rfl) wt_237 wf_15_38 (v := 296) wl_237_38 ?_
  refine wa_iload_n (n := 3) rfl ?_
  refine wa_aload_n (n := 2) rfl ?_
  refine wb_gfi (nP k) rfl ((w_up_pr (by omega)).mpr ((w_up_pr (by omega)).mpr hpk)) (wt_P0 (by omega)) wf_14_2 (v := ((F.getD k (-1, 0, [])).2.2.length : Int)) ((w_up_slot (by omega)).trans ((w_up_slot (by omega)).trans ((a1.1.2.2.1.trans hvl)))) (fun r104 => ?_)
  refine wb_iast 296 rfl (wy_pr rfl) wt_296 (n := 400) ((w_up_slot (by decide)).trans ((w_up_slot (by decide)).trans ((ml_296 hM)))) (by omega) (by omega) ⟨(by omega), (by omega)⟩ ?_
  refine wa_aload_n (n := 0) rfl ?_
  refine wb_gf4 237 rfl (wy_pr rfl) wt_237 wf_15_39 (v := 297) wl_237_39 ?_
  refine wa_iload_n (n := 3) rfl ?_
  refine wa_aload_n (n := 0) rfl ?_
  refine wb_gfi 237 rfl (wy_pr rfl) wt_237 wf_15_43 (v := p) ((w_up_slot (by decide)).trans ((w_up_slot (by decide)).trans ((w_up_slot (by decide)).trans (h43)))) (fun r105 => ?_)
  refine wb_iast 297 rfl (wy_pr rfl) wt_297 (n := 400) ((w_up_slot (by decide)).trans ((w_up_slot (by decide)).trans ((w_up_slot (by decide)).trans ((ml_297 hM))))) (by omega) (by omega) ⟨(by omega), (by omega)⟩ ?_
  refine wa_aload_n (n := 0) rfl ?_
  refine wb_gf4 237 rfl (wy_pr rfl) wt_237 wf_15_40 (v := 298) wl_237_40 ?_
  refine wa_iload_n (n := 3) rfl ?_
  refine wa_aload_n (n := 2) rfl ?_
  refine wa_cv (nP k) rfl ((w_up_pr (by omega)).mpr ((w_up_pr (by omega)).mpr ((w_up_pr (by omega)).mpr ((w_up_pr (by omega)).mpr hpk)))) (wt_P0 (by omega)) (M2 := fun _ => False) rfl at_MP_here ⟨_, rfl⟩ rfl rfl ⟨trivial, (Or.inr ⟨((w_up_pr (by omega)).mpr ((w_up_pr (by omega)).mpr ((w_up_pr (by omega)).mpr ((w_up_pr (by omega)).mpr hpk)))), fun q => q⟩), (Or.inr ⟨wy_pr rfl, fun q => q⟩), trivial, trivial⟩ ⟨trivial, (Or.inr ⟨wy_pr rfl, fun q => q⟩), trivial⟩ (fun _ _ q => False.elim q) (he_r (f := k) (S := (w_up (w_up (w_up (w_up S 293 (f0 + (k : Int)) un) 295 (f0 + (k : Int)) (F.getD k (-1, 0, [])).2.1) 296 (f0 + (k : Int)) ((F.getD k (-1, 0, [])).2.2.length : Int)) 297 (f0 + (k : Int)) p)) (by omega) (pO_ag a1 (fun j x j1 j2 => (w_up_slot (by omega)).trans ((w_up_slot (by omega)).trans ((w_up_slot (by omega)).trans ((w_up_slot (by omega)).trans (rfl)))))).1) (fun oq106 Sq106 hp107 q106 => ?_)
  rcases q106 with ⟨rfl, rfl⟩
  show wJ _ _ _ _ _ _ _ _ _ _
  refine wb_iast 298 rfl (wy_pr rfl) wt_298 (n := 400) ((w_up_slot (by decide)).trans ((w_up_slot (by decide)).trans ((w_up_slot (by decide)).trans ((w_up_slot (by decide)).trans ((ml_298 hM)))))) (by omega) (by omega) ⟨(by omega), (by omega)⟩ ?_
  refine wa_fall ⟨_, rfl⟩ ?_
  refine wa_aload_n (n := 0) rfl ?_
  refine wb_gf4 237 rfl (wy_pr rfl) wt_237 wf_15_41 (v := 299) wl_237_41 ?_
  refine wa_iload_n (n := 3) rfl ?_
  refine wa_aload_n (n := 0) rfl ?_
  refine wb_gfi 237 rfl (wy_pr rfl) wt_237 wf_15_47 (v := sb) ((w_up_slot (by decide)).trans ((w_up_slot (by decide)).trans ((w_up_slot (by decide)).trans ((w_up_slot (by decide)).trans ((w_up_slot (by decide)).trans (h47)))))) (fun r108 => ?_)
  refine wb_iast 299 rfl (wy_pr rfl) wt_299 (n := 400) ((w_up_slot (by decide)).trans ((w_up_slot (by decide)).trans ((w_up_slot (by decide)).trans ((w_up_slot (by decide)).trans ((w_up_slot (by decide)).trans ((ml_299 hM))))))) (by omega) (by omega) ⟨(by omega), (by omega)⟩ ?_
  refine wa_iconst ?_
  refine wa_istore (n := 4) rfl ?_
  refine wa_fall ⟨_, rfl⟩ ?_
  have fr : ∀ (j : Nat) (x : Int), (j < 293 ∨ 299 < j ∨ j = 294 ∨ x ≠ (f0 + (k : Int))) → (w_up (w_up (w_up (w_up (w_up (w_up S 293 (f0 + (k : Int)) un) 295 (f0 + (k : Int)) (F.getD k (-1, 0, [])).2.1) 296 (f0 + (k : Int)) ((F.getD k (-1, 0, [])).2.2.length : Int)) 297 (f0 + (k : Int)) p) 298 (f0 + (k : Int)) ((lo.length : Int) + 0)) 299 (f0 + (k : Int)) sb) j x = S j x := fun j x q => (w_up_no (by omega)).trans ((w_up_no (by omega)).trans ((w_up_no (by omega)).trans ((w_up_no (by omega)).trans ((w_up_no (by omega)).trans ((w_up_no (by omega)).trans (rfl))))))
  have hQ2 : kQ f0 I F (w_up (w_up (w_up (w_up (w_up (w_up S 293 (f0 + (k : Int)) un) 295 (f0 + (k : Int)) (F.getD k (-1, 0, [])).2.1) 296 (f0 + (k : Int)) ((F.getD k (-1, 0, [])).2.2.length : Int)) 297 (f0 + (k : Int)) p) 298 (f0 + (k : Int)) ((lo.length : Int) + 0)) 299 (f0 + (k : Int)) sb) := kQ_ag hQ (fun j x q1 q2 => fr j x (by omega))
  have hI0 : kpI f0 I F (f0 + (k : Int)) p sb 0 (w_up (w_up (w_up (w_up (w_up (w_up S 293 (f0 + (k : Int)) un) 295 (f0 + (k : Int)) (F.getD k (-1, 0, [])).2.1) 296 (f0 + (k : Int)) ((F.getD k (-1, 0, [])).2.2.length : Int)) 297 (f0 + (k : Int)) p) 298 (f0 + (k : Int)) ((lo.length : Int) + 0)) 299 (f0 + (k : Int)) sb) (w_up (w_up (w_up (w_up (w_up (w_up S 293 (f0 + (k : Int)) un) 295 (f0 + (k : Int)) (F.getD k (-1, 0, [])).2.1) 296 (f0 + (k : Int)) ((F.getD k (-1, 0, [])).2.2.length : Int)) 297 (f0 + (k : Int)) p) 298 (f0 + (k : Int)) ((lo.length : Int) + 0)) 299 (f0 + (k : Int)) sb) := ⟨⟨by rw [fr 237 43 (by omega), h43]; omega, by rw [fr 237 47 (by omega), h47]; show sb = sb + 0; omega⟩, fun t ht => absurd ht (Nat.not_lt_zero _), fun _ _ _ _ => rfl, rD_ag hd (fun j x q => fr j x (by omega))⟩
  refine wJ_S (kp_l hQ2 hk hp hsb (fun Z hz => ?_) ((on (f0 + (k : Int)) I).length + 1) 0 _ (by omega) (Nat.zero_le _) hI0) ⟨rfl, rfl, rfl, rfl, rfl, trivial⟩
  obtain ⟨⟨z1, z2⟩, z3, z4, z5⟩ := hz
  rw [os_all] at z2
  have zr : ∀ (j : Nat) (x : Int), (j < 301) → (j ≠ 237 ∨ (x ≠ 43 ∧ x ≠ 47 ∧ x ≠ 48)) → Z j x = (w_up (w_up (w_up (w_up (w_up (w_up S 293 (f0 + (k : Int)) un) 295 (f0 + (k : Int)) (F.getD k (-1, 0, [])).2.1) 296 (f0 + (k : Int)) ((F.getD k (-1, 0, [])).2.2.length : Int)) 297 (f0 + (k : Int)) p) 298 (f0 + (k : Int)) ((lo.length : Int) + 0)) 299 (f0 + (k : Int)) sb) j x := fun j x q1 q2 => z4 j x (by omega) q2
  have zl : ∀ j : Nat, Z j (-1) = S j (-1) := fun j => (z4 j (-1) (by omega) (by omega)).trans (fr j (-1) (by omega))
  have hMz : w_ML Z := fun q hq => (zl q.1).trans (hM q hq)
  have hsn := pz_s_nn (on (f0 + (k : Int)) I)
  have z299 : Z 299 (f0 + (k : Int)) = sb := (zr 299 _ (by decide) (Or.inl (by decide))).trans ((w_up_same _ _ _ _))
  refine wa_aload_n (n := 0) rfl ?_
  refine wb_gf4 237 rfl (wy_pr rfl) wt_237 wf_15_42 (v := 300) wl_237_42 ?_
  refine wa_iload_n (n := 3) rfl ?_
  refine wa_aload_n (n := 0) rfl ?_
  refine wb_gfi 237 rfl (wy_pr rfl) wt_237 wf_15_47 (v := (sb + pz_s (on (f0 + (k : Int)) I))) (z2) (fun r409 => ?_)
  refine wa_aload_n (n := 0) rfl ?_
  refine wb_gf4 237 rfl (wy_pr rfl) wt_237 wf_15_41 (v := 299) wl_237_41 ?_
  refine wa_iload_n (n := 3) rfl ?_
  refine wb_iald 299 rfl (wy_pr rfl) wt_299 (n := 400) ((ml_299 hMz)) (by omega) (by omega) (v := sb) (z299) (fun r410 => ?_)
  refine wa_isub ?_
  refine wb_iast 300 rfl (wy_pr rfl) wt_300 (n := 400) ((ml_300 hMz)) (by omega) (by omega) ⟨(by omega), (by omega)⟩ ?_
  refine wa_return rfl ?_
  have e : ∀ (j : Nat) (x : Int), (j ≠ 300 ∨ x ≠ (f0 + (k : Int))) → (w_up Z 300 (f0 + (k : Int)) ((sb + pz_s (on (f0 + (k : Int)) I)) - sb)) j x = Z j x := fun j x q => w_up_no (by omega)
  have hsv : sb + pz_s (on (f0 + (k : Int)) I) - sb = pz_s (on (f0 + (k : Int)) I) := by omega
  refine ⟨rfl, ⟨(e 293 _ (by omega)).trans ((zr 293 _ (by decide) (Or.inl (by decide))).trans (((w_up_slot (by decide)).trans ((w_up_slot (by decide)).trans ((w_up_slot (by decide)).trans ((w_up_slot (by decide)).trans ((w_up_slot (by decide)).trans (w_up_same _ _ _ _)))))))), (e 295 _ (by omega)).trans ((zr 295 _ (by decide) (Or.inl (by decide))).trans (((w_up_slot (by decide)).trans ((w_up_slot (by decide)).trans ((w_up_slot (by decide)).trans ((w_up_slot (by decide)).trans (w_up_same _ _ _ _))))))), (e 296 _ (by omega)).trans ((zr 296 _ (by decide) (Or.inl (by decide))).trans (((w_up_slot (by decide)).trans ((w_up_slot (by decide)).trans ((w_up_slot (by decide)).trans (w_up_same _ _ _ _)))))), (e 297 _ (by omega)).trans ((zr 297 _ (by decide) (Or.inl (by decide))).trans (((w_up_slot (by decide)).trans ((w_up_slot (by decide)).trans (w_up_same _ _ _ _))))), (e 298 _ (by omega)).trans ((zr 298 _ (by decide) (Or.inl (by decide))).trans ((((w_up_slot (by decide)).trans (w_up_same _ _ _ _))).trans (by omega))), (e 299 _ (by omega)).trans ((zr 299 _ (by decide) (Or.inl (by decide))).trans ((w_up_same _ _ _ _))), (w_up_same _ _ _ _).trans hsv⟩, ⟨(e 237 43 (by omega)).trans z1, (e 237 47 (by omega)).trans z2⟩, fun t ht => ?_, fun j x q1 q2 => ?_, rD_ag z5 (fun j x q => e j x (by omega))⟩
  · obtain ⟨⟨b1, b2, b3⟩, b4⟩ := z3 t ht
    exact ⟨⟨(e 301 _ (by omega)).trans b1, (e 302 _ (by omega)).trans b2, (e 303 _ (by omega)).trans b3⟩, fun q => sRow_ag (b4 q) (fun j hj => e j _ (by omega))⟩
  · rw [e j x (by omega)]
    exact (z4 j x (by omega) q2).trans (fr j x (by omega))
end Wcv
