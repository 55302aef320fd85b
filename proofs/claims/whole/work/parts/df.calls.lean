/-! PART df: function, code, site, name of both. -/
section Wdf
variable {xs : List (Nat × List Int32)} {M : Nat → Prop} {d : Nat} {S Z : wS} {N X : List (List Int)} {t0 m0 ob ph qh b b2 m pm : Nat}
theorem RK_t (h : RK N X m pm S) : RK N X m pm (w_up S 237 0 0) := by
  obtain ⟨k1, k2, ⟨k3, k4, k5, k6⟩, k7, k8⟩ := h
  have es : ∀ j : Nat, j ≠ 237 → w_up S 237 0 0 j = S j := fun j hj => w_up_row hj
  have e7 : ∀ x : Int, x ≠ 0 → w_up S 237 0 0 237 x = S 237 x := fun x hx => w_up_at hx
  refine ⟨cK_ag k1 (fun j hj => es j (by omega)), ?_, ⟨?_, ?_, (rZ_ag k5 (fun j x hj => w_up_no (by omega))).1, rD_ag k6 (fun j x hj => w_up_no (by omega))⟩, mK_ag k7 (fun x => w_up_slot (by decide)) (fun x hx => e7 x (by omega)) (fun j x hj _ _ => w_up_slot (by omega)) (fun j x hj _ _ => w_up_slot (by omega)) (fun j x hj _ _ => w_up_slot (by omega)) (fun j x hj _ _ => w_up_slot (by omega)), mW_ag k8 k7 ⟨by rw [e7 16 (by decide)]; exact Int.le_refl _, by rw [e7 19 (by decide)]; exact Int.le_refl _⟩ (fun x hx => e7 x (by omega)) (fun j x hj _ => w_up_slot (by omega)) (fun j x hj _ => w_up_slot (by omega))⟩
  · unfold wk at k2 ⊢; rw [es 2 (by decide), es 0 (by decide)]; exact k2
  · unfold mN at k3 ⊢; rw [es 281 (by decide), es 282 (by decide), e7 16 (by decide)]; exact k3
  · unfold mX at k4 ⊢; rw [es 283 (by decide), es 284 (by decide), es 285 (by decide), e7 19 (by decide), e7 20 (by decide)]; exact k4
theorem fu_eq {f wh : Int} (h : mK S) : fu_v S f wh = fu_r S f wh := by
  obtain ⟨k1, k2, k3, k4, k5, k6, k7, k8⟩ := h
  unfold fu_v fu_r
  by_cases e : 0 ≤ f ∧ f < S 237 34
  · obtain ⟨⟨a1, a2, a3, a4, a5, a6, a7⟩, -⟩ := k5 f e.1 e.2
    rw [if_pos e]
    by_cases q : 0 ≤ wh ∧ wh ≤ 5
    · rw [if_pos (by omega)]
      rcases (show wh = 0 ∨ wh = 1 ∨ wh = 2 ∨ wh = 3 ∨ wh = 4 ∨ wh = 5 by omega) with r | r | r | r | r | r <;> subst r
      · exact a1
      · exact a2
      · exact a3
      · exact a5
      · exact a6
      · exact a7
    · rw [if_neg (by omega), if_neg (by omega), if_neg (by omega), if_neg (by omega), if_neg (by omega), if_neg (by omega), if_neg (by omega)]
  · rw [if_neg e, if_neg (by omega)]
theorem co_eq {f i wh : Int} (h : mK S) : co_v S f i wh = co_r S f i wh := by
  obtain ⟨k1, k2, k3, k4, k5, k6, k7, k8⟩ := h
  unfold co_v co_r
  by_cases e : 0 ≤ f ∧ f < S 237 34
  · obtain ⟨⟨a1, a2, a3, a4, a5, a6, a7⟩, a8, a9, a10⟩ := k5 f e.1 e.2
    rw [a4, a5]
    by_cases q : 0 ≤ i ∧ i < S 298 f
    · obtain ⟨b1, b2, b3⟩ := k7 (S 297 f + i) (by omega) (by omega)
      rw [b1, b2, b3, k1.1]
    · rw [if_neg (by omega), if_neg (by omega)]
  · rw [if_neg (by omega), if_neg (by omega)]
theorem st_eq {f wh : Int} (h : mK S) (h1 : si_L S) (h2 : dN (S 35) (S 36) (S 37) (S 40) (S 19 9) (S 19 16)) (h3 : rD S) : st_v S f wh = st_r S f wh := by
  obtain ⟨-, hd⟩ := mK_d h h1 h2 h3
  obtain ⟨k1, k2, k3, k4, k5, k6, k7, k8⟩ := h
  unfold st_v st_r
  by_cases e : 0 ≤ f ∧ f < S 237 47
  · obtain ⟨a0, a1, a2, a3, a4, a6, a7, a8, a9, a10⟩ := k8 f e.1 e.2
    have a5 := hd f e.1 e.2
    rw [if_pos e]
    by_cases q : 0 ≤ wh ∧ wh ≤ 10
    · rw [if_pos (by omega)]
      rcases (show wh = 0 ∨ wh = 1 ∨ wh = 2 ∨ wh = 3 ∨ wh = 4 ∨ wh = 5 ∨ wh = 6 ∨ wh = 7 ∨ wh = 8 ∨ wh = 9 ∨ wh = 10 by omega) with r | r | r | r | r | r | r | r | r | r | r <;> subst r
      · exact a0
      · exact a1
      · exact a2
      · exact a3
      · exact a4
      · exact a5
      · exact a6
      · exact a7
      · exact a8
      · exact a9
      · exact a10
    · rw [if_neg (by omega), if_neg (by omega), if_neg (by omega), if_neg (by omega), if_neg (by omega), if_neg (by omega), if_neg (by omega), if_neg (by omega), if_neg (by omega), if_neg (by omega), if_neg (by omega), if_neg (by omega)]
  · rw [if_neg e, if_neg (by omega)]
theorem c6 {f wh : Int} (hR : RA t0 m0 ob ph qh b b2 S) (hK : RK N X m pm S) (hf : -2147483648 ≤ f ∧ f ≤ 2147483647) (hwh : -2147483648 ≤ wh ∧ wh ≤ 2147483647) : wJ (pe_GA xs) wY0 M d t_X_function ((pe_at t_X_function.bl 0).getD (0, [])).2 [(0, (2, 0)), (1, (0, f)), (2, (0, wh))] [] S (fun o Z => S = Z ∧ o = .inl (some (0, fu_r S f wh))) := by
  obtain ⟨k1, k2, ⟨k3, k4, k5, k6⟩, k7, k8⟩ := hK
  rw [← fu_eq k7]
  exact xfu hR.1.1 (by have := k7.1; omega) hf hwh
theorem m6 (hph : 18 < ph ∧ ph < 237) (hbb : 239 < b ∧ b + 19 < 400 ∧ 18 < t0 ∧ t0 + 4 < 237 ∧ 18 < m0 ∧ m0 + 14 < 237 ∧ 18 < ob ∧ ob < 237) {f wh : Int} (hR : RA t0 m0 ob ph qh b b2 S) (hK : RK N X m pm S) (hf : -2147483648 ≤ f ∧ f ≤ 2147483647) (hwh : -2147483648 ≤ wh ∧ wh ≤ 2147483647) : wJ (pe_GA xs) wY0 M (d + 1) t_M_function ((pe_at t_M_function.bl 0).getD (0, [])).2 [(0, (2, 237)), (1, (0, f)), (2, (0, wh))] [] S (fun o Z => (RA t0 m0 ob ph qh b b2 Z ∧ RK N X m pm Z) ∧ w_up S 237 0 0 = Z ∧ o = .inl (some (0, fu_r S f wh))) :=
  wJ_mono (mfu hR.2.2.1 ⟨hK.2.2.2.1.1.2.1, hK.2.2.2.1.1.2.2⟩ hf hwh) (fun o Z hz => ⟨by rw [← hz.1]; exact ⟨RA_t hph hbb hR, RK_t hK⟩, hz⟩)
theorem c7 {f i wh : Int} (hR : RA t0 m0 ob ph qh b b2 S) (hK : RK N X m pm S) (hf : -2147483648 ≤ f ∧ f ≤ 2147483647) (hi : -2147483648 ≤ i ∧ i ≤ 2147483647) (hwh : -2147483648 ≤ wh ∧ wh ≤ 2147483647) : wJ (pe_GA xs) wY0 M d t_X_code ((pe_at t_X_code.bl 0).getD (0, [])).2 [(0, (2, 0)), (1, (0, f)), (2, (0, i)), (3, (0, wh))] [] S (fun o Z => S = Z ∧ o = .inl (some (0, co_r S f i wh))) := by
  obtain ⟨k1, k2, ⟨k3, k4, k5, k6⟩, k7, k8⟩ := hK
  rw [← co_eq k7]
  obtain ⟨-, -, -, ⟨l1, l2, l3, l4, l5⟩, -⟩ := k1
  obtain ⟨q1, q2, q3, q4, q5, q6, q7, q8⟩ := k7
  exact xco hR.1.1 (by omega) ⟨l1, l2, l4⟩ (fun k k0 k1 => by
    obtain ⟨⟨a1, a2, a3, a4, a5, a6, a7⟩, a8, a9, a10⟩ := q5 k k0 (by omega)
    rw [a4, a5]
    omega) hf hi hwh
theorem m7 (hph : 18 < ph ∧ ph < 237) (hbb : 239 < b ∧ b + 19 < 400 ∧ 18 < t0 ∧ t0 + 4 < 237 ∧ 18 < m0 ∧ m0 + 14 < 237 ∧ 18 < ob ∧ ob < 237) {f i wh : Int} (hR : RA t0 m0 ob ph qh b b2 S) (hK : RK N X m pm S) (hf : -2147483648 ≤ f ∧ f ≤ 2147483647) (hi : -2147483648 ≤ i ∧ i ≤ 2147483647) (hwh : -2147483648 ≤ wh ∧ wh ≤ 2147483647) : wJ (pe_GA xs) wY0 M (d + 1) t_M_code ((pe_at t_M_code.bl 0).getD (0, [])).2 [(0, (2, 237)), (1, (0, f)), (2, (0, i)), (3, (0, wh))] [] S (fun o Z => (RA t0 m0 ob ph qh b b2 Z ∧ RK N X m pm Z) ∧ w_up S 237 0 0 = Z ∧ o = .inl (some (0, co_r S f i wh))) :=
  wJ_mono (mco hR.2.2.1 ⟨hK.2.2.2.1.1.2.1, hK.2.2.2.1.1.2.2⟩ (fun k k0 k1 => by
    obtain ⟨q1, q2, q3, q4, q5, q6, q7, q8⟩ := hK.2.2.2.1
    obtain ⟨-, a8, a9, a10⟩ := q5 k k0 k1
    omega) hf hi hwh) (fun o Z hz => ⟨by rw [← hz.1]; exact ⟨RA_t hph hbb hR, RK_t hK⟩, hz⟩)
theorem c8 {f wh : Int} (hR : RA t0 m0 ob ph qh b b2 S) (hK : RK N X m pm S) (hf : -2147483648 ≤ f ∧ f ≤ 2147483647) (hwh : -2147483648 ≤ wh ∧ wh ≤ 2147483647) : wJ (pe_GA xs) wY0 M d t_X_site ((pe_at t_X_site.bl 0).getD (0, [])).2 [(0, (2, 0)), (1, (0, f)), (2, (0, wh))] [] S (fun o Z => S = Z ∧ o = .inl (some (0, st_r S f wh))) := by
  obtain ⟨k1, k2, ⟨k3, k4, k5, k6⟩, k7, k8⟩ := hK
  obtain ⟨-, -, -, -, l5, l6⟩ := k1
  rw [← st_eq k7 l5 l6 k6]
  exact xsi hR.1.1 ⟨l5.1.1, l5.2.2.1.1⟩ l5.2.2.1.2.2 l5.2.1 hf hwh
theorem m8 (hph : 18 < ph ∧ ph < 237) (hbb : 239 < b ∧ b + 19 < 400 ∧ 18 < t0 ∧ t0 + 4 < 237 ∧ 18 < m0 ∧ m0 + 14 < 237 ∧ 18 < ob ∧ ob < 237) {f wh : Int} (hR : RA t0 m0 ob ph qh b b2 S) (hK : RK N X m pm S) (hf : -2147483648 ≤ f ∧ f ≤ 2147483647) (hwh : -2147483648 ≤ wh ∧ wh ≤ 2147483647) : wJ (pe_GA xs) wY0 M (d + 1) t_M_site ((pe_at t_M_site.bl 0).getD (0, [])).2 [(0, (2, 237)), (1, (0, f)), (2, (0, wh))] [] S (fun o Z => (RA t0 m0 ob ph qh b b2 Z ∧ RK N X m pm Z) ∧ w_up S 237 0 0 = Z ∧ o = .inl (some (0, st_r S f wh))) :=
  wJ_mono (msi hR.2.2.1 ⟨hK.2.2.2.1.2.2.2.1.2.1, hK.2.2.2.1.2.2.2.1.2.2⟩ hf hwh) (fun o Z hz => ⟨by rw [← hz.1]; exact ⟨RA_t hph hbb hR, RK_t hK⟩, hz⟩)
theorem c10 {k i : Int} (hK : RK N X m pm S) (hk : -2147483648 ≤ k ∧ k ≤ 2147483647) (hi : -2147483648 ≤ i ∧ i ≤ 2147483647) : wJ (pe_GA xs) wY0 M d t_X_name ((pe_at t_X_name.bl 0).getD (0, [])).2 [(0, (2, 0)), (1, (0, k)), (2, (0, i))] [] S (fun o Z => S = Z ∧ o = .inl (some (0, nm_v N k i))) := by
  obtain ⟨k1, k2, ⟨k3, k4, k5, k6⟩, k7, k8⟩ := hK
  obtain ⟨⟨l1, l2, l3, l4⟩, -⟩ := k1
  exact xnm l3 k3.2.1 l1.1 l1.2.1 l1.2.2.1 hk hi
theorem m10 (hph : 18 < ph ∧ ph < 237) (hbb : 239 < b ∧ b + 19 < 400 ∧ 18 < t0 ∧ t0 + 4 < 237 ∧ 18 < m0 ∧ m0 + 14 < 237 ∧ 18 < ob ∧ ob < 237) {k i : Int} (hR : RA t0 m0 ob ph qh b b2 S) (hK : RK N X m pm S) (hk : -2147483648 ≤ k ∧ k ≤ 2147483647) (hi : -2147483648 ≤ i ∧ i ≤ 2147483647) : wJ (pe_GA xs) wY0 M (d + 1) t_M_name ((pe_at t_M_name.bl 0).getD (0, [])).2 [(0, (2, 237)), (1, (0, k)), (2, (0, i))] [] S (fun o Z => (RA t0 m0 ob ph qh b b2 Z ∧ RK N X m pm Z) ∧ w_up S 237 0 0 = Z ∧ o = .inl (some (0, nm_v N k i))) :=
  wJ_mono (mnm hR.2.2.1 hK.2.2.1.1 hk hi) (fun o Z hz => ⟨by rw [← hz.1]; exact ⟨RA_t hph hbb hR, RK_t hK⟩, hz⟩)
end Wdf
