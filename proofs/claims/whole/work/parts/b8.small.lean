/-! PART b8: the Compiler's small methods, where it stands told by cQ. -/
section Wb8
variable {xs : List (Nat × List Int32)} {M : Nat → Prop} {d : Nat} {A B C S Z : wS} {Q : wO → wS → Prop} {T : Int → Int} {n : Int} {N X : List (List Int)} {c i : Nat} {f u w : Int} {I : List pz_I} {F : List pz_F}
section
variable {K V P : Nat → Int} {k dp : Int}
theorem pz_tk_o (h : K i = k) : pz_tk K P k i I F = .inr (i + 1, I, F, 0) := if_pos h
theorem pz_tk_f (h : K i ≠ k) : pz_tk K P k i I F = .inl (1 + 16 * P i) := if_neg h
theorem pz_op_o (h : K i = k ∧ dp < 50) : pz_op K P k dp i I F = .inr (i + 1, I, F, 0) := by unfold pz_op; rw [if_neg (by omega), if_neg (by omega)]
theorem pz_op_1 (h : K i ≠ k) : pz_op K P k dp i I F = .inl (1 + 16 * P i) := by unfold pz_op; rw [if_pos h]; rfl
theorem pz_op_4 (h : K i = k ∧ 50 ≤ dp) : pz_op K P k dp i I F = .inl (4 + 16 * P i) := by unfold pz_op; rw [if_neg (by omega), if_pos h.2]; rfl
theorem pz_nm_o (h : K i = 5) : pz_nm K V P i I F = .inr (i + 1, I, F, V i) := by unfold pz_nm; rw [if_neg (by omega), if_neg (by omega)]
theorem pz_nm_1 (h : K i ≠ 5 ∧ K i ≠ 6) : pz_nm K V P i I F = .inl (1 + 16 * P i) := by unfold pz_nm; rw [if_pos h]; rfl
theorem pz_nm_7 (h : K i = 6) : pz_nm K V P i I F = .inl (7 + 16 * P i) := by unfold pz_nm; rw [if_neg (by omega), if_pos h]; rfl
theorem pz_dc_1 (h : K i ≠ 5 ∧ K i ≠ 6) : pz_dc K V P f i u I F = .inl (1 + 16 * P i) := by unfold pz_dc; rw [if_pos h]; rfl
theorem pz_dc_7 (h : K i = 6) : pz_dc K V P f i u I F = .inl (7 + 16 * P i) := by unfold pz_dc; rw [if_neg (by omega), if_pos h]; rfl
theorem pz_dc_o (h : K i = 5) (h2 : (pz_f f F u).1 = -1 ∨ vix (pz_f f F u).2.2 (V i) ≠ -1) : pz_dc K V P f i u I F = .inr (i + 1, I, F, V i) := by unfold pz_dc; rw [if_neg (by omega), if_neg (by omega), if_neg (by omega)]
theorem pz_dc_v (h : K i = 5) (h2 : (pz_f f F u).1 ≠ -1 ∧ vix (pz_f f F u).2.2 (V i) = -1) (h3 : (pz_f f F u).2.2.length ≠ 60) : pz_dc K V P f i u I F = .inr (i + 1, I, pz_v f F u (V i), V i) := by unfold pz_dc; rw [if_neg (by omega), if_neg (by omega), if_pos h2, if_neg h3]
theorem pz_dc_f (h : K i = 5) (h2 : (pz_f f F u).1 ≠ -1 ∧ vix (pz_f f F u).2.2 (V i) = -1) (h3 : (pz_f f F u).2.2.length = 60) : pz_dc K V P f i u I F = .inl (7 + 16 * P i) := by unfold pz_dc; rw [if_neg (by omega), if_neg (by omega), if_pos h2, if_pos h3]; rfl
end
/-- functions only come, and stay within what they are in -/
def pz_le (F F2 : List pz_F) : Prop := F.length ≤ F2.length ∧ ∀ k : Nat, k < F.length → (F2.getD k (-1, 0, [])).1 = (F.getD k (-1, 0, [])).1
theorem pz_le_rfl : pz_le F F := ⟨Nat.le_refl _, fun _ _ => rfl⟩
theorem pz_le_tr {F1 F2 F3 : List pz_F} (a : pz_le F1 F2) (b : pz_le F2 F3) : pz_le F1 F3 := ⟨Nat.le_trans a.1 b.1, fun k hk => (b.2 k (Nat.lt_of_lt_of_le hk a.1)).trans (a.2 k hk)⟩
theorem pz_le_ap (F : List pz_F) (x : pz_F) : pz_le F (F ++ [x]) := ⟨by rw [List.length_append]; omega, fun k hk => by rw [gD_l hk]⟩
theorem pz_le_set (F : List pz_F) (j : Nat) (x : pz_F) (h : x.1 = (F.getD j (-1, 0, [])).1) : pz_le F (F.set j x) := ⟨by rw [List.length_set]; omega, fun k hk => by
  rw [gD_s hk]
  by_cases e : k = j
  · rw [if_pos e, h, e]
  · rw [if_neg e]⟩
theorem pz_le_v (f : Int) (F : List pz_F) (u y : Int) : pz_le F (pz_v f F u y) := pz_le_set _ _ _ rfl
theorem pz_le_p (f : Int) (F : List pz_F) (u : Int) : pz_le F (pz_p f F u) := pz_le_set _ _ _ rfl
theorem pz_le_f {F2 : List pz_F} {g : Int} (h : pz_le F F2) (hg : f ≤ g ∧ g < f + (F.length : Int)) : (pz_f f F2 g).1 = (pz_f f F g).1 := h.2 _ (by omega)
theorem pz_f_r (x : pz_F) : pz_f f (F ++ [x]) (f + (F.length : Int)) = x := by
  unfold pz_f
  rw [show (f + (F.length : Int) - f).toNat = F.length by omega]
  exact gD_r
theorem pz_f_l {g : Int} (x : pz_F) (hg : f ≤ g ∧ g < f + (F.length : Int)) : pz_f f (F ++ [x]) g = pz_f f F g := by
  unfold pz_f
  exact gD_l (by omega)
theorem pz_v_l {g y : Int} (x : pz_F) (hg : f ≤ g ∧ g < f + (F.length : Int)) : pz_v f (F ++ [x]) g y = pz_v f F g y ++ [x] := by
  unfold pz_v
  rw [pz_f_l x hg, List.set_append_left _ _ (by omega)]
/-- every derivation -/
def cD (T : Int → Int) (n : Int) (N X : List (List Int)) (f : Int) (G : pz_R → pz_O → Prop) (o : pz_O) : Prop := ∀ R : pz_R, pz_C (kq T n N X) (vq T n N X) (tp T n 0) f R → G R o
/-- a method that reads ends so -/
def cR (T : Int → Int) (n : Int) (N X : List (List Int)) (c : Nat) (f : Int) (G : pz_R → pz_O → Prop) (u w : Int) (i : Nat) (I : List pz_I) (F : List pz_F) (e : Nat) (E : Int → List pz_I → wS → Prop) (S : wS) (o : wO) (Z : wS) : Prop := (∃ (i2 : Nat) (I2 : List pz_I) (F2 : List pz_F) (t : Int), o = .inl none ∧ cD T n N X f G (.inr (i2, I2, F2, t)) ∧ cQ T n N X c f u w i2 I2 F2 Z ∧ cQg f (I.length : Int) w S Z ∧ (i + e ≤ i2 ∧ I2.length + 1 * i ≤ I.length + 1 * i2 ∧ pz_le F F2 ∧ I.length ≤ I2.length) ∧ E t I2 Z) ∨ (∃ (v : Nat) (x : Int), o = .inr v ∧ cD T n N X f G (.inl x) ∧ cQf f S Z v x)
/-- and answers its number -/
def cV (T : Int → Int) (n : Int) (N X : List (List Int)) (c : Nat) (f : Int) (G : pz_R → pz_O → Prop) (u w : Int) (i : Nat) (I : List pz_I) (F : List pz_F) (e : Nat) (E : Int → List pz_I → wS → Prop) (S : wS) (o : wO) (Z : wS) : Prop := (∃ (i2 : Nat) (I2 : List pz_I) (F2 : List pz_F) (t : Int), o = .inl (some (0, t)) ∧ cD T n N X f G (.inr (i2, I2, F2, t)) ∧ cQ T n N X c f u w i2 I2 F2 Z ∧ cQg f (I.length : Int) w S Z ∧ (i + e ≤ i2 ∧ I2.length + 1 * i ≤ I.length + 1 * i2 ∧ pz_le F F2 ∧ I.length ≤ I2.length) ∧ E t I2 Z) ∨ (∃ (v : Nat) (x : Int), o = .inr v ∧ cD T n N X f G (.inl x) ∧ cQf f S Z v x)
theorem lo_df : ∀ (l : List (Int × Int)) (df x : Int), (∀ p ∈ l, p.1 ≠ x) → Op.lookupswitch.offset l df x = df := by
  intro l
  induction l with
  | nil => intro df x _; rfl
  | cons p r ih =>
    intro df x h
    obtain ⟨a, o⟩ := p
    show (if a = x then o else Op.lookupswitch.offset r df x) = df
    rw [if_neg (h (a, o) List.mem_cons_self), ih df x (fun p hp => h p (List.mem_cons_of_mem _ hp))]
theorem lw_df {ofs : List (Int × Nat)} {ps : Array (Int × Int)} {df x : Int} {q : Int × Nat} (l : List Int) (hl : ps.toList.map (fun p => p.1) = l) (hx : x ∉ l) (hq : ofs.find? (fun q => q.1 == df) = some q) : ofs.find? (fun q => q.1 == Op.lookupswitch.offset ps.toList df x) = some q := by
  rw [lo_df ps.toList df x (fun p hp e => hx (by rw [← hl, ← e]; exact List.mem_map.mpr ⟨p, hp, rfl⟩))]
  exact hq
theorem vq_nn (h : kq T n N X i = 5) : 0 ≤ vq T n N X i := by
  have h1 := sk_rg (lx_si T n 0 (tp T n 0 i))
  have h2 := kwL_rg (nmx T n (tp T n 0 i))
  have h3 := ixL_rg (adL (NL T n N i) (nmx T n (tp T n 0 i))) (nmx T n (tp T n 0 i))
  unfold kq at h
  unfold vq vp
  split at h
  · omega
  · unfold kp at h
    by_cases a : lx_tk T n 0 (tp T n 0 i) = 1
    · rw [if_pos a] at h
      rw [if_pos a]
      by_cases b : kwL (nmx T n (tp T n 0 i)) = -1
      · rw [if_pos b] at h
        rw [if_pos b]
        split at h <;> omega
      · rw [if_neg b] at h
        omega
    · rw [if_neg a] at h
      exfalso
      repeat' (split at h)
      all_goals omega
theorem cQ_3 (h : cQ T n N X c f u w i I F S) : S 14 3 = (c : Int) + 1 := h.1.1.1
theorem cQ_ic (h : cQ T n N X c f u w i I F S) : i ≤ c := h.1.2.2.1
theorem cQ_cn (h : cQ T n N X c f u w i I F S) : (c : Int) ≤ 8176 := by
  have h1 := h.1.1.2.2.2.2.1
  have h2 := h.1.1.2.2.2.2.2.1
  omega
theorem cQ_11 (h : cQ T n N X c f u w i I F S) : S 63 11 = u := h.2.2.2.2.1.1
theorem cQ_ur (h : cQ T n N X c f u w i I F S) : (f ≤ u ∧ u < f + (F.length : Int)) ∧ 0 ≤ f ∧ f + (F.length : Int) ≤ 400 := ⟨h.2.2.2.2.1.2, h.2.2.2.1.2.2.1⟩
theorem cQ_7 (h : cQ T n N X c f u w i I F S) : S 63 7 = (I.length : Int) := h.2.2.1.2.1
theorem cQ_15 (h : cQ T n N X c f u w i I F S) : S 63 15 = w := h.2.2.2.2.2.2.2.1
theorem cQ_wr (h : cQ T n N X c f u w i I F S) : 0 ≤ w ∧ w ≤ 1024 := h.2.2.2.2.2.2.2.2
theorem cQ_fn {g : Int} (h : cQ T n N X c f u w i I F S) (hg : f ≤ g ∧ g < f + (F.length : Int)) : (S 28 g = (pz_f f F g).1 ∧ -1 ≤ (pz_f f F g).1 ∧ (pz_f f F g).1 < g) ∧ fv_I S g (pz_f f F g).2.2 ∧ (pz_f f F g).2.2.length ≤ i ∧ S 24 g = pz_h I g := by
  have hk : (g - f).toNat < F.length := by omega
  obtain ⟨x1, x2, x3, x4, x5, x6⟩ := h.2.2.2.1.2.2.2.2.2 (g - f).toNat hk
  have e : f + ((g - f).toNat : Int) = g := by omega
  rw [e] at x1 x2 x3 x5 x6
  have h0 := (cQ_ur h).2.1
  have e1 : (F.getD (g - f).toNat (-1, 0, [])).1 = (pz_f f F g).1 := rfl
  exact ⟨⟨x1.1, by have := x1.2.1; omega, x1.2.2⟩, x3, x4, x5⟩
/-- what is around a function is a function of the unit, or none -/
theorem cQ_fa {g : Int} (h : cQ T n N X c f u w i I F S) (hg : f ≤ g ∧ g < f + (F.length : Int)) : ((pz_f f F g).1 = -1 ∨ f ≤ (pz_f f F g).1) ∧ S 22 g = (pz_f f F g).2.1 ∧ S 21 g = S 19 3 := by
  have hk : (g - f).toNat < F.length := by omega
  obtain ⟨x1, x2, x3, x4, x5, x6⟩ := h.2.2.2.1.2.2.2.2.2 (g - f).toNat hk
  have e : f + ((g - f).toNat : Int) = g := by omega
  rw [e] at x1 x2 x3 x5 x6
  exact ⟨x1.2.1, x2, x6⟩
theorem cQg_14 {m w2 x : Int} : cQg f m w2 S (w_up S 14 4 x) := cQg_up (by decide) (by decide) (Or.inr (Or.inl ⟨rfl, rfl⟩))
theorem cQ_h6 (h : cQ T n N X c f u w i I F S) : (I.length : Int) ≤ 1 * (i : Int) + 8 ∧ (i : Int) ≤ 8176 := by
  have h1 := cQ_ic h
  have h2 := cQ_cn h
  have h3 := h.2.2.2.2.2.2.1.1
  omega
theorem kd_q (h : cQ T n N X c f u w i I F S) : wJ (pe_GA xs) wY0 M d t_XR_kind ((pe_at t_XR_kind.bl 0).getD (0, [])).2 [(0, (2, 14))] [] S (fun o Z => S = Z ∧ o = .inl (some (0, kq T n N X i))) := by
  have hT := h.1.1
  have hP := h.1.2
  have hI := h.2.1.1
  obtain ⟨q1, q2, q3, q4, q5⟩ := qx_at hT hP
  have p4 := hP.1
  have hkr := kq_rg T n N X i
  have h3 : S 14 3 = (c : Int) + 1 := hT.1
  have hic : i ≤ c := hP.2.1
  have hnn : n ≤ 8176 := hT.2.2.2.2.2.1
  have hcn : (c : Int) ≤ n := hT.2.2.2.2.1
  obtain ⟨r1, r2, r3, r4, r5⟩ := hT.2.2.2.2.2.2
  refine wa_aload_n (n := 0) rfl ?_
  refine wb_gf4 14 rfl (wy_pr rfl) wt_14 wf_6_0 (v := 15) wl_14_0 ?_
  refine wa_aload_n (n := 0) rfl ?_
  refine wb_gfi 14 rfl (wy_pr rfl) wt_14 wf_6_4 (v := (i : Int)) (p4) (fun r101 => ?_)
  refine wb_bald 15 rfl (wy_pr rfl) wt_15 (n := (S 15 (-1))) rfl (by omega) (by omega) (v := (kq T n N X i)) (q3) (fun r102 => ?_)
  refine wa_ireturn rfl ?_
  exact ⟨rfl, rfl⟩
theorem vl_q (h : cQ T n N X c f u w i I F S) (hk : kq T n N X i ≠ 0 ∧ kq T n N X i ≠ 1) : wJ (pe_GA xs) wY0 M d t_XR_value ((pe_at t_XR_value.bl 0).getD (0, [])).2 [(0, (2, 14))] [] S (fun o Z => (S = Z ∧ (-2147483648 ≤ vq T n N X i ∧ vq T n N X i ≤ 2147483647)) ∧ o = .inl (some (0, vq T n N X i))) := by
  have hT := h.1.1
  have hP := h.1.2
  have hI := h.2.1.1
  obtain ⟨q1, q2, q3, q4, q5⟩ := qx_at hT hP
  have p4 := hP.1
  have hkr := kq_rg T n N X i
  have h3 : S 14 3 = (c : Int) + 1 := hT.1
  have hic : i ≤ c := hP.2.1
  have hnn : n ≤ 8176 := hT.2.2.2.2.2.1
  have hcn : (c : Int) ≤ n := hT.2.2.2.2.1
  obtain ⟨r1, r2, r3, r4, r5⟩ := hT.2.2.2.2.2.2
  have h17 := (q4 (qx_nx hT hP hk).1).2
  refine wa_aload_n (n := 0) rfl ?_
  refine wb_gf4 14 rfl (wy_pr rfl) wt_14 wf_6_2 (v := 17) wl_14_2 ?_
  refine wa_aload_n (n := 0) rfl ?_
  refine wb_gfi 14 rfl (wy_pr rfl) wt_14 wf_6_4 (v := (i : Int)) (p4) (fun r101 => ?_)
  refine wb_iald 17 rfl (wy_pr rfl) wt_17 (n := (S 15 (-1))) (r3) (by omega) (by omega) (v := (vq T n N X i)) (h17) (fun r102 => ?_)
  refine wa_ireturn rfl ?_
  exact ⟨⟨rfl, by omega, by omega⟩, rfl⟩
theorem nx_q (h : cQ T n N X c f u w i I F S) (hk : kq T n N X i ≠ 0 ∧ kq T n N X i ≠ 1) : wJ (pe_GA xs) wY0 M d t_XR_next ((pe_at t_XR_next.bl 0).getD (0, [])).2 [(0, (2, 14))] [] S (fun o Z => o = .inl none ∧ cQ T n N X c f u w (i + 1) I F Z ∧ (∀ m w2 : Int, cQg f m w2 S Z) ∧ (Z 63 16 = S 63 16 ∧ Z 63 13 = S 63 13)) := by
  have hT := h.1.1
  have hP := h.1.2
  have hI := h.2.1.1
  obtain ⟨q1, q2, q3, q4, q5⟩ := qx_at hT hP
  have p4 := hP.1
  have hkr := kq_rg T n N X i
  have h3 : S 14 3 = (c : Int) + 1 := hT.1
  have hic : i ≤ c := hP.2.1
  have hnn : n ≤ 8176 := hT.2.2.2.2.2.1
  have hcn : (c : Int) ≤ n := hT.2.2.2.2.1
  obtain ⟨r1, r2, r3, r4, r5⟩ := hT.2.2.2.2.2.2
  have hlt := (qx_nx hT hP hk).1
  refine wa_aload_n (n := 0) rfl ?_
  refine wb_gfi 14 rfl (wy_pr rfl) wt_14 wf_6_4 (v := (i : Int)) (p4) (fun r101 => ?_)
  refine wa_iconst ?_
  refine wa_iadd ?_
  refine wa_aload_n (n := 0) rfl ?_
  refine wb_gfi 14 rfl (wy_pr rfl) wt_14 wf_6_3 (v := ((c : Int) + 1)) (h3) (fun r102 => ?_)
  refine wa_icmpge (w_rg0 (by omega) (by omega)) (w_rg0 (by omega) (by omega)) ⟨_, rfl⟩ (fun c103 => ?_) (fun c103 => ?_)
  · skip
    refine wa_return rfl ?_
    exact absurd hlt (by omega)
  · skip
    refine wa_aload_n (n := 0) rfl ?_
    refine wa_dup (by decide) ?_
    refine wb_gfi 14 rfl (wy_pr rfl) wt_14 wf_6_4 (v := (i : Int)) (p4) (fun r104 => ?_)
    refine wa_iconst ?_
    refine wa_iadd ?_
    refine wb_pfi 14 rfl (wy_pr rfl) wt_14 wf_6_4 (n := 4) rfl ⟨(by omega), (by omega)⟩ ?_
    refine wa_fall ⟨_, rfl⟩ ?_
    refine wa_return rfl ?_
    exact ⟨rfl, cQ_nx h hk, fun _ _ => cQg_14, rfl, rfl⟩
theorem rf_q {k : Int} (h : cQ T n N X c f u w i I F S) (hk : 1 ≤ k ∧ k ≤ 16) : wJ (pe_GA xs) wY0 M (d + 6) t_XP_refuse ((pe_at t_XP_refuse.bl 0).getD (0, [])).2 [(0, (2, 63)), (1, (0, k))] [] S (fun o Z => ∃ v : Nat, o = .inr v ∧ ry_ag S Z v (k + 16 * tp T n 0 i)) := by
  have hT := h.1.1
  have hP := h.1.2
  have hI := h.2.1.1
  obtain ⟨q1, q2, q3, q4, q5⟩ := qx_at hT hP
  have p4 := hP.1
  have hkr := kq_rg T n N X i
  have h3 : S 14 3 = (c : Int) + 1 := hT.1
  have hic : i ≤ c := hP.2.1
  have hnn : n ≤ 8176 := hT.2.2.2.2.2.1
  have hcn : (c : Int) ≤ n := hT.2.2.2.2.1
  obtain ⟨r1, r2, r3, r4, r5⟩ := hT.2.2.2.2.2.2
  exact rfp_c (S := S) (k := k) (p := tp T n 0 i) (i := (i : Int)) hI p4 q2 ⟨by omega, by omega⟩ hk ⟨by omega, by omega⟩
theorem tk_q {k : Int} (h : cQ T n N X c f u w i I F S) (hk : 2 ≤ k ∧ k ≤ 61) : wJ (pe_GA xs) wY0 M (d + 7) t_XP_take ((pe_at t_XP_take.bl 0).getD (0, [])).2 [(0, (2, 63)), (1, (0, k))] [] S (fun o Z => (o = .inl none ∧ kq T n N X i = k ∧ cQ T n N X c f u w (i + 1) I F Z ∧ (∀ m w2 : Int, cQg f m w2 S Z) ∧ (Z 63 16 = S 63 16 ∧ Z 63 13 = S 63 13)) ∨ (∃ v : Nat, o = .inr v ∧ kq T n N X i ≠ k ∧ ry_ag S Z v (1 + 16 * tp T n 0 i))) := by
  refine wJ_mono (tkp h.2.1.1 h.1.1 h.1.2 hk) (fun o Z hz => ?_)
  rcases hz with ⟨rfl, h1, rfl⟩ | ⟨v, rfl, h1, h2⟩
  · exact Or.inl ⟨rfl, h1, cQ_nx h ⟨by omega, by omega⟩, fun _ _ => cQg_14, rfl, rfl⟩
  · exact Or.inr ⟨v, rfl, h1, h2⟩
theorem op_q {k dp : Int} (h : cQ T n N X c f u w i I F S) (hk : 2 ≤ k ∧ k ≤ 61) (hdp : 0 ≤ dp ∧ dp ≤ 1000) : wJ (pe_GA xs) wY0 M (d + 7) t_XP_open ((pe_at t_XP_open.bl 0).getD (0, [])).2 [(0, (2, 63)), (1, (0, k)), (2, (0, dp))] [] S (fun o Z => (o = .inl none ∧ (kq T n N X i = k ∧ dp < 50) ∧ cQ T n N X c f u w (i + 1) I F Z ∧ (∀ m w2 : Int, cQg f m w2 S Z) ∧ (Z 63 16 = S 63 16 ∧ Z 63 13 = S 63 13)) ∨ (∃ v : Nat, o = .inr v ∧ kq T n N X i ≠ k ∧ ry_ag S Z v (1 + 16 * tp T n 0 i)) ∨ (∃ v : Nat, o = .inr v ∧ (kq T n N X i = k ∧ 50 ≤ dp) ∧ ry_ag S Z v (4 + 16 * tp T n 0 i))) := by
  refine wJ_mono (opp h.2.1.1 h.1.1 h.1.2 hk hdp) (fun o Z hz => ?_)
  rcases hz with ⟨rfl, h1, rfl⟩ | h1 | h1
  · exact Or.inl ⟨rfl, h1, cQ_nx h ⟨by omega, by omega⟩, fun _ _ => cQg_14, rfl, rfl⟩
  · exact Or.inr (Or.inl h1)
  · exact Or.inr (Or.inr h1)
theorem tn_q (h : cQ T n N X c f u w i I F S) : wJ (pe_GA xs) wY0 M (d + 8) t_XP_takeName ((pe_at t_XP_takeName.bl 0).getD (0, [])).2 [(0, (2, 63))] [] S (fun o Z => (o = .inl (some (0, vq T n N X i)) ∧ (kq T n N X i = 5 ∧ -2147483648 ≤ vq T n N X i ∧ vq T n N X i ≤ 2147483647) ∧ cQ T n N X c f u w (i + 1) I F Z ∧ (∀ m w2 : Int, cQg f m w2 S Z) ∧ (Z 63 16 = S 63 16 ∧ Z 63 13 = S 63 13)) ∨ (∃ v : Nat, o = .inr v ∧ kq T n N X i = 6 ∧ ry_ag S Z v (7 + 16 * tp T n 0 i)) ∨ (∃ v : Nat, o = .inr v ∧ (kq T n N X i ≠ 5 ∧ kq T n N X i ≠ 6) ∧ ry_ag S Z v (1 + 16 * tp T n 0 i))) := by
  have hT := h.1.1
  have hP := h.1.2
  have hI := h.2.1.1
  obtain ⟨q1, q2, q3, q4, q5⟩ := qx_at hT hP
  have p4 := hP.1
  have hkr := kq_rg T n N X i
  have h3 : S 14 3 = (c : Int) + 1 := hT.1
  have hic : i ≤ c := hP.2.1
  have hnn : n ≤ 8176 := hT.2.2.2.2.2.1
  have hcn : (c : Int) ≤ n := hT.2.2.2.2.1
  obtain ⟨r1, r2, r3, r4, r5⟩ := hT.2.2.2.2.2.2
  refine wa_aload_n (n := 0) rfl ?_
  refine wa_cv 63 rfl (wy_pr rfl) wt_63 (M2 := fun _ => False) rfl at_XP_checkName ⟨_, rfl⟩ rfl rfl ⟨(Or.inr ⟨wy_pr rfl, fun q => q⟩), trivial⟩ trivial (fun _ _ q => False.elim q) (cnp (S := S) hI hT hP) (fun oq104 Sq104 hp105 q104 => ?_)
  rcases q104 with ⟨rfl, hk103, rfl⟩ | ⟨v102, rfl, hk103, hz101⟩
  · skip
    show wJ _ _ _ _ _ _ _ _ _ _
    refine wa_aload_n (n := 0) rfl ?_
    refine wb_gf4 63 rfl (wy_pr rfl) wt_63 wf_1_0 (v := 14) wl_63_0 ?_
    refine wa_cv 14 rfl (wy_pr rfl) wt_14 (M2 := fun _ => False) rfl at_XR_kind ⟨_, rfl⟩ rfl rfl ⟨(Or.inr ⟨wy_pr rfl, fun q => q⟩), trivial⟩ trivial (fun _ _ q => False.elim q) (kd_q (S := S) h) (fun oq106 Sq106 hp107 q106 => ?_)
    rcases q106 with ⟨rfl, rfl⟩
    show wJ _ _ _ _ _ _ _ _ _ _
    refine wa_bipush (w_rg2 (by omega) (by omega)) ?_
    refine wa_icmpne (w_rg0 (by omega) (by omega)) (w_rg0 (by omega) (by omega)) ⟨_, rfl⟩ (fun c108 => ?_) (fun c108 => ?_)
    · skip
      refine wa_aload_n (n := 0) rfl ?_
      refine wb_gf4 63 rfl (wy_pr rfl) wt_63 wf_1_0 (v := 14) wl_63_0 ?_
      refine wa_cv 14 rfl (wy_pr rfl) wt_14 (M2 := fun _ => False) rfl at_XR_value ⟨_, rfl⟩ rfl rfl ⟨(Or.inr ⟨wy_pr rfl, fun q => q⟩), trivial⟩ trivial (fun _ _ q => False.elim q) (vl_q (S := S) h ⟨by omega, by omega⟩) (fun oq110 Sq110 hp111 q110 => ?_)
      rcases q110 with ⟨⟨rfl, vr109⟩, rfl⟩
      show wJ _ _ _ _ _ _ _ _ _ _
      refine wa_istore_n (n := 1) rfl ?_
      refine wa_aload_n (n := 0) rfl ?_
      refine wb_gf4 63 rfl (wy_pr rfl) wt_63 wf_1_0 (v := 14) wl_63_0 ?_
      refine wa_cv 14 rfl (wy_pr rfl) wt_14 (M2 := fun _ => False) rfl at_XR_next ⟨_, rfl⟩ rfl rfl ⟨trivial, (Or.inr ⟨wy_pr rfl, fun q => q⟩), trivial⟩ trivial (fun _ _ q => False.elim q) (nx_q (S := S) h ⟨by omega, by omega⟩) (fun oq112 Sq112 hp113 q112 => ?_)
      rcases q112 with ⟨rfl, hx1, hx2, hx3⟩
      show wJ _ _ _ _ _ _ _ _ _ _
      refine wa_iload_n (n := 1) rfl ?_
      refine wa_ireturn rfl ?_
      exact Or.inl ⟨rfl, ⟨by omega, by omega, by omega⟩, hx1, hx2, hx3⟩
    · skip
      refine wa_aload_n (n := 0) rfl ?_
      refine wa_bipush (w_rg2 (by omega) (by omega)) ?_
      refine wa_cv 63 rfl (wy_pr rfl) wt_63 (M2 := fun _ => False) rfl at_XP_refuse ⟨_, rfl⟩ rfl rfl ⟨(Or.inr ⟨wy_pr rfl, fun q => q⟩), trivial⟩ trivial (fun _ _ q => False.elim q) (rf_q (S := S) (k := 7) h ⟨by omega, by omega⟩) (fun oq116 Sq116 hp117 q116 => ?_)
      rcases q116 with ⟨v114, rfl, hz115⟩
      have hthr := hz115
      refine ⟨rfl, ?_⟩
      exact Or.inr (by first | exact Or.inl ⟨_, rfl, by omega, hthr⟩ | exact Or.inr ⟨_, rfl, by omega, hthr⟩)
  · skip
    have hthr := hz101
    refine ⟨rfl, ?_⟩
    exact Or.inr (by first | exact Or.inl ⟨_, rfl, by omega, hthr⟩ | exact Or.inr ⟨_, rfl, by omega, hthr⟩)
theorem cQ_24 (h : cQ T n N X c f u w i I F S) : (0 ≤ S 63 11 ∧ S 63 11 < 400) ∧ 0 ≤ S 24 (S 63 11) ∧ S 24 (S 63 11) ≤ 1000000 := by
  obtain ⟨h1, h2⟩ := cQ_ur h
  have h3 := (cQ_fn h h1).2.2.2
  have h4 := pz_h_rg I u
  have h5 := cQ_h6 h
  rw [cQ_11 h, h3]
  omega
theorem nt_q {op a b : Int} {l : Nat} (h : cQ T n N X c f u w i I F S) (ho : -2147483648 ≤ op ∧ op ≤ 2147483647) (ha : -2147483648 ≤ a ∧ a ≤ 2147483647) (hb : -2147483648 ≤ b ∧ b ≤ 2147483647) (hl : I.length + 1 ≤ 1 * i + 8) (h27 : op ≠ 27) (hll : I.length = l) : wJ (pe_GA xs) wY0 (mS [64, 65, 66, 67]) (d + 3) t_XP_note ((pe_at t_XP_note.bl 0).getD (0, [])).2 [(0, (2, 63)), (1, (0, op)), (2, (0, a)), (3, (0, b))] [] S (fun o Z => o = .inl (some (0, (l : Int))) ∧ cQ T n N X c f u w i (I ++ [(op, a, b, u)]) F Z ∧ (∀ m w2 : Int, m ≤ (I.length : Int) → cQg f m w2 S Z) ∧ (Z 63 16 = S 63 16)) := by
  subst hll
  obtain ⟨h1, h2⟩ := cQ_24 h
  refine wJ_mono (nt_ok h.2.1.2 h.2.1.1 ho ha hb h1 h2 h.2.2.1.1) (fun o Z hz => ?_)
  obtain ⟨rfl, hz⟩ := hz
  rw [cQ_7 h]
  refine ⟨rfl, cQ_nt h hz (by omega) h27, fun m w2 hm => cQg_nt hz (by rw [cQ_7 h]; exact hm) (by rw [cQ_11 h]; exact (cQ_ur h).1.1), ?_⟩
  exact hz.2.2.2.1 63 16 (by decide) (by decide) (by decide) (by decide) (by decide) (by decide) (Or.inr (by decide)) (Or.inl (by decide))
theorem ns_q {k y e : Int} (h : cQ T n N X c f u w i I F S) (hk : 0 ≤ k ∧ k ≤ 15) (hy : -2147483648 ≤ y ∧ y ≤ 2147483647) (he : 0 ≤ e ∧ e ≤ 1000) (hl : I.length + 1 ≤ 1 * i + 8) : wJ (pe_GA xs) wY0 (mS [64, 65, 66, 67]) (d + 4) t_XP_noteSite ((pe_at t_XP_noteSite.bl 0).getD (0, [])).2 [(0, (2, 63)), (1, (0, k)), (2, (0, y)), (3, (0, e))] [] S (fun o Z => o = .inl none ∧ cQ T n N X c f u w i (I ++ [(27, k + 16 * e, y, u)]) F Z ∧ (∀ m w2 : Int, m ≤ (I.length : Int) → cQg f m w2 S Z) ∧ (Z 63 16 = S 63 16)) := by
  obtain ⟨h1, h2⟩ := cQ_24 h
  have h8 : S 63 8 = pz_s I := h.2.2.1.2.2.1
  have h9 := pz_s_rg I
  have h6 := cQ_h6 h
  refine wa_aload_n (n := 0) rfl ?_
  refine wa_bipush (w_rg2 (by omega) (by omega)) ?_
  refine wa_iload_n (n := 1) rfl ?_
  refine wa_bipush (w_rg2 (by omega) (by omega)) ?_
  refine wa_iload_n (n := 3) rfl ?_
  refine wa_imul ?_
  refine wa_iadd ?_
  refine wa_iload_n (n := 2) rfl ?_
  refine wa_cv 63 rfl (wy_pr rfl) wt_63 (M2 := mS [64, 65, 66, 67]) rfl at_XP_note ⟨_, rfl⟩ rfl rfl ⟨(Or.inr ⟨wy_pr rfl, mS_no rfl⟩), trivial, trivial, trivial, trivial⟩ trivial (fun _ _ q => q) (nt_ok (S := S) (op := 27) (a := (k + (16 * e))) (b := y) h.2.1.2 h.2.1.1 ⟨by omega, by omega⟩ ⟨by omega, by omega⟩ hy h1 h2 h.2.2.1.1) (fun oq101 Sq101 hp102 q101 => ?_)
  rcases q101 with ⟨rfl, hz⟩
  show wJ _ _ _ _ _ _ _ _ _ _
  refine wa_pop (by decide) ?_
  refine wa_aload_n (n := 0) rfl ?_
  refine wa_dup (by decide) ?_
  refine wb_gfi 63 rfl (wy_pr rfl) wt_63 wf_1_8 (v := (S 63 8)) ((hz.2.2.2.1 63 8 (by decide) (by decide) (by decide) (by decide) (by decide) (by decide) (Or.inr (by decide)) (Or.inl (by decide)))) (fun r103 => ?_)
  refine wa_iconst ?_
  refine wa_iadd ?_
  refine wb_pfi 63 rfl (wy_pr rfl) wt_63 wf_1_8 (n := 8) rfl ⟨(by omega), (by omega)⟩ ?_
  refine wa_return rfl ?_
  have hc1 := cQ_si h hz (by omega) rfl
  refine ⟨rfl, hc1, fun m w2 hm => cQg_tr (cQg_nt hz (by rw [cQ_7 h]; exact hm) (by rw [cQ_11 h]; exact (cQ_ur h).1.1)) (cQg_up (by decide) (by decide) (Or.inl rfl)), ?_⟩
  exact (w_up_at (by decide)).trans (hz.2.2.2.1 63 16 (by decide) (by decide) (by decide) (by decide) (by decide) (by decide) (Or.inr (by decide)) (Or.inl (by decide)))
theorem he_q (h : cQ T n N X c f u w i I F S) : wJ (pe_GA xs) wY0 M d t_XP_here ((pe_at t_XP_here.bl 0).getD (0, [])).2 [(0, (2, 63))] [] S (fun o Z => S = Z ∧ o = .inl (some (0, pz_h I u))) := by
  have hC := h.2.1.2
  obtain ⟨h1, h2⟩ := cQ_ur h
  have h3 := (cQ_fn h h1).2.2.2
  refine wa_aload_n (n := 0) rfl ?_
  refine wb_gf4 63 rfl (wy_pr rfl) wt_63 wf_1_9 (v := 20) wl_63_9 ?_
  refine wa_iconst ?_
  refine wb_aald5 20 3 rfl rfl (wy_pr rfl) wt_20 (by rw [show _ = _ from ((cl_20 h.2.1.2))]; omega) wl_20_3 ?_
  refine wa_aload_n (n := 0) rfl ?_
  refine wb_gfi 63 rfl (wy_pr rfl) wt_63 wf_1_11 (v := u) ((cQ_11 h)) (fun r101 => ?_)
  refine wb_iald 24 rfl (wy_pr rfl) wt_24 (n := 400) ((cl_24 h.2.1.2)) (by omega) (by omega) (v := (pz_h I u)) (h3) (fun r102 => ?_)
  refine wa_ireturn rfl ?_
  exact ⟨rfl, rfl⟩
theorem am_q {j : Nat} (h : cQ T n N X c f u w i I F S) (hj : j < I.length) : wJ (pe_GA xs) wY0 M (d + 1) t_XP_aimHere ((pe_at t_XP_aimHere.bl 0).getD (0, [])).2 [(0, (2, 63)), (1, (0, (j : Int)))] [] S (fun o Z => o = .inl none ∧ cQ T n N X c f u w i (pz_a I j (pz_h I u)) F Z ∧ (∀ m w2 : Int, m ≤ (j : Int) → cQg f m w2 S Z) ∧ (Z 63 16 = S 63 16) ∧ ∀ x : Int, x ≠ (j : Int) → Z 65 x = S 65 x) := by
  have h7 := cQ_7 h
  have hn := h.2.2.1.1
  have hl65 : S 65 (-1) = S 64 (-1) := hn.2.1
  have hl7 := hn.1.2
  have hr := pz_h_rg I u
  have h6 := cQ_h6 h
  refine wa_aload_n (n := 0) rfl ?_
  refine wb_gf4 63 rfl (wy_pr rfl) wt_63 wf_1_4 (v := 65) wl_63_4 ?_
  refine wa_iload_n (n := 1) rfl ?_
  refine wa_aload_n (n := 0) rfl ?_
  refine wa_cv 63 rfl (wy_pr rfl) wt_63 (M2 := fun _ => False) rfl at_XP_here ⟨_, rfl⟩ rfl rfl ⟨(Or.inr ⟨wy_pr rfl, fun q => q⟩), trivial, trivial⟩ ⟨trivial, (Or.inr ⟨wy_pr rfl, fun q => q⟩), trivial⟩ (fun _ _ q => False.elim q) (he_q (S := S) h) (fun oq102 Sq102 hp103 q102 => ?_)
  rcases q102 with ⟨rfl, rfl⟩
  show wJ _ _ _ _ _ _ _ _ _ _
  have hr101 := pz_h_rg I u
  refine wb_iast 65 rfl (wy_pr rfl) wt_65 (n := (S 64 (-1))) (hl65) (by omega) (by omega) ⟨(by omega), (by omega)⟩ ?_
  refine wa_return rfl ?_
  exact ⟨rfl, cQ_am h hj, fun m w2 hm => cQg_up (by omega) (by decide) (by omega), rfl, fun x hx => w_up_at hx⟩
theorem af_q {ar : Int} (h : cQ T n N X c f u w i I F S) (ha : (ar = -1 ∨ f ≤ ar) ∧ ar < (f + (F.length : Int))) : wJ (pe_GA xs) wY0 M (d + 7) t_XP_addFunction ((pe_at t_XP_addFunction.bl 0).getD (0, [])).2 [(0, (2, 63)), (1, (0, ar))] [] S (fun o Z => (o = .inl (some (0, (f + (F.length : Int)))) ∧ (f + (F.length : Int)) < 400 ∧ cQ T n N X c f u w i I (F ++ [(ar, 0, [])]) Z ∧ (∀ m w2 : Int, cQg f m w2 S Z) ∧ (Z 63 16 = S 63 16)) ∨ (∃ v : Nat, o = .inr v ∧ 400 ≤ (f + (F.length : Int)) ∧ ry_ag S Z v (7 + 16 * tp T n 0 i))) := by
  have e1 : S 19 1 = f := h.2.2.2.1.1
  have e2 : S 63 10 = (F.length : Int) := h.2.2.2.1.2.1
  have hr := (cQ_ur h).2
  have h3 := h.2.2.2.1.2.2.2.1
  refine wJ_mono (afp h.2.1.1 h.1.1 h.1.2 h.2.1.2 ⟨by omega, by omega⟩ ⟨by omega, by omega⟩ ⟨by omega, by omega⟩ h3) (fun o Z hz => ?_)
  rw [e1, e2] at hz
  rcases hz with ⟨rfl, h1, rfl⟩ | ⟨v, rfl, h1, h2⟩
  · exact Or.inl ⟨rfl, h1, cQ_af h ha h1, fun m w2 => cQg_tr (cQg_up (by omega) (by decide) (by omega)) (cQg_tr (cQg_up (by omega) (by decide) (by omega)) (cQg_tr (cQg_up (by omega) (by decide) (by omega)) (cQg_tr (cQg_up (by omega) (by decide) (by omega)) (cQg_tr (cQg_up (by omega) (by decide) (by omega)) (cQg_tr (cQg_up (by omega) (by decide) (by omega)) (cQg_up (by omega) (by decide) (by omega))))))), rfl⟩
  · exact Or.inr ⟨v, rfl, h1, h2⟩
theorem vix_rg (l : List Int) (y : Int) : -1 ≤ vix l y ∧ vix l y ≤ (l.length : Int) := by
  induction l with
  | nil =>
    have e1 : vix [] y = -1 := rfl
    have e2 : (([] : List Int).length : Int) = 0 := rfl
    omega
  | cons x r ih =>
    unfold vix
    have e : ((x :: r).length : Int) = (r.length : Int) + 1 := rfl
    split <;> omega
theorem tv_q (h : cQ T n N X c f u w i I F S) : wJ (pe_GA xs) wY0 (mS [69, 70]) (d + 9) t_XP_takeVariable ((pe_at t_XP_takeVariable.bl 0).getD (0, [])).2 [(0, (2, 63))] [] S (fun o Z => (∃ F2 : List pz_F, o = .inl (some (0, vq T n N X i)) ∧ pz_dc (kq T n N X) (vq T n N X) (tp T n 0) f i u I F = .inr (i + 1, I, F2, vq T n N X i) ∧ (kq T n N X i = 5 ∧ -2147483648 ≤ vq T n N X i ∧ vq T n N X i ≤ 2147483647) ∧ cQ T n N X c f u w (i + 1) I F2 Z ∧ (∀ m w2 : Int, cQg f m w2 S Z) ∧ pz_le F F2 ∧ (Z 63 16 = S 63 16)) ∨ (∃ (v : Nat) (x : Int), o = .inr v ∧ pz_dc (kq T n N X) (vq T n N X) (tp T n 0) f i u I F = .inl x ∧ cQf f S Z v x)) := by
  have hT := h.1.1
  have hP := h.1.2
  have hI := h.2.1.1
  obtain ⟨q1, q2, q3, q4, q5⟩ := qx_at hT hP
  have p4 := hP.1
  have hkr := kq_rg T n N X i
  have h3 : S 14 3 = (c : Int) + 1 := hT.1
  have hic : i ≤ c := hP.2.1
  have hnn : n ≤ 8176 := hT.2.2.2.2.2.1
  have hcn : (c : Int) ≤ n := hT.2.2.2.2.1
  obtain ⟨r1, r2, r3, r4, r5⟩ := hT.2.2.2.2.2.2
  have hC := h.2.1.2
  obtain ⟨h1, h2⟩ := cQ_ur h
  obtain ⟨⟨f1, f2, f3⟩, hfv, hfl, -⟩ := cQ_fn h h1
  have hva := h.2.2.2.2.2.1.1
  have h23 : S 23 u = ((pz_f f F u).2.2.length : Int) := hfv.1
  refine wa_aload_n (n := 0) rfl ?_
  refine wa_cv 63 rfl (wy_pr rfl) wt_63 (M2 := fun _ => False) rfl at_XP_checkName ⟨_, rfl⟩ rfl rfl ⟨(Or.inr ⟨wy_pr rfl, fun q => q⟩), trivial⟩ trivial (fun _ _ q => False.elim q) (cnp (S := S) hI hT hP) (fun oq104 Sq104 hp105 q104 => ?_)
  rcases q104 with ⟨rfl, hk103, rfl⟩ | ⟨v102, rfl, hk103, hz101⟩
  · skip
    show wJ _ _ _ _ _ _ _ _ _ _
    refine wa_aload_n (n := 0) rfl ?_
    refine wb_gf4 63 rfl (wy_pr rfl) wt_63 wf_1_0 (v := 14) wl_63_0 ?_
    refine wa_cv 14 rfl (wy_pr rfl) wt_14 (M2 := fun _ => False) rfl at_XR_value ⟨_, rfl⟩ rfl rfl ⟨(Or.inr ⟨wy_pr rfl, fun q => q⟩), trivial⟩ trivial (fun _ _ q => False.elim q) (vl_q (S := S) h ⟨by omega, by omega⟩) (fun oq107 Sq107 hp108 q107 => ?_)
    rcases q107 with ⟨⟨rfl, vr106⟩, rfl⟩
    show wJ _ _ _ _ _ _ _ _ _ _
    refine wa_istore_n (n := 1) rfl ?_
    refine wa_aload_n (n := 0) rfl ?_
    refine wb_gf4 63 rfl (wy_pr rfl) wt_63 wf_1_9 (v := 20) wl_63_9 ?_
    refine wa_bipush (w_rg2 (by omega) (by omega)) ?_
    refine wb_aald5 20 7 rfl rfl (wy_pr rfl) wt_20 (by rw [show _ = _ from ((cl_20 h.2.1.2))]; omega) wl_20_7 ?_
    refine wa_aload_n (n := 0) rfl ?_
    refine wb_gfi 63 rfl (wy_pr rfl) wt_63 wf_1_11 (v := u) ((cQ_11 h)) (fun r109 => ?_)
    refine wb_iald 28 rfl (wy_pr rfl) wt_28 (n := 400) ((cl_28 h.2.1.2)) (by omega) (by omega) (v := ((pz_f f F u).1)) (f1) (fun r110 => ?_)
    refine wa_iconst ?_
    refine wa_icmpeq (w_rg0 (by omega) (by omega)) (w_rg0 (by omega) (by omega)) ⟨_, rfl⟩ (fun c111 => ?_) (fun c111 => ?_)
    · skip
      refine wa_aload_n (n := 0) rfl ?_
      refine wa_cv 63 rfl (wy_pr rfl) wt_63 (M2 := fun _ => False) rfl at_XP_takeName ⟨_, rfl⟩ rfl rfl ⟨trivial, (Or.inr ⟨wy_pr rfl, fun q => q⟩), trivial⟩ trivial (fun _ _ q => False.elim q) (tnp (S := S) hI hT hP) (fun oq114 Sq114 hp115 q114 => ?_)
      rcases q114 with ⟨rfl, hk5, rfl⟩ | ⟨v112, rfl, hk5, hthr⟩ | ⟨v113, rfl, hk5, hthr⟩
      · skip
        show wJ _ _ _ _ _ _ _ _ _ _
        refine wa_ireturn rfl ?_
        exact Or.inl ⟨F, rfl, pz_dc_o hk5 (by omega), ⟨hk5, by omega, by omega⟩, cQ_nx h ⟨by omega, by omega⟩, fun _ _ => cQg_14, pz_le_rfl, rfl⟩
      · skip
        refine ⟨rfl, ?_⟩
        refine Or.inr ⟨_, _, rfl, ?_, cQf_of (m := 0) (w := 0) cQg_rfl (by omega) (by omega) (cQn_of h) hthr⟩
        first | exact pz_dc_1 (by omega) | exact pz_dc_7 (by omega) | exact Decidable.byCases (p := kq T n N X i = 6) (fun h6 => pz_dc_7 h6) (fun h6 => pz_dc_f (by omega) ⟨by omega, by omega⟩ (by omega))
      · skip
        refine ⟨rfl, ?_⟩
        refine Or.inr ⟨_, _, rfl, ?_, cQf_of (m := 0) (w := 0) cQg_rfl (by omega) (by omega) (cQn_of h) hthr⟩
        first | exact pz_dc_1 (by omega) | exact pz_dc_7 (by omega) | exact Decidable.byCases (p := kq T n N X i = 6) (fun h6 => pz_dc_7 h6) (fun h6 => pz_dc_f (by omega) ⟨by omega, by omega⟩ (by omega))
    · skip
      refine wa_aload_n (n := 0) rfl ?_
      refine wa_aload_n (n := 0) rfl ?_
      refine wb_gfi 63 rfl (wy_pr rfl) wt_63 wf_1_11 (v := u) ((cQ_11 h)) (fun r116 => ?_)
      refine wa_iload_n (n := 1) rfl ?_
      refine wa_cv 63 rfl (wy_pr rfl) wt_63 (M2 := fun _ => False) rfl at_XP_variableOf ⟨_, rfl⟩ rfl rfl ⟨trivial, (Or.inr ⟨wy_pr rfl, fun q => q⟩), trivial⟩ trivial (fun _ _ q => False.elim q) (vo_ok (S := S) (f := u) (y := vq T n N X i) hC hva ⟨by omega, by omega⟩ ⟨by omega, by omega⟩ hfv (by omega)) (fun oq117 Sq117 hp118 q117 => ?_)
      rcases q117 with ⟨rfl, rfl⟩
      show wJ _ _ _ _ _ _ _ _ _ _
      have hvx := vix_rg (pz_f f F u).2.2 (vq T n N X i)
      refine wa_iconst ?_
      refine wa_icmpne (w_rg0 (by omega) (by omega)) (w_rg0 (by omega) (by omega)) ⟨_, rfl⟩ (fun c119 => ?_) (fun c119 => ?_)
      · skip
        refine wa_aload_n (n := 0) rfl ?_
        refine wa_cv 63 rfl (wy_pr rfl) wt_63 (M2 := fun _ => False) rfl at_XP_takeName ⟨_, rfl⟩ rfl rfl ⟨trivial, (Or.inr ⟨wy_pr rfl, fun q => q⟩), trivial⟩ trivial (fun _ _ q => False.elim q) (tnp (S := S) hI hT hP) (fun oq122 Sq122 hp123 q122 => ?_)
        rcases q122 with ⟨rfl, hk5, rfl⟩ | ⟨v120, rfl, hk5, hthr⟩ | ⟨v121, rfl, hk5, hthr⟩
        · skip
          show wJ _ _ _ _ _ _ _ _ _ _
          refine wa_ireturn rfl ?_
          exact Or.inl ⟨F, rfl, pz_dc_o hk5 (by omega), ⟨hk5, by omega, by omega⟩, cQ_nx h ⟨by omega, by omega⟩, fun _ _ => cQg_14, pz_le_rfl, rfl⟩
        · skip
          refine ⟨rfl, ?_⟩
          refine Or.inr ⟨_, _, rfl, ?_, cQf_of (m := 0) (w := 0) cQg_rfl (by omega) (by omega) (cQn_of h) hthr⟩
          first | exact pz_dc_1 (by omega) | exact pz_dc_7 (by omega) | exact Decidable.byCases (p := kq T n N X i = 6) (fun h6 => pz_dc_7 h6) (fun h6 => pz_dc_f (by omega) ⟨by omega, by omega⟩ (by omega))
        · skip
          refine ⟨rfl, ?_⟩
          refine Or.inr ⟨_, _, rfl, ?_, cQf_of (m := 0) (w := 0) cQg_rfl (by omega) (by omega) (cQn_of h) hthr⟩
          first | exact pz_dc_1 (by omega) | exact pz_dc_7 (by omega) | exact Decidable.byCases (p := kq T n N X i = 6) (fun h6 => pz_dc_7 h6) (fun h6 => pz_dc_f (by omega) ⟨by omega, by omega⟩ (by omega))
      · skip
        refine wa_aload_n (n := 0) rfl ?_
        refine wb_gf4 63 rfl (wy_pr rfl) wt_63 wf_1_9 (v := 20) wl_63_9 ?_
        refine wa_iconst ?_
        refine wb_aald5 20 2 rfl rfl (wy_pr rfl) wt_20 (by rw [show _ = _ from ((cl_20 h.2.1.2))]; omega) wl_20_2 ?_
        refine wa_aload_n (n := 0) rfl ?_
        refine wb_gfi 63 rfl (wy_pr rfl) wt_63 wf_1_11 (v := u) ((cQ_11 h)) (fun r124 => ?_)
        refine wb_iald 23 rfl (wy_pr rfl) wt_23 (n := 400) ((cl_23 h.2.1.2)) (by omega) (by omega) (v := ((pz_f f F u).2.2.length : Int)) (h23) (fun r125 => ?_)
        refine wa_bipush (w_rg2 (by omega) (by omega)) ?_
        refine wa_icmpne (w_rg0 (by omega) (by omega)) (w_rg0 (by omega) (by omega)) ⟨_, rfl⟩ (fun c126 => ?_) (fun c126 => ?_)
        · skip
          refine wa_aload_n (n := 0) rfl ?_
          refine wa_aload_n (n := 0) rfl ?_
          refine wb_gfi 63 rfl (wy_pr rfl) wt_63 wf_1_11 (v := u) ((cQ_11 h)) (fun r127 => ?_)
          refine wa_iload_n (n := 1) rfl ?_
          refine wa_cv 63 rfl (wy_pr rfl) wt_63 (M2 := mS [69, 70]) rfl at_XP_addVariable ⟨_, rfl⟩ rfl rfl ⟨trivial, (Or.inr ⟨wy_pr rfl, mS_no rfl⟩), trivial⟩ trivial (fun _ _ q => q) (avp (S := S) (f := u) (y := vq T n N X i) hC hI hva ⟨by omega, by omega⟩ ⟨by omega, by omega⟩ hfv.2.2 ⟨by omega, by omega⟩) (fun oq128 Sq128 hp129 q128 => ?_)
          rcases q128 with ⟨rfl, ha⟩
          show wJ _ _ _ _ _ _ _ _ _ _
          refine wa_fall ⟨_, rfl⟩ ?_
          refine wa_aload_n (n := 0) rfl ?_
          refine wa_cv 63 rfl (wy_pr rfl) wt_63 (M2 := fun _ => False) rfl at_XP_takeName ⟨_, rfl⟩ rfl rfl ⟨trivial, (Or.inr ⟨wy_pr rfl, fun q => q⟩), trivial⟩ trivial (fun _ _ q => False.elim q) (tnp (S := Sq128) ha.2.2.2.2.1 (qx_T_ag hT (fun j x hj => ha.2.2.1 j x (by omega) (by have : wG = 1000000 := rfl; omega) (by omega) (by omega) (by omega) (by omega) (by omega))) (qx_P_ag hP (ha.2.2.1 14 4 (by decide) (by decide) (by decide) (by decide) (Or.inl (by decide)) (Or.inl (by decide)) (Or.inl (by decide))))) (fun oq132 Sq132 hp133 q132 => ?_)
          rcases q132 with ⟨rfl, hk5, rfl⟩ | ⟨v130, rfl, hk5, hthr⟩ | ⟨v131, rfl, hk5, hthr⟩
          · skip
            show wJ _ _ _ _ _ _ _ _ _ _
            refine wa_ireturn rfl ?_
            exact Or.inl ⟨_, rfl, pz_dc_v hk5 ⟨by omega, by omega⟩ (by omega), ⟨hk5, by omega, by omega⟩, cQ_av h h1 ha ⟨by omega, by omega⟩, fun _ _ => cQg_tr (cQg_av ha (by omega)) cQg_14, pz_le_v _ _ _ _, ha.2.2.1 63 16 (by decide) (by decide) (by decide) (by decide) (Or.inr (by decide)) (Or.inl (by decide)) (Or.inl (by decide))⟩
          · skip
            refine ⟨rfl, ?_⟩
            refine Or.inr ⟨_, _, rfl, ?_, cQf_of (m := 0) (w := 0) (cQg_av ha (by omega)) (by omega) (by omega) (cQn_14 (cQn_of (cQ_av h h1 ha ⟨by omega, by omega⟩))) hthr⟩
            first | exact pz_dc_1 (by omega) | exact pz_dc_7 (by omega) | exact Decidable.byCases (p := kq T n N X i = 6) (fun h6 => pz_dc_7 h6) (fun h6 => pz_dc_f (by omega) ⟨by omega, by omega⟩ (by omega))
          · skip
            refine ⟨rfl, ?_⟩
            refine Or.inr ⟨_, _, rfl, ?_, cQf_of (m := 0) (w := 0) (cQg_av ha (by omega)) (by omega) (by omega) (cQn_14 (cQn_of (cQ_av h h1 ha ⟨by omega, by omega⟩))) hthr⟩
            first | exact pz_dc_1 (by omega) | exact pz_dc_7 (by omega) | exact Decidable.byCases (p := kq T n N X i = 6) (fun h6 => pz_dc_7 h6) (fun h6 => pz_dc_f (by omega) ⟨by omega, by omega⟩ (by omega))
        · skip
          refine wa_aload_n (n := 0) rfl ?_
          refine wa_bipush (w_rg2 (by omega) (by omega)) ?_
          refine wa_cv 63 rfl (wy_pr rfl) wt_63 (M2 := fun _ => False) rfl at_XP_refuse ⟨_, rfl⟩ rfl rfl ⟨trivial, (Or.inr ⟨wy_pr rfl, fun q => q⟩), trivial⟩ trivial (fun _ _ q => False.elim q) (rf_q (S := S) (k := 7) h ⟨by omega, by omega⟩) (fun oq136 Sq136 hp137 q136 => ?_)
          rcases q136 with ⟨v134, rfl, hz135⟩
          have hthr := hz135
          refine ⟨rfl, ?_⟩
          refine Or.inr ⟨_, _, rfl, ?_, cQf_of (m := 0) (w := 0) cQg_rfl (by omega) (by omega) (cQn_of h) hthr⟩
          first | exact pz_dc_1 (by omega) | exact pz_dc_7 (by omega) | exact Decidable.byCases (p := kq T n N X i = 6) (fun h6 => pz_dc_7 h6) (fun h6 => pz_dc_f (by omega) ⟨by omega, by omega⟩ (by omega))
  · skip
    have hthr := hz101
    refine ⟨rfl, ?_⟩
    refine Or.inr ⟨_, _, rfl, ?_, cQf_of (m := 0) (w := 0) cQg_rfl (by omega) (by omega) (cQn_of h) hthr⟩
    first | exact pz_dc_1 (by omega) | exact pz_dc_7 (by omega) | exact Decidable.byCases (p := kq T n N X i = 6) (fun h6 => pz_dc_7 h6) (fun h6 => pz_dc_f (by omega) ⟨by omega, by omega⟩ (by omega))
end Wb8
