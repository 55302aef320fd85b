/-! PART ob: what is between two calls holds at the law's start. -/
section Wob
/-- a row without contents -/
theorem SZ_e {j t n : Nat} (hj : j < 388) (h : hpZ0[j]? = some (.inl (t, n, []))) (k : Int) (hk : k ≠ -1) : SZ j k = 0 := by
  rw [SZ_at hj h]
  show (if k = -1 then (n : Int) else (pe_lk (0 : Int32) k.toNat []).toInt) = 0
  rw [if_neg hk]
  rfl
theorem all_I {n : Nat} {P : Int → Prop} (h : ∀ k : Nat, k < n → P (k : Int)) : ∀ k : Int, 0 ≤ k → k < (n : Int) → P k := fun k k0 k1 => by
  have := h k.toNat (by omega)
  rwa [show ((k.toNat : Nat) : Int) = k by omega] at this
/-- the words of a table, by their heads -/
theorem wd_mk {H : Nat} {P ST ZS NX HD : Int → Int} {used plen cap : Int} {cnt : Nat} (hl : List Int) (h1 : (cnt : Int) ≤ cap) (h2 : 0 ≤ used ∧ used ≤ plen) (h3 : ∀ k : Nat, k < cnt → 0 ≤ ST (k : Int) ∧ 0 ≤ ZS (k : Int) ∧ ZS (k : Int) ≤ 60 ∧ ST (k : Int) + ZS (k : Int) ≤ used) (h4 : ∀ k : Nat, k < cnt → hs (H : Int) P ST ZS (k : Int) = hl.getD k 0) (h5 : ∀ x : Nat, x < H → HD (x : Int) = wl_of (fun k => hl.getD k.toNat 0) (x : Int) cnt) (h6 : ∀ k : Nat, k < cnt → NX (k : Int) = wl_of (fun k => hl.getD k.toNat 0) (hl.getD k 0) k) (h7 : ∀ k : Nat, k < cnt → ∀ q : Nat, q < cnt → (ZS (k : Int) = ZS (q : Int) ∧ ∀ i : Nat, i < (ZS (q : Int)).toNat → P (ST (k : Int) + (i : Int)) = P (ST (q : Int) + (i : Int))) → k = q) : wd_I (H : Int) P ST ZS NX HD used plen (cnt : Int) cap := by
  have e : ∀ (x : Int) (n : Nat), n ≤ cnt → wl_of (hs (H : Int) P ST ZS) x n = wl_of (fun k => hl.getD k.toNat 0) x n := fun x n hn => wl_cg n (fun q hq => by
    rw [h4 q (by omega)]
    show _ = hl.getD ((q : Int).toNat) 0
    rw [Int.toNat_natCast])
  refine ⟨⟨by omega, h1⟩, h2, all_I h3, all_I (fun x hx => ?_), fun k hk => ?_, fun k q k0 k1 q0 q1 hw => ?_⟩
  · rw [h5 x hx, Int.toNat_natCast, e _ _ (Nat.le_refl _)]
  · rw [h6 k (by omega), h4 k (by omega), e _ _ (by omega)]
  · have := h7 k.toNat (by omega) q.toNat (by omega) (by
      rw [show ((k.toNat : Nat) : Int) = k by omega, show ((q.toNat : Nat) : Int) = q by omega]
      exact ⟨hw.1, fun i hi => hw.2 i hi⟩)
    omega
set_option maxRecDepth 40000 in
theorem st_CL : w_CL SZ := by unfold w_CL; decide +kernel
set_option maxRecDepth 40000 in
theorem st_ML : w_ML SZ := by unfold w_ML; decide +kernel
theorem st_gI : gI SZ := by
  refine ⟨fun k k0 h => ?_, by decide +kernel, by decide +kernel⟩
  rw [SZ_no (by omega) (by unfold wG; omega) (by omega)] at h
  omega
def hl_2 : List Int := [32, 705, 157, 960, 652, 706, 381, 699, 243, 733, 375, 527, 584, 596, 309, 670, 3, 858, 2, 1002, 203, 646, 962, 191, 783, 830, 61, 338, 484, 741, 517, 963, 303]
def hl_74 : List Int := [45, 18, 36, 61, 35, 51, 15, 19, 34, 47, 28, 18, 29]
def hl_163 : List Int := hl_74
set_option maxRecDepth 40000 in
theorem st_wh_2 : ∀ k : Nat, k < 33 → hs (1024 : Int) (SZ 3) (SZ 4) (SZ 5) (k : Int) = hl_2.getD k 0 := by decide +kernel
set_option maxRecDepth 40000 in
theorem st_w5_2 : ∀ x : Nat, x < 1024 → SZ 12 (x : Int) = wl_of (fun k => hl_2.getD k.toNat 0) (x : Int) 33 := by decide +kernel
set_option maxRecDepth 40000 in
theorem st_w6_2 : ∀ k : Nat, k < 33 → SZ 6 (k : Int) = wl_of (fun k => hl_2.getD k.toNat 0) (hl_2.getD k 0) k := by decide +kernel
set_option maxRecDepth 40000 in
theorem st_w7_2 : ∀ k : Nat, k < 33 → ∀ q : Nat, q < 33 → (SZ 5 (k : Int) = SZ 5 (q : Int) ∧ ∀ i : Nat, i < (SZ 5 (q : Int)).toNat → SZ 3 (SZ 4 (k : Int) + (i : Int)) = SZ 3 (SZ 4 (q : Int) + (i : Int))) → k = q := by decide +kernel
theorem st_wd_2 : wd_at SZ 2 1024 := by
  unfold wd_at
  rw [show SZ 2 7 = ((33 : Nat) : Int) by decide +kernel]
  exact wd_mk (H := 1024) hl_2 (by decide +kernel) (by decide +kernel) (by decide +kernel) st_wh_2 st_w5_2 st_w6_2 st_w7_2
theorem st_wL_2 : wd_L SZ 2 1024 := by unfold wd_L; decide +kernel
set_option maxRecDepth 40000 in
theorem st_wh_74 : ∀ k : Nat, k < 13 → hs (64 : Int) (SZ 75) (SZ 76) (SZ 77) (k : Int) = hl_74.getD k 0 := by decide +kernel
set_option maxRecDepth 40000 in
theorem st_w5_74 : ∀ x : Nat, x < 64 → SZ 84 (x : Int) = wl_of (fun k => hl_74.getD k.toNat 0) (x : Int) 13 := by decide +kernel
set_option maxRecDepth 40000 in
theorem st_w6_74 : ∀ k : Nat, k < 13 → SZ 78 (k : Int) = wl_of (fun k => hl_74.getD k.toNat 0) (hl_74.getD k 0) k := by decide +kernel
set_option maxRecDepth 40000 in
theorem st_w7_74 : ∀ k : Nat, k < 13 → ∀ q : Nat, q < 13 → (SZ 77 (k : Int) = SZ 77 (q : Int) ∧ ∀ i : Nat, i < (SZ 77 (q : Int)).toNat → SZ 75 (SZ 76 (k : Int) + (i : Int)) = SZ 75 (SZ 76 (q : Int) + (i : Int))) → k = q := by decide +kernel
theorem st_wd_74 : wd_at SZ 74 64 := by
  unfold wd_at
  rw [show SZ 74 7 = ((13 : Nat) : Int) by decide +kernel]
  exact wd_mk (H := 64) hl_74 (by decide +kernel) (by decide +kernel) (by decide +kernel) st_wh_74 st_w5_74 st_w6_74 st_w7_74
theorem st_wL_74 : wd_L SZ 74 64 := by unfold wd_L; decide +kernel
set_option maxRecDepth 40000 in
theorem st_wh_163 : ∀ k : Nat, k < 13 → hs (64 : Int) (SZ 164) (SZ 165) (SZ 166) (k : Int) = hl_163.getD k 0 := by decide +kernel
set_option maxRecDepth 40000 in
theorem st_w5_163 : ∀ x : Nat, x < 64 → SZ 173 (x : Int) = wl_of (fun k => hl_163.getD k.toNat 0) (x : Int) 13 := by decide +kernel
set_option maxRecDepth 40000 in
theorem st_w6_163 : ∀ k : Nat, k < 13 → SZ 167 (k : Int) = wl_of (fun k => hl_163.getD k.toNat 0) (hl_163.getD k 0) k := by decide +kernel
set_option maxRecDepth 40000 in
theorem st_w7_163 : ∀ k : Nat, k < 13 → ∀ q : Nat, q < 13 → (SZ 166 (k : Int) = SZ 166 (q : Int) ∧ ∀ i : Nat, i < (SZ 166 (q : Int)).toNat → SZ 164 (SZ 165 (k : Int) + (i : Int)) = SZ 164 (SZ 165 (q : Int) + (i : Int))) → k = q := by decide +kernel
theorem st_wd_163 : wd_at SZ 163 64 := by
  unfold wd_at
  rw [show SZ 163 7 = ((13 : Nat) : Int) by decide +kernel]
  exact wd_mk (H := 64) hl_163 (by decide +kernel) (by decide +kernel) (by decide +kernel) st_wh_163 st_w5_163 st_w6_163 st_w7_163
theorem st_wL_163 : wd_L SZ 163 64 := by unfold wd_L; decide +kernel
theorem st_wv : wv_L SZ 2 := by
  refine ⟨⟨by decide +kernel, fun n n0 n1 => ?_, ?_⟩, ⟨by decide +kernel, fun n n0 n1 => ?_, ?_⟩, by decide +kernel, by decide +kernel, by decide +kernel, by decide +kernel, by decide +kernel, by decide +kernel⟩
  · rw [show SZ 2 10 = 0 by decide +kernel] at n1; omega
  · rw [show SZ 2 7 = ((33 : Nat) : Int) by decide +kernel]
    exact all_I (fun k hk => Or.inl ((show ∀ k : Nat, k < 33 → SZ (2 + 5) (k : Int) = -1 by decide +kernel) k hk))
  · rw [show SZ 2 12 = 0 by decide +kernel] at n1; omega
  · rw [show SZ 2 7 = ((33 : Nat) : Int) by decide +kernel]
    exact all_I (fun k hk => Or.inl ((show ∀ k : Nat, k < 33 → SZ (2 + 6) (k : Int) = -1 by decide +kernel) k hk))
theorem st_w2 : w2_I SZ := ⟨st_wd_2, st_wL_2, st_wv, by decide +kernel, by decide +kernel, by decide +kernel, fun k k0 k1 => all_I (n := 33) (P := fun k => SZ 4 k + SZ 5 k ≤ 133) (by decide +kernel) k k0 k1⟩
set_option maxRecDepth 40000 in
theorem st_r2 : r2_I SZ := by
  unfold r2_I wqL wq
  decide +kernel
theorem st_hw_74 : hw_I SZ 74 := ⟨st_wd_74, st_wL_74, by decide +kernel, by decide +kernel, by decide +kernel, by
  rw [show SZ 74 7 = ((13 : Nat) : Int) by decide +kernel]
  exact all_I (P := fun k => SZ (74 + 5) k = -1 ∧ SZ (74 + 6) k = -1) (by decide +kernel), fun k k0 k1 => all_I (n := 13) (P := fun k => SZ (74 + 2) k + SZ (74 + 3) k ≤ 56) (by decide +kernel) k k0 k1⟩
set_option maxRecDepth 40000 in
theorem st_rw_74 : rw_I SZ 74 := by
  unfold rw_I wq
  decide +kernel
theorem st_hi_74 : hi_I 74 117 118 SZ := ⟨st_hw_74, st_rw_74, by decide +kernel, by decide +kernel, by decide +kernel⟩
theorem st_hw_163 : hw_I SZ 163 := ⟨st_wd_163, st_wL_163, by decide +kernel, by decide +kernel, by decide +kernel, by
  rw [show SZ 163 7 = ((13 : Nat) : Int) by decide +kernel]
  exact all_I (P := fun k => SZ (163 + 5) k = -1 ∧ SZ (163 + 6) k = -1) (by decide +kernel), fun k k0 k1 => all_I (n := 13) (P := fun k => SZ (163 + 2) k + SZ (163 + 3) k ≤ 56) (by decide +kernel) k k0 k1⟩
set_option maxRecDepth 40000 in
theorem st_rw_163 : rw_I SZ 163 := by
  unfold rw_I wq
  decide +kernel
theorem st_hi_163 : hi_I 163 206 207 SZ := ⟨st_hw_163, st_rw_163, by decide +kernel, by decide +kernel, by decide +kernel⟩
theorem st_hsR : hs_R SZ := by unfold hs_R; decide +kernel
theorem st_cW : cW SZ := ⟨st_CL, st_gI, st_w2, st_hi_74, st_hi_163, st_hsR, by decide +kernel, by decide +kernel, fun i i0 i1 => by
  rw [show SZ 0 1 = 0 by decide +kernel] at i1
  omega, by decide +kernel, by decide +kernel⟩
theorem st_cH : cH 73 162 SZ := by unfold cH; decide +kernel
theorem st_KQ : KQ 87 97 115 73 241 SZ := by
  refine ⟨by decide +kernel, fun k k0 k1 => ?_, by decide +kernel, fun k k0 k1 => ?_⟩
  · rw [show SZ 241 1 = 0 by decide +kernel] at k1; omega
  · rw [show SZ 241 11 = 0 by decide +kernel] at k1; omega
theorem st_RA : RA 87 97 115 73 162 241 261 SZ := ⟨st_cW, st_cH, st_ML, by decide +kernel, by decide +kernel, fun i i0 i1 => by
  rw [show SZ 0 1 = 0 by decide +kernel] at i1
  omega, st_KQ⟩
theorem st_eC : eC SZ := ⟨by decide +kernel, ⟨by decide +kernel, fun k k0 k1 => SZ_e (t := 0) (n := 256) (by decide) rfl k (by omega)⟩, ⟨by decide +kernel, by decide +kernel, fun k k0 k1 => SZ_e (t := 0) (n := 1024) (by decide) rfl k (by omega)⟩, ⟨by decide +kernel, fun k k0 k1 => SZ_e (t := 0) (n := 4) (by decide) rfl k (by omega)⟩, by decide +kernel, by decide +kernel⟩
theorem st_an : an_va SZ := by
  refine ⟨by decide +kernel, by decide +kernel, by decide +kernel, by decide +kernel, by decide +kernel, by decide +kernel, by decide +kernel, by decide +kernel, by decide +kernel, by decide +kernel, by decide +kernel, by decide +kernel, by decide +kernel, by decide +kernel, by decide +kernel, by decide +kernel, by decide +kernel, by decide +kernel, by decide +kernel, by decide +kernel, by decide +kernel, by decide +kernel, by decide +kernel, by decide +kernel, by decide +kernel, all_I (n := 4) (by decide +kernel), fun i i0 i1 => ?_, fun a i a0 a1 i0 i1 => ?_⟩
  · exact SZ_e (t := 3) (n := 4000) (by decide) rfl i (by omega)
  · rcases (show a = 357 ∨ a = 358 ∨ a = 359 ∨ a = 360 by omega) with rfl | rfl | rfl | rfl <;> exact all_I (n := 2) (P := fun i => SZ _ i = 0) (by decide +kernel) i i0 i1
theorem st_rd : rd_L SZ := by unfold rd_L; decide +kernel
theorem st_lC : lC SZ := by unfold lC; decide +kernel
theorem st_kL73 : kL 73 SZ := by unfold kL; decide +kernel
theorem st_kL162 : kL 162 SZ := by unfold kL; decide +kernel
theorem st_dI : dI (SZ 35) (SZ 36) (SZ 37) (SZ 40) (SZ 58) (SZ 59) (SZ 60) (SZ 19 9) (SZ 19 16) := by
  rw [show SZ 19 9 = 0 by decide +kernel, show SZ 19 16 = 0 by decide +kernel]
  refine ⟨by decide, fun e e0 e1 => absurd e1 (by omega), fun h h0 h1 => ?_, fun e e0 e1 => absurd e1 (by omega), fun e e2 a b d => absurd d (by omega), fun s s0 s1 => absurd s1 (by omega), fun e e2 a b => absurd b (by omega)⟩
  have z : SZ 60 h = 0 := SZ_e (t := 0) (n := 256) (by decide) rfl h (by omega)
  rw [z]
  exact ⟨by decide, by decide, fun q => absurd q (by decide)⟩
theorem st_cK : cK [] [] SZ := by
  refine ⟨⟨st_w2, st_r2, ⟨by decide +kernel, fun k hk => absurd hk (Nat.not_lt_zero _)⟩, ⟨by decide +kernel, fun k hk => absurd hk (Nat.not_lt_zero _)⟩⟩, ⟨?_, ?_, by decide +kernel⟩, by decide +kernel, by decide +kernel, ⟨by decide +kernel, by decide +kernel, by decide +kernel, by decide +kernel, by decide +kernel, by decide +kernel, by decide +kernel, st_dI⟩, ?_⟩
  · unfold nt_L; decide +kernel
  · unfold va_L; decide +kernel
  · rw [show SZ 19 9 = 0 by decide +kernel, show SZ 19 16 = 0 by decide +kernel]
    exact ⟨rfl, fun s hs => absurd hs (by omega)⟩
theorem stZ_np {j : Nat} (h : 388 ≤ j) (h2 : j ≠ 1000001) : ¬ w_pr wY0 SZ j := fun z => by
  rcases SZ_pr z with c | c <;> omega
theorem st_iI {r : Nat} (hr : r < 3) (h0 : SZ (287 + 2 * r) 0 = 4000 ∧ SZ (287 + 2 * r) 2 = 0 ∧ SZ (287 + 2 * r) 1 = ((288 + 2 * r : Nat) : Int) ∧ SZ (288 + 2 * r) (-1) = cap 0) : iI (287 + 2 * r) (fs r) 4000 [] SZ := by
  refine ⟨⟨h0.1, h0.2.1, pr_lt (by omega)⟩, 0, by decide, ?_, ?_, ?_, Or.inl ?_, fun k hk => absurd hk (Nat.not_lt_zero _), fun h hh h11 => ?_⟩
  · rw [h0.2.2.1]; rfl
  · exact h0.2.2.2
  · exact pr_lt (show 288 + 2 * r < 388 by omega)
  · show ((0 : Nat) : Int) ≤ cap 0
    decide
  · have e : fs r h = nP 400 + (16 + 16 * r + h) := if_neg (by omega)
    rw [e]
    unfold nP
    exact stZ_np (by omega) (by omega)
theorem st_rZ : rZ 0 SZ := by
  refine ⟨by decide +kernel, by decide, fun k hk => absurd hk (Nat.not_lt_zero _), fun k _ hk c hc => ?_, ⟨fun k hk => absurd hk (Nat.not_lt_zero _), by decide +kernel⟩, [], [], [], st_iI (r := 0) (by decide) (by decide +kernel), st_iI (r := 1) (by decide) (by decide +kernel), st_iI (r := 2) (by decide) (by decide +kernel)⟩
  unfold nP
  exact stZ_np (by omega) (by omega)
theorem st_hcl : hoCl 73 (fun _ => 0) 0 [] [] (fun _ => []) SZ := by
  refine ⟨⟨fun k r h => ?_, fun m hm => absurd hm (Nat.not_lt_zero _), ⟨fun k k0 k1 => absurd k1 (show ¬ k < ((0 : Nat) : Int) by omega), fun k k0 k1 => absurd k1 (show ¬ k < ((0 : Nat) : Int) by omega)⟩, ⟨fun r hr => absurd hr List.not_mem_nil, fun r hr => absurd hr List.not_mem_nil⟩, fun r hr => absurd hr List.not_mem_nil⟩, ⟨by decide +kernel, by decide, by decide +kernel, fun k r h => ?_, ⟨by decide, fun k r h => ?_⟩, fun q q0 q1 => absurd q1 (show ¬ q < ((0 : Nat) : Int) by omega), fun k r h => ?_⟩, ⟨st_wd_74, st_wL_74, by decide +kernel⟩, fun k k0 k1 => absurd k1 (show ¬ k < ((0 : Nat) : Int) by omega)⟩
  · cases h
  · cases h
  · cases h
  · cases h
theorem st_hrf : hoRf 241 (fun _ => 0) 0 [] [] SZ := by
  refine ⟨by decide +kernel, by decide +kernel, fun k r h => ?_, fun k r h => ?_, fun i i0 i1 => absurd i1 (by omega), by decide, fun r hr => absurd hr List.not_mem_nil⟩
  · cases h
  · cases h
theorem st_cS0 : cS [] = 0 := rfl
set_option maxRecDepth 40000 in
theorem st_sz : SZ wG 0 ≤ 1853000 ∧ 1852000 ≤ SZ wG 0 ∧ 44000 ≤ gl SZ ∧ gl SZ ≤ 45000 ∧ phA 0 SZ = 49904 := by decide +kernel
theorem st_rX : rX SLZ SZ := ⟨fun q hq => ⟨0, by rw [Int.pow_zero, Int.mul_one]; exact (by decide +kernel : ∀ q ∈ gxl, SZ q.1 (-1) = SLZ q.1 (-1)) q hq⟩, fun a ha => (by decide +kernel : ∀ a : Nat, a < 237 → SZ a (-1) ≤ max (SLZ a (-1)) (gcap a)) a ha⟩
theorem st_rV : rV 0 0 SZ := ⟨by decide +kernel, st_rX, by unfold oTV; decide +kernel⟩
/-- what is between two calls holds at the start -/
theorem RM_S (c : List Int32) : RM (xsA c) 0 SZ := by
  obtain ⟨m1, m2, m3, m4, m5⟩ := mK_0 (fa := fun _ => -1) st_eC st_an
  have ce : ∀ i : Int, 5 ≤ i → (fun _ : Int => (0 : Int)) i = 0 := fun i _ => rfl
  have hCC : cRel SZ 73 (fun _ => 0) [] [] (fun _ => []) [] 2000 (aZ (fun _ => 0) (sfZ [])) SZ := by
    refine cRel_0 st_CL st_gI st_lC st_eC st_cK.1 st_rd ?_ ?_ (fun i hi => ⟨?_, Int.le_refl 0⟩) ce
    · obtain ⟨g1, g2, g3⟩ := st_kL73
      refine ⟨⟨[], ⟨by decide +kernel, fun i i0 i1 => absurd i1 (show ¬ i < ((0 : Nat) : Int) by omega), fun x x0 x1 => ?_, g2, g3.1, g3.2, ?_, Nat.zero_le _⟩, rfl, fun i hi => absurd hi (Nat.not_lt_zero _)⟩, by decide +kernel, by decide +kernel, ⟨by decide, by decide⟩, ⟨by decide, by decide⟩, g1, by decide +kernel⟩
      · exact SZ_e (t := 0) (n := 128) (by decide) rfl x (by omega)
      · show ((0 : Nat) : Int) ≤ _
        have := g3.1
        omega
    · exact cSt_0 st_hcl.1.1 st_hcl.1.2.1 ⟨by rw [st_cS0]; decide +kernel, by decide +kernel, by decide +kernel⟩
    · rcases (show i = 0 ∨ i = 1 ∨ i = 2 ∨ i = 3 ∨ i = 4 by omega) with rfl | rfl | rfl | rfl | rfl <;> decide +kernel
  have hRR : rRel SZ SZ (fun _ => 0) [] [] (fun _ => []) [] 2000 (aZ (fun _ => 0) (sfZ [])) SZ := by
    refine rRel_0 st_ML st_an ⟨by decide +kernel, fun k hk => absurd hk (Nat.not_lt_zero _), by decide +kernel, by decide +kernel, ⟨by decide, by decide⟩, by decide, by decide⟩ (fun m hm => ?_) (fun i hi => ⟨?_, Int.le_refl 0⟩) ce
    · have h1 := hm.1.1
      have h2 : m < ((0 : Nat) : Int) := hm.1.2
      omega
    · rcases (show i = 0 ∨ i = 1 ∨ i = 2 ∨ i = 3 ∨ i = 4 by omega) with rfl | rfl | rfl | rfl | rfl <;> decide +kernel
  have hho : hoT SZ 73 241 (fun _ => 0) 0 [] [] (fun _ => []) ((0 : Nat) : Int) := hoT_of (Or.inl ⟨rfl, rfl⟩) st_hcl st_hrf (by decide +kernel) (by decide +kernel) (fun i i0 i1 => absurd i1 (by omega))
  refine ⟨73, 162, 241, 261, 0, [], fun _ => 0, 0, [], [], fun _ => [], 2000, fun _ => -1, aZ (fun _ => 0) (sfZ []), Or.inl ⟨rfl, rfl, rfl, rfl⟩, st_RA, ⟨⟨st_cK, ⟨m4, m5, st_rZ, m3⟩, m1⟩, m2⟩, ⟨hCC, hRR⟩, wf_0 st_an.2.2.2.2.2.2.1 st_an.1 ⟨by decide, by decide⟩ ⟨⟨by decide, by decide⟩, ⟨by decide, by decide⟩, ⟨by decide, by decide⟩, ⟨by decide, by decide⟩, ⟨by decide, by decide⟩⟩ ce, ⟨⟨xsA_X c, xsA_x1 c, xsA_x97 c⟩, ⟨⟨WEs_w, WEs_o⟩, ⟨xsA_X c, xsA_x1 c, xsA_x55 c⟩, by decide +kernel, hho.1.1⟩, hho, by unfold stL; decide +kernel, fun g g0 g1 => ?_⟩, ⟨fun k hk => absurd hk List.not_mem_nil, by decide +kernel⟩, ⟨pV_ge SZ, by unfold pV; decide +kernel⟩, st_rV, ⟨by decide +kernel, st_kL162⟩, by decide⟩
  rw [st_an.2.2.2.2.1] at g1
  omega
end Wob
