/-! PART bp: the Compiler's commit, whole. -/
section Wbp
variable {xs : List (Nat × List Int32)} {M : Nat → Prop} {d : Nat} {A B C S Z : wS} {Q : wO → wS → Prop} {T : Int → Int} {n : Int} {N X : List (List Int)} {c i : Nat} {f u w : Int} {I : List pz_I} {F : List pz_F}
variable {R : wS} {p un : Int} {m N0 : Nat} {H : Int → Int}
/-- how many sites there are ahead of the k-th function -/
def ssm (R : wS) (f : Int) : Nat → Int
  | 0 => 0
  | k + 1 => ssm R f k + fct (R 31) (R 27 (f + (k : Int))) (R 24 (f + (k : Int))).toNat
theorem ssm_mo {k l : Nat} (h : k ≤ l) : ssm R f k ≤ ssm R f l := by
  induction h with
  | refl => exact Int.le_refl _
  | step h ih =>
    rename_i q
    show ssm R f k ≤ ssm R f q + fct (R 31) (R 27 (f + (q : Int))) (R 24 (f + (q : Int))).toNat
    have := (fct_rg (R 31) (R 27 (f + (q : Int))) (R 24 (f + (q : Int))).toNat).1
    omega
theorem fct_cg {O O2 : Int → Int} {b : Int} : ∀ i : Nat, (∀ r : Nat, r < i → O2 (b + (r : Int)) = O (b + (r : Int))) → fct O2 b i = fct O b i := by
  intro i
  induction i with
  | zero => intro _; rfl
  | succ i ih =>
    intro h
    show fct O2 b i + (if O2 (b + (i : Int)) = 27 then 1 else 0) = fct O b i + (if O (b + (i : Int)) = 27 then 1 else 0)
    rw [ih (fun r hr => h r (by omega)), h i (by omega)]
/-- the k-th function is finished -/
def c3F (f : Int) (F : List pz_F) (R : wS) (k : Nat) (Z : wS) : Prop := (∀ r : Nat, r < (R 24 (f + (k : Int))).toNat → Z 31 ((R 27 (f + (k : Int))) + r) = (fx f F (f + (k : Int)) (R 19 9 + ssm R f k + fct (R 31) (R 27 (f + (k : Int))) r) (R 31 ((R 27 (f + (k : Int))) + r)) (R 32 ((R 27 (f + (k : Int))) + r)) (R 33 ((R 27 (f + (k : Int))) + r))).1 ∧ Z 32 ((R 27 (f + (k : Int))) + r) = (fx f F (f + (k : Int)) (R 19 9 + ssm R f k + fct (R 31) (R 27 (f + (k : Int))) r) (R 31 ((R 27 (f + (k : Int))) + r)) (R 32 ((R 27 (f + (k : Int))) + r)) (R 33 ((R 27 (f + (k : Int))) + r))).2.1 ∧ Z 33 ((R 27 (f + (k : Int))) + r) = (fx f F (f + (k : Int)) (R 19 9 + ssm R f k + fct (R 31) (R 27 (f + (k : Int))) r) (R 31 ((R 27 (f + (k : Int))) + r)) (R 32 ((R 27 (f + (k : Int))) + r)) (R 33 ((R 27 (f + (k : Int))) + r))).2.2) ∧ (∀ r : Nat, r < (R 24 (f + (k : Int))).toNat → R 31 ((R 27 (f + (k : Int))) + r) = 27 → Z 35 (R 19 9 + ssm R f k + fct (R 31) (R 27 (f + (k : Int))) r) = wb_iand (R 32 ((R 27 (f + (k : Int))) + r)) 15 ∧ Z 36 (R 19 9 + ssm R f k + fct (R 31) (R 27 (f + (k : Int))) r) = R 33 ((R 27 (f + (k : Int))) + r) ∧ Z 37 (R 19 9 + ssm R f k + fct (R 31) (R 27 (f + (k : Int))) r) = wb_ishr (R 32 ((R 27 (f + (k : Int))) + r)) 4 ∧ Z 38 (R 19 9 + ssm R f k + fct (R 31) (R 27 (f + (k : Int))) r) = f + (k : Int) ∧ Z 39 (R 19 9 + ssm R f k + fct (R 31) (R 27 (f + (k : Int))) r) = (r : Int) ∧ Z 46 (R 19 9 + ssm R f k + fct (R 31) (R 27 (f + (k : Int))) r) = -1 ∧ ∀ j : Nat, 41 ≤ j → j ≤ 45 → Z j (R 19 9 + ssm R f k + fct (R 31) (R 27 (f + (k : Int))) r) = 0) ∧ Z 25 (f + (k : Int)) = R 19 9 + ssm R f k ∧ Z 26 (f + (k : Int)) = fct (R 31) (R 27 (f + (k : Int))) (R 24 (f + (k : Int))).toNat
/-- the first k functions are finished -/
def c3I (f : Int) (F : List pz_F) (p : Int) (k : Nat) (R Z : wS) : Prop := Z 19 9 = R 19 9 + ssm R f k ∧ (∀ q : Nat, q < k → c3F f F R q Z) ∧ (∀ x : Int, (x < p ∨ p + psm (R 24) f k ≤ x) → Z 31 x = R 31 x ∧ Z 32 x = R 32 x ∧ Z 33 x = R 33 x) ∧ (∀ (j : Nat) (x : Int), 35 ≤ j → j ≤ 46 → 0 ≤ x → x < R 19 9 → Z j x = R j x) ∧ (∀ (j : Nat) (x : Int), j < 4000000 → j ≠ wG → (j < 31 ∨ 33 < j) → (j < 35 ∨ 46 < j) → j ≠ 58 → j ≠ 59 → j ≠ 60 → (j ≠ 19 ∨ (x ≠ 9 ∧ x ≠ 16)) → ((j ≠ 25 ∧ j ≠ 26) ∨ x < f ∨ f + (k : Int) ≤ x) → Z j x = R j x) ∧ (si_L Z ∧ dN (Z 35) (Z 36) (Z 37) (Z 40) (Z 19 9) (Z 19 16)) ∧ gI Z ∧ rmR R Z
theorem c3I_0 (hs : si_L R) (hd : dN (R 35) (R 36) (R 37) (R 40) (R 19 9) (R 19 16)) (hI : gI R) : c3I f F p 0 R R := ⟨by show R 19 9 = R 19 9 + 0; omega, fun q hq => absurd hq (Nat.not_lt_zero _), fun _ _ => ⟨rfl, rfl, rfl⟩, fun _ _ _ _ _ _ => rfl, fun _ _ _ _ _ _ _ _ _ _ _ => rfl, ⟨hs, hd⟩, hI, rmR_rfl R⟩
set_option maxHeartbeats 4000000 in
theorem c3I_s {k : Nat} (hm : k < m) (hB : ∀ q : Nat, q < m → R 27 (f + (q : Int)) = p + psm (R 24) f q ∧ 0 ≤ R 24 (f + (q : Int))) (hp : 0 ≤ p) (hf : 0 ≤ f) (h90 : 0 ≤ R 19 9) (h : c3I f F p k R Z) {Z1 : wS} (g : fnI f F (f + (k : Int)) (R 27 (f + (k : Int))) (Z 19 9) (R 24 (f + (k : Int))).toNat (w_up Z 25 (f + (k : Int)) (Z 19 9)) Z1) : c3I f F p (k + 1) R (w_up Z1 26 (f + (k : Int)) (fct (Z 31) (R 27 (f + (k : Int))) (R 24 (f + (k : Int))).toNat)) := by
  obtain ⟨a1, a2, a3, a4, a5, ⟨a6, a6b⟩, a7, a8⟩ := h
  have hS : ∀ j : Nat, j ≠ 25 → w_up Z 25 (f + (k : Int)) (Z 19 9) j = Z j := fun j hj => funext fun x => w_up_slot hj
  obtain ⟨b1, b2, b3, b4, b5, b6, ⟨b7, b7b⟩, b8, b9⟩ := g
  rw [hS 31 (by decide)] at b1 b2 b3 b4
  rw [hS 32 (by decide), hS 33 (by decide)] at b2 b3 b4
  obtain ⟨hb1, hb2⟩ := hB k hm
  have hps : psm (R 24) f (k + 1) = psm (R 24) f k + R 24 (f + (k : Int)) := rfl
  have hpk : 0 ≤ psm (R 24) f k := psm_mo (k := 0) (Nat.zero_le k) (fun q hq => (hB q (by omega)).2)
  have hss : ssm R f (k + 1) = ssm R f k + fct (R 31) (R 27 (f + (k : Int))) (R 24 (f + (k : Int))).toNat := rfl
  have hs0 : 0 ≤ ssm R f k := ssm_mo (k := 0) (Nat.zero_le k)
  have ez : ∀ r : Nat, Z 31 ((R 27 (f + (k : Int))) + (r : Int)) = R 31 ((R 27 (f + (k : Int))) + (r : Int)) ∧ Z 32 ((R 27 (f + (k : Int))) + (r : Int)) = R 32 ((R 27 (f + (k : Int))) + (r : Int)) ∧ Z 33 ((R 27 (f + (k : Int))) + (r : Int)) = R 33 ((R 27 (f + (k : Int))) + (r : Int)) := fun r => a3 _ (Or.inr (by omega))
  have hc : ∀ i : Nat, fct (Z 31) (R 27 (f + (k : Int))) i = fct (R 31) (R 27 (f + (k : Int))) i := fun i => fct_cg i (fun r _ => (ez r).1)
  refine ⟨?_, fun q hq => ?_, fun x hx => ?_, fun j x j0 j1 x0 x1 => ?_, fun j x j0 j1 j2 j3 j4 j5 j6 j7 j8 => ?_, ⟨si_L_ag b7 (fun j x hj => w_up_slot (by omega)), b7b⟩, gI_up b8 (by omega) (by omega) (by omega), rmR_up (rmR_tr (rmR_up a8 (by omega) (by decide)) b9) (by omega) (by decide)⟩
  · rw [w_up_slot (by decide), b1, hc, a1, hss]; omega
  · by_cases e : q = k
    · subst e
      refine ⟨fun r hr => ?_, fun r hr h27 => ?_, ?_, ?_⟩
      · obtain ⟨e1, e2, e3⟩ := b2 r hr
        obtain ⟨z1, z2, z3⟩ := ez r
        rw [z1, z2, z3, hc, a1] at e1 e2 e3
        exact ⟨e1, e2, e3⟩
      · obtain ⟨z1, z2, z3⟩ := ez r
        obtain ⟨q1, q2, q3, q4, q5, q6, q7⟩ := b4 r hr (z1.trans h27)
        rw [z2, hc, a1] at q1 q3
        rw [z3, hc, a1] at q2
        rw [hc, a1] at q4 q5 q6 q7
        exact ⟨q1, q2, q3, q4, q5, q6, fun j j0 j1 => (w_up_slot (by omega)).trans (q7 j j0 j1)⟩
      · rw [w_up_slot (by decide), b6 25 _ (by decide) (by decide) (by decide) (by decide) (by decide) (by decide) (by decide) (Or.inl (by decide)), w_up_same, a1]
      · rw [w_up_same, hc]
    · obtain ⟨c1, c2, c3, c4⟩ := a2 q (by omega)
      obtain ⟨hq1, hq2⟩ := hB q (by omega)
      have hp2 : psm (R 24) f (q + 1) ≤ psm (R 24) f k := psm_mo (by omega) (fun z hz => (hB z (by omega)).2)
      have hp3 : psm (R 24) f (q + 1) = psm (R 24) f q + R 24 (f + (q : Int)) := rfl
      have hs1 : ssm R f (q + 1) ≤ ssm R f k := ssm_mo (by omega)
      have hs2 : ssm R f (q + 1) = ssm R f q + fct (R 31) (R 27 (f + (q : Int))) (R 24 (f + (q : Int))).toNat := rfl
      have hs3 : 0 ≤ ssm R f q := ssm_mo (k := 0) (Nat.zero_le q)
      refine ⟨fun r hr => ?_, fun r hr h27 => ?_, ?_, ?_⟩
      · obtain ⟨e1, e2, e3⟩ := b3 (R 27 (f + (q : Int)) + (r : Int)) (Or.inl (by omega))
        rw [w_up_slot (by decide), w_up_slot (by decide), w_up_slot (by decide), e1, e2, e3]
        exact c1 r hr
      · have hf1 := fct_mo (R 31) (R 27 (f + (q : Int))) (show r + 1 ≤ (R 24 (f + (q : Int))).toNat by omega)
        have hf2 := fct_27 h27
        have hf3 := (fct_rg (R 31) (R 27 (f + (q : Int))) r).1
        have hy : ∀ j : Nat, 35 ≤ j → j ≤ 46 → w_up Z1 26 (f + (k : Int)) (fct (Z 31) (R 27 (f + (k : Int))) (R 24 (f + (k : Int))).toNat) j (R 19 9 + ssm R f q + fct (R 31) (R 27 (f + (q : Int))) r) = Z j (R 19 9 + ssm R f q + fct (R 31) (R 27 (f + (q : Int))) r) := fun j j0 j1 => (w_up_slot (by omega)).trans ((b5 j _ j0 j1 (by omega) (by omega)).trans (w_up_slot (by omega)))
        obtain ⟨q1, q2, q3, q4, q5, q6, q7⟩ := c2 r hr h27
        rw [hy 35 (by omega) (by omega), hy 36 (by omega) (by omega), hy 37 (by omega) (by omega), hy 38 (by omega) (by omega), hy 39 (by omega) (by omega), hy 46 (by omega) (by omega)]
        exact ⟨q1, q2, q3, q4, q5, q6, fun j j0 j1 => (hy j (by omega) (by omega)).trans (q7 j j0 j1)⟩
      · rw [w_up_slot (by decide), b6 25 _ (by decide) (by decide) (by decide) (by decide) (by decide) (by decide) (by decide) (Or.inl (by decide)), w_up_at (by omega)]; exact c3
      · rw [w_up_at (by omega), b6 26 _ (by decide) (by decide) (by decide) (by decide) (by decide) (by decide) (by decide) (Or.inl (by decide)), w_up_slot (by decide)]; exact c4
  · rw [w_up_slot (by decide), w_up_slot (by decide), w_up_slot (by decide)]
    obtain ⟨e1, e2, e3⟩ := b3 x (by omega)
    obtain ⟨d1, d2, d3⟩ := a3 x (by omega)
    exact ⟨e1.trans d1, e2.trans d2, e3.trans d3⟩
  · exact (w_up_slot (by omega)).trans ((b5 j x j0 j1 x0 (by omega)).trans ((w_up_slot (by omega)).trans (a4 j x j0 j1 x0 x1)))
  · exact (w_up_no (by omega)).trans ((b6 j x j0 j1 j2 j3 j4 j5 j6 j7).trans ((w_up_no (by omega)).trans (a5 j x j0 j1 j2 j3 j4 j5 j6 j7 (by omega))))
set_option maxHeartbeats 4000000 in
theorem cm_6 (hk : kf_I f F R) (hm : m = F.length) (hB : ∀ q : Nat, q < m → R 27 (f + (q : Int)) = p + psm (R 24) f q ∧ 0 ≤ R 24 (f + (q : Int))) (hp : 0 ≤ p ∧ p + psm (R 24) f m ≤ R 31 (-1) ∧ R 31 (-1) ≤ 40000) (l32 : R 32 (-1) = R 31 (-1)) (l33 : R 33 (-1) = R 31 (-1)) (h9 : 0 ≤ R 19 9 ∧ R 19 9 + ssm R f m ≤ 4000) (h191 : R 19 1 = f + (m : Int)) (hun : -2147483648 ≤ un ∧ un ≤ 2147483647) : ∀ (fu k : Nat) (Z : wS), m - k < fu → k ≤ m → c3I f F p k R Z → wJ (pe_GA xs) wY0 (mS [31, 32, 33, 35, 36, 37, 38, 39, 40, 41, 42, 43, 44, 45, 46, 58, 59]) (d + 5) t_XP_commit ((pe_at t_XP_commit.bl 6).getD (0, [])).2 [(0, (2, 63)), (1, (0, un)), (2, (0, f)), (4, (0, f + (k : Int)))] [] Z (fun o Z => o = .inl (some (0, un)) ∧ c3I f F p m R Z) := by
  have h0 := hk.2.1
  intro fu
  induction fu with
  | zero => intro k Z hm; exact absurd hm (Nat.not_lt_zero _)
  | succ fu ih =>
    intro k Z hmk hkm hz
    have z := hz
    obtain ⟨a1, a2, a3, a4, a5, ⟨a6, a6b⟩, a7, a8⟩ := z
    have e191 : Z 19 1 = f + (m : Int) := (a5 19 1 (by decide) (by decide) (by decide) (by decide) (by decide) (by decide) (by decide) (Or.inr (by decide)) (Or.inl (by decide))).trans h191
    have zC : w_CL Z := fun y hy => (a5 y.1 (-1) (by have := wz_lt y hy; omega) (by have := wz_lt y hy; unfold wG; omega) (by have := wz_fi y hy; omega) (by have := wz_fi y hy; omega) (by have := wz_fi y hy; omega) (by have := wz_fi y hy; omega) (by have := wz_fi y hy; omega) (Or.inr (by omega)) (Or.inr (Or.inl (by omega)))).trans (hk.1.1 y hy)
    have zk : kf_I f F Z := kf_ag hk zC (fun j x hj => a5 j x (by omega) (by have : wG = 1000000 := rfl; omega) (by omega) (by omega) (by omega) (by omega) (by omega) (by omega) (by omega))
    refine wa_iload (n := 4) rfl ?_
    refine wa_aload_n (n := 0) rfl ?_
    refine wb_gf4 63 rfl (wy_pr rfl) wt_63 wf_1_2 (v := 19) wl_63_2 ?_
    refine wb_gfi 19 rfl (wy_pr rfl) wt_19 wf_0_1 (v := (f + (m : Int))) (e191) (fun r101 => ?_)
    refine wa_icmpge (w_rg0 (by omega) (by omega)) (w_rg0 (by omega) (by omega)) ⟨_, rfl⟩ (fun c102 => ?_) (fun c102 => ?_)
    · skip
      refine wa_iload_n (n := 1) rfl ?_
      refine wa_ireturn rfl ?_
      have ek : k = m := by omega
      subst ek
      exact ⟨rfl, hz⟩
    · skip
      refine wa_aload_n (n := 0) rfl ?_
      refine wa_iload (n := 4) rfl ?_
      obtain ⟨hb1, hb2⟩ := hB k (by omega)
      have hpk : 0 ≤ psm (R 24) f k := psm_mo (k := 0) (Nat.zero_le k) (fun q hq => (hB q (by omega)).2)
      have hps : psm (R 24) f (k + 1) ≤ psm (R 24) f m := psm_mo (by omega) (fun q hq => (hB q hq).2)
      have hp2 : psm (R 24) f (k + 1) = psm (R 24) f k + R 24 (f + (k : Int)) := rfl
      have hss : ssm R f (k + 1) ≤ ssm R f m := ssm_mo (by omega)
      have hs2 : ssm R f (k + 1) = ssm R f k + fct (R 31) (R 27 (f + (k : Int))) (R 24 (f + (k : Int))).toNat := rfl
      have e27 : Z 27 (f + (k : Int)) = (R 27 (f + (k : Int))) := a5 27 _ (by decide) (by decide) (by decide) (by decide) (by decide) (by decide) (by decide) (Or.inl (by decide)) (Or.inl (by decide))
      have e24 : Z 24 (f + (k : Int)) = (((R 24 (f + (k : Int))).toNat : Nat) : Int) := (a5 24 _ (by decide) (by decide) (by decide) (by decide) (by decide) (by decide) (by decide) (Or.inl (by decide)) (Or.inl (by decide))).trans (by omega)
      have q31 := (a3 (-1) (Or.inl (by omega))).1
      have q32 := (a3 (-1) (Or.inl (by omega))).2.1
      have q33 := (a3 (-1) (Or.inl (by omega))).2.2
      have hcc : fct (Z 31) (R 27 (f + (k : Int))) (R 24 (f + (k : Int))).toNat = fct (R 31) (R 27 (f + (k : Int))) (R 24 (f + (k : Int))).toNat := fct_cg _ (fun r _ => (a3 _ (Or.inr (by omega))).1)
      refine wa_cv 63 rfl (wy_pr rfl) wt_63 (M2 := mS [35, 36, 37, 38, 39, 40, 41, 42, 43, 44, 45, 46, 58, 59]) rfl at_XP_finish ⟨_, rfl⟩ rfl rfl ⟨(Or.inr ⟨wy_pr rfl, mS_no rfl⟩), trivial, trivial, trivial, trivial⟩ trivial (fun _ _ q => mS_sub (by decide) q) (fin_ok (S := Z) (b := (R 27 (f + (k : Int)))) (h := (R 24 (f + (k : Int))).toNat) zk ⟨by omega, by omega⟩ e27 e24 ⟨by omega, by omega, by omega⟩ (q32.trans (l32.trans q31.symm)) (q33.trans (l33.trans q31.symm)) a6 a6b a7 (by omega)) (fun oq103 Sq103 hp104 q103 => ?_)
      rcases q103 with ⟨rfl, Z1, hf1, rfl⟩
      show wJ _ _ _ _ _ _ _ _ _ _
      have hq := c3I_s (by omega) hB hp.1 h0.2.1 h9.1 hz hf1
      refine wa_iinc rfl rfl ?_
      refine wa_goto ⟨_, rfl⟩ ?_
      rw [show ((f + (k : Int)) + 1) = f + ((k + 1 : Nat) : Int) by omega]
      exact wJ_S (ih (k + 1) _ (by omega) (by omega) hq) ⟨rfl, rfl, rfl, rfl, trivial⟩
set_option maxHeartbeats 4000000 in
theorem cm_2 {A Z2 : wS} (h1 : S 19 1 = f) (h3 : 0 ≤ S 19 3 ∧ S 19 3 < 16) (h63 : S 63 7 = (N0 : Int)) (h7 : 0 ≤ S 19 7 ∧ S 19 7 + (N0 : Int) ≤ 20000) (ho : ∀ x : Nat, x < N0 → f ≤ S 67 x ∧ S 67 x < f + (F.length : Int)) (h24 : ∀ k : Nat, k < F.length → S 24 (f + (k : Int)) = oct (S 67) (f + (k : Int)) N0) (h9 : ∀ R : wS, c2I f (S 19 7) F.length N0 Z2 R → R 19 9 + ssm R f F.length ≤ 4000) (hz2 : c1I f (S 19 7) F.length A Z2) (ak : kf_I f F A) (e191 : A 19 1 = f + (F.length : Int)) (e63 : A 63 7 = (N0 : Int)) (aL : nt_L A) (asi : si_L A) (adn : dN (A 35) (A 36) (A 37) (A 40) (A 19 9) (A 19 16)) (a24 : A 24 = S 24) (a67 : A 67 = S 67) (l32 : A 32 (-1) = A 31 (-1)) (l33 : A 33 (-1) = A 31 (-1)) (hl : (S 19 7) + (N0 : Int) ≤ A 31 (-1) ∧ A 31 (-1) ≤ 40000) : wJ (pe_GA xs) wY0 (mS [31, 32, 33, 35, 36, 37, 38, 39, 40, 41, 42, 43, 44, 45, 46, 58, 59]) (d + 5) t_XP_commit ((pe_at t_XP_commit.bl 2).getD (0, [])).2 [(0, (2, 63)), (1, (0, S 19 3)), (2, (0, f))] [] Z2 (fun o Z => o = .inl (some (0, S 19 3)) ∧ ∃ R : wS, c2I f (S 19 7) F.length N0 Z2 R ∧ c3I f F (S 19 7) F.length R Z) := by
  obtain ⟨k1, k2, k3⟩ := ak.2.1
  obtain ⟨z1, z2, z3, z4⟩ := hz2
  have fz : ∀ (j : Nat) (y : Int), j ≠ 27 → j ≠ 24 → Z2 j y = A j y := fun j y q1 q2 => z2 j y (Or.inl ⟨q1, q2⟩)
  have fe : ∀ j : Nat, j ≠ 27 → j ≠ 24 → Z2 j = A j := fun j q1 q2 => funext fun y => fz j y q1 q2
  have zC : w_CL Z2 := fun y hy => (z2 y.1 (-1) (Or.inr (Or.inl (by omega)))).trans (ak.1.1 y hy)
  have zk : kf_I f F Z2 := kf_ag ak zC (fun j x hj => fz j x (by omega) (by omega))
  have zL : nt_L Z2 := by
    unfold nt_L
    rw [fe 63 (by decide) (by decide), fe 64 (by decide) (by decide), fe 65 (by decide) (by decide), fe 66 (by decide) (by decide), fe 67 (by decide) (by decide)]
    exact aL
  have hh : c2H f (S 19 7) F.length N0 (S 24) Z2 := by
    refine ⟨fun k hk => ?_, ?_, ?_, ⟨k2, k3⟩, h7.1⟩
    · rw [(z1 k hk).1, a24]
    · rw [fe 67 (by decide) (by decide), a67]; exact ho
    · rw [fe 67 (by decide) (by decide), a67]; exact h24
  refine wa_iconst ?_
  refine wa_istore (n := 4) rfl ?_
  refine wa_fall ⟨_, rfl⟩ ?_
  refine wJ_S (cm_3 (R := Z2) (p := (S 19 7)) (un := S 19 3) (m := F.length) (N0 := N0) (H := S 24) (f := f) zC hh ((fz 63 7 (by decide) (by decide)).trans e63) zL (by rw [fe 32 (by decide) (by decide), fe 31 (by decide) (by decide)]; exact l32) (by rw [fe 33 (by decide) (by decide), fe 31 (by decide) (by decide)]; exact l33) (by rw [fe 31 (by decide) (by decide)]; exact hl) (fun Z3 hz3 => ?_) (N0 + 1) 0 Z2 (by omega) (Nat.zero_le _) (c2I_0 (fun k hk => (z1 k hk).2) z3)) ⟨rfl, rfl, rfl, rfl, trivial⟩
  have hz4 := hz3
  obtain ⟨y1, y2, y3, y4, y5, y6⟩ := hz4
  have gz : ∀ (j : Nat) (y : Int), (j < 31 ∨ 33 < j) → j ≠ 24 → Z3 j y = Z2 j y := fun j y q1 q2 => y4 j y q1 (Or.inl q2)
  have ge : ∀ j : Nat, (j < 31 ∨ 33 < j) → j ≠ 24 → Z3 j = Z2 j := fun j q1 q2 => funext fun y => gz j y q1 q2
  have yC : w_CL Z3 := fun y hy => (y4 y.1 (-1) (by have := wz_fi y hy; omega) (Or.inr (Or.inl (by omega)))).trans (zC y hy)
  have yk : kf_I f F Z3 := kf_ag zk yC (fun j x hj => gz j x (by omega) (by omega))
  have y24 : ∀ q : Nat, q < F.length → Z3 24 (f + (q : Int)) = S 24 (f + (q : Int)) := fun q hq => by
    rw [y1 _ (by omega) (by omega), fe 67 (by decide) (by decide), a67, h24 q hq]
  have hps : psm (Z3 24) f F.length = (N0 : Int) := (psm_cg (H := fun u => oct (S 67) u N0) F.length (fun q hq => (y24 q hq).trans (h24 q hq))).trans (psm_oct N0 ho)
  have q31 := (y3 (-1) (by omega)).1.trans (fz 31 (-1) (by decide) (by decide))
  have q32 := (y3 (-1) (by omega)).2.1.trans (fz 32 (-1) (by decide) (by decide))
  have q33 := (y3 (-1) (by omega)).2.2.trans (fz 33 (-1) (by decide) (by decide))
  have q9 : Z3 19 9 = A 19 9 := (gz 19 9 (by decide) (by decide)).trans (fz 19 9 (by decide) (by decide))
  have q16 : Z3 19 16 = A 19 16 := (gz 19 16 (by decide) (by decide)).trans (fz 19 16 (by decide) (by decide))
  have he : ∀ j : Nat, (j < 31 ∨ 33 < j) → j ≠ 24 → j ≠ 27 → Z3 j = A j := fun j h1 h2 h3 => (ge j h1 h2).trans (fe j h3 h2)
  have ysi : si_L Z3 := si_L_ag asi (fun j x hj => congrFun (he j (by omega) (by omega) (by omega)) x)
  have ydn : dN (Z3 35) (Z3 36) (Z3 37) (Z3 40) (Z3 19 9) (Z3 19 16) := by
    rw [q9, q16, he 35 (by decide) (by decide) (by decide), he 36 (by decide) (by decide) (by decide), he 37 (by decide) (by decide) (by decide), he 40 (by decide) (by decide) (by decide)]
    exact adn
  refine wa_iload_n (n := 2) rfl ?_
  refine wa_istore (n := 4) rfl ?_
  refine wa_fall ⟨_, rfl⟩ ?_
  have eF : f = f + ((0 : Nat) : Int) := by omega
  refine wJ_mono (wJ_S (cm_6 (R := Z3) (p := (S 19 7)) (un := S 19 3) (m := F.length) (F := F) yk rfl (fun q hq => ⟨?_, ?_⟩) ⟨h7.1, by omega, by omega⟩ (q32.trans (l32.trans q31.symm)) (q33.trans (l33.trans q31.symm)) ⟨by rw [q9]; exact asi.1.1, h9 Z3 hz3⟩ ((gz 19 1 (by decide) (by decide)).trans ((fz 19 1 (by decide) (by decide)).trans e191)) ⟨by omega, by omega⟩ (F.length + 1) 0 Z3 (by omega) (Nat.zero_le _) (c3I_0 ysi ydn y5)) ⟨rfl, rfl, rfl, by rw [← eF]; rfl, trivial⟩) (fun o Z hz => ⟨hz.1, Z3, hz3, hz.2⟩)
  · rw [gz 27 _ (by decide) (by decide), (z1 q hq).1, a24]
    exact congrArg (fun z => (S 19 7) + z) (psm_cg q (fun x hx => (y24 x (by omega)).symm))
  · rw [y24 q hq, h24 q hq]; exact (oct_rg _ _ _).1
/-- what commit leaves: room, places, instructions in order, functions finished -/
def cmP (f : Int) (F : List pz_F) (N0 : Nat) (S Z : wS) : Prop := ∃ A1 A2 R : wS, ai_ag (N0 : Int) (w_up (w_up (w_up S 30 (S 19 3) (S 19 1)) 19 3 ((S 19 3) + 1)) 19 1 ((S 19 1) + (S 63 10))) A1 ∧ c1I f (S 19 7) F.length A1 A2 ∧ c2I f (S 19 7) F.length N0 A2 R ∧ c3I f F (S 19 7) F.length R Z
set_option maxHeartbeats 4000000 in
theorem cm_ok (hk : kf_I f F S) (h1 : S 19 1 = f) (h3 : 0 ≤ S 19 3 ∧ S 19 3 < 16) (hI : gI S) (hL : nt_L S) (h63 : S 63 7 = (N0 : Int)) (h7 : 0 ≤ S 19 7 ∧ S 19 7 + (N0 : Int) ≤ 20000) (l32 : S 32 (-1) = S 31 (-1)) (l33 : S 33 (-1) = S 31 (-1)) (hl : 64 ≤ S 31 (-1) ∧ S 31 (-1) ≤ 40000) (hs : si_L S) (hd : dN (S 35) (S 36) (S 37) (S 40) (S 19 9) (S 19 16)) (ho : ∀ x : Nat, x < N0 → f ≤ S 67 x ∧ S 67 x < f + (F.length : Int)) (h24 : ∀ k : Nat, k < F.length → S 24 (f + (k : Int)) = oct (S 67) (f + (k : Int)) N0) (h9 : ∀ A1 A2 R : wS, ai_ag (N0 : Int) (w_up (w_up (w_up S 30 (S 19 3) (S 19 1)) 19 3 ((S 19 3) + 1)) 19 1 ((S 19 1) + (S 63 10))) A1 → c1I f (S 19 7) F.length A1 A2 → c2I f (S 19 7) F.length N0 A2 R → R 19 9 + ssm R f F.length ≤ 4000) : wJ (pe_GA xs) wY0 (mS [31, 32, 33, 35, 36, 37, 38, 39, 40, 41, 42, 43, 44, 45, 46, 58, 59]) (d + 5) t_XP_commit ((pe_at t_XP_commit.bl 0).getD (0, [])).2 [(0, (2, 63))] [] S (fun o Z => o = .inl (some (0, S 19 3)) ∧ cmP f F N0 S Z) := by
  have hC := hk.1.1
  obtain ⟨k1, k2, k3⟩ := hk.2.1
  refine wa_aload_n (n := 0) rfl ?_
  refine wb_gf4 63 rfl (wy_pr rfl) wt_63 wf_1_2 (v := 19) wl_63_2 ?_
  refine wb_gfi 19 rfl (wy_pr rfl) wt_19 wf_0_3 (v := (S 19 3)) rfl (fun r101 => ?_)
  refine wa_istore_n (n := 1) rfl ?_
  refine wa_aload_n (n := 0) rfl ?_
  refine wb_gf4 63 rfl (wy_pr rfl) wt_63 wf_1_2 (v := 19) wl_63_2 ?_
  refine wb_gfi 19 rfl (wy_pr rfl) wt_19 wf_0_1 (v := (S 19 1)) rfl (fun r102 => ?_)
  refine wa_istore_n (n := 2) rfl ?_
  refine wa_aload_n (n := 0) rfl ?_
  refine wb_gf4 63 rfl (wy_pr rfl) wt_63 wf_1_2 (v := 19) wl_63_2 ?_
  refine wb_gfi 19 rfl (wy_pr rfl) wt_19 wf_0_7 (v := (S 19 7)) rfl (fun r103 => ?_)
  refine wa_istore_n (n := 3) rfl ?_
  refine wa_aload_n (n := 0) rfl ?_
  refine wb_gf4 63 rfl (wy_pr rfl) wt_63 wf_1_2 (v := 19) wl_63_2 ?_
  refine wb_gf4 19 rfl (wy_pr rfl) wt_19 wf_0_2 (v := 30) wl_19_2 ?_
  refine wa_iload_n (n := 1) rfl ?_
  refine wa_iload_n (n := 2) rfl ?_
  refine wb_iast 30 rfl (wy_pr rfl) wt_30 (n := 16) ((cl_30 hC)) (by omega) (by omega) ⟨(by omega), (by omega)⟩ ?_
  refine wa_aload_n (n := 0) rfl ?_
  refine wb_gf4 63 rfl (wy_pr rfl) wt_63 wf_1_2 (v := 19) wl_63_2 ?_
  refine wa_dup (by decide) ?_
  refine wb_gfi 19 rfl (wy_pr rfl) wt_19 wf_0_3 (v := (S 19 3)) (w_up_slot (by decide)) (fun r104 => ?_)
  refine wa_iconst ?_
  refine wa_iadd ?_
  refine wb_pfi 19 rfl (wy_pr rfl) wt_19 wf_0_3 (n := 3) rfl ⟨(by omega), (by omega)⟩ ?_
  refine wa_aload_n (n := 0) rfl ?_
  refine wb_gf4 63 rfl (wy_pr rfl) wt_63 wf_1_2 (v := 19) wl_63_2 ?_
  refine wa_dup (by decide) ?_
  refine wb_gfi 19 rfl (wy_pr rfl) wt_19 wf_0_1 (v := (S 19 1)) ((w_up_at (by decide)).trans (w_up_slot (by decide))) (fun r105 => ?_)
  refine wa_aload_n (n := 0) rfl ?_
  refine wb_gfi 63 rfl (wy_pr rfl) wt_63 wf_1_10 (v := (S 63 10)) ((w_up_slot (by decide)).trans (w_up_slot (by decide))) (fun r106 => ?_)
  refine wa_iadd ?_
  refine wb_pfi 19 rfl (wy_pr rfl) wt_19 wf_0_1 (n := 1) rfl ⟨(by omega), (by omega)⟩ ?_
  refine wa_aload_n (n := 0) rfl ?_
  refine wb_gf4 63 rfl (wy_pr rfl) wt_63 wf_1_2 (v := 19) wl_63_2 ?_
  refine wa_aload_n (n := 0) rfl ?_
  refine wb_gfi 63 rfl (wy_pr rfl) wt_63 wf_1_7 (v := (N0 : Int)) ((w_up_slot (by decide)).trans ((w_up_slot (by decide)).trans ((w_up_slot (by decide)).trans (h63)))) (fun r107 => ?_)
  have gI3 : gI (w_up (w_up (w_up S 30 (S 19 3) (S 19 1)) 19 3 ((S 19 3) + 1)) 19 1 ((S 19 1) + (S 63 10))) := (gI_up (gI_up (gI_up hI (by omega) (by omega) (by omega)) (by omega) (by omega) (by omega)) (by omega) (by omega) (by omega))
  refine wa_cv 19 rfl (wy_pr rfl) wt_19 (M2 := mS [31, 32, 33]) rfl at_XC_addInstructions ⟨_, rfl⟩ rfl rfl ⟨trivial, trivial, trivial, (Or.inr ⟨wy_pr rfl, mS_no rfl⟩), trivial⟩ trivial (fun _ _ q => mS_sub (by decide) q) (ai_ok (S := (w_up (w_up (w_up S 30 (S 19 3) (S 19 1)) 19 3 ((S 19 3) + 1)) 19 1 ((S 19 1) + (S 63 10)))) (m := (N0 : Int)) gI3 (by omega) h7 l32 l33 hl) (fun oq108 Sq108 hp109 q108 => ?_)
  rcases q108 with ⟨rfl, hai⟩
  show wJ _ _ _ _ _ _ _ _ _ _
  refine wa_iload_n (n := 2) rfl ?_
  refine wa_istore (n := 4) rfl ?_
  refine wa_fall ⟨_, rfl⟩ ?_
  have hb := hai
  obtain ⟨b1, ⟨b2, b3, b4, b5, b6⟩, b7, b8, b9, b10⟩ := hb
  have fr : ∀ (j : Nat) (i : Int), j < 4000000 → j ≠ wG → j ≠ 31 → j ≠ 32 → j ≠ 33 → j ≠ 30 → j ≠ 19 → Sq108 j i = S j i := fun j i j0 j1 j2 j3 j4 j5 j6 => (b8 j i j0 j1 j2 j3 j4 (Or.inl j6)).trans ((w_up_no (by omega)).trans ((w_up_no (by omega)).trans ((w_up_no (by omega)).trans (rfl))))
  have fr19 : ∀ i : Int, i ≠ 7 → i ≠ 3 → i ≠ 1 → Sq108 19 i = S 19 i := fun i i1 i2 i3 => (b8 19 i (by decide) (by decide) (by decide) (by decide) (by decide) (Or.inr i1)).trans ((w_up_no (by omega)).trans ((w_up_no (by omega)).trans ((w_up_no (by omega)).trans (rfl))))
  have e191 : Sq108 19 1 = f + ((F.length : Nat) : Int) := (b8 19 1 (by decide) (by decide) (by decide) (by decide) (by decide) (Or.inr (by decide))).trans ((w_up_same _ _ _ _).trans (by rw [h1, k1]))
  have aC : w_CL Sq108 := fun y hy => (b8 y.1 (-1) (by have := wz_lt y hy; omega) (by have := wz_lt y hy; unfold wG; omega) (by have := wz_fi y hy; omega) (by have := wz_fi y hy; omega) (by have := wz_fi y hy; omega) (Or.inr (by decide))).trans (((w_up_no (by omega)).trans ((w_up_no (by omega)).trans ((w_up_no (by omega)).trans (rfl)))).trans (hC y hy))
  have ak : kf_I f F Sq108 := kf_ag hk aC (fun j x hj => fr j x (by omega) (by have : wG = 1000000 := rfl; omega) (by omega) (by omega) (by omega) (by omega) (by omega))
  have a24 : Sq108 24 = S 24 := funext fun x => fr 24 x (by decide) (by decide) (by decide) (by decide) (by decide) (by decide) (by decide)
  have a67 : Sq108 67 = S 67 := funext fun x => fr 67 x (by decide) (by decide) (by decide) (by decide) (by decide) (by decide) (by decide)
  have hps : psm (Sq108 24) f F.length = (N0 : Int) := by
    rw [a24]
    exact (psm_cg (H := fun u => oct (S 67) u N0) F.length (fun q hq => h24 q hq)).trans (psm_oct N0 ho)
  have hn0 : ∀ q : Nat, q < F.length → 0 ≤ Sq108 24 (f + (q : Int)) := fun q hq => by rw [a24, h24 q hq]; exact (oct_rg _ _ _).1
  have aL : nt_L Sq108 := by
    unfold nt_L
    rw [fr 63 7 (by decide) (by decide) (by decide) (by decide) (by decide) (by decide) (by decide), fr 64 (-1) (by decide) (by decide) (by decide) (by decide) (by decide) (by decide) (by decide), fr 65 (-1) (by decide) (by decide) (by decide) (by decide) (by decide) (by decide) (by decide), fr 66 (-1) (by decide) (by decide) (by decide) (by decide) (by decide) (by decide) (by decide), fr 67 (-1) (by decide) (by decide) (by decide) (by decide) (by decide) (by decide) (by decide)]
    exact hL
  have asi : si_L Sq108 := si_L_ag hs (fun j x hj => by
    by_cases q : j = 19
    · subst q; exact fr19 x (by omega) (by omega) (by omega)
    · exact fr j x (by omega) (by have : wG = 1000000 := rfl; omega) (by omega) (by omega) (by omega) (by omega) q)
  have eL : S 19 7 = S 19 7 + psm (Sq108 24) f 0 := by show _ = S 19 7 + 0; omega
  have eF : S 19 1 = f + ((0 : Nat) : Int) := by omega
  refine wJ_S (cm_1 (S := Sq108) (p := S 19 7) (un := S 19 3) (m := F.length) aC e191 ⟨k2, k3⟩ ⟨h7.1, by omega⟩ hn0 (fun Z2 hz2 => ?_) (F.length + 1) 0 Sq108 (by omega) (Nat.zero_le _) (c1I_0 b9)) ⟨rfl, rfl, ?_, ?_, ?_, trivial⟩
  · refine wJ_mono (cm_2 (S := S) (A := Sq108) h1 h3 h63 h7 ho h24 (fun R hR => h9 Sq108 Z2 R hai hz2 hR) hz2 ak e191 ((fr 63 7 (by decide) (by decide) (by decide) (by decide) (by decide) (by decide) (by decide)).trans h63) aL asi ?_ a24 a67 b2 b3 ⟨by have e7 : (w_up (w_up (w_up S 30 (S 19 3) (S 19 1)) 19 3 ((S 19 3) + 1)) 19 1 ((S 19 1) + (S 63 10))) 19 7 = S 19 7 := (w_up_no (by omega)).trans ((w_up_no (by omega)).trans ((w_up_no (by omega)).trans (rfl))); rw [e7] at b4; exact b4, b6.1⟩) (fun o Z hz => ?_)
    · rw [fr19 9 (by decide) (by decide) (by decide), fr19 16 (by decide) (by decide) (by decide), show Sq108 35 = S 35 from funext fun x => fr 35 x (by decide) (by decide) (by decide) (by decide) (by decide) (by decide) (by decide), show Sq108 36 = S 36 from funext fun x => fr 36 x (by decide) (by decide) (by decide) (by decide) (by decide) (by decide) (by decide), show Sq108 37 = S 37 from funext fun x => fr 37 x (by decide) (by decide) (by decide) (by decide) (by decide) (by decide) (by decide), show Sq108 40 = S 40 from funext fun x => fr 40 x (by decide) (by decide) (by decide) (by decide) (by decide) (by decide) (by decide)]
      exact hd
    · obtain ⟨h0, R, hR1, hR2⟩ := hz
      exact ⟨h0, Sq108, Z2, R, hai, hz2, hR1, hR2⟩
  · rw [h1]; rfl
  · rw [← eL]; rfl
  · rw [← eF]; rfl
end Wbp
