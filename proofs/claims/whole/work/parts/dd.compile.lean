/-! PART dd: compile of both, by one relation. -/
section Wdd
variable {xs : List (Nat × List Int32)} {M : Nat → Prop} {d : Nat} {A B C S Z : wS} {Q : wO → wS → Prop}
variable {f0 u a b op : Int} {I : List pz_I} {F : List pz_F} {x : pz_I} {k r : Nat}
variable {n p sb un : Int} {T : Int → Int} {N X N2 X2 : List (List Int)} {c m pm pm2 i2 : Nat} {Z1 S1 Z2 : wS} {F2 : List pz_F} {I2 : List pz_I} {t0 m0 ob ph qh b b2 : Nat}
/-- names, code and sites of both -/
def RK (N X : List (List Int)) (m pm : Nat) (S : wS) : Prop := cK N X S ∧ wk m S ∧ (mN N S ∧ mX X S ∧ rZ pm S ∧ rD S) ∧ mK S ∧ mW S
/-- the room that a call of both takes -/
def rmB (pm pm2 : Nat) (k : Int) (S Z : wS) : Prop := (Z wG 0 + phA pm2 Z ≤ S wG 0 + phA pm S + 2 * (gl Z - gl S) + k ∧ 16 * Z wG 1 + 2 * phA pm2 Z ≤ 16 * S wG 1 + 2 * phA pm S + (gl Z - gl S) + 2 * k + 16) ∧ rX S Z
theorem cK_ag (h : cK N X S) (e : ∀ j : Nat, j < 237 → Z j = S j) : cK N X Z := by
  obtain ⟨⟨a1, a2, a3, a4⟩, ⟨a5, a6, a7⟩, a8, a9, a10, a11⟩ := h
  have e2 : ∀ x : Nat, x ≤ 10 → Z (2 + x) = S (2 + x) := fun x hx => e _ (by omega)
  refine ⟨⟨w2_ag a1 e2, fun k hk => wqL_eq (a2 k hk) ⟨e 3 (by first | decide | omega), e 4 (by first | decide | omega), e 5 (by first | decide | omega)⟩, cL_eq a3 e2 (Or.inl rfl), cL_eq a4 e2 (Or.inr rfl)⟩, ⟨ntL_ag a5 (congrFun (e 63 (by first | decide | omega)) 7) (fun j j0 j1 => congrFun (e j (by omega)) (-1)), vaL_ag a6 (congrFun (e 63 (by first | decide | omega)) 13) (fun j j0 j1 => congrFun (e j (by omega)) (-1)), by rw [e 64 (by first | decide | omega)]; exact a7⟩, by rw [e 4 (by first | decide | omega), e 3 (by first | decide | omega)]; exact a8, by rw [e 31 (by first | decide | omega), e 32 (by first | decide | omega), e 33 (by first | decide | omega), e 19 (by first | decide | omega)]; exact a9, si_L_ag a10 (fun j x hj => congrFun (e j (by omega)) x), ?_⟩
  rw [e 35 (by first | decide | omega), e 36 (by first | decide | omega), e 37 (by first | decide | omega), e 40 (by first | decide | omega), e 19 (by first | decide | omega)]
  exact a11
theorem cR_ag {k : Nat} (h : cRf f0 I F un p sb k S) (e : ∀ j : Nat, j < 237 → Z j = S j) : cRf f0 I F un p sb k Z := by
  obtain ⟨⟨a1, a2, a3, a4, a5, a6, a7⟩, a8⟩ := h
  refine ⟨by rw [e 21 (by first | decide | omega), e 22 (by first | decide | omega), e 23 (by first | decide | omega), e 24 (by first | decide | omega), e 25 (by first | decide | omega), e 26 (by first | decide | omega), e 27 (by first | decide | omega)]; exact ⟨a1, a2, a3, a4, a5, a6, a7⟩, fun t ht => ?_⟩
  obtain ⟨b1, b2⟩ := a8 t ht
  refine ⟨by rw [e 31 (by first | decide | omega), e 32 (by first | decide | omega), e 33 (by first | decide | omega)]; exact b1, fun q => ?_⟩
  obtain ⟨c1, c2, c3, c4, c5, c6, c7⟩ := b2 q
  exact ⟨by rw [e 35 (by first | decide | omega)]; exact c1, by rw [e 36 (by first | decide | omega)]; exact c2, by rw [e 37 (by first | decide | omega)]; exact c3, by rw [e 38 (by first | decide | omega)]; exact c4, by rw [e 39 (by first | decide | omega)]; exact c5, fun j j0 j1 => by rw [e j (by omega)]; exact c6 j j0 j1, by rw [e 46 (by first | decide | omega)]; exact c7⟩
theorem gI_c5 (hI : gI Z) (hz : (∀ (j : Nat) (x : Int), j ≠ wG → (j < 2000000 ∨ 4000000 ≤ j) → j ≠ 240 → (j < 281 ∨ 292 < j) → (j ≠ 238 ∨ (x ≠ 5 ∧ x ≠ 6)) → (j ≠ 237 ∨ (x < 0 ∨ x = 1 ∨ x = 2 ∨ (12 < x ∧ x < 16) ∨ (16 < x ∧ x < 19) ∨ (20 < x ∧ x < 25) ∨ (29 < x ∧ x < 59) ∨ 61 < x)) → ((j < 293 ∨ 313 < j) ∧ j ≠ 376) → (j ≠ 237 ∨ (x ≠ 33 ∧ x ≠ 34 ∧ x ≠ 43 ∧ x ≠ 47 ∧ x ≠ 48)) → Z2 j x = Z j x)) : gI Z2 := by
  have hw : wG = 1000000 := rfl
  refine ⟨fun k q1 q2 => hI.1 k q1 ?_, fun i hi => ?_, ?_⟩
  · rw [hz k (-1) (by omega) (Or.inr q1) (by omega) (by omega) (by omega) (by omega) (by omega) (by omega)] at q2; exact q2
  · rw [hz 238 i (by first | decide | omega) (by first | decide | omega) (by first | decide | omega) (by first | decide | omega) (by omega) (Or.inl (by first | decide | omega)) (by first | decide | omega) (Or.inl (by first | decide | omega))]; exact hI.2.1 i hi
  · rw [hz 14 5 (by first | decide | omega) (by first | decide | omega) (by first | decide | omega) (by first | decide | omega) (by first | decide | omega) (by first | decide | omega) (by first | decide | omega) (by first | decide | omega)]; exact hI.2.2
theorem lo_c5 (hz : (∀ (j : Nat) (x : Int), j ≠ wG → (j < 2000000 ∨ 4000000 ≤ j) → j ≠ 240 → (j < 281 ∨ 292 < j) → (j ≠ 238 ∨ (x ≠ 5 ∧ x ≠ 6)) → (j ≠ 237 ∨ (x < 0 ∨ x = 1 ∨ x = 2 ∨ (12 < x ∧ x < 16) ∨ (16 < x ∧ x < 19) ∨ (20 < x ∧ x < 25) ∨ (29 < x ∧ x < 59) ∨ 61 < x)) → ((j < 293 ∨ 313 < j) ∧ j ≠ 376) → (j ≠ 237 ∨ (x ≠ 33 ∧ x ≠ 34 ∧ x ≠ 43 ∧ x ≠ 47 ∧ x ≠ 48)) → Z2 j x = Z j x)) : ∀ j : Nat, j < 237 → Z2 j = Z j := fun j hj => funext fun x => hz j x (by have : wG = 1000000 := rfl; omega) (by omega) (by omega) (by omega) (by omega) (by omega) (by omega) (by omega)
/-- tape and hosts, behind a compile of both -/
theorem RA_c5 (hph : 72 < ph ∧ ph < 237) (hbb : 240 < b ∧ b + 19 < 281) (htt : 72 < t0 ∧ t0 + 4 < 237 ∧ 72 < m0 ∧ m0 + 14 < 237 ∧ 72 < ob ∧ ob < 237) (hR : RA t0 m0 ob ph qh b b2 S) (hW : cW Z) (hfr : cfr S Z) (h0 : Z 0 1 = 0) (hz : (∀ (j : Nat) (x : Int), j ≠ wG → (j < 2000000 ∨ 4000000 ≤ j) → j ≠ 240 → (j < 281 ∨ 292 < j) → (j ≠ 238 ∨ (x ≠ 5 ∧ x ≠ 6)) → (j ≠ 237 ∨ (x < 0 ∨ x = 1 ∨ x = 2 ∨ (12 < x ∧ x < 16) ∨ (16 < x ∧ x < 19) ∨ (20 < x ∧ x < 25) ∨ (29 < x ∧ x < 59) ∨ 61 < x)) → ((j < 293 ∨ 313 < j) ∧ j ≠ 376) → (j ≠ 237 ∨ (x ≠ 33 ∧ x ≠ 34 ∧ x ≠ 43 ∧ x ≠ 47 ∧ x ≠ 48)) → Z2 j x = Z j x)) (h3 : Z2 237 3 = 0) (hM : w_ML Z2) : RA t0 m0 ob ph qh b b2 Z2 := by
  obtain ⟨r1, r2, r3, ⟨r4, r5⟩, r6, r7, r8⟩ := hR
  have hw : wG = 1000000 := rfl
  have lo := lo_c5 hz
  have cr : ∀ j : Nat, 72 ≤ j → j < 400 → Z j = S j := fun j j0 j1 => funext fun x => hfr j x (by omega) (by omega) (by omega)
  have e0 : Z2 0 1 = 0 := by rw [lo 0 (by first | decide | omega)]; exact h0
  refine ⟨cW_ag hW (gI_c5 hW.2.1 hz) lo, ?_, hM, ⟨?_, ?_⟩, by rw [e0, h3], fun i i0 i1 => by omega, ?_⟩
  · unfold cH at r2 ⊢
    rw [lo 72 (by first | decide | omega), lo 0 (by first | decide | omega), lo 150 (by first | decide | omega), lo ph (by omega), cr 72 (by first | decide | omega) (by first | decide | omega), cr 150 (by first | decide | omega) (by first | decide | omega), cr ph (by omega) (by omega), hfr 0 10 (by first | decide | omega) (by first | decide | omega) (by omega)]
    exact r2
  · rw [hz 237 13 (by first | decide | omega) (by first | decide | omega) (by first | decide | omega) (by first | decide | omega) (by first | decide | omega) (by first | decide | omega) (by first | decide | omega) (by first | decide | omega), hfr 237 13 (by first | decide | omega) (by first | decide | omega) (by omega)]; exact r4
  · rw [hz 237 14 (by first | decide | omega) (by first | decide | omega) (by first | decide | omega) (by first | decide | omega) (by first | decide | omega) (by first | decide | omega) (by first | decide | omega) (by first | decide | omega), hfr 237 14 (by first | decide | omega) (by first | decide | omega) (by omega)]; exact r5
  · refine KQ_ag (lo := 73) (hi := 236) r8 (fun j j0 j1 => (lo j (by omega)).trans (cr j (by omega) (by omega))) (fun j j0 j1 => (funext fun x => hz j x (by omega) (by omega) (by omega) (by omega) (by omega) (by omega) (by omega) (by omega)).trans (cr j (by omega) (by omega))) (by omega)
/-- the room of both -/
theorem rm_c5 {k : Int} (hc : rm6 S Z) (hp : phA pm Z = phA pm S) (hz : (∀ (j : Nat) (x : Int), j ≠ wG → (j < 2000000 ∨ 4000000 ≤ j) → j ≠ 240 → (j < 281 ∨ 292 < j) → (j ≠ 238 ∨ (x ≠ 5 ∧ x ≠ 6)) → (j ≠ 237 ∨ (x < 0 ∨ x = 1 ∨ x = 2 ∨ (12 < x ∧ x < 16) ∨ (16 < x ∧ x < 19) ∨ (20 < x ∧ x < 25) ∨ (29 < x ∧ x < 59) ∨ 61 < x)) → ((j < 293 ∨ 313 < j) ∧ j ≠ 376) → (j ≠ 237 ∨ (x ≠ 33 ∧ x ≠ 34 ∧ x ≠ 43 ∧ x ≠ 47 ∧ x ≠ 48)) → Z2 j x = Z j x)) (h1 : Z2 wG 0 + phA pm2 Z2 ≤ Z wG 0 + phA pm Z + k) (h2 : 8 * Z2 wG 1 - Z2 wG 0 ≤ 8 * Z wG 1 - Z wG 0) : rmB pm pm2 (k + 6) S Z2 := by
  have e : gl Z2 = gl Z := gl_same gl_l (fun a ha => congrFun (lo_c5 hz a (gl_lt a ha)) (-1))
  have hc1 := hc.1.1
  have hc2 := hc.1.2
  unfold rmB
  rw [e]
  exact ⟨⟨by omega, by omega⟩, rX_ag hc.2 (fun k hk => congrFun (lo_c5 hz k hk) (-1))⟩
theorem xr_rm (h : xr_G S Z) : rm6 S Z := by
  obtain ⟨Z1, h1, h2, h3, h4⟩ := h
  exact rm6_x h1 (fun k hk => h2 k (by omega)) h3 h4
/-- the tables of code behind a unit that has come to the class -/
theorem ck_t (hrq : rq_I T n N X (cB n (w_up S 0 1 0)) A c) (hg : cQg f0 0 0 A S1) (hC : kC f0 I F un p sb (w_up S1 63 11 (-1)) Z) : ∀ (j : Nat) (x : Int), ((21 ≤ j ∧ j ≤ 29 ∧ x < f0) ∨ (j = 30 ∧ x ≠ un) ∨ (31 ≤ j ∧ j ≤ 33 ∧ 0 ≤ x ∧ x < p) ∨ (35 ≤ j ∧ j ≤ 46 ∧ 0 ≤ x ∧ x < sb)) → Z j x = S j x := by
  have fA := rq_fr0 hrq
  have hw : wG = 1000000 := rfl
  intro j x hj
  rw [hC.2.2.1 j x (by omega) (by omega) (by omega) (by omega) (by omega) (by omega) (by omega), w_up_slot (by omega), hg.1 j x (by omega) (by omega) (by omega) (by omega) (by omega) (by omega) (by omega)]
  exact fA j x (by omega) (by omega) (by omega) (by omega)
/-- the empty tape -/
theorem cW_01 (h : cW S) (hN : cN N X S) : cW (w_up S 0 1 0) := cW_mk h (w_CL_up h.1 (by first | decide | omega)) (gI_up h.2.1 (by omega) (by omega) (by omega)) (cN_01 hN).1 h.2.2.2.2.2.1 (w_up_same _ _ _ _) (fun j x h1 h2 h3 => w_up_no (by omega))
theorem cfr_01 : cfr S (w_up S 0 1 0) := fun j x h1 h2 h3 => w_up_no (by omega)
theorem cK_01 (h : cK N X S) : cK N X (w_up S 0 1 0) := by
  obtain ⟨a1, ⟨a5, a6, a7⟩, a8, a9, a10, a11⟩ := h
  exact ⟨cN_01 a1, ⟨ntL_ag a5 (w_up_slot (by first | decide | omega)) (fun j j0 j1 => w_up_slot (by omega)), vaL_ag a6 (w_up_slot (by first | decide | omega)) (fun j j0 j1 => w_up_slot (by omega)), a7⟩, a8, a9, si_L_ag a10 (fun j x hj => w_up_slot (by omega)), a11⟩
/-- what the class leaves is enough for the reference -/
theorem kq_0 {T : Int → Int} {n : Int} {N X : List (List Int)} {i : Nat} (h : kq T n N X i = 0) : n ≤ tp T n 0 i := by
  have h1 := sk_rg (lx_si T n 0 (tp T n 0 i))
  have h2 := kwL_rg (nmx T n (tp T n 0 i))
  unfold kq at h
  split at h
  · assumption
  · exfalso
    unfold kp at h
    repeat' (split at h)
    all_goals omega
theorem c5_r (hph : 72 < ph ∧ ph < 237) (hbb : 240 < b ∧ b + 19 < 281) (htt : 72 < t0 ∧ t0 + 4 < 237 ∧ 72 < m0 ∧ m0 + 14 < 237 ∧ 72 < ob ∧ ob < 237) {o : pz_O} {o1 : wO} {M2 : Nat → Prop} {D2 : Nat} (hX : w_X xs) (hR : RA t0 m0 ob ph qh b b2 S) (hK : RK N X m pm S) (hW : cW Z) (hfr : cfr S Z) (h0 : Z 0 1 = 0) (hc : rm6 S Z) (hder : ∀ b0 b1 : Int, S 237 33 < 16 → S 237 34 < 400 → rRA xs (S 239) (S 237 3) N X (S 237 34) b0 b1 0 0 [] 0 0 (S 237 34) [] [(-1, 0, [])] o) (h9 : ∀ (i2 : Nat) (I2 : List pz_I) (F2 : List pz_F) (t : Int), o = .inr (i2, I2, F2, t) → nK (S 237 34) I2 ∧ ∀ nn nx : Int, tV nn nx (kq (S 239) (S 237 3) N X) (vq (S 239) (S 237 3) N X) → RT nn nx (S 237 34) 0 0 [] 0 0 (S 237 34) [] [(-1, 0, [])] (.inr (i2, I2, F2, t))) (hf : ∀ v : Int, cpF (S 239) (S 237 3) N X (S 237 34) (S 237 33) (S 237 43) (S 237 47) o v → o1 = .inl (some (0, -1 - v)) ∧ ∀ Z2 : wS, cpr Z Z2 → cK N X Z ∧ wk m Z ∧ mK Z2) (hs : ∀ (i2 : Nat) (I2 : List pz_I) (F2 : List pz_F) (t : Int), o = .inr (i2, I2, F2, t) → kq (S 239) (S 237 3) N X i2 = 0 → (S 237 43 + (I2.length : Int) + 2 ≤ 20000 ∧ S 237 47 + pz_s I2 ≤ 4000) → o1 = .inl (some (0, S 237 33)) ∧ ∀ Z2 : wS, kW (S 237 34) (I2 ++ [(0, 0, 0, S 237 34)] ++ [(29, 0, 0, S 237 34)]) F2 (S 237 33) (S 237 43) (S 237 47) Z Z2 → cK (NL (S 239) (S 237 3) N i2) (XL (S 239) (S 237 3) X i2) Z ∧ wk m Z ∧ mK Z2) : wJ (pe_GA xs) wY0 M2 (D2 + 1061) t_M_compile ((pe_at t_M_compile.bl 0).getD (0, [])).2 [(0, (2, 237))] [] Z (fun o2 Z2 => o1 = o2 ∧ ∃ (N2 X2 : List (List Int)) (pm2 : Nat), RA t0 m0 ob ph qh b b2 Z2 ∧ RK N2 X2 m pm2 Z2 ∧ rmB pm pm2 (24 * S 237 3 + 246) S Z2) := by
  obtain ⟨k1, k2, ⟨k3, k4, k5, k6⟩, k7⟩ := hK
  have hw : wG = 1000000 := rfl
  have cr : ∀ j : Nat, 72 ≤ j → j < 400 → Z j = S j := fun j j0 j1 => funext fun x => hfr j x (by omega) (by omega) (by omega)
  have e237 : ∀ x : Int, Z 237 x = S 237 x := fun x => congrFun (cr 237 (by first | decide | omega) (by first | decide | omega)) x
  have hM : w_ML Z := fun q hq => (congrFun (cr q.1 (by have := wy_lt q hq; omega) (by have := wy_lt q hq; omega)) (-1)).trans (hR.2.2.1 q hq)
  obtain ⟨z5, z5b⟩ := rZ_ag (Z := Z) k5 (fun j x hj => hfr j x (by omega) (by omega) (by omega))
  have zN : mN N Z := by
    unfold mN at k3 ⊢
    rw [cr 281 (by first | decide | omega) (by first | decide | omega), cr 282 (by first | decide | omega) (by first | decide | omega), e237]; exact k3
  have zX : mX X Z := by
    unfold mX at k4 ⊢
    rw [cr 283 (by first | decide | omega) (by first | decide | omega), cr 284 (by first | decide | omega) (by first | decide | omega), cr 285 (by first | decide | omega) (by first | decide | omega), e237, e237]; exact k4
  have zD : rD Z := rD_ag k6 (fun j x hj => hfr j x (by omega) (by omega) (by omega))
  have h3 : 0 ≤ S 237 3 ∧ S 237 3 ≤ 65536 := by
    have a := hR.1.2.2.2.2.2.2.2.1
    have b := hR.2.2.2.2.1
    omega
  refine wJ_mono (cp_w (D := D2) (S := Z) (T := S 239) (n := S 237 3) (un := S 237 33) (f0 := S 237 34) (p := S 237 43) (sb := S 237 47) hX hM (by rw [e237]; exact h3) (cr 239 (by first | decide | omega) (by first | decide | omega)) (e237 3) zN zX (e237 33) ⟨k7.1.2.1.2.1, k7.1.2.1.2.2⟩ (e237 34) ⟨k7.1.1.2.1, k7.1.1.2.2⟩ z5 (e237 43) ⟨k7.1.2.2.1.2.1, k7.1.2.2.1.2.2⟩ (e237 47) ⟨k7.1.2.2.2.1.2.1, k7.1.2.2.2.1.2.2⟩ zD hder (fun a b c e q => (h9 a b c e q).1)) (fun o2 Z2 hz2 => ?_)
  rcases hz2 with ⟨v, hv, rfl, ⟨⟨y1, y2⟩, ⟨pm2, y3, y4, y5⟩, y6, y7, y8⟩, hcp⟩ | ⟨i2, I2, F2, t, rfl, ⟨hl1, hl2⟩, hk0, hfit, rfl, ⟨⟨y1, y2⟩, ⟨pm2, y3, y4, y5⟩, y6, y7, y8⟩, hkW⟩
  · obtain ⟨g1, g2⟩ := hf v hv
    obtain ⟨g3, g4, g5⟩ := g2 Z2 hcp
    have fq : ∀ (j : Nat) (x : Int), (292 < j ∧ j < 314) → Z2 j x = S j x := fun j x hj => (hcp j x (by omega) (by omega) (by omega) (by omega) (by omega) (by omega)).trans (hfr j x (by omega) (by omega) (by omega))
    have mw : mW Z2 := mW_ag k7.2 k7.1 ⟨by rw [k3.1, y1.1]; omega, by rw [k4.1, y2.1]; omega⟩ (fun x hx => (hcp 237 x (by first | decide | omega) (by first | decide | omega) (by first | decide | omega) (by first | decide | omega) (Or.inl (by first | decide | omega)) (by omega)).trans (e237 x)) (fun j x hj _ => fq j x (by omega)) (fun j x hj _ => fq j x (by omega))
    have hz : (∀ (j : Nat) (x : Int), j ≠ wG → (j < 2000000 ∨ 4000000 ≤ j) → j ≠ 240 → (j < 281 ∨ 292 < j) → (j ≠ 238 ∨ (x ≠ 5 ∧ x ≠ 6)) → (j ≠ 237 ∨ (x < 0 ∨ x = 1 ∨ x = 2 ∨ (12 < x ∧ x < 16) ∨ (16 < x ∧ x < 19) ∨ (20 < x ∧ x < 25) ∨ (29 < x ∧ x < 59) ∨ 61 < x)) → ((j < 293 ∨ 313 < j) ∧ j ≠ 376) → (j ≠ 237 ∨ (x ≠ 33 ∧ x ≠ 34 ∧ x ≠ 43 ∧ x ≠ 47 ∧ x ≠ 48)) → Z2 j x = Z j x) := fun j x q1 q2 q3 q4 q5 q6 _ _ => hcp j x q1 q2 q3 (q4.imp id Or.inl) q5 q6
    have lo := lo_c5 hz
    refine ⟨g1, N, X, pm2, RA_c5 hph hbb htt hR hW hfr h0 hz y7 y8, ⟨cK_ag g3 lo, by unfold wk at g4 ⊢; rw [lo 2 (by first | decide | omega), lo 0 (by first | decide | omega)]; exact g4, ⟨y1, y2, y3, rD_ag zD (fun j x hj => hcp j x (by omega) (by omega) (by omega) (by omega) (by omega) (by omega))⟩, g5, mw⟩, ?_⟩
    have := rm_c5 (pm2 := pm2) hc z5b hz (k := 24 * S 237 3 + 240) (by omega) y5
    rw [show 24 * S 237 3 + 240 + 6 = 24 * S 237 3 + 246 by omega] at this
    exact this
  · obtain ⟨g1, g2⟩ := hs i2 I2 F2 t rfl hk0 hfit
    obtain ⟨g3, g4, g5⟩ := g2 Z2 hkW
    obtain ⟨JN, hJN⟩ := NL_pr (S 239) (S 237 3) N i2
    obtain ⟨JX, hJX⟩ := XL_pr (S 239) (S 237 3) X i2
    have hTy := (unit_T ((h9 i2 I2 F2 t rfl).2 _ _ (tV_q (c := i2) (kq_0 hk0)))).2.2
    have ff : ∀ (j : Nat) (x : Int), (292 < j ∧ j < 400) → Z j x = S j x := fun j x hj => hfr j x (by omega) (by omega) (by omega)
    have mw : mW Z2 := mW_s k7.2 k7.1 rfl rfl rfl rfl hkW.2.2.2.2.1.2 hkW.2.2.2.2.2.1 hkW.2.2.2.2 hTy hkW.1 hkW.2.1 y1.1.symm y2.1.symm ⟨by rw [k3.1, y1.1, hJN, List.length_append]; omega, by rw [k4.1, y2.1, hJX, List.length_append]; omega⟩ (fun j x hj x0 x1 => (hkW.2.2.1 j x (by omega) (by omega) (by omega) (by omega) (by omega) (by omega) (by omega) (by omega)).trans (ff j x (by omega))) (fun x x0 x1 => (hkW.2.2.1 294 x (by omega) (by omega) (by omega) (by omega) (by omega) (by omega) (by omega) (by omega)).trans (ff 294 x (by omega))) (fun j x hj x0 x1 => (hkW.2.2.1 j x (by omega) (by omega) (by omega) (by omega) (by omega) (by omega) (by omega) (by omega)).trans (ff j x (by omega))) (fun j x hj x0 x1 => (hkW.2.2.1 j x (by omega) (by omega) (by omega) (by omega) (by omega) (by omega) (by omega) (by omega)).trans (ff j x (by omega)))
    have hz : (∀ (j : Nat) (x : Int), j ≠ wG → (j < 2000000 ∨ 4000000 ≤ j) → j ≠ 240 → (j < 281 ∨ 292 < j) → (j ≠ 238 ∨ (x ≠ 5 ∧ x ≠ 6)) → (j ≠ 237 ∨ (x < 0 ∨ x = 1 ∨ x = 2 ∨ (12 < x ∧ x < 16) ∨ (16 < x ∧ x < 19) ∨ (20 < x ∧ x < 25) ∨ (29 < x ∧ x < 59) ∨ 61 < x)) → ((j < 293 ∨ 313 < j) ∧ j ≠ 376) → (j ≠ 237 ∨ (x ≠ 33 ∧ x ≠ 34 ∧ x ≠ 43 ∧ x ≠ 47 ∧ x ≠ 48)) → Z2 j x = Z j x) := fun j x q1 q2 q3 q4 q5 q6 q7 q8 => hkW.2.2.1 j x q1 q2 q3 (q4.imp id Or.inl) q5 q6 (by omega) q8
    have lo := lo_c5 hz
    refine ⟨g1, _, _, pm2, RA_c5 hph hbb htt hR hW hfr h0 hz y7 y8, ⟨cK_ag g3 lo, by unfold wk at g4 ⊢; rw [lo 2 (by first | decide | omega), lo 0 (by first | decide | omega)]; exact g4, ⟨y1, y2, y3, hkW.2.2.2.1⟩, g5, mw⟩, ?_⟩
    have := rm_c5 (pm2 := pm2) hc z5b hz (k := 24 * S 237 3 + 240) (by omega) y5
    rw [show 24 * S 237 3 + 240 + 6 = 24 * S 237 3 + 246 by omega] at this
    exact this
set_option maxHeartbeats 4000000 in
/-- call 5: compile -/
theorem c5 (hph : 72 < ph ∧ ph < 237) (hbb : 240 < b ∧ b + 19 < 281) (htt : 72 < t0 ∧ t0 + 4 < 237 ∧ 72 < m0 ∧ m0 + 14 < 237 ∧ 72 < ob ∧ ob < 237) {D : Nat} (hX : w_X xs) (hx101 : pe_at (pe_GA xs).xs 101 = some (1, tx_101)) (hx107 : pe_at (pe_GA xs).xs 107 = some (1, tx_101)) (hR : RA t0 m0 ob ph qh b b2 S) (hK : RK N X m pm S) : wJ (pe_GA xs) wY0 (mS [3, 4, 5, 6, 7, 8, 9, 10, 15, 16, 17, 64, 65, 66, 67, 69, 70, 31, 32, 33, 35, 36, 37, 38, 39, 40, 41, 42, 43, 44, 45, 46, 58, 59]) (D + 546) t_X_compile ((pe_at t_X_compile.bl 0).getD (0, [])).2 [(0, (2, 0))] [] S (fun o1 Z => ∀ (M2 : Nat → Prop) (D2 : Nat), wJ (pe_GA xs) wY0 M2 (D2 + 1061) t_M_compile ((pe_at t_M_compile.bl 0).getD (0, [])).2 [(0, (2, 237))] [] Z (fun o2 Z2 => o1 = o2 ∧ ∃ (N2 X2 : List (List Int)) (pm2 : Nat), RA t0 m0 ob ph qh b b2 Z2 ∧ RK N2 X2 m pm2 Z2 ∧ rmB pm pm2 (24 * S 237 3 + 246) S Z2)) := by
  have hK0 := hK
  obtain ⟨k1, k2, ⟨k3, k4, k5, k6⟩, k7⟩ := hK
  obtain ⟨⟨c1, c2, c3, c4⟩, ⟨c5, c6, c7⟩, c8, ⟨c9, c10, c11, c12, c13⟩, c14, c15⟩ := k1
  obtain ⟨w1, w2, w3⟩ := k2
  obtain ⟨⟨m1, m2, m3, m4, m5, m6, m7, m8⟩, mww⟩ := k7
  have hR0 := hR
  obtain ⟨r1, r2, r3, ⟨r4, r5⟩, r6, r7, r8⟩ := hR
  have a8 := r1.2.2.2.2.2.2.2.1
  have a9 := r1.2.2.2.2.2.2.2.2.1
  have u7 := c1.1.1.1
  have u1 := c1.1.2.1.1
  have v7 := c1.2.2.2.2.1.1
  have v1 := c1.2.2.2.2.1.2
  have hw : wG = 1000000 := rfl
  refine wJ_mono (xc_w (D := D) (T := S 239) (n := S 237 3) (N := N) (X := X) (f0 := S 237 34) (un := S 237 33) (p := S 237 43) (sb := S 237 47) (wx_49 hX) hx101 r1.1 r1.2.1 ⟨by omega, by omega, by omega, by omega⟩ r6 (fun i i0 i1 => r7 i i0 (by omega)) (fun i i0 i1 => by rw [← r7 i i0 (by omega)]; exact a9 i i0 (by omega)) c1.1 c1.2.1 c1.2.2.1 r1.2.2.2.2.2.1 v7 c2 ⟨by omega, by omega, c8.1, c8.2⟩ c3 c4 c5 c6 c7 m1.1 m1.2 m2.1 m2.2 m3.1 ⟨m3.2.1, m3.2.2, by omega⟩ c9 c10 ⟨c11, c12⟩ c14 c15 m4.1) (fun o1 Z hz => ?_)
  intro M2 D2
  rcases hz with ⟨h16, rfl, rfl⟩ | ⟨hlt, c, A, Z1, v, x, hrq, hqf, hxF, htb, rfl⟩ | ⟨hlt, c, A, S1, i2, I2, F2, t, hrq, hD, hk0, hfit, hq, hg, hkC, rfl⟩
  · refine c5_r (o := .inl 0) hph hbb htt hX hR0 hK0 (cW_01 r1 ⟨c1, c2, c3, c4⟩) cfr_01 (w_up_same _ _ _ _) ?_ (fun b0 b1 q => absurd q (by omega)) (fun _ _ _ _ q => by cases q) (fun v hv => ⟨?_, fun Z2 hcp => ⟨cK_01 hK0.1, ⟨?_, ?_, w3.1, w3.2.1, by rw [w_up_same]; decide⟩, ?_⟩⟩) (fun _ _ _ _ q => by cases q)
    · exact rm6_R (rmR_up (rmR_rfl S) (by omega) (by decide))
    · rcases hv with ⟨-, rfl⟩ | ⟨q, -⟩ | ⟨q, -⟩ | ⟨q, -⟩
      · rfl
      · omega
      · omega
      · omega
    · show S 2 7 + 0 ≤ _; omega
    · show S 2 1 + 0 ≤ _; omega
    · have f : ∀ (j : Nat) (x : Int), j < 400 → j ≠ 0 → (j < 281 ∨ 292 < j) → j ≠ 237 → j ≠ 238 → j ≠ 240 → Z2 j x = S j x := fun j x q1 q2 q3 q4 q5 q6 => (hcp j x (by omega) (by omega) q6 (q3.imp id Or.inl) (by omega) (by omega)).trans (w_up_slot q2)
      exact mK_ag ⟨m1, m2, m3, m4, m5, m6, m7, m8⟩ (fun x => f 19 x (by first | decide | omega) (by first | decide | omega) (by first | decide | omega) (by first | decide | omega) (by first | decide | omega) (by first | decide | omega)) (fun x hx => (hcp 237 x (by first | decide | omega) (by first | decide | omega) (by first | decide | omega) (by first | decide | omega) (Or.inl (by first | decide | omega)) (by omega)).trans (w_up_slot (by first | decide | omega))) (fun j x hj _ _ => f j x (by omega) (by omega) (by omega) (by omega) (by omega) (by omega)) (fun j x hj _ _ => f j x (by omega) (by omega) (by omega) (by omega) (by omega) (by omega)) (fun j x hj _ _ => f j x (by omega) (by omega) (by omega) (by omega) (by omega) (by omega)) (fun j x hj _ _ => f j x (by omega) (by omega) (by omega) (by omega) (by omega) (by omega))
  · obtain ⟨g1, g2, g3, g4, g5, g6, g7, g8⟩ := ck_f r1 hK0.1 hK0.2.1 r6 (by omega) hrq hqf htb
    have hmK : ∀ Z2 : wS, cpr Z Z2 → mK Z2 := fun Z2 hcp => by
      have f : ∀ (j : Nat) (x : Int), ((18 < j ∧ j < 21) ∨ (29 < j ∧ j < 63) ∨ (292 < j ∧ j < 400)) → Z2 j x = S j x := fun j x hj => (hcp j x (by omega) (by omega) (by omega) (by omega) (by omega) (by omega)).trans (by
        by_cases e : j < 63
        · exact g6 j x (by omega)
        · exact g5 j x (by omega) (by omega) (by omega))
      have f2 : ∀ (j : Nat) (x : Int), 21 ≤ j → j ≤ 29 → x < S 237 34 → Z2 j x = S j x := fun j x j0 j1 j2 => (hcp j x (by omega) (by omega) (by omega) (by omega) (by omega) (by omega)).trans (g7 j x j0 j1 j2)
      exact mK_ag ⟨m1, m2, m3, m4, m5, m6, m7, m8⟩ (fun x => f 19 x (by omega)) (fun x hx => (hcp 237 x (by first | decide | omega) (by first | decide | omega) (by first | decide | omega) (by first | decide | omega) (Or.inl (by first | decide | omega)) (by omega)).trans (g5 237 x (by first | decide | omega) (by first | decide | omega) (by omega))) (fun j x hj _ x1 => by
        by_cases e : j ≤ 29
        · exact f2 j x (by omega) e x1
        · exact f j x (by omega)) (fun j x hj _ _ => f j x (by omega)) (fun j x hj _ _ => f j x (by omega)) (fun j x hj _ _ => f j x (by omega))
    rcases hxF with ⟨q1, q2⟩ | ⟨q1, q2⟩ | ⟨q1, i2, I2, F2, t, q2, q3⟩
    · refine c5_r (o := .inl 0) hph hbb htt hX hR0 hK0 g1 g5 g4 (xr_rm g8) (fun b0 b1 _ q => absurd q (by omega)) (fun _ _ _ _ q => by cases q) (fun v hv => ⟨?_, fun Z2 hcp => ⟨g2, g3, hmK Z2 hcp⟩⟩) (fun _ _ _ _ q => by cases q)
      rcases hv with ⟨q, -⟩ | ⟨-, -, q⟩ | ⟨-, q, -⟩ | ⟨-, q, -⟩
      · omega
      · rcases q2 with ⟨a, b⟩ | ⟨a, b⟩
        · rcases q with ⟨a', b'⟩ | ⟨a', b'⟩
          · rw [b, b']
          · exact absurd a (fun z => z.elim a'.1 a'.2)
        · rcases q with ⟨a', b'⟩ | ⟨a', b'⟩
          · exact absurd a' (fun z => z.elim a.1 a.2)
          · rw [b, b']
      · omega
      · omega
    · refine c5_r (o := .inl x) hph hbb htt hX hR0 hK0 g1 g5 g4 (xr_rm g8) (fun b0 b1 _ _ => q2 _ (rRA_C hX hx107)) (fun _ _ _ _ q => by cases q) (fun v hv => ⟨?_, fun Z2 hcp => ⟨g2, g3, hmK Z2 hcp⟩⟩) (fun _ _ _ _ q => by cases q)
      rcases hv with ⟨q, -⟩ | ⟨-, q, -⟩ | ⟨-, -, q⟩ | ⟨-, -, i2, I2, F2, t, q, -⟩
      · omega
      · omega
      · rw [Sum.inl.inj q]
      · cases q
    · refine c5_r (o := .inr (i2, I2, F2, t)) hph hbb htt hX hR0 hK0 g1 g5 g4 (xr_rm g8) (fun b0 b1 _ _ => q2 _ (rRA_C hX hx107)) (fun i3 I3 F3 t3 q => by cases q; exact ⟨cD_nK m1.2.1 q2, fun nn nx hV => q2 _ (RT_C hV)⟩) (fun v hv => ⟨?_, fun Z2 hcp => ⟨g2, g3, hmK Z2 hcp⟩⟩) (fun i3 I3 F3 t3 q z1 z2 => by
        cases q
        rcases q3 with ⟨a, -⟩ | ⟨-, a, -⟩
        · exact absurd z1 a
        · exact absurd z2 a)
      rcases hv with ⟨q, -⟩ | ⟨-, q, -⟩ | ⟨-, -, q⟩ | ⟨-, -, i3, I3, F3, t3, q, z⟩
      · omega
      · omega
      · cases q
      · cases q
        rcases q3 with ⟨a, b⟩ | ⟨a, -, b⟩
        · rcases z with ⟨-, z⟩ | ⟨z, -⟩
          · rw [b, z]
          · exact absurd z a
        · rcases z with ⟨z, -⟩ | ⟨-, -, z⟩
          · exact absurd a z
          · rw [b, z]
  · obtain ⟨g1, g2, g3, g4, g5, g6⟩ := ck_s r1 hK0.1 hK0.2.1 r6 hrq hq hg hkC m2.2.1
    have ht := ck_t hrq hg hkC
    obtain ⟨q1, -, -, q6, q7, -⟩ := hq
    have hc : i2 = c := by
      have a := qx_at q1.1 q1.2
      have b1 := q1.2.2.1
      have hq := kq_cs (S 239) (S 237 3) N X i2
      have hs := sk_rx (lx_si (S 239) (S 237 3) 0 (tp (S 239) (S 237 3) 0 i2))
      have h0 := tk_x0 (T := S 239) (n := S 237 3) (h := 0) (p := tp (S 239) (S 237 3) 0 i2)
      have ha := a.2.2.2.1
      by_cases e : i2 < c
      · have := (ha e).1
        omega
      · omega
    have hF : S 237 34 + (F2.length : Int) ≤ 400 ∧ 0 < F2.length := by
      have a := q6.2.2.1
      have b := q7.2.2
      omega
    have hl3 : (((I2 ++ [((0, 0, 0, S 237 34) : pz_I)] ++ [(29, 0, 0, S 237 34)]).length : Nat) : Int) = (I2.length : Int) + 2 := by rw [List.length_append, List.length_append]; show ((I2.length + 1 + 1 : Nat) : Int) = _; omega
    have hs3 := pz_s_2 I2 (S 237 34)
    refine c5_r (o := .inr (i2, I2, F2, t)) hph hbb htt hX hR0 hK0 g1 g5 g4 (rm6_R g6) (fun b0 b1 _ _ => hD _ (rRA_C hX hx107)) (fun i3 I3 F3 t3 q => by cases q; exact ⟨cD_nK m1.2.1 hD, fun nn nx hV => hD _ (RT_C hV)⟩) (fun v hv => ?_) (fun i3 I3 F3 t3 q z1 z2 => ?_)
    · exfalso
      rcases hv with ⟨q, -⟩ | ⟨-, q, -⟩ | ⟨-, -, q⟩ | ⟨-, -, i3, I3, F3, t3, q, z⟩
      · omega
      · omega
      · cases q
      · cases q
        rcases z with ⟨z, -⟩ | ⟨-, z, -⟩
        · exact z hk0
        · exact z hfit
    · cases q
      refine ⟨rfl, fun Z2 hkW => ⟨by rw [hc]; exact g2, g3, ?_⟩⟩
      have hz : (∀ (j : Nat) (x : Int), j ≠ wG → (j < 2000000 ∨ 4000000 ≤ j) → j ≠ 240 → (j < 281 ∨ 292 < j) → (j ≠ 238 ∨ (x ≠ 5 ∧ x ≠ 6)) → (j ≠ 237 ∨ (x < 0 ∨ x = 1 ∨ x = 2 ∨ (12 < x ∧ x < 16) ∨ (16 < x ∧ x < 19) ∨ (20 < x ∧ x < 25) ∨ (29 < x ∧ x < 59) ∨ 61 < x)) → ((j < 293 ∨ 313 < j) ∧ j ≠ 376) → (j ≠ 237 ∨ (x ≠ 33 ∧ x ≠ 34 ∧ x ≠ 43 ∧ x ≠ 47 ∧ x ≠ 48)) → Z2 j x = Z j x) := fun j x q1 q2 q3 q4 q5 q6 q7 q8 => hkW.2.2.1 j x q1 q2 q3 (q4.imp id Or.inl) q5 q6 (by omega) q8
      have lo := lo_c5 hz
      obtain ⟨y1, y2, y3, y4⟩ := hkW
      refine mK_s (I := I2 ++ [(0, 0, 0, S 237 34)] ++ [(29, 0, 0, S 237 34)]) (F := F2) ⟨m1, m2, m3, m4, m5, m6, m7, m8⟩ rfl rfl rfl rfl hF hlt ⟨by omega, by omega⟩ q6.2.2.2.2.1 (by rw [lo 19 (by first | decide | omega), lo 30 (by first | decide | omega)]; exact hkC.1) (fun k hk => cR_ag (hkC.2.1 k hk) lo) y1 y2 (fun j x hj x0 x1 => ?_) (fun j x hj x0 x1 => ?_) (fun j x hj x0 x1 => ?_) (fun j x hj x0 x1 => ?_)
      · by_cases e : j < 237
        · rw [lo j e]; exact ht j x (by omega)
        · rw [y3 j x (by omega) (by omega) (by omega) (by omega) (by omega) (by omega) (by omega) (by omega)]; exact g5 j x (by omega) (by omega) (by omega)
      · by_cases e : j < 237
        · rw [lo j e]; exact ht j x (by omega)
        · rw [y3 j x (by omega) (by omega) (by omega) (by omega) (by omega) (by omega) (by omega) (by omega)]; exact g5 j x (by omega) (by omega) (by omega)
      · by_cases e : j < 237
        · rw [lo j e]; exact ht j x (by omega)
        · rw [y3 j x (by omega) (by omega) (by omega) (by omega) (by omega) (by omega) (by omega) (by omega)]; exact g5 j x (by omega) (by omega) (by omega)
      · by_cases e : j < 237
        · rw [lo j e]; exact ht j x (by omega)
        · rw [y3 j x (by omega) (by omega) (by omega) (by omega) (by omega) (by omega) (by omega) (by omega)]; exact g5 j x (by omega) (by omega) (by omega)
end Wdd
