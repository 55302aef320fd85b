/-! PART ms: compile, and what it leaves of the machine. -/
section Wms0
variable {S Z : wS} {T : Int → Int} {n p q g f0 u un sb y v a h nn nx : Int} {N X : List (List Int)} {I : List pz_I} {F : List pz_F} {fa fb : Int → Int} {c i k j : Nat}
/-- all code that is kept is typed, by this arrangement of functions -/
def mWf (fa : Int → Int) (S : wS) : Prop := (∀ g : Int, 0 ≤ g → g < S 237 34 → mcF fa S g ∧ ((fa g = -1 ∧ S 296 g = 0) ∨ (0 ≤ fa g ∧ fa g < g)) ∧ 0 ≤ S 296 g ∧ S 296 g ≤ 60) ∧ ∀ k : Int, 0 ≤ k → k < S 237 33 → fa (S 294 k) = -1
theorem mW_sF (h : mWf fa S) (hK : mK S) (hf : S 237 34 = f0) (hu : S 237 33 = un) (hp : S 237 43 = p) (hs : S 237 47 = sb) (hFl : 0 < F.length) (hown : ∀ x ∈ I, f0 ≤ x.2.2.2 ∧ x.2.2.2 < f0 + (F.length : Int)) (hF : fW f0 I F) (hty : ∀ k : Nat, k < F.length → tyF nn nx f0 F (on (f0 + (k : Int)) I)) (b0 : Z 237 33 = un + 1 ∧ Z 237 34 = f0 + (F.length : Int) ∧ Z 237 43 = p + (I.length : Int) ∧ Z 237 47 = sb + pz_s I ∧ Z 294 un = f0) (b1 : ∀ k : Nat, k < F.length → kR f0 I F un p sb k Z) (hnn : nn = Z 237 16) (hnx : nx = Z 237 19) (eN : S 237 16 ≤ Z 237 16 ∧ S 237 19 ≤ Z 237 19)
    (eF : ∀ (j : Nat) (x : Int), (293 ≤ j ∧ j ≤ 300 ∧ j ≠ 294) → 0 ≤ x → x < f0 → Z j x = S j x) (eU : ∀ x : Int, 0 ≤ x → x < un → Z 294 x = S 294 x) (eI : ∀ (j : Nat) (x : Int), (301 ≤ j ∧ j ≤ 303) → 0 ≤ x → x < p → Z j x = S j x) (eS : ∀ (j : Nat) (x : Int), ((304 ≤ j ∧ j ≤ 313) ∨ j = 376) → 0 ≤ x → x < sb → Z j x = S j x) : ∃ fb : Int → Int, mWf fb Z ∧ ∀ x : Int, 0 ≤ x → x < f0 → fb x = fa x := by
  obtain ⟨h1, h2⟩ := h
  obtain ⟨k1, k2, k3, k4, k5, k6, -, -⟩ := hK
  obtain ⟨b2, b3, b4, b5, b6⟩ := b0
  have hsn := pz_s_nn I
  have hfb : ∀ x : Int, f0 ≤ x → x < f0 + (F.length : Int) → (fun x => if x < f0 then fa x else (pz_f f0 F x).1) x = (pz_f f0 F x).1 := fun x x0 _ => if_neg (by omega)
  refine ⟨fun x => if x < f0 then fa x else (pz_f f0 F x).1, ⟨fun g g0 g1 => ?_, fun k k0 k1' => ?_⟩, fun x _ x1 => if_pos x1⟩
  · by_cases e : g < f0
    · obtain ⟨c1, c2, c3⟩ := h1 g g0 (by omega)
      obtain ⟨-, d1, d2, d3⟩ := k5 g g0 (by omega)
      have e96 := eF 296 g (by omega) g0 e
      rw [e96]
      have hfg : (fun x => if x < f0 then fa x else (pz_f f0 F x).1) g = fa g := if_pos e
      rw [hfg]
      exact ⟨mcF_mo c1 ⟨d1, d3⟩ ⟨g0, by omega⟩ ⟨eN.1, eN.2, by omega, by omega⟩ (fun j x hj x0 x1 => eF j x (by omega) x0 (by omega)) (fun j x hj x0 x1 => eI j x hj x0 (by omega)) (fun j x hj x0 x1 => eS j x (by omega) x0 (by omega)) (fun x x0 x1 => if_pos (by omega)), c2, c3⟩
    · obtain ⟨q, rfl⟩ : ∃ q : Nat, g = f0 + (q : Int) := ⟨(g - f0).toNat, by omega⟩
      have hq : q < F.length := by omega
      have hfg := hfb (f0 + (q : Int)) (by omega) (by omega)
      have hpf : pz_f f0 F (f0 + (q : Int)) = F.getD q (-1, 0, []) := by
        unfold pz_f
        rw [show (f0 + (q : Int) - f0).toNat = q by omega]
      have h96 := (b1 q hq).1.2.2.1
      obtain ⟨w1, w2⟩ := hF.2.2 q hq
      have h00 := hF.1.1
      refine ⟨mcF_n hq (hty q hq) b1 hF b3 b5 (by omega) hown hnn hnx hfb, ?_, by rw [h96]; omega, by rw [h96]; omega⟩
      rw [hfg, hpf, h96]
      rcases w1 with ⟨-, w3, w4⟩ | w3
      · exact Or.inl ⟨w3, by rw [w4]; rfl⟩
      · exact Or.inr ⟨by omega, w3.2⟩
  · by_cases e : k < un
    · obtain ⟨-, d1, d2⟩ := k6 k k0 (by omega)
      rw [eU k k0 e]
      have hfg : (fun x => if x < f0 then fa x else (pz_f f0 F x).1) (S 294 k) = fa (S 294 k) := if_pos (by omega)
      rw [hfg]
      exact h2 k k0 (by omega)
    · obtain rfl : k = un := by omega
      rw [b6, hfb f0 (Int.le_refl _) (by omega)]
      have hpf : pz_f f0 F f0 = F.getD 0 (-1, 0, []) := by
        unfold pz_f
        rw [show (f0 - f0).toNat = 0 by omega]
      rw [hpf]
      rcases (hF.2.2 0 hFl).1 with ⟨-, w, -⟩ | w
      · exact w
      · omega
theorem mW_agF (h : mWf fa S) (hK : mK S) (eN : S 237 16 ≤ Z 237 16 ∧ S 237 19 ≤ Z 237 19) (e237 : ∀ x : Int, (x = 33 ∨ x = 34 ∨ x = 43 ∨ x = 47) → Z 237 x = S 237 x) (eF : ∀ (j : Nat) (x : Int), (293 ≤ j ∧ j ≤ 300) → 0 ≤ x → Z j x = S j x) (eI : ∀ (j : Nat) (x : Int), (301 ≤ j ∧ j ≤ 306) → 0 ≤ x → Z j x = S j x) : mWf fa Z := by
  obtain ⟨h1, h2⟩ := h
  obtain ⟨-, -, -, -, k5, -, -, -⟩ := hK
  refine ⟨fun g g0 g1 => ?_, fun k k0 k1 => ?_⟩
  · rw [e237 34 (by omega)] at g1
    obtain ⟨c1, c2, c3⟩ := h1 g g0 g1
    obtain ⟨-, d1, d2, d3⟩ := k5 g g0 g1
    rw [eF 296 g (by omega) g0]
    exact ⟨mcF_mo c1 ⟨d1, d3⟩ ⟨g0, g1⟩ ⟨eN.1, eN.2, by rw [e237 34 (by omega)]; omega, by rw [e237 47 (by omega)]; omega⟩ (fun j x hj x0 _ => eF j x (by omega) x0) (fun j x hj x0 _ => eI j x (by omega) x0) (fun j x hj x0 _ => eI j x (by omega) x0) (fun _ _ _ => rfl), c2, c3⟩
  · rw [e237 33 (by omega)] at k1
    rw [eF 294 k (by omega) k0]
    exact h2 k k0 k1
end Wms0
section Wms
variable {xs : List (Nat × List Int32)} {M : Nat → Prop} {d : Nat} {A B C S Z : wS} {Q : wO → wS → Prop}
variable {f0 u a b op : Int} {I : List pz_I} {F : List pz_F} {x : pz_I} {k r : Nat}
variable {n p sb un : Int} {T : Int → Int} {N X N2 X2 : List (List Int)} {c m pm pm2 i2 : Nat} {Z1 S1 Z2 : wS} {F2 : List pz_F} {I2 : List pz_I} {t0 m0 ob ph qh b b2 : Nat}
/-- what compile leaves of the machine, and of the code that was -/
def c5P (fa : Int → Int) (N X N2 X2 : List (List Int)) (S Z : wS) : Prop := ((∃ l : List (List Int), N2 = N ++ l) ∧ ∃ l : List (List Int), X2 = X ++ l) ∧ (∀ (j : Nat) (x : Int), ((72 ≤ j ∧ j < 237) ∨ (241 ≤ j ∧ j ≤ 280) ∨ (314 ≤ j ∧ j ≤ 375) ∨ (377 ≤ j ∧ j ≤ 387) ∨ j = 13 ∨ j = 20 ∨ j = 34 ∨ (47 ≤ j ∧ j ≤ 57) ∨ j = 61 ∨ j = 62 ∨ (j = 237 ∧ 61 < x) ∨ (j = 19 ∧ (x = 11 ∨ x = 12))) → Z j x = S j x) ∧ cdW S Z ∧ (∀ (j : Nat) (x : Int), ((310 ≤ j ∧ j ≤ 313) ∨ j = 376 ∨ (41 ≤ j ∧ j ≤ 46)) → 0 ≤ x → x < S 237 47 → Z j x = S j x) ∧ (∀ y : Int, S 237 47 ≤ y → y < Z 237 47 → (Z 310 y = 0 ∧ Z 311 y = 0 ∧ Z 312 y = 0 ∧ Z 313 y = 0 ∧ Z 376 y = 0) ∧ Z 46 y = -1) ∧ (∀ g : Int, S 237 34 ≤ g → g < Z 237 34 → 0 ≤ Z 295 g ∧ Z 295 g ≤ 1000) ∧ ((N.Nodup → N2.Nodup) ∧ ((∀ k ∈ X, ∀ y ∈ k, 0 ≤ y ∧ y ≤ 255) → ∀ k ∈ X2, ∀ y ∈ k, 0 ≤ y ∧ y ≤ 255) ∧ (tls X2 : Int) ≤ (tls X : Int) + S 237 3 + 2) ∧ ∃ fb : Int → Int, mWf fb Z ∧ ∀ x : Int, 0 ≤ x → x < S 237 34 → fb x = fa x
theorem c5P_f {fa : Int → Int} (hfa : mWf fa S) (h03 : 0 ≤ S 237 3) (hK : mK S ∧ mW S) (k3 : mN N S) (k4 : mX X S) (y1 : mN N Z2) (y2 : mX X Z2) (f : ∀ (j : Nat) (x : Int), ((72 ≤ j ∧ j < 237) ∨ (241 ≤ j ∧ j ≤ 280) ∨ (293 ≤ j ∧ j ≤ 387) ∨ j = 13 ∨ j = 19 ∨ j = 20 ∨ (34 ≤ j ∧ j ≤ 62)) → Z2 j x = S j x) (f2 : ∀ x : Int, (29 < x ∧ x < 59) ∨ 61 < x → Z2 237 x = S 237 x) : c5P fa N X N X S Z2 := by
  have e16 : S 237 16 = Z2 237 16 := by rw [k3.1, y1.1]
  have e19 : S 237 19 = Z2 237 19 := by rw [k4.1, y2.1]
  have e33 := f2 33 (by omega)
  have e34 := f2 34 (by omega)
  have e43 := f2 43 (by omega)
  have e47 := f2 47 (by omega)
  refine ⟨⟨⟨[], (List.append_nil _).symm⟩, [], (List.append_nil _).symm⟩, fun j x hj => ?_, ⟨⟨by omega, by omega, by omega, by omega, by omega⟩, fun j x hj _ _ => f j x (by omega), fun j x hj _ _ => f j x (by omega), fun j x hj _ _ => f j x (by omega)⟩, fun j x hj _ _ => f j x (by omega), fun y y0 y1 => by omega, fun g g0 g1 => by omega, ⟨id, id, by omega⟩, fa, mW_agF hfa hK.1 ⟨by omega, by omega⟩ (fun x hx => f2 x (by omega)) (fun j x hj _ => f j x (by omega)) (fun j x hj _ => f j x (by omega)), fun _ _ _ => rfl⟩
  by_cases e : j = 237
  · rw [e]
    exact f2 x (by omega)
  · exact f j x (by omega)
theorem ck_19 (hrq : rq_I T n N X (cB n (w_up S 0 1 0)) A c) (hg : cQg f0 0 0 A S1) (hC : kC f0 I F un p sb (w_up S1 63 11 (-1)) Z) (x : Int) (hx : x = 11 ∨ x = 12) : Z 19 x = S 19 x := by
  have fA := rq_fr0 hrq
  have hw : wG = 1000000 := rfl
  rw [hC.2.2.1 19 x (by first | decide | omega) (by rw [hw]; decide) (by omega) (by first | decide | omega) (by first | decide | omega) (by first | decide | omega) (by omega), w_up_no (by omega), hg.1 19 x (by first | decide | omega) (by rw [hw]; decide) (by first | decide | omega) (by omega) (by omega) (by omega) (by omega)]
  exact fA 19 x (by first | decide | omega) (by rw [hw]; decide) (by omega) (by omega)
theorem c5P_s {fa : Int → Int} (hfa : mWf fa S) (hK : mK S ∧ mW S) (h03 : S 237 3 = n ∧ 0 ≤ n) (hCh : ∀ i : Int, 0 ≤ i → i < n → T i = 10 ∨ (32 ≤ T i ∧ T i ≤ 126)) (k3 : mN N S) (k4 : mX X S) (y1 : mN (NL T n N i2) Z2) (y2 : mX (XL T n X i2) Z2) (hF : S 237 34 + (F.length : Int) ≤ 400 ∧ 0 < F.length) (hkC : kC (S 237 34) I F (S 237 33) (S 237 43) (S 237 47) S1 Z) (hkW : kW (S 237 34) I F (S 237 33) (S 237 43) (S 237 47) Z Z2) (ht : ∀ (j : Nat) (x : Int), ((21 ≤ j ∧ j ≤ 29 ∧ x < S 237 34) ∨ (j = 30 ∧ x ≠ S 237 33) ∨ (31 ≤ j ∧ j ≤ 33 ∧ 0 ≤ x ∧ x < S 237 43) ∨ (35 ≤ j ∧ j ≤ 46 ∧ 0 ≤ x ∧ x < S 237 47)) → Z j x = S j x) (hfr : ∀ (j : Nat) (x : Int), (j = 13 ∨ j = 20 ∨ j = 34 ∨ (47 ≤ j ∧ j ≤ 57) ∨ j = 61 ∨ j = 62 ∨ (72 ≤ j ∧ j < 400)) → Z j x = S j x) (h43 : 0 ≤ S 237 43 ∧ 0 ≤ S 237 47) (h19 : ∀ x : Int, x = 11 ∨ x = 12 → Z 19 x = S 19 x) (hQF : QF F) (hTy : ∀ k : Nat, k < F.length → tyF (((NL T n N i2).length : Nat) : Int) (((XL T n X i2).length : Nat) : Int) (S 237 34) F (on (S 237 34 + (k : Int)) I)) : c5P fa N X (NL T n N i2) (XL T n X i2) S Z2 := by
  obtain ⟨JN, hJN⟩ := NL_pr T n N i2
  obtain ⟨JX, hJX⟩ := XL_pr T n X i2
  have hw : wG = 1000000 := rfl
  have e16 : S 237 16 ≤ Z2 237 16 := by rw [k3.1, y1.1, hJN, List.length_append]; omega
  have e19 : S 237 19 ≤ Z2 237 19 := by rw [k4.1, y2.1, hJX, List.length_append]; omega
  obtain ⟨w0, w1, w2, w3, w4⟩ := hkW
  have hsn := pz_s_nn I
  have hsal := psm_so (S 237 34) F.length I w4.2.1
  have fz : ∀ (j : Nat) (x : Int), (j < 237 ∨ (241 ≤ j ∧ j ≤ 280) ∨ (314 ≤ j ∧ j ≤ 375) ∨ (377 ≤ j ∧ j ≤ 387) ∨ (j = 237 ∧ 61 < x)) → Z2 j x = Z j x := fun j x hj => w2 j x (by omega) (by omega) (by omega) (by omega) (by omega) (by omega) (by omega) (by omega)
  have fF : ∀ (j : Nat) (x : Int), (293 ≤ j ∧ j ≤ 300 ∧ j ≠ 294) → 0 ≤ x → x < S 237 34 → Z2 j x = S j x := fun j x hj x0 x1 => (w2 j x (by omega) (by omega) (by omega) (by omega) (by omega) (by omega) (by omega) (by omega)).trans (hfr j x (by omega))
  have fU : ∀ x : Int, 0 ≤ x → x < S 237 33 → Z2 294 x = S 294 x := fun x x0 x1 => (w2 294 x (by omega) (by omega) (by omega) (by omega) (by omega) (by omega) (by omega) (by omega)).trans (hfr 294 x (by omega))
  have fI : ∀ (j : Nat) (x : Int), (301 ≤ j ∧ j ≤ 303) → 0 ≤ x → x < S 237 43 → Z2 j x = S j x := fun j x hj x0 x1 => (w2 j x (by omega) (by omega) (by omega) (by omega) (by omega) (by omega) (by omega) (by omega)).trans (hfr j x (by omega))
  have fS : ∀ (j : Nat) (x : Int), ((304 ≤ j ∧ j ≤ 313) ∨ j = 376) → 0 ≤ x → x < S 237 47 → Z2 j x = S j x := fun j x hj x0 x1 => (w2 j x (by omega) (by omega) (by omega) (by omega) (by omega) (by omega) (by omega) (by omega)).trans (hfr j x (by omega))
  refine ⟨⟨⟨JN, hJN⟩, JX, hJX⟩, fun j x hj => ?_, ⟨⟨e16, e19, by omega, by omega, by omega⟩, fF, fI, fun j x hj => fS j x (by omega)⟩, fun j x hj x0 x1 => ?_, fun y y0 y1 => ?_, fun g g0 g1 => ?_, ⟨fun h => NL_nd h i2, fun h => XL_m h03.2 hCh h i2, by have q1 := XL_t (T := T) (X := X) h03.2 i2; have q2 := (tp_rg (T := T) h03.2 i2).2; omega⟩, mW_sF hfa hK.1 rfl rfl rfl rfl hF.2 w4.2.1 w4 hTy w0 w1 y1.1.symm y2.1.symm ⟨e16, e19⟩ fF fU fI (fun j x hj x0 x1 => fS j x (by omega) x0 x1)⟩
  · by_cases e : j = 19
    · rw [fz j x (by omega), e]
      exact h19 x (by omega)
    · rw [fz j x (by omega)]
      exact hfr j x (by omega)
  · by_cases e : j < 237
    · rw [fz j x (by omega)]
      exact ht j x (by omega)
    · exact fS j x (by omega) x0 x1
  · rw [w0.2.2.2.1] at y1
    obtain ⟨k, t, q1, q2, q3, q4⟩ := SS_fi (S 237 34) I F.length (y - S 237 47) (by omega) (by omega)
    obtain rfl : y = S 237 47 + (psm (fun u => pz_s (on u I)) (S 237 34) k) + os (S 237 34 + (k : Int)) I t := by omega
    obtain ⟨c1, c2, c3, c4, c5, c6, c7⟩ := ((hkC.2.1 k q1).2 t q2).2 q3
    obtain ⟨d1, d2, d3, d4, d5, d6, d7, d8, d9, d10⟩ := ((w1 k q1).2 t q2).2 q3
    exact ⟨⟨d6, d7, d8, d9, d10⟩, by rw [fz 46 _ (by omega)]; exact c7⟩
  · rw [w0.2.1] at g1
    obtain ⟨q, rfl⟩ : ∃ q : Nat, g = S 237 34 + (q : Int) := ⟨(g - S 237 34).toNat, by omega⟩
    have hq : q < F.length := by omega
    have a1 := (w1 q hq).1.2.1
    have a2 := (w4.2.2 q hq).2
    have a3 : 0 ≤ (F.getD q (-1, 0, [])).2.1 ∧ (F.getD q (-1, 0, [])).2.1 ≤ ((F.getD q (-1, 0, [])).2.2.length : Int) := by
      rw [List.getD_eq_getElem?_getD, List.getElem?_eq_getElem hq]
      exact hQF _ (List.getElem_mem hq)
    rw [a1]
    omega
theorem c5_rF {P9 : List (List Int) → List (List Int) → wS → Prop} (hph : 72 < ph ∧ ph < 237) (hbb : 240 < b ∧ b + 19 < 281) (htt : 72 < t0 ∧ t0 + 4 < 237 ∧ 72 < m0 ∧ m0 + 14 < 237 ∧ 72 < ob ∧ ob < 237) {o : pz_O} {o1 : wO} {M2 : Nat → Prop} {D2 : Nat} (hX : w_X xs) (hR : RA t0 m0 ob ph qh b b2 S) (hK : RK N X m pm S) (hW : cW Z) (hfr : cfr S Z) (h0 : Z 0 1 = 0) (hc : rm6 S Z) (hder : ∀ b0 b1 : Int, S 237 33 < 16 → S 237 34 < 400 → rRA xs (S 239) (S 237 3) N X (S 237 34) b0 b1 0 0 [] 0 0 (S 237 34) [] [(-1, 0, [])] o) (h9 : ∀ (i2 : Nat) (I2 : List pz_I) (F2 : List pz_F) (t : Int), o = .inr (i2, I2, F2, t) → nK (S 237 34) I2 ∧ ∀ nn nx : Int, tV nn nx (kq (S 239) (S 237 3) N X) (vq (S 239) (S 237 3) N X) → RT nn nx (S 237 34) 0 0 [] 0 0 (S 237 34) [] [(-1, 0, [])] (.inr (i2, I2, F2, t))) (hf : ∀ v : Int, cpF (S 239) (S 237 3) N X (S 237 34) (S 237 33) (S 237 43) (S 237 47) o v → o1 = .inl (some (0, -1 - v)) ∧ ∀ Z2 : wS, cpr Z Z2 → cK N X Z ∧ wk m Z ∧ mK Z2 ∧ (mN N Z2 → mX X Z2 → P9 N X Z2)) (hs : ∀ (i2 : Nat) (I2 : List pz_I) (F2 : List pz_F) (t : Int), o = .inr (i2, I2, F2, t) → kq (S 239) (S 237 3) N X i2 = 0 → (S 237 43 + (I2.length : Int) + 2 ≤ 20000 ∧ S 237 47 + pz_s I2 ≤ 4000) → o1 = .inl (some (0, S 237 33)) ∧ ∀ Z2 : wS, kW (S 237 34) (I2 ++ [(0, 0, 0, S 237 34)] ++ [(29, 0, 0, S 237 34)]) F2 (S 237 33) (S 237 43) (S 237 47) Z Z2 → cK (NL (S 239) (S 237 3) N i2) (XL (S 239) (S 237 3) X i2) Z ∧ wk m Z ∧ mK Z2 ∧ (mN (NL (S 239) (S 237 3) N i2) Z2 → mX (XL (S 239) (S 237 3) X i2) Z2 → (∀ k : Nat, k < F2.length → tyF (((NL (S 239) (S 237 3) N i2).length : Nat) : Int) (((XL (S 239) (S 237 3) X i2).length : Nat) : Int) (S 237 34) F2 (on (S 237 34 + (k : Int)) (I2 ++ [(0, 0, 0, S 237 34)] ++ [(29, 0, 0, S 237 34)]))) → P9 (NL (S 239) (S 237 3) N i2) (XL (S 239) (S 237 3) X i2) Z2)) : wJ (pe_GA xs) wY0 M2 (D2 + 1061) t_M_compile ((pe_at t_M_compile.bl 0).getD (0, [])).2 [(0, (2, 237))] [] Z (fun o2 Z2 => o1 = o2 ∧ ∃ (N2 X2 : List (List Int)) (pm2 : Nat), RA t0 m0 ob ph qh b b2 Z2 ∧ RK N2 X2 m pm2 Z2 ∧ rmB pm pm2 (24 * S 237 3 + 246) S Z2 ∧ P9 N2 X2 Z2) := by
  obtain ⟨k1, k2, ⟨k3, k4, k5, k6⟩, k7⟩ := hK
  have hw : wG = 1000000 := rfl
  have cr : ∀ j : Nat, 72 ≤ j → j < 400 → Z j = S j := fun j j0 j1 => funext fun x => hfr j x (by omega) (by omega) (by omega)
  have e237 : ∀ x : Int, Z 237 x = S 237 x := fun x => congrFun (cr 237 (by first | decide | omega) (by first | decide | omega)) x
  have hM : w_ML Z := fun q hq => (congrFun (cr q.1 (by have := wy_lt q hq; omega) (by have := wy_lt q hq; omega)) (-1)).trans (hR.2.2.1 q hq)
  obtain ⟨z5, z5b⟩ := rZ_ag (Z := Z) k5 (fun j x hj => hfr j x (by omega) (by omega) (by omega))
  have zN : mN N Z := by
    unfold mN at k3 ⊢
    rw [cr 281 (by first | decide | omega) (by first | decide | omega), cr 282 (by first | decide | omega) (by first | decide | omega), e237]; exact k3
  have zX : mX X Z := by
    unfold mX at k4 ⊢
    rw [cr 283 (by first | decide | omega) (by first | decide | omega), cr 284 (by first | decide | omega) (by first | decide | omega), cr 285 (by first | decide | omega) (by first | decide | omega), e237, e237]; exact k4
  have zD : rD Z := rD_ag k6 (fun j x hj => hfr j x (by omega) (by omega) (by omega))
  have h3 : 0 ≤ S 237 3 ∧ S 237 3 ≤ 65536 := by
    have a := hR.1.2.2.2.2.2.2.2.1
    have b := hR.2.2.2.2.1
    omega
  refine wJ_mono (cp_w (D := D2) (S := Z) (T := S 239) (n := S 237 3) (un := S 237 33) (f0 := S 237 34) (p := S 237 43) (sb := S 237 47) hX hM (by rw [e237]; exact h3) (cr 239 (by first | decide | omega) (by first | decide | omega)) (e237 3) zN zX (e237 33) ⟨k7.1.2.1.2.1, k7.1.2.1.2.2⟩ (e237 34) ⟨k7.1.1.2.1, k7.1.1.2.2⟩ z5 (e237 43) ⟨k7.1.2.2.1.2.1, k7.1.2.2.1.2.2⟩ (e237 47) ⟨k7.1.2.2.2.1.2.1, k7.1.2.2.2.1.2.2⟩ zD hder (fun a b c e q => (h9 a b c e q).1)) (fun o2 Z2 hz2 => ?_)
  rcases hz2 with ⟨v, hv, rfl, ⟨⟨y1, y2⟩, ⟨pm2, y3, y4, y5⟩, y6, y7, y8⟩, hcp⟩ | ⟨i2, I2, F2, t, rfl, ⟨hl1, hl2⟩, hk0, hfit, rfl, ⟨⟨y1, y2⟩, ⟨pm2, y3, y4, y5⟩, y6, y7, y8⟩, hkW⟩
  · obtain ⟨g1, g2⟩ := hf v hv
    obtain ⟨g3, g4, g5, gP⟩ := g2 Z2 hcp
    have fq : ∀ (j : Nat) (x : Int), (292 < j ∧ j < 314) → Z2 j x = S j x := fun j x hj => (hcp j x (by omega) (by omega) (by omega) (by omega) (by omega) (by omega)).trans (hfr j x (by omega) (by omega) (by omega))
    have mw : mW Z2 := mW_ag k7.2 k7.1 ⟨by rw [k3.1, y1.1]; omega, by rw [k4.1, y2.1]; omega⟩ (fun x hx => (hcp 237 x (by first | decide | omega) (by first | decide | omega) (by first | decide | omega) (by first | decide | omega) (Or.inl (by first | decide | omega)) (by omega)).trans (e237 x)) (fun j x hj _ => fq j x (by omega)) (fun j x hj _ => fq j x (by omega))
    have hz : (∀ (j : Nat) (x : Int), j ≠ wG → (j < 2000000 ∨ 4000000 ≤ j) → j ≠ 240 → (j < 281 ∨ 292 < j) → (j ≠ 238 ∨ (x ≠ 5 ∧ x ≠ 6)) → (j ≠ 237 ∨ (x < 0 ∨ x = 1 ∨ x = 2 ∨ (12 < x ∧ x < 16) ∨ (16 < x ∧ x < 19) ∨ (20 < x ∧ x < 25) ∨ (29 < x ∧ x < 59) ∨ 61 < x)) → ((j < 293 ∨ 313 < j) ∧ j ≠ 376) → (j ≠ 237 ∨ (x ≠ 33 ∧ x ≠ 34 ∧ x ≠ 43 ∧ x ≠ 47 ∧ x ≠ 48)) → Z2 j x = Z j x) := fun j x q1 q2 q3 q4 q5 q6 _ _ => hcp j x q1 q2 q3 (q4.imp id Or.inl) q5 q6
    have lo := lo_c5 hz
    refine ⟨g1, N, X, pm2, RA_c5 hph hbb htt hR hW hfr h0 hz y7 y8, ⟨cK_ag g3 lo, by unfold wk at g4 ⊢; rw [lo 2 (by first | decide | omega), lo 0 (by first | decide | omega)]; exact g4, ⟨y1, y2, y3, rD_ag zD (fun j x hj => hcp j x (by omega) (by omega) (by omega) (by omega) (by omega) (by omega))⟩, g5, mw⟩, ?_, gP y1 y2⟩
    have := rm_c5 (pm2 := pm2) hc z5b hz (k := 24 * S 237 3 + 240) (by omega) y5
    rw [show 24 * S 237 3 + 240 + 6 = 24 * S 237 3 + 246 by omega] at this
    exact this
  · obtain ⟨g1, g2⟩ := hs i2 I2 F2 t rfl hk0 hfit
    obtain ⟨g3, g4, g5, gP⟩ := g2 Z2 hkW
    obtain ⟨JN, hJN⟩ := NL_pr (S 239) (S 237 3) N i2
    obtain ⟨JX, hJX⟩ := XL_pr (S 239) (S 237 3) X i2
    have hTy := (unit_T ((h9 i2 I2 F2 t rfl).2 _ _ (tV_q (c := i2) (kq_0 hk0)))).2.2
    have ff : ∀ (j : Nat) (x : Int), (292 < j ∧ j < 400) → Z j x = S j x := fun j x hj => hfr j x (by omega) (by omega) (by omega)
    have mw : mW Z2 := mW_s k7.2 k7.1 rfl rfl rfl rfl hkW.2.2.2.2.1.2 hkW.2.2.2.2.2.1 hkW.2.2.2.2 hTy hkW.1 hkW.2.1 y1.1.symm y2.1.symm ⟨by rw [k3.1, y1.1, hJN, List.length_append]; omega, by rw [k4.1, y2.1, hJX, List.length_append]; omega⟩ (fun j x hj x0 x1 => (hkW.2.2.1 j x (by omega) (by omega) (by omega) (by omega) (by omega) (by omega) (by omega) (by omega)).trans (ff j x (by omega))) (fun x x0 x1 => (hkW.2.2.1 294 x (by omega) (by omega) (by omega) (by omega) (by omega) (by omega) (by omega) (by omega)).trans (ff 294 x (by omega))) (fun j x hj x0 x1 => (hkW.2.2.1 j x (by omega) (by omega) (by omega) (by omega) (by omega) (by omega) (by omega) (by omega)).trans (ff j x (by omega))) (fun j x hj x0 x1 => (hkW.2.2.1 j x (by omega) (by omega) (by omega) (by omega) (by omega) (by omega) (by omega) (by omega)).trans (ff j x (by omega)))
    have hz : (∀ (j : Nat) (x : Int), j ≠ wG → (j < 2000000 ∨ 4000000 ≤ j) → j ≠ 240 → (j < 281 ∨ 292 < j) → (j ≠ 238 ∨ (x ≠ 5 ∧ x ≠ 6)) → (j ≠ 237 ∨ (x < 0 ∨ x = 1 ∨ x = 2 ∨ (12 < x ∧ x < 16) ∨ (16 < x ∧ x < 19) ∨ (20 < x ∧ x < 25) ∨ (29 < x ∧ x < 59) ∨ 61 < x)) → ((j < 293 ∨ 313 < j) ∧ j ≠ 376) → (j ≠ 237 ∨ (x ≠ 33 ∧ x ≠ 34 ∧ x ≠ 43 ∧ x ≠ 47 ∧ x ≠ 48)) → Z2 j x = Z j x) := fun j x q1 q2 q3 q4 q5 q6 q7 q8 => hkW.2.2.1 j x q1 q2 q3 (q4.imp id Or.inl) q5 q6 (by omega) q8
    have lo := lo_c5 hz
    refine ⟨g1, _, _, pm2, RA_c5 hph hbb htt hR hW hfr h0 hz y7 y8, ⟨cK_ag g3 lo, by unfold wk at g4 ⊢; rw [lo 2 (by first | decide | omega), lo 0 (by first | decide | omega)]; exact g4, ⟨y1, y2, y3, hkW.2.2.2.1⟩, g5, mw⟩, ?_, gP y1 y2 hTy⟩
    have := rm_c5 (pm2 := pm2) hc z5b hz (k := 24 * S 237 3 + 240) (by omega) y5
    rw [show 24 * S 237 3 + 240 + 6 = 24 * S 237 3 + 246 by omega] at this
    exact this
set_option maxHeartbeats 8000000 in
/-- call 5: compile, with what it leaves of the machine -/
theorem c5F {fa : Int → Int} (hfa : mWf fa S) (hph : 72 < ph ∧ ph < 237) (hbb : 240 < b ∧ b + 19 < 281) (htt : 72 < t0 ∧ t0 + 4 < 237 ∧ 72 < m0 ∧ m0 + 14 < 237 ∧ 72 < ob ∧ ob < 237) {D : Nat} (hX : w_X xs) (hx101 : pe_at (pe_GA xs).xs 101 = some (1, tx_101)) (hx107 : pe_at (pe_GA xs).xs 107 = some (1, tx_101)) (hR : RA t0 m0 ob ph qh b b2 S) (hK : RK N X m pm S) : wJ (pe_GA xs) wY0 (mS [3, 4, 5, 6, 7, 8, 9, 10, 15, 16, 17, 64, 65, 66, 67, 69, 70, 31, 32, 33, 35, 36, 37, 38, 39, 40, 41, 42, 43, 44, 45, 46, 58, 59]) (D + 546) t_X_compile ((pe_at t_X_compile.bl 0).getD (0, [])).2 [(0, (2, 0))] [] S (fun o1 Z => ∀ (M2 : Nat → Prop) (D2 : Nat), wJ (pe_GA xs) wY0 M2 (D2 + 1061) t_M_compile ((pe_at t_M_compile.bl 0).getD (0, [])).2 [(0, (2, 237))] [] Z (fun o2 Z2 => o1 = o2 ∧ ∃ (N2 X2 : List (List Int)) (pm2 : Nat), RA t0 m0 ob ph qh b b2 Z2 ∧ RK N2 X2 m pm2 Z2 ∧ rmB pm pm2 (24 * S 237 3 + 246) S Z2 ∧ c5P fa N X N2 X2 S Z2)) := by
  have hK0 := hK
  obtain ⟨k1, k2, ⟨k3, k4, k5, k6⟩, k7⟩ := hK
  obtain ⟨⟨c1, c2, c3, c4⟩, ⟨c5, c6, c7⟩, c8, ⟨c9, c10, c11, c12, c13⟩, c14, c15⟩ := k1
  obtain ⟨w1, w2, w3⟩ := k2
  obtain ⟨⟨m1, m2, m3, m4, m5, m6, m7, m8⟩, mww⟩ := k7
  have hR0 := hR
  obtain ⟨r1, r2, r3, ⟨r4, r5⟩, r6, r7, r8⟩ := hR
  have a8 := r1.2.2.2.2.2.2.2.1
  have a9 := r1.2.2.2.2.2.2.2.2.1
  have u7 := c1.1.1.1
  have u1 := c1.1.2.1.1
  have v7 := c1.2.2.2.2.1.1
  have v1 := c1.2.2.2.2.1.2
  have hw : wG = 1000000 := rfl
  refine wJ_mono (xc_w (D := D) (T := S 239) (n := S 237 3) (N := N) (X := X) (f0 := S 237 34) (un := S 237 33) (p := S 237 43) (sb := S 237 47) (wx_49 hX) hx101 r1.1 r1.2.1 ⟨by omega, by omega, by omega, by omega⟩ r6 (fun i i0 i1 => r7 i i0 (by omega)) (fun i i0 i1 => by rw [← r7 i i0 (by omega)]; exact a9 i i0 (by omega)) c1.1 c1.2.1 c1.2.2.1 r1.2.2.2.2.2.1 v7 c2 ⟨by omega, by omega, c8.1, c8.2⟩ c3 c4 c5 c6 c7 m1.1 m1.2 m2.1 m2.2 m3.1 ⟨m3.2.1, m3.2.2, by omega⟩ c9 c10 ⟨c11, c12⟩ c14 c15 m4.1) (fun o1 Z hz => ?_)
  intro M2 D2
  rcases hz with ⟨h16, rfl, rfl⟩ | ⟨hlt, c, A, Z1, v, x, hrq, hqf, hxF, htb, rfl⟩ | ⟨hlt, c, A, S1, i2, I2, F2, t, hrq, hD, hk0, hfit, hq, hg, hkC, rfl⟩
  · refine c5_rF (P9 := fun N2 X2 Z2 => c5P fa N X N2 X2 S Z2) (o := .inl 0) hph hbb htt hX hR0 hK0 (cW_01 r1 ⟨c1, c2, c3, c4⟩) cfr_01 (w_up_same _ _ _ _) ?_ (fun b0 b1 q => absurd q (by omega)) (fun _ _ _ _ q => by cases q) (fun v hv => ⟨?_, fun Z2 hcp => ⟨cK_01 hK0.1, ⟨?_, ?_, w3.1, w3.2.1, by rw [w_up_same]; decide⟩, ?_, fun y1 y2 => ?_⟩⟩) (fun _ _ _ _ q => by cases q)
    · exact rm6_R (rmR_up (rmR_rfl S) (by omega) (by decide))
    · rcases hv with ⟨-, rfl⟩ | ⟨q, -⟩ | ⟨q, -⟩ | ⟨q, -⟩
      · rfl
      · omega
      · omega
      · omega
    · show S 2 7 + 0 ≤ _; omega
    · show S 2 1 + 0 ≤ _; omega
    · have f : ∀ (j : Nat) (x : Int), j < 400 → j ≠ 0 → (j < 281 ∨ 292 < j) → j ≠ 237 → j ≠ 238 → j ≠ 240 → Z2 j x = S j x := fun j x q1 q2 q3 q4 q5 q6 => (hcp j x (by omega) (by omega) q6 (q3.imp id Or.inl) (by omega) (by omega)).trans (w_up_slot q2)
      exact mK_ag ⟨m1, m2, m3, m4, m5, m6, m7, m8⟩ (fun x => f 19 x (by first | decide | omega) (by first | decide | omega) (by first | decide | omega) (by first | decide | omega) (by first | decide | omega) (by first | decide | omega)) (fun x hx => (hcp 237 x (by first | decide | omega) (by first | decide | omega) (by first | decide | omega) (by first | decide | omega) (Or.inl (by first | decide | omega)) (by omega)).trans (w_up_slot (by first | decide | omega))) (fun j x hj _ _ => f j x (by omega) (by omega) (by omega) (by omega) (by omega) (by omega)) (fun j x hj _ _ => f j x (by omega) (by omega) (by omega) (by omega) (by omega) (by omega)) (fun j x hj _ _ => f j x (by omega) (by omega) (by omega) (by omega) (by omega) (by omega)) (fun j x hj _ _ => f j x (by omega) (by omega) (by omega) (by omega) (by omega) (by omega))
    · have f : ∀ (j : Nat) (x : Int), j < 400 → j ≠ 0 → (j < 281 ∨ 292 < j) → (j ≠ 237 ∨ (29 < x ∧ x < 59) ∨ 61 < x) → j ≠ 238 → j ≠ 240 → Z2 j x = S j x := fun j x q1 q2 q3 q4 q5 q6 => (hcp j x (by omega) (by omega) q6 (q3.imp id Or.inl) (by omega) (by omega)).trans (w_up_slot q2)
      exact c5P_f hfa (by omega) ⟨⟨m1, m2, m3, m4, m5, m6, m7, m8⟩, mww⟩ k3 k4 y1 y2 (fun j x hj => f j x (by omega) (by omega) (by omega) (by omega) (by omega) (by omega)) (fun x hx => f 237 x (by first | decide | omega) (by first | decide | omega) (by first | decide | omega) (by omega) (by first | decide | omega) (by first | decide | omega))
  · obtain ⟨g1, g2, g3, g4, g5, g6, g7, g8⟩ := ck_f r1 hK0.1 hK0.2.1 r6 (by omega) hrq hqf htb
    have hmK : ∀ Z2 : wS, cpr Z Z2 → mK Z2 := fun Z2 hcp => by
      have f : ∀ (j : Nat) (x : Int), ((18 < j ∧ j < 21) ∨ (29 < j ∧ j < 63) ∨ (292 < j ∧ j < 400)) → Z2 j x = S j x := fun j x hj => (hcp j x (by omega) (by omega) (by omega) (by omega) (by omega) (by omega)).trans (by
        by_cases e : j < 63
        · exact g6 j x (by omega)
        · exact g5 j x (by omega) (by omega) (by omega))
      have f2 : ∀ (j : Nat) (x : Int), 21 ≤ j → j ≤ 29 → x < S 237 34 → Z2 j x = S j x := fun j x j0 j1 j2 => (hcp j x (by omega) (by omega) (by omega) (by omega) (by omega) (by omega)).trans (g7 j x j0 j1 j2)
      exact mK_ag ⟨m1, m2, m3, m4, m5, m6, m7, m8⟩ (fun x => f 19 x (by omega)) (fun x hx => (hcp 237 x (by first | decide | omega) (by first | decide | omega) (by first | decide | omega) (by first | decide | omega) (Or.inl (by first | decide | omega)) (by omega)).trans (g5 237 x (by first | decide | omega) (by first | decide | omega) (by omega))) (fun j x hj _ x1 => by
        by_cases e : j ≤ 29
        · exact f2 j x (by omega) e x1
        · exact f j x (by omega)) (fun j x hj _ _ => f j x (by omega)) (fun j x hj _ _ => f j x (by omega)) (fun j x hj _ _ => f j x (by omega))
    have hcP : ∀ Z2 : wS, cpr Z Z2 → mN N Z2 → mX X Z2 → c5P fa N X N X S Z2 := fun Z2 hcp y1 y2 => by
      have f : ∀ (j : Nat) (x : Int), ((18 < j ∧ j < 21) ∨ (29 < j ∧ j < 63) ∨ (72 ≤ j ∧ j < 237) ∨ (241 ≤ j ∧ j ≤ 280) ∨ (292 < j ∧ j < 400) ∨ j = 13) → Z2 j x = S j x := fun j x hj => (hcp j x (by omega) (by omega) (by omega) (by omega) (by omega) (by omega)).trans (by
        by_cases e : (18 < j ∧ j < 21) ∨ (29 < j ∧ j < 63)
        · exact g6 j x e
        · exact g5 j x (by omega) (by omega) (by omega))
      exact c5P_f hfa (by omega) ⟨⟨m1, m2, m3, m4, m5, m6, m7, m8⟩, mww⟩ k3 k4 y1 y2 (fun j x hj => f j x (by omega)) (fun x hx => (hcp 237 x (by first | decide | omega) (by first | decide | omega) (by first | decide | omega) (by first | decide | omega) (Or.inl (by first | decide | omega)) (by omega)).trans (g5 237 x (by first | decide | omega) (by first | decide | omega) (by omega)))
    rcases hxF with ⟨q1, q2⟩ | ⟨q1, q2⟩ | ⟨q1, i2, I2, F2, t, q2, q3⟩
    · refine c5_rF (P9 := fun N2 X2 Z2 => c5P fa N X N2 X2 S Z2) (o := .inl 0) hph hbb htt hX hR0 hK0 g1 g5 g4 (xr_rm g8) (fun b0 b1 _ q => absurd q (by omega)) (fun _ _ _ _ q => by cases q) (fun v hv => ⟨?_, fun Z2 hcp => ⟨g2, g3, hmK Z2 hcp, fun y1 y2 => hcP Z2 hcp y1 y2⟩⟩) (fun _ _ _ _ q => by cases q)
      rcases hv with ⟨q, -⟩ | ⟨-, -, q⟩ | ⟨-, q, -⟩ | ⟨-, q, -⟩
      · omega
      · rcases q2 with ⟨a, b⟩ | ⟨a, b⟩
        · rcases q with ⟨a', b'⟩ | ⟨a', b'⟩
          · rw [b, b']
          · exact absurd a (fun z => z.elim a'.1 a'.2)
        · rcases q with ⟨a', b'⟩ | ⟨a', b'⟩
          · exact absurd a' (fun z => z.elim a.1 a.2)
          · rw [b, b']
      · omega
      · omega
    · refine c5_rF (P9 := fun N2 X2 Z2 => c5P fa N X N2 X2 S Z2) (o := .inl x) hph hbb htt hX hR0 hK0 g1 g5 g4 (xr_rm g8) (fun b0 b1 _ _ => q2 _ (rRA_C hX hx107)) (fun _ _ _ _ q => by cases q) (fun v hv => ⟨?_, fun Z2 hcp => ⟨g2, g3, hmK Z2 hcp, fun y1 y2 => hcP Z2 hcp y1 y2⟩⟩) (fun _ _ _ _ q => by cases q)
      rcases hv with ⟨q, -⟩ | ⟨-, q, -⟩ | ⟨-, -, q⟩ | ⟨-, -, i2, I2, F2, t, q, -⟩
      · omega
      · omega
      · rw [Sum.inl.inj q]
      · cases q
    · refine c5_rF (P9 := fun N2 X2 Z2 => c5P fa N X N2 X2 S Z2) (o := .inr (i2, I2, F2, t)) hph hbb htt hX hR0 hK0 g1 g5 g4 (xr_rm g8) (fun b0 b1 _ _ => q2 _ (rRA_C hX hx107)) (fun i3 I3 F3 t3 q => by cases q; exact ⟨cD_nK m1.2.1 q2, fun nn nx hV => q2 _ (RT_C hV)⟩) (fun v hv => ⟨?_, fun Z2 hcp => ⟨g2, g3, hmK Z2 hcp, fun y1 y2 => hcP Z2 hcp y1 y2⟩⟩) (fun i3 I3 F3 t3 q z1 z2 => by
        cases q
        rcases q3 with ⟨a, -⟩ | ⟨-, a, -⟩
        · exact absurd z1 a
        · exact absurd z2 a)
      rcases hv with ⟨q, -⟩ | ⟨-, q, -⟩ | ⟨-, -, q⟩ | ⟨-, -, i3, I3, F3, t3, q, z⟩
      · omega
      · omega
      · cases q
      · cases q
        rcases q3 with ⟨a, b⟩ | ⟨a, -, b⟩
        · rcases z with ⟨-, z⟩ | ⟨z, -⟩
          · rw [b, z]
          · exact absurd z a
        · rcases z with ⟨z, -⟩ | ⟨-, -, z⟩
          · exact absurd a z
          · rw [b, z]
  · obtain ⟨g1, g2, g3, g4, g5, g6⟩ := ck_s r1 hK0.1 hK0.2.1 r6 hrq hq hg hkC m2.2.1
    have ht := ck_t hrq hg hkC
    obtain ⟨q1, -, -, q6, q7, -⟩ := hq
    have hc : i2 = c := by
      have a := qx_at q1.1 q1.2
      have b1 := q1.2.2.1
      have hq := kq_cs (S 239) (S 237 3) N X i2
      have hs := sk_rx (lx_si (S 239) (S 237 3) 0 (tp (S 239) (S 237 3) 0 i2))
      have h0 := tk_x0 (T := S 239) (n := S 237 3) (h := 0) (p := tp (S 239) (S 237 3) 0 i2)
      have ha := a.2.2.2.1
      by_cases e : i2 < c
      · have := (ha e).1
        omega
      · omega
    have hF : S 237 34 + (F2.length : Int) ≤ 400 ∧ 0 < F2.length := by
      have a := q6.2.2.1
      have b := q7.2.2
      omega
    have hl3 : (((I2 ++ [((0, 0, 0, S 237 34) : pz_I)] ++ [(29, 0, 0, S 237 34)]).length : Nat) : Int) = (I2.length : Int) + 2 := by rw [List.length_append, List.length_append]; show ((I2.length + 1 + 1 : Nat) : Int) = _; omega
    have hs3 := pz_s_2 I2 (S 237 34)
    refine c5_rF (P9 := fun N2 X2 Z2 => c5P fa N X N2 X2 S Z2) (o := .inr (i2, I2, F2, t)) hph hbb htt hX hR0 hK0 g1 g5 g4 (rm6_R g6) (fun b0 b1 _ _ => hD _ (rRA_C hX hx107)) (fun i3 I3 F3 t3 q => by cases q; exact ⟨cD_nK m1.2.1 hD, fun nn nx hV => hD _ (RT_C hV)⟩) (fun v hv => ?_) (fun i3 I3 F3 t3 q z1 z2 => ?_)
    · exfalso
      rcases hv with ⟨q, -⟩ | ⟨-, q, -⟩ | ⟨-, -, q⟩ | ⟨-, -, i3, I3, F3, t3, q, z⟩
      · omega
      · omega
      · cases q
      · cases q
        rcases z with ⟨z, -⟩ | ⟨-, z, -⟩
        · exact z hk0
        · exact z hfit
    · cases q
      refine ⟨rfl, fun Z2 hkW => ⟨by rw [hc]; exact g2, g3, ?_, fun y1 y2 hTy => ?_⟩⟩
      rotate_left
      · exact c5P_s hfa ⟨⟨m1, m2, m3, m4, m5, m6, m7, m8⟩, mww⟩ ⟨rfl, by omega⟩ (fun i i0 i1 => by rw [← r7 i i0 (by omega)]; exact a9 i i0 (by omega)) k3 k4 y1 y2 hF hkC hkW ht (fun j x hj => g5 j x (by omega) (by omega) (by omega)) (by omega) (fun x hx => ck_19 hrq hg hkC x hx) ((hD _ R10_C) _ _ _ _ rfl (fun q hq => by rw [List.mem_singleton.mp hq]; exact ⟨Int.le_refl _, Int.le_refl _⟩)) hTy
      have hz : (∀ (j : Nat) (x : Int), j ≠ wG → (j < 2000000 ∨ 4000000 ≤ j) → j ≠ 240 → (j < 281 ∨ 292 < j) → (j ≠ 238 ∨ (x ≠ 5 ∧ x ≠ 6)) → (j ≠ 237 ∨ (x < 0 ∨ x = 1 ∨ x = 2 ∨ (12 < x ∧ x < 16) ∨ (16 < x ∧ x < 19) ∨ (20 < x ∧ x < 25) ∨ (29 < x ∧ x < 59) ∨ 61 < x)) → ((j < 293 ∨ 313 < j) ∧ j ≠ 376) → (j ≠ 237 ∨ (x ≠ 33 ∧ x ≠ 34 ∧ x ≠ 43 ∧ x ≠ 47 ∧ x ≠ 48)) → Z2 j x = Z j x) := fun j x q1 q2 q3 q4 q5 q6 q7 q8 => hkW.2.2.1 j x q1 q2 q3 (q4.imp id Or.inl) q5 q6 (by omega) q8
      have lo := lo_c5 hz
      obtain ⟨y1, y2, y3, y4⟩ := hkW
      refine mK_s (I := I2 ++ [(0, 0, 0, S 237 34)] ++ [(29, 0, 0, S 237 34)]) (F := F2) ⟨m1, m2, m3, m4, m5, m6, m7, m8⟩ rfl rfl rfl rfl hF hlt ⟨by omega, by omega⟩ q6.2.2.2.2.1 (by rw [lo 19 (by first | decide | omega), lo 30 (by first | decide | omega)]; exact hkC.1) (fun k hk => cR_ag (hkC.2.1 k hk) lo) y1 y2 (fun j x hj x0 x1 => ?_) (fun j x hj x0 x1 => ?_) (fun j x hj x0 x1 => ?_) (fun j x hj x0 x1 => ?_)
      · by_cases e : j < 237
        · rw [lo j e]; exact ht j x (by omega)
        · rw [y3 j x (by omega) (by omega) (by omega) (by omega) (by omega) (by omega) (by omega) (by omega)]; exact g5 j x (by omega) (by omega) (by omega)
      · by_cases e : j < 237
        · rw [lo j e]; exact ht j x (by omega)
        · rw [y3 j x (by omega) (by omega) (by omega) (by omega) (by omega) (by omega) (by omega) (by omega)]; exact g5 j x (by omega) (by omega) (by omega)
      · by_cases e : j < 237
        · rw [lo j e]; exact ht j x (by omega)
        · rw [y3 j x (by omega) (by omega) (by omega) (by omega) (by omega) (by omega) (by omega) (by omega)]; exact g5 j x (by omega) (by omega) (by omega)
      · by_cases e : j < 237
        · rw [lo j e]; exact ht j x (by omega)
        · rw [y3 j x (by omega) (by omega) (by omega) (by omega) (by omega) (by omega) (by omega) (by omega)]; exact g5 j x (by omega) (by omega) (by omega)
end Wms
