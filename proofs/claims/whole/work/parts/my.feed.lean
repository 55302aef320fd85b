/-! PART my: feed, from what is between two calls to what is between two calls. -/
section Wmy0
variable {Sb : wS} {S Z : wS} {N X : List (List Int)}
theorem cNt_y (h : cNt N X S) (e14 : Z 14 3 = S 14 3) (e : ∀ j : Nat, (2 ≤ j ∧ j < 19 ∧ j ≠ 14) → Z j = S j) : cNt N X Z := by
  obtain ⟨⟨⟨a1, a2, a3, a4⟩, a5⟩, a6⟩ := h
  have e2 : ∀ x : Nat, x ≤ 10 → Z (2 + x) = S (2 + x) := fun x hx => e _ (by omega)
  refine ⟨⟨⟨w2_ag a1 e2, fun k hk => wqL_eq (a2 k hk) ⟨e 3 (by first | decide | omega), e 4 (by first | decide | omega), e 5 (by first | decide | omega)⟩, cL_eq a3 e2 (Or.inl rfl), cL_eq a4 e2 (Or.inr rfl)⟩, ?_⟩, by rw [e 2 (by first | decide | omega), e 4 (by first | decide | omega), e 3 (by first | decide | omega)]; exact a6⟩
  unfold rd_L
  rw [e14, e 15 (by first | decide | omega), e 16 (by first | decide | omega), e 17 (by first | decide | omega)]
  exact a5
theorem cK_y (h : cK N X S) (e : ∀ j : Nat, (2 ≤ j ∧ j < 237 ∧ j ≠ 14) → Z j = S j) : cK N X Z := by
  obtain ⟨⟨a1, a2, a3, a4⟩, ⟨a5, a6, a7⟩, a8, a9, a10, a11⟩ := h
  have e2 : ∀ x : Nat, x ≤ 10 → Z (2 + x) = S (2 + x) := fun x hx => e _ (by omega)
  refine ⟨⟨w2_ag a1 e2, fun k hk => wqL_eq (a2 k hk) ⟨e 3 (by first | decide | omega), e 4 (by first | decide | omega), e 5 (by first | decide | omega)⟩, cL_eq a3 e2 (Or.inl rfl), cL_eq a4 e2 (Or.inr rfl)⟩, ⟨ntL_ag a5 (congrFun (e 63 (by first | decide | omega)) 7) (fun j j0 j1 => congrFun (e j (by omega)) (-1)), vaL_ag a6 (congrFun (e 63 (by first | decide | omega)) 13) (fun j j0 j1 => congrFun (e j (by omega)) (-1)), by rw [e 64 (by first | decide | omega)]; exact a7⟩, by rw [e 4 (by first | decide | omega), e 3 (by first | decide | omega)]; exact a8, by rw [e 31 (by first | decide | omega), e 32 (by first | decide | omega), e 33 (by first | decide | omega), e 19 (by first | decide | omega)]; exact a9, si_L_ag a10 (fun j x hj => congrFun (e j (by omega)) x), ?_⟩
  rw [e 35 (by first | decide | omega), e 36 (by first | decide | omega), e 37 (by first | decide | omega), e 40 (by first | decide | omega), e 19 (by first | decide | omega)]
  exact a11
end Wmy0
section Wmy
variable {Sb : wS} {xs : List (Nat × List Int32)} {d : Nat} {S0 S Z : wS} {p w m : Nat} {HT : Int → Int} {cs : List hCR} {ms : List hMR} {os : Int → List Int} {X : List (List Int)} {mo t n B B2 oq : Int} {fa : Int → Int} {WE : aA → Prop} {A A2 : aA} {K2 : aK} {ml : List Nat} {k c s kd nms ne ec bh nm en : Int} {b ba : Nat} {ar : List aV} {e : aE} {V Z2 Y : wS} {o : wO} {dn : Int} {H2 : List aH} {N2 : List (List Int)} {E2 : Int → List aE} {C2 : List aQ} {W2 : Int} {c2 : Int → Int} {k2 : Int → Int → Int} {mk rk : Nat → Int → Prop} {K : aK} {T : List aO} {H : List aH} {E : Int → List aE} {gk gb es lo hi a : Int} {r : List aE × Int × Option aE} {A1 : aA} {tl cl : List Int} {sl : Nat → List Int} {L : List aC} {G : Int → aV} {u : aV} {x : List Int} {T2 : List aO} {L2 : List aC} {G2 : Int → aV} {H2 : List aH} {c2 : Int → Int} {y : Int} {Q : wO → wS → Prop} {ps : List (Int × aV)} {k hd wh : Int} {f a9 pn fn md : Int} {vn m9 : Nat} {th : aV} {g : Int} {lp : List aV} {l ds fo g : Int} {mk : Nat → Int → Prop} {C2 : List aQ} {W2 : Int} {RZ : wS → Prop} {N3 : Nat} {SB : wS} {r r0 : Int} {sh : Int} {K9 : aK} {nt : Int} {R2 : List Int} {S2 : Int → aV} {wh en9 : Int} {q b2 pm m9 : Nat} {N : List (List Int)}
def rQn (j : Nat) (x : Int) : Prop := rQm j x ∨ (j = 237 ∧ x = 3) ∨ j = 239 ∨ j = 240
theorem rRel_y {S1 : wS} (h : rRel S0 Sb HT cs ms os X mo A S) (hl : kLn (a_K A 0) ∧ kLn (a_K A 1)) (f : ∀ (j : Nat) (x : Int), 237 ≤ j → j ≤ 387 → ¬ rQn j x → Z j x = S j x) (hM : w_ML Z) (hs : ∀ (j : Nat) (x : Int), rSta j x → Z j x = S1 j x) : rRel S1 S1 HT cs ms os X mo A Z := by
  have g : ∀ (j : Nat) (x : Int), 357 ≤ j → j ≤ 375 → Z j x = S j x := fun j x j0 j1 => f j x (by omega) (by omega) (by unfold rQn rQm; omega)
  have hx : rTx S Z := rTx_of (f _ _ (by first | decide | omega) (by first | decide | omega) (by unfold rQn rQm; omega)) (f _ _ (by first | decide | omega) (by first | decide | omega) (by unfold rQn rQm; omega)) (fun j x j0 j1 => f j x (by omega) (by omega) (by unfold rQn rQm; omega))
  have hF : rTm 0 (fun j x => rQn j x ∨ j < 237 ∨ 387 < j) S Z := fun j x _ hm => f j x (by omega) (by omega) (fun q => hm (Or.inl q))
  have hK : ∀ (t : Int), rTk t S (a_K A t) → rTk t Z (a_K A t) := fun t hk => rTk_ag hk hx ⟨fun j hj => g j t (by omega) (by omega), fun j i j0 j1 _ _ => g j i (by omega) (by omega), fun j i j0 j1 _ _ => g j i (by omega) (by omega)⟩ (g 359 t (by first | decide | omega) (by first | decide | omega)) (fun i _ _ => ⟨g 363 i (by first | decide | omega) (by first | decide | omega), g 364 i (by first | decide | omega) (by first | decide | omega)⟩)
  exact ⟨hM, ⟨hK 0 h.2.1.1, hK 1 h.2.1.2⟩, ⟨rR_W (A := A) h hF hx (fun j x hj hm => by unfold rWo at hj; rcases hm with hm | hm; (unfold rQn rQm at hm; omega); omega), rR_H (A := A) h hF (fun j x hj hm => by rcases hm with hm | hm; (unfold rQn rQm at hm; omega); omega)⟩, ⟨rR_N (A := A) h hF (fun j x hj hm => by rcases hm with hm | hm; (unfold rQn rQm at hm; omega); omega), rR_X (A := A) h hF hx (fun j x hj hm => by rcases hm with hm | hm; (unfold rQn rQm at hm; omega); omega), rR_t (A := A) h hF (fun j x hj hm => by unfold txD at hj; rcases hm with hm | hm; (unfold rQn rQm at hm; omega); omega)⟩, rR_E (A := A) h hF (fun j x hj hm => by rcases hm with hm | hm; (unfold rQn rQm at hm; omega); omega), ⟨rR_O (A := A) h hF (fun x hm => by rcases hm with hm | hm; (unfold rQn rQm at hm; omega); omega) (fun hm => by rcases hm with hm | hm; (unfold rQn rQm at hm; omega); omega), rR_R (A := A) h hF (fun x hm => by rcases hm with hm | hm; (unfold rQn rQm at hm; omega); omega) (fun hm => by rcases hm with hm | hm; (unfold rQn rQm at hm; omega); omega)⟩, ⟨rR_C (A := A) h hF (fun j x hj hm => by unfold chM at hj; rcases hm with hm | hm; (unfold rQn rQm at hm; omega); omega), rR_S (A := A) h hF hx (fun j x hj hm => by rcases hm with hm | hm; (unfold rQn rQm at hm; omega); omega)⟩, rR_cn (A := A) h hF (fun j x hj hm => by unfold rcD at hj; rcases hm with hm | hm; (unfold rQn rQm at hm; omega); omega), fun j x hj => (hs j x hj).trans rBs_s.symm⟩
theorem wz_2 : ∀ q ∈ wz_n, 2 ≤ q.1 := by decide
theorem cRel_y (h : cRel S0 p HT cs ms os X mo A S) (hp : p = 73 ∨ p = 162) (f : ∀ (j : Nat) (x : Int), (2 ≤ j ∧ j < 237 ∧ (j ≠ 14 ∨ x ≠ 5)) → Z j x = S j x) (hI : gI Z) : cRel Z p HT cs ms os X mo A Z := by
  have eT : cTx S Z := cTx_of (f 2 1 (by omega)) (fun y => f 3 y (by omega))
  obtain ⟨ix, fl, ow, hE⟩ := h.2.2.2.2.1
  obtain ⟨c1, ⟨c2, c6⟩, c3, c4, c5⟩ := h.2.2.2.2.2.2.2.1
  refine ⟨⟨fun q hq => (f q.1 (-1) (by have := wz_237 q hq; have := wz_2 q hq; omega)).trans (h.1.1 q hq), hI, rmR_rfl Z⟩, ⟨cTk_ag h.2.1.1 eT (fun j y hj => f j y (by omega)), cTk_ag h.2.1.2 eT (fun j y hj => f j y (by omega))⟩, ⟨cWd_ag h.2.2.1.1 eT (fun j x hj => f j x (by unfold cWo at hj; omega)), cSw_ag h.2.2.1.2.1 (fun j x hj => f j x (by omega)), cPo_ag h.2.2.1.2.2 (f 72 3 (by omega)) (fun x => ⟨f 134 x (by omega), f 135 x (by omega)⟩) (f 140 2 (by omega)) (f 150 1 (by omega))⟩, cNt_y h.2.2.2.1 (f 14 3 (by omega)) (fun j hj => funext fun x => f j x (by omega)), ⟨ix, fl, ow, cSe_ag hE (fun j x hj => f j x (by unfold cEo at hj; omega))⟩, ⟨cOu_ag h.2.2.2.2.2.1.1 (f 72 13 (by omega)) (fun x => f 151 x (by omega)), cTrc_ag h.2.2.2.2.2.1.2 (fun x => f 152 x (by omega)) (f 72 15 (by omega))⟩, ⟨cCh_ag h.2.2.2.2.2.2.1.1 (fun j x hj => f j x (by omega)), cStc_ag h.2.2.2.2.2.2.1.2 eT (fun j x hj => f j x (by omega))⟩, ⟨fun i hi => (f 150 i (by omega)).trans (c1 i hi), ⟨(f 72 11 (by omega)).trans c2, (cPl_s (cPl_ag c6 (f 2 1 (by omega)) (f 3 (-1) (by omega)) (f 2 7 (by omega)) (f 4 (-1) (by omega)) (Int.le_refl _) (Nat.le_refl _)) (pV_ge S0) ((f 150 3 (by omega)).trans (c1 3 (by decide))) ((f 2 10 (by omega)).trans (cNt_10 h.2.2.2.1))).1⟩, (f 158 19 (by omega)).trans c3, fun i hi => (f 160 i (by omega)).trans (c4 i hi), fun s s0 s1 => ?_⟩, fun _ _ _ => rfl⟩
  rw [f 19 9 (by omega)] at s1
  obtain ⟨a1, a2, a3, a4⟩ := c5 s s0 s1
  exact ⟨(f 41 s (by omega)).trans a1, (f 42 s (by omega)).trans a2, (f 43 s (by omega)).trans a3, (f 45 s (by omega)).trans a4⟩
/-- the tape alone has changed -/
theorem RM_f0 (h : RM xs m9 S) (hm : m9 < 512) (hRA : ∀ (t0 m0 ob p q b b2 : Nat), (18 < p ∧ p < 237 ∧ 18 < q) → (239 < b ∧ b + 19 < 400 ∧ 18 < t0 ∧ t0 + 4 < 237 ∧ 18 < m0 ∧ m0 + 14 < 237 ∧ 18 < ob ∧ ob < 237) → RA t0 m0 ob p q b b2 S → RA t0 m0 ob p q b b2 Z) (f : ∀ (j : Nat) (x : Int), (2 ≤ j ∧ j < 4000000 ∧ (j ≠ 1000001 ∨ x < 0)) → j ≠ wG → (j ≠ 14 ∨ x ≠ 5) → j ≠ 239 → (j ≠ 237 ∨ (x ≠ 0 ∧ x ≠ 3)) → Z j x = S j x) (h01 : Z 0 1 ≤ S 0 1 + 16) (hI : gI Z) (hR : rmR6 S Z) (hT9 : S 0 1 ≤ 16 * (m9 : Int) → S 1 (-1) ≤ 16383 → Z 1 (-1) ≤ 16383) : RM xs (m9 + 1) Z := by
  obtain ⟨p, q, b, b2, pm, X, HT, nt, cs, ms, os, mo, fa, A, hp, hA, ⟨⟨k1, ⟨k2, k3, k4, k5⟩, k6⟩, k7⟩, ⟨hC, hr⟩, hw, hT, ⟨hX, hX2⟩, hv, hV, ho, -⟩ := h
  have hpp := RMp_p hp
  have hg : wG = 1000000 := rfl
  have hA2 := hRA _ _ _ _ _ _ _ (by omega) (by omega) hA
  have fl : ∀ (j : Nat) (x : Int), (2 ≤ j ∧ j < 237 ∧ (j ≠ 14 ∨ x ≠ 5)) → Z j x = S j x := fun j x hj => f j x (by omega) (by rw [hg]; omega) (by omega) (by omega) (by omega)
  have fj : ∀ j : Nat, (2 ≤ j ∧ j < 237 ∧ j ≠ 14) → Z j = S j := fun j hj => funext fun x => fl j x (by omega)
  have fr : ∀ (j : Nat) (x : Int), (241 ≤ j ∧ j ≤ 387) ∨ (j = 237 ∧ x ≠ 0 ∧ x ≠ 3) ∨ (2000000 ≤ j ∧ j < 4000000) → Z j x = S j x := fun j x hj => f j x (by omega) (by rw [hg]; omega) (by omega) (by omega) (by omega)
  have h16 : 0 ≤ Z 237 16 := by rw [fr 237 16 (by omega), k2.1]; omega
  refine ⟨p, q, b, b2, pm, X, HT, nt, cs, ms, os, mo, fa, A, hp, hA2, ⟨⟨cK_y k1 fj, ⟨mN_ag9 k2 (fun j x hj => fr j x (by omega)), ?_, (rZ_ag k4 (fun j x hj => fr j x (by omega))).1, rD_ag k5 (fun j x hj => fr j x (by omega))⟩, mK_ag k6 (fun x => fl 19 x (by omega)) (fun x hx => fr 237 x (by omega)) (fun j x hj _ _ => ?_) (fun j x hj _ _ => ?_) (fun j x hj _ _ => ?_) (fun j x hj _ _ => ?_)⟩, mW_agF k7 k6 ⟨by rw [fr 237 16 (by omega)]; exact Int.le_refl _, by rw [fr 237 19 (by omega)]; exact Int.le_refl _⟩ (fun x hx => fr 237 x (by omega)) (fun j x hj _ => fr j x (by omega)) (fun j x hj _ => fr j x (by omega))⟩, ⟨cRel_y hC hpp.1 fl hI, rRel_y hr ⟨hw.1.1.1, hw.1.2.1⟩ (fun j x j0 j1 hn => f j x (by omega) (by rw [hg]; omega) (by omega) (by unfold rQn at hn; omega) (by unfold rQn rQm at hn; omega)) hA2.2.2.1 (fun _ _ _ => rfl)⟩, wf_B (wf_cs k6 hw (cdW_r (fun j x hj => fr j x (by omega))) (fr 237 47 (by omega)) (by rw [fr 237 16 (by omega), k2.1]; exact Int.le_refl _)) ⟨by omega, by omega⟩, stT_ag hT (fun j x hj => ?_) h16 (fun g g0 g1 => ?_), ⟨hX, by omega⟩, ⟨pV_ge Z, by rw [pV_ag (fl 2 1 (by decide)) (fl 150 3 (by decide)) (fl 2 10 (by decide)) (fl 2 7 (by decide))]; have := hv.2; omega⟩, ?_, ⟨(f 1000001 (-1) (by omega) (by rw [hg]; decide) (by omega) (by first | decide | omega) (by omega)).trans ho.1, kL_ag ho.2 (fun j j0 j1 => fl j (-1) (by have := RMq hp; omega))⟩, by omega⟩
  · unfold mX at k3 ⊢
    rw [fr 237 19 (by omega), fr 237 20 (by omega)]
    refine ⟨k3.1, k3.2.1, k3.2.2.1, fun k hk => ?_⟩
    rw [fr 284 _ (by omega), fr 285 _ (by omega)]
    exact ⟨(k3.2.2.2 k hk).1, (k3.2.2.2 k hk).2.1, (k3.2.2.2 k hk).2.2.1, fun y hy => by rw [fr 283 _ (by omega)]; exact (k3.2.2.2 k hk).2.2.2 y hy⟩
  · by_cases c : j < 237
    · exact fl j x (by omega)
    · exact fr j x (by omega)
  · by_cases c : j < 237
    · exact fl j x (by omega)
    · exact fr j x (by omega)
  · by_cases c : j < 237
    · exact fl j x (by omega)
    · exact fr j x (by omega)
  · by_cases c : j < 237
    · exact fl j x (by omega)
    · exact fr j x (by omega)
  · by_cases c : j < 237
    · exact fl j x (by unfold stD at hj; omega)
    · exact fr j x (by unfold stD at hj; omega)
  · rw [fr 237 34 (by omega)] at g1
    rw [fr 295 g (by omega)]
    exact hT.2.2.2.2 g g0 g1
  · unfold rV at hV ⊢
    rw [(rZ_ag k4 (fun j x hj => fr j x (by omega))).2]
    have := hR.1.1
    have := hR.1.2
    exact ⟨⟨by omega, by omega⟩, rX_tr hV.2.1 hR.2, hT9 (by have := hv.2; omega) hV.2.2.1, by rw [fl 19 7 (by omega)]; have := hV.2.2.2.1; omega, by rw [fl 31 (-1) (by omega)]; have := hV.2.2.2.2; omega⟩
theorem RM_f (h : RM xs m9 S) (hm : m9 < 512) (hRA : ∀ (t0 m0 ob p q b b2 : Nat), (18 < p ∧ p < 237 ∧ 18 < q) → (239 < b ∧ b + 19 < 400 ∧ 18 < t0 ∧ t0 + 4 < 237 ∧ 18 < m0 ∧ m0 + 14 < 237 ∧ 18 < ob ∧ ob < 237) → RA t0 m0 ob p q b b2 S → RA t0 m0 ob p q b b2 Z) (f : ∀ (j : Nat) (x : Int), (2 ≤ j ∧ j < 4000000) → j ≠ wG → (j ≠ 14 ∨ x ≠ 5) → j ≠ 239 → (j ≠ 237 ∨ (x ≠ 0 ∧ x ≠ 3)) → Z j x = S j x) (h01 : Z 0 1 ≤ S 0 1 + 16) (hI : gI Z) (hR : rmR S Z) (hT9 : S 0 1 ≤ 16 * (m9 : Int) → S 1 (-1) ≤ 16383 → Z 1 (-1) ≤ 16383) : RM xs (m9 + 1) Z := RM_f0 h hm hRA (fun j x a => f j x ⟨a.1, a.2.1⟩) h01 hI (rm6_R hR) hT9
end Wmy
