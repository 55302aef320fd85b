/-! PART mu: a call that asks leaves what is between two calls. -/
section Wmu
variable {xs : List (Nat × List Int32)} {d : Nat} {S0 S Z : wS} {p w m : Nat} {HT : Int → Int} {cs : List hCR} {ms : List hMR} {os : Int → List Int} {X : List (List Int)} {mo t n B B2 oq : Int} {fa : Int → Int} {WE : aA → Prop} {A A2 : aA} {K2 : aK} {ml : List Nat} {k c s kd nms ne ec bh nm en : Int} {b ba : Nat} {ar : List aV} {e : aE} {V Z2 Y : wS} {o : wO} {dn : Int} {H2 : List aH} {N2 : List (List Int)} {E2 : Int → List aE} {C2 : List aQ} {W2 : Int} {c2 : Int → Int} {k2 : Int → Int → Int} {mk rk : Nat → Int → Prop} {K : aK} {T : List aO} {H : List aH} {E : Int → List aE} {gk gb es lo hi a : Int} {r : List aE × Int × Option aE} {A1 : aA} {tl cl : List Int} {sl : Nat → List Int} {L : List aC} {G : Int → aV} {u : aV} {x : List Int} {T2 : List aO} {L2 : List aC} {G2 : Int → aV} {H2 : List aH} {c2 : Int → Int} {y : Int} {Q : wO → wS → Prop} {ps : List (Int × aV)} {k hd wh : Int} {f a9 pn fn md : Int} {vn m9 : Nat} {th : aV} {g : Int} {lp : List aV} {l ds fo g : Int} {mk : Nat → Int → Prop} {C2 : List aQ} {W2 : Int} {RZ : wS → Prop} {N3 : Nat} {SB : wS} {r r0 : Int} {sh : Int} {K9 : aK} {nt : Int} {R2 : List Int} {S2 : Int → aV} {wh en9 : Int} {q b2 pm m9 : Nat} {N : List (List Int)}
theorem RMp_p (h : RMp p q b b2) : (p = 73 ∨ p = 162) ∧ (q = 73 ∨ q = 162) ∧ (b = 241 ∨ b = 261) ∧ (b2 = 241 ∨ b2 = 261) ∧ ((p = 73 ∧ b = 241) ∨ (p = 162 ∧ b = 261)) := by
  rcases h with ⟨rfl, rfl, rfl, rfl⟩ | ⟨rfl, rfl, rfl, rfl⟩ <;> decide
/-- the code that is kept, as steps want it -/
theorem stX_of (hE : ∃ ad hp, w_E wY0 ad S hp) (hM : w_ML S) (hk : RKx N X pm S) (hf : mWf fa S) (hX : ∀ k ∈ X, ∀ y ∈ k, 0 ≤ y ∧ y ≤ 255) : stX S fa X := by
  obtain ⟨⟨c1, c2, c3, ⟨d1, d2, d3, d4, d5⟩, c5⟩, ⟨hN, hx, -, -⟩, hmk⟩ := hk
  have h43 := hmk.2.2.1
  refine ⟨hmk, hf.1, ⟨d1, d2, d5, d4⟩, fun x x0 x1 => ⟨ir_E hE (wy_pr rfl) wt_302 x0 (by rw [ml_302 hM]; omega), ir_E hE (wy_pr rfl) wt_303 x0 (by rw [ml_303 hM]; omega)⟩, fun k hk => ⟨hX k hk, ?_⟩, hx.1.symm, by rw [hN.1]; have := hN.2.1; omega⟩
  obtain ⟨i, hi, he⟩ := List.mem_iff_getElem.mp hk
  have z := (hx.2.2.2 i hi).2.2.1
  rw [List.getD_eq_getElem?_getD, List.getElem?_eq_getElem hi] at z
  rw [← he]
  exact Nat.le_trans z (by first | decide | omega)
theorem cdW_r (f : ∀ (j : Nat) (x : Int), ((293 ≤ j ∧ j ≤ 309) ∨ (j = 237 ∧ (x = 16 ∨ x = 19 ∨ x = 34 ∨ x = 43 ∨ x = 47))) → Z j x = S j x) : cdW S Z := ⟨⟨by rw [f 237 16 (by omega)]; exact Int.le_refl _, by rw [f 237 19 (by omega)]; exact Int.le_refl _, by rw [f 237 34 (by omega)]; exact Int.le_refl _, by rw [f 237 43 (by omega)]; exact Int.le_refl _, by rw [f 237 47 (by omega)]; exact Int.le_refl _⟩, fun j x hj _ _ => f j x (by omega), fun j x hj _ _ => f j x (by omega), fun j x hj _ _ => f j x (by omega)⟩
/-- nothing but workings of the reference has changed -/
abbrev rmR6 (S Z : wS) : Prop := rm6 S Z
theorem RM_q0 (h : RM xs m9 S) (hm : m9 < 512) (f : ∀ (j : Nat) (x : Int), j < 4000000 → j ≠ wG → (j ≠ 1000001 ∨ x < 0) → ¬ rQm j x → Z j x = S j x) (hM : w_ML Z) (hI : gI Z) (hR : rmR6 S Z) : RM xs (m9 + 1) Z := by
  obtain ⟨p, q, b, b2, pm, X, HT, nt, cs, ms, os, mo, fa, A, hp, hA, ⟨⟨k1, ⟨k2, k3, k4, k5⟩, k6⟩, k7⟩, ⟨hC, hr⟩, hw, hT, ⟨hX, hX2⟩, hv, hV, ho, -⟩ := h
  have hpp := RMp_p hp
  have hg : wG = 1000000 := rfl
  have f1 : ∀ (j : Nat) (x : Int), j < 4000000 → (j ≠ 1000000 ∧ j ≠ 1000001) → ¬ rQm j x → Z j x = S j x := fun j x j0 j1 j2 => f j x j0 (by rw [hg]; exact j1.1) (Or.inl j1.2) j2
  have fl : ∀ (j : Nat) (x : Int), j < 237 → Z j x = S j x := fun j x hj => f1 j x (by omega) (by omega) (by unfold rQm; omega)
  have fj : ∀ j : Nat, j < 237 → Z j = S j := fun j hj => funext fun x => fl j x hj
  have fr : ∀ (j : Nat) (x : Int), (239 ≤ j ∧ j ≤ 344) ∨ (j = 237 ∧ 1 ≤ x ∧ x ≤ 109) ∨ (2000000 ≤ j ∧ j < 4000000) ∨ j = 376 → Z j x = S j x := fun j x hj => f1 j x (by omega) (by omega) (by unfold rQm; omega)
  have h16 : 0 ≤ Z 237 16 := by rw [fr 237 16 (by omega), k2.1]; omega
  refine ⟨p, q, b, b2, pm, X, HT, nt, cs, ms, os, mo, fa, A, hp, ?_, ⟨⟨cK_ag k1 fj, ⟨mN_ag9 k2 (fun j x hj => fr j x (by omega)), ?_, (rZ_ag k4 (fun j x hj => fr j x (by omega))).1, rD_ag k5 (fun j x hj => fr j x (by omega))⟩, mK_ag k6 (fun x => fl 19 x (by first | decide | omega)) (fun x hx => fr 237 x (by omega)) (fun j x hj _ _ => ?_) (fun j x hj _ _ => ?_) (fun j x hj _ _ => ?_) (fun j x hj _ _ => ?_)⟩, mW_agF k7 k6 ⟨by rw [fr 237 16 (by omega)]; exact Int.le_refl _, by rw [fr 237 19 (by omega)]; exact Int.le_refl _⟩ (fun x hx => fr 237 x (by omega)) (fun j x hj _ => fr j x (by omega)) (fun j x hj _ => fr j x (by omega))⟩, ⟨cRel_z0 hC hpp.1 fl hI, rRel_z hr ⟨hw.1.1.1, hw.1.2.1⟩ (fun j x j0 j1 hn => f1 j x (by omega) (by omega) hn) hM (fun _ _ _ => rfl)⟩, wf_B (wf_cs k6 hw (cdW_r (fun j x hj => fr j x (by omega))) (fr 237 47 (by omega)) (by rw [fr 237 16 (by omega), k2.1]; exact Int.le_refl _)) ⟨by omega, by omega⟩, stT_ag hT (fun j x hj => ?_) h16 (fun g g0 g1 => ?_), ⟨hX, by rw [fl 0 1 (by first | decide | omega)]; omega⟩, ⟨pV_ge Z, by rw [pV_ag (fl 2 1 (by decide)) (fl 150 3 (by decide)) (fl 2 10 (by decide)) (fl 2 7 (by decide)), fl 0 1 (by first | decide | omega)]; have := hv.2; omega⟩, ?_, ⟨(f 1000001 (-1) (by first | decide | omega) (by rw [hg]; decide) (Or.inr (by first | decide | omega)) (by unfold rQm; omega)).trans ho.1, kL_ag ho.2 (fun j j0 j1 => fl j (-1) (by have := RMq hp; omega))⟩, by omega⟩
  · obtain ⟨r1, r2, r3, ⟨r4, r5⟩, r6, r7, r8⟩ := hA
    refine ⟨cW_ag r1 hI fj, cH_ag r2 (by omega) fj, hM, ⟨(fr 237 13 (by omega)).trans r4, (fr 237 14 (by omega)).trans r5⟩, ?_, ?_, KQ_ag (lo := 18) (hi := 236) r8 (fun j j0 j1 => fj j (by omega)) (fun j j0 j1 => funext fun x => fr j x (by omega)) (by omega)⟩
    · rw [fl 0 1 (by first | decide | omega), fr 237 3 (by omega)]
      exact r6
    · intro i i0 i1
      rw [fl 0 1 (by first | decide | omega)] at i1
      rw [fl 1 i (by first | decide | omega), fr 239 i (by omega)]
      exact r7 i i0 i1
  · unfold mX at k3 ⊢
    rw [fr 237 19 (by omega), fr 237 20 (by omega)]
    refine ⟨k3.1, k3.2.1, k3.2.2.1, fun k hk => ?_⟩
    rw [fr 284 _ (by omega), fr 285 _ (by omega)]
    exact ⟨(k3.2.2.2 k hk).1, (k3.2.2.2 k hk).2.1, (k3.2.2.2 k hk).2.2.1, fun y hy => by rw [fr 283 _ (by omega)]; exact (k3.2.2.2 k hk).2.2.2 y hy⟩
  · by_cases c : j < 237
    · exact fl j x c
    · exact fr j x (by omega)
  · by_cases c : j < 237
    · exact fl j x c
    · exact fr j x (by omega)
  · by_cases c : j < 237
    · exact fl j x c
    · exact fr j x (by omega)
  · by_cases c : j < 237
    · exact fl j x c
    · exact fr j x (by omega)
  · by_cases c : j < 237
    · exact fl j x c
    · exact fr j x (by unfold stD at hj; omega)
  · rw [fr 237 34 (by omega)] at g1
    rw [fr 295 g (by omega)]
    exact hT.2.2.2.2 g g0 g1
  · unfold rV at hV ⊢
    rw [(rZ_ag k4 (fun j x hj => fr j x (by omega))).2, fl 0 1 (by first | decide | omega)]
    have := hR.1.1
    have := hR.1.2
    exact ⟨⟨by omega, by omega⟩, rX_tr hV.2.1 hR.2, oTV_ag hV.2.2 (fl 1 (-1) (by first | decide | omega)) (fl 19 7 (by first | decide | omega)) (by rw [fl 0 1 (by first | decide | omega)]; exact Int.le_refl _) (fl 31 (-1) (by first | decide | omega))⟩
theorem RM_q (h : RM xs m9 S) (hm : m9 < 512) (f : ∀ (j : Nat) (x : Int), j < 4000000 → j ≠ wG → ¬ rQm j x → Z j x = S j x) (hM : w_ML Z) (hI : gI Z) (hR : rmR S Z) : RM xs (m9 + 1) Z := RM_q0 h hm (fun j x a b _ c => f j x a b c) hM hI ⟨by have := hR.1; omega, by have := hR.2; omega⟩
end Wmu
