/-! PART nd: what is between two calls, behind a start. -/
section Wnd
variable {Sb : wS} {xs : List (Nat × List Int32)} {d : Nat} {S0 S Z : wS} {p w m : Nat} {HT : Int → Int} {cs : List hCR} {ms : List hMR} {os : Int → List Int} {X : List (List Int)} {mo t n B B2 oq : Int} {fa : Int → Int} {WE : aA → Prop} {A A2 : aA} {K2 : aK} {ml : List Nat} {k c s kd nms ne ec bh nm en : Int} {b ba : Nat} {ar : List aV} {e : aE} {V Z2 Y : wS} {o : wO} {dn : Int} {H2 : List aH} {N2 : List (List Int)} {E2 : Int → List aE} {C2 : List aQ} {W2 : Int} {c2 : Int → Int} {k2 : Int → Int → Int} {mk rk : Nat → Int → Prop} {K : aK} {T : List aO} {H : List aH} {E : Int → List aE} {gk gb es lo hi a : Int} {r : List aE × Int × Option aE} {A1 : aA} {tl cl : List Int} {sl : Nat → List Int} {L : List aC} {G : Int → aV} {u : aV} {x : List Int} {T2 : List aO} {L2 : List aC} {G2 : Int → aV} {H2 : List aH} {c2 : Int → Int} {y : Int} {Q : wO → wS → Prop} {ps : List (Int × aV)} {k hd wh : Int} {f a9 pn fn md : Int} {vn m9 : Nat} {th : aV} {g : Int} {lp : List aV} {l ds fo g : Int} {mk : Nat → Int → Prop} {C2 : List aQ} {W2 : Int} {RZ : wS → Prop} {N3 : Nat} {SB : wS} {r r0 : Int} {sh : Int} {K9 : aK} {nt : Int} {R2 : List Int} {S2 : Int → aV} {wh en9 : Int} {q b2 pm m9 : Nat} {N : List (List Int)}
/-- rows of the class that no start changes -/
def bgD (j : Nat) : Prop := j < 215 ∧ j ≠ 72 ∧ (j < 138 ∨ 142 < j) ∧ j ≠ 150
theorem cW_b (h : cW S) (hCL : w_CL Z) (hI : gI Z) (e9 : ∀ j : Nat, bgD j → Z j = S j) : cW Z := by
  have e : ∀ j : Nat, (j < 72 ∨ (72 < j ∧ j < 138) ∨ (142 < j ∧ j < 150) ∨ (150 < j ∧ j < 215)) → Z j = S j := fun j hj => e9 j (by unfold bgD; omega)
  obtain ⟨k1, k2, k3, k4, k5, k6, k7, k8, k9, k10, k11⟩ := h
  refine ⟨hCL, hI, w2_ag k3 (fun x hx => e _ (by omega)), hi_ag k4 (fun x hx => e _ (by omega)) (congrFun (e 117 (by first | decide | omega)) _) (congrFun (e 118 (by first | decide | omega)) _), hi_ag k5 (fun x hx => e _ (by omega)) (congrFun (e 206 (by first | decide | omega)) _) (congrFun (e 207 (by first | decide | omega)) _), ?_, ?_, ?_, ?_, ?_, ?_⟩
  · unfold hs_R; rw [e 15 (by first | decide | omega), e 16 (by first | decide | omega), e 17 (by first | decide | omega)]; exact k6
  · rw [e 161 (by first | decide | omega)]; exact k7
  · rw [e 0 (by first | decide | omega), e 1 (by first | decide | omega)]; exact k8
  · rw [e 0 (by first | decide | omega), e 1 (by first | decide | omega)]; exact k9
  · rw [e 48 (by first | decide | omega)]; exact k10
  · rw [e 144 (by first | decide | omega), e 145 (by first | decide | omega), e 146 (by first | decide | omega), e 147 (by first | decide | omega), e 148 (by first | decide | omega)]; exact k11
theorem cK_b (h : cK N X S) (e : ∀ j : Nat, j < 72 → Z j = S j) : cK N X Z := by
  obtain ⟨⟨a1, a2, a3, a4⟩, ⟨a5, a6, a7⟩, a8, a9, a10, a11⟩ := h
  have e2 : ∀ x : Nat, x ≤ 10 → Z (2 + x) = S (2 + x) := fun x hx => e _ (by omega)
  refine ⟨⟨w2_ag a1 e2, fun k hk => wqL_eq (a2 k hk) ⟨e 3 (by first | decide | omega), e 4 (by first | decide | omega), e 5 (by first | decide | omega)⟩, cL_eq a3 e2 (Or.inl rfl), cL_eq a4 e2 (Or.inr rfl)⟩, ⟨ntL_ag a5 (congrFun (e 63 (by first | decide | omega)) 7) (fun j j0 j1 => congrFun (e j (by omega)) (-1)), vaL_ag a6 (congrFun (e 63 (by first | decide | omega)) 13) (fun j j0 j1 => congrFun (e j (by omega)) (-1)), by rw [e 64 (by first | decide | omega)]; exact a7⟩, by rw [e 4 (by first | decide | omega), e 3 (by first | decide | omega)]; exact a8, by rw [e 31 (by first | decide | omega), e 32 (by first | decide | omega), e 33 (by first | decide | omega), e 19 (by first | decide | omega)]; exact a9, si_L_ag a10 (fun j x hj => congrFun (e j (by omega)) x), ?_⟩
  rw [e 35 (by first | decide | omega), e 36 (by first | decide | omega), e 37 (by first | decide | omega), e 40 (by first | decide | omega), e 19 (by first | decide | omega)]
  exact a11
/-- behind a start: what holds of A2 now, and of all else as before -/
theorem RM_b (hm : m9 < 512) (hp : RMp p q b b2) (hA : RA (p + 14) (p + 24) (p + 42) p q b b2 S) (hk : RKx (a_N A) X pm S ∧ mWf fa S) (hT : stT xs S p b HT nt cs ms os (cs.length : Int)) (hX : (∀ k ∈ X, ∀ y ∈ k, 0 ≤ y ∧ y ≤ 255) ∧ (tls X : Int) + S 0 1 ≤ 18 * (m9 : Int)) (hv : 133 ≤ pV Z ∧ pV Z + S 0 1 ≤ 133 + 16 * (m9 : Int)) (hN : a_N A2 = a_N A) (hC : cRel Z p HT cs ms os X mo A2 Z) (hr : rRel Z Z HT cs ms os X mo A2 Z) (hw : wfA S fa ms (cs.length : Int) (WEs S HT cs ms os) (1000 * (m9 : Int)) A2) (hV : rV pm m9 S) (hR : rmR S Z) (ho : oL q Z) (fj : ∀ j : Nat, bgD j → Z j = S j) (f5 : Z 72 1 = S 72 1 ∧ Z 150 5 = S 150 5) (fr : ∀ (j : Nat) (x : Int), (239 ≤ j ∧ j ≤ 313) ∨ (j = 237 ∧ 1 ≤ x ∧ x ≤ 61) ∨ (2000000 ≤ j ∧ j < 4000000) ∨ j = 376 → Z j x = S j x) : RM xs (m9 + 1) Z := by
  obtain ⟨⟨k1, ⟨k2, k3, k4, k5⟩, k6⟩, k7⟩ := hk
  obtain ⟨hX, hX2⟩ := hX
  have hpp := RMp_p hp
  have fk : ∀ j : Nat, (j < 72 ∨ (72 < j ∧ j < 138) ∨ (142 < j ∧ j < 150) ∨ (150 < j ∧ j < 215)) → Z j = S j := fun j hj => fj j (by unfold bgD; omega)
  have fl : ∀ (j : Nat) (x : Int), j < 72 → Z j x = S j x := fun j x hj => congrFun (fk j (by omega)) x
  have h16 : 0 ≤ Z 237 16 := by rw [fr 237 16 (by omega), k2.1]; omega
  have g2 := hr.2.2.2.1
  rw [hN] at g2
  refine ⟨p, q, b, b2, pm, X, HT, nt, cs, ms, os, mo, fa, A2, hp, ?_, ⟨⟨by rw [hN]; exact cK_b k1 (fun j hj => fk j (Or.inl hj)), ⟨by rw [hN]; exact g2.1, g2.2.1, (rZ_ag k4 (fun j x hj => fr j x (by omega))).1, rD_ag k5 (fun j x hj => fr j x (by omega))⟩, mK_ag k6 (fun x => fl 19 x (by first | decide | omega)) (fun x hx => fr 237 x (by omega)) (fun j x hj _ _ => ?_) (fun j x hj _ _ => ?_) (fun j x hj _ _ => ?_) (fun j x hj _ _ => ?_)⟩, mW_agF k7 k6 ⟨by rw [fr 237 16 (by omega)]; exact Int.le_refl _, by rw [fr 237 19 (by omega)]; exact Int.le_refl _⟩ (fun x hx => fr 237 x (by omega)) (fun j x hj _ => fr j x (by omega)) (fun j x hj _ => fr j x (by omega))⟩, ⟨hC, hr⟩, wf_B (wf_cs k6 hw (cdW_r (fun j x hj => fr j x (by omega))) (fr 237 47 (by omega)) (by rw [fr 237 16 (by omega), k2.1, hN]; exact Int.le_refl _)) ⟨by omega, by omega⟩, stT_ag hT (fun j x hj => ?_) h16 (fun g g0 g1 => ?_), ⟨hX, by rw [fl 0 1 (by first | decide | omega)]; omega⟩, ⟨hv.1, by rw [fl 0 1 (by first | decide | omega)]; have := hv.2; omega⟩, ?_, ho, by omega⟩
  · obtain ⟨r1, r2, r3, ⟨r4, r5⟩, r6, r7, r8⟩ := hA
    refine ⟨cW_b r1 hC.1.1 hC.1.2.1 fj, ?_, hr.1, ⟨(fr 237 13 (by omega)).trans r4, (fr 237 14 (by omega)).trans r5⟩, ?_, ?_, KQ_ag (lo := p) (hi := p + 46) r8 (fun j j0 j1 => fk j (by omega)) (fun j j0 j1 => funext fun x => fr j x (by omega)) (by omega)⟩
    · unfold cH at r2 ⊢
      rw [f5.1, f5.2, fl 0 10 (by first | decide | omega), fk p (by omega)]
      exact r2
    · rw [fl 0 1 (by first | decide | omega), fr 237 3 (by omega)]
      exact r6
    · intro i i0 i1
      rw [fl 0 1 (by first | decide | omega)] at i1
      rw [fl 1 i (by first | decide | omega), fr 239 i (by omega)]
      exact r7 i i0 i1
  · by_cases c : j < 72
    · exact fl j x c
    · exact fr j x (by omega)
  · by_cases c : j < 72
    · exact fl j x c
    · exact fr j x (by omega)
  · by_cases c : j < 72
    · exact fl j x c
    · exact fr j x (by omega)
  · by_cases c : j < 72
    · exact fl j x c
    · exact fr j x (by omega)
  · unfold stD at hj
    by_cases c : 237 ≤ j
    · exact fr j x (by omega)
    · by_cases c2 : j = 72
      · obtain ⟨rfl, rfl⟩ : j = 72 ∧ x = 1 := by omega
        exact f5.1
      · exact congrFun (fk j (by omega)) x
  · rw [fr 237 34 (by omega)] at g1
    rw [fr 295 g (by omega)]
    exact hT.2.2.2.2 g g0 g1
  · unfold rV at hV ⊢
    rw [(rZ_ag k4 (fun j x hj => fr j x (by omega))).2, fl 0 1 (by first | decide | omega)]
    have := hR.1.1
    have := hR.1.2
    exact ⟨⟨by omega, by omega⟩, rX_tr hV.2.1 hR.2, oTV_ag hV.2.2 (fl 1 (-1) (by first | decide | omega)) (fl 19 7 (by first | decide | omega)) (by rw [fl 0 1 (by first | decide | omega)]; exact Int.le_refl _) (fl 31 (-1) (by first | decide | omega))⟩
end Wnd
