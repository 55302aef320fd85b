/-! PART nj: what is between two calls, behind steps. -/
section Wnj
variable {Sb : wS} {xs : List (Nat × List Int32)} {d : Nat} {S0 S Z : wS} {p w m : Nat} {HT : Int → Int} {cs : List hCR} {ms : List hMR} {os : Int → List Int} {X : List (List Int)} {mo t n B B2 oq : Int} {fa : Int → Int} {WE : aA → Prop} {A A2 : aA} {K2 : aK} {ml : List Nat} {k c s kd nms ne ec bh nm en : Int} {b ba : Nat} {ar : List aV} {e : aE} {V Z2 Y : wS} {o : wO} {dn : Int} {H2 : List aH} {N2 : List (List Int)} {E2 : Int → List aE} {C2 : List aQ} {W2 : Int} {c2 : Int → Int} {k2 : Int → Int → Int} {mk rk : Nat → Int → Prop} {K : aK} {T : List aO} {H : List aH} {E : Int → List aE} {gk gb es lo hi a : Int} {r : List aE × Int × Option aE} {A1 : aA} {tl cl : List Int} {sl : Nat → List Int} {L : List aC} {G : Int → aV} {u : aV} {x : List Int} {T2 : List aO} {L2 : List aC} {G2 : Int → aV} {H2 : List aH} {c2 : Int → Int} {y : Int} {Q : wO → wS → Prop} {ps : List (Int × aV)} {k hd wh : Int} {f a9 pn fn md : Int} {vn m9 : Nat} {th : aV} {g : Int} {lp : List aV} {l ds fo g : Int} {mk : Nat → Int → Prop} {C2 : List aQ} {W2 : Int} {RZ : wS → Prop} {N3 : Nat} {SB : wS} {r r0 : Int} {sh : Int} {K9 : aK} {nt : Int} {R2 : List Int} {S2 : Int → aV} {wh en9 : Int} {q b2 pm m9 : Nat} {N : List (List Int)}
theorem KQ_n {t0 m0 ob p b : Nat} (h : KQ t0 m0 ob p b S) (f : ∀ (j : Nat) (x : Int), (j = p ∧ (x = 2 ∨ x = 4)) ∨ (t0 ≤ j ∧ j ≤ t0 + 4) ∨ (m0 ≤ j ∧ j ≤ m0 + 14) ∨ j = ob ∨ (b ≤ j ∧ j ≤ b + 19) → Z j x = S j x) : KQ t0 m0 ob p b Z := by
  obtain ⟨a1, a2, a3, a4⟩ := h
  refine ⟨?_, fun k k0 k1 => ?_, ?_, fun k k0 k1 => ?_⟩
  · rw [f p 2 (by omega), f b 1 (by omega)]
    exact a1
  · rw [f b 1 (by omega)] at k1
    obtain ⟨c1, c2, c3, c4, c5, c6⟩ := a2 k k0 k1
    rw [f t0 k (by omega), f (t0 + 1) k (by omega), f (t0 + 2) k (by omega), f (t0 + 3) k (by omega), f (t0 + 4) k (by omega), f (b + 2) k (by omega), f (b + 3) k (by omega), f (b + 4) k (by omega), f (b + 8) k (by omega), f (b + 7) k (by omega), f ob k (by omega), f (b + 6) k (by omega)]
    exact ⟨c1, c2, c3, c4, c5, c6⟩
  · rw [f p 4 (by omega), f b 11 (by omega)]
    exact a3
  · rw [f b 11 (by omega)] at k1
    obtain ⟨⟨c1, c2, c3, c4, c5, c6⟩, c7, c8⟩ := a4 k k0 k1
    rw [f m0 k (by omega), f (m0 + 1) k (by omega), f (m0 + 2) k (by omega), f (m0 + 3) k (by omega), f (m0 + 4) k (by omega), f (m0 + 5) k (by omega), f (b + 11) k (by omega), f (b + 12) k (by omega), f (b + 13) k (by omega), f (b + 14) k (by omega), f (b + 15) k (by omega), f (b + 16) k (by omega)]
    refine ⟨⟨c1, c2, c3, c4, c5, c6⟩, c7, fun q hq => ?_⟩
    rw [f (m0 + 6 + q) k (by have := c7.2; omega), f (b + 17) _ (by omega)]
    exact c8 q hq
theorem cW_n (h : cW S) (hCL : w_CL Z) (hI : gI Z) (h2 : w2_I Z) (h48 : 16 ≤ Z 48 (-1)) (h144 : 64 ≤ Z 144 (-1) ∧ 64 ≤ Z 145 (-1) ∧ 64 ≤ Z 146 (-1) ∧ 64 ≤ Z 147 (-1) ∧ 64 ≤ Z 148 (-1)) (e : ∀ (j : Nat) (x : Int), j ≤ 1 ∨ (15 ≤ j ∧ j ≤ 17) ∨ (74 ≤ j ∧ j ≤ 84) ∨ (163 ≤ j ∧ j ≤ 173) ∨ j = 161 → Z j x = S j x) (el : ∀ j : Nat, j = 117 ∨ j = 118 ∨ j = 206 ∨ j = 207 → Z j (-1) = S j (-1)) : cW Z := by
  obtain ⟨k1, k2, k3, k4, k5, k6, k7, k8, k9, k10, k11⟩ := h
  have ef : ∀ j : Nat, j ≤ 1 ∨ (15 ≤ j ∧ j ≤ 17) ∨ (74 ≤ j ∧ j ≤ 84) ∨ (163 ≤ j ∧ j ≤ 173) ∨ j = 161 → Z j = S j := fun j hj => funext fun x => e j x hj
  refine ⟨hCL, hI, h2, hi_ag k4 (fun x hx => ef _ (by omega)) (el 117 (by omega)) (el 118 (by omega)), hi_ag k5 (fun x hx => ef _ (by omega)) (el 206 (by omega)) (el 207 (by omega)), ?_, ?_, ?_, ?_, h48, h144⟩
  · unfold hs_R; rw [ef 15 (by omega), ef 16 (by omega), ef 17 (by omega)]; exact k6
  · rw [ef 161 (by omega)]; exact k7
  · rw [ef 0 (by omega), ef 1 (by omega)]; exact k8
  · rw [ef 0 (by omega), ef 1 (by omega)]; exact k9
theorem mK_n (h : mK S) (e19 : ∀ x : Int, (x = 1 ∨ x = 3 ∨ x = 7 ∨ x = 9) → Z 19 x = S 19 x) (e237 : ∀ x : Int, (x = 33 ∨ x = 34 ∨ x = 43 ∨ x = 47) → Z 237 x = S 237 x) (e : ∀ (j : Nat) (x : Int), (20 ≤ j ∧ j ≤ 40) ∨ (293 ≤ j ∧ j ≤ 309) → Z j x = S j x) (hs : ∀ s : Int, 0 ≤ s → s < S 237 47 → Z 41 s = Z 310 s ∧ Z 42 s = Z 311 s ∧ Z 43 s = Z 312 s ∧ Z 44 s = Z 376 s ∧ Z 45 s = Z 313 s) : mK Z := by
  obtain ⟨h1, h2, h3, h4, h5, h6, h7, h8⟩ := h
  unfold mK
  rw [e237 33 (by omega), e237 34 (by omega), e237 43 (by omega), e237 47 (by omega), e19 1 (by omega), e19 3 (by omega), e19 7 (by omega), e19 9 (by omega)]
  refine ⟨h1, h2, h3, h4, fun k k0 k1 => ?_, fun k k0 k1 => ?_, fun x x0 x1 => ?_, fun s s0 s1 => ?_⟩
  · rw [e 21 k (by omega), e 22 k (by omega), e 23 k (by omega), e 24 k (by omega), e 25 k (by omega), e 26 k (by omega), e 27 k (by omega), e 293 k (by omega), e 295 k (by omega), e 296 k (by omega), e 297 k (by omega), e 298 k (by omega), e 299 k (by omega), e 300 k (by omega)]
    exact h5 k k0 k1
  · rw [e 30 k (by omega), e 294 k (by omega)]; exact h6 k k0 k1
  · rw [e 31 x (by omega), e 32 x (by omega), e 33 x (by omega), e 301 x (by omega), e 302 x (by omega), e 303 x (by omega)]; exact h7 x x0 x1
  · obtain ⟨a1, a2, a3, a4, a5, -⟩ := h8 s s0 s1
    rw [e 35 s (by omega), e 36 s (by omega), e 37 s (by omega), e 38 s (by omega), e 39 s (by omega), e 304 s (by omega), e 305 s (by omega), e 306 s (by omega), e 307 s (by omega), e 308 s (by omega)]
    exact ⟨a1, a2, a3, a4, a5, hs s s0 s1⟩
theorem siL_n (h : si_L S) (hl : ∀ x : Nat, x < 12 → Z (35 + x) (-1) = Z 35 (-1)) (e : ∀ (j : Nat) (x : Int), (20 ≤ j ∧ j ≤ 40) ∨ (58 ≤ j ∧ j ≤ 60) ∨ (j = 19 ∧ (x = 9 ∨ x = 16)) → Z j x = S j x) : si_L Z := by
  obtain ⟨a1, a2, a3, a4, a5, a6, a7, a8⟩ := h
  have ef : ∀ j : Nat, (20 ≤ j ∧ j ≤ 40) ∨ (58 ≤ j ∧ j ≤ 60) → Z j = S j := fun j hj => funext fun x => e j x (by omega)
  refine ⟨?_, hl, ?_, ?_, ?_, ?_, ?_, ?_⟩
  · rw [e 19 9 (by omega)]; exact a1
  · rw [e 19 9 (by omega), ef 35 (by omega)]; exact a3
  · rw [ef 34 (by omega)]; exact a4
  · rw [ef 59 (by omega), ef 58 (by omega)]; exact a5
  · rw [e 19 16 (by omega), ef 58 (by omega)]; exact a6
  · rw [ef 60 (by omega)]; exact a7
  · rw [ef 35 (by omega), ef 36 (by omega), ef 37 (by omega), ef 40 (by omega), ef 58 (by omega), ef 59 (by omega), ef 60 (by omega), e 19 9 (by omega), e 19 16 (by omega)]; exact a8
theorem cSt_1 {j : Nat} {y : Int} (h : j ≤ 1) : cSta p j y := Or.inl h
theorem cSt_13 {j : Nat} {y : Int} (h : 13 ≤ j ∧ j ≤ 18) : cSta p j y := Or.inr (Or.inl h)
theorem cSt_19 {j : Nat} {y : Int} (h : j = 19 ∧ y ≠ 11 ∧ y ≠ 12) : cSta p j y := Or.inr (Or.inr (Or.inl h))
theorem cSt_20 {j : Nat} {y : Int} (h : 20 ≤ j ∧ j ≤ 40) : cSta p j y := Or.inr (Or.inr (Or.inr (Or.inl h)))
theorem cSt_58 {j : Nat} {y : Int} (h : 58 ≤ j ∧ j ≤ 71) : cSta p j y := Or.inr (Or.inr (Or.inr (Or.inr (Or.inl h))))
theorem cSt_72 {j : Nat} {y : Int} (h : j = 72 ∧ y = 1) : cSta p j y := Or.inr (Or.inr (Or.inr (Or.inr (Or.inr (Or.inl h)))))
theorem cSt_p {j : Nat} {y : Int} (h : p ≤ j ∧ j ≤ p + 46 ∧ (j ≠ p ∨ (y ≠ 10 ∧ y ≠ 16 ∧ y ≠ 18)) ∧ j ≠ p + 44 ∧ j ≠ p + 45) : cSta p j y := Or.inr (Or.inr (Or.inr (Or.inr (Or.inr (Or.inr (Or.inl h))))))
theorem cSt_q {j : Nat} {y : Int} (h : p = 73 ∧ 162 ≤ j ∧ j ≤ 214) : cSta p j y := Or.inr (Or.inr (Or.inr (Or.inr (Or.inr (Or.inr (Or.inr (Or.inl h)))))))
theorem cSt_r {j : Nat} {y : Int} (h : p = 162 ∧ 73 ≤ j ∧ j ≤ 125) : cSta p j y := Or.inr (Or.inr (Or.inr (Or.inr (Or.inr (Or.inr (Or.inr (Or.inr (Or.inl h))))))))
theorem cSt_161 {j : Nat} {y : Int} (h : j = 161) : cSta p j y := Or.inr (Or.inr (Or.inr (Or.inr (Or.inr (Or.inr (Or.inr (Or.inr (Or.inr (Or.inr (Or.inl h))))))))))
theorem cSt_150 {j : Nat} {y : Int} (h : j = 150 ∧ y = 5) : cSta p j y := Or.inr (Or.inr (Or.inr (Or.inr (Or.inr (Or.inr (Or.inr (Or.inr (Or.inr (Or.inr (Or.inr (Or.inl h)))))))))))
theorem cSt_l {j : Nat} {y : Int} (h : (j = 156 ∨ j = 157 ∨ j = 159 ∨ j = 160) ∧ y = -1) : cSta p j y := Or.inr (Or.inr (Or.inr (Or.inr (Or.inr (Or.inr (Or.inr (Or.inr (Or.inr (Or.inr (Or.inr (Or.inr (Or.inl h))))))))))))
theorem cSt_w (hp : p = 73 ∨ p = 162) {j : Nat} {y : Int} (h : j ≤ 1 ∨ (15 ≤ j ∧ j ≤ 17) ∨ (74 ≤ j ∧ j ≤ 84) ∨ (163 ≤ j ∧ j ≤ 173) ∨ j = 161) : cSta p j y := by
  rcases h with h | h | h | h | h
  · exact cSt_1 h
  · exact cSt_13 ⟨by omega, by omega⟩
  · rcases hp with rfl | rfl
    · exact cSt_p ⟨by omega, by omega, by omega, by omega, by omega⟩
    · exact cSt_r ⟨rfl, by omega, by omega⟩
  · rcases hp with rfl | rfl
    · exact cSt_q ⟨rfl, by omega, by omega⟩
    · exact cSt_p ⟨by omega, by omega, by omega, by omega, by omega⟩
  · exact cSt_161 h
/-- behind steps of both sides -/
theorem RM_n (hm : m9 < 512) (hp : RMp p q b b2) (hA : RA (p + 14) (p + 24) (p + 42) p q b b2 S) (hk : RKx (a_N A) X pm S ∧ mWf fa S) (hT : stT xs S p b HT nt cs ms os (cs.length : Int)) (hX : (∀ k ∈ X, ∀ y ∈ k, 0 ≤ y ∧ y ≤ 255) ∧ (tls X : Int) + S 0 1 ≤ 18 * (m9 : Int)) (hv : 133 ≤ pV S ∧ pV S + S 0 1 ≤ 133 + 16 * (m9 : Int)) (hC : cRel S p HT cs ms os X mo A2 Z) (hlen : ∀ j : Nat, j = 117 ∨ j = 118 ∨ j = 206 ∨ j = 207 → Z j (-1) = S j (-1)) (hr : rRel S Sb HT cs ms os X mo A2 Y) (hw : wfA S fa ms (cs.length : Int) (WEs S HT cs ms os) (1000 * ((m9 + 1 : Nat) : Int)) A2) (hV : rV pm m9 S) (ho : oL q S) (fb : ∀ (j : Nat) (x : Int), (j < 237 ∨ 387 ≤ j) → (j ≠ 1000001 ∨ x < 0) → Sb j x = Z j x) : RM xs (m9 + 1) Y := by
  obtain ⟨⟨k1, ⟨k2, k3, k4, k5⟩, k6⟩, k7⟩ := hk
  obtain ⟨hX, hX2⟩ := hX
  have hpp := RMp_p hp
  have hg : wG = 1000000 := rfl
  have yz : ∀ (j : Nat) (x : Int), (j < 237 ∨ 387 ≤ j) → (j ≠ 1000001 ∨ x < 0) → Y j x = Z j x := fun j x h1 h2 => (hr.2.2.2.2.2.2.2.2 j x (by unfold rSta; omega)).trans ((rBs_o (by omega)).trans (fb j x h1 h2))
  have ys : ∀ (j : Nat) (x : Int), (239 ≤ j ∧ j ≤ 280) ∨ (286 ≤ j ∧ j ≤ 309) ∨ (j = 237 ∧ ((x ≤ 15 ∧ x ≠ 0) ∨ (17 ≤ x ∧ x ≤ 61))) ∨ (j = 238 ∧ x < 5) → Y j x = S j x := fun j x hj => (hr.2.2.2.2.2.2.2.2 j x (by unfold rSta; omega)).trans (rBs_i (by omega))
  have yc : ∀ (j : Nat) (x : Int), j < 237 → cSta p j x → Y j x = S j x := fun j x h1 h2 => (yz j x (by omega) (by omega)).trans (hC.2.2.2.2.2.2.2.2 j x h2)
  have yl : ∀ (j : Nat) (x : Int), j < 237 → Y j x = Z j x := fun j x hj => yz j x (by omega) (by omega)
  have y9 : ∀ (j : Nat) (x : Int), 2000000 ≤ j ∧ j < 4000000 → Y j x = S j x := fun j x hj => (yz j x (by omega) (by omega)).trans (hC.2.2.2.2.2.2.2.2 j x (cSta_h ⟨by omega, hj.2, by omega⟩))
  have gY : gI Y := gI_ag2 hC.1.2.1 (fun j hj => yz j (-1) (by omega) (by omega)) (fun x hx => (ys 238 x (by omega)).trans (hC.2.2.2.2.2.2.2.2 238 x (cSta_h ⟨by omega, by omega, by omega⟩)).symm) (yl 14 5 (by omega))
  have hC2 : cRel Y p HT cs ms os X mo A2 Y := cRel_z0 hC hpp.1 yl gY
  have hr2 : rRel Y Y HT cs ms os X mo A2 Y := rRel_s hr
  have hN := hr.2.2.2.1.1
  have h16 : S 237 16 ≤ Y 237 16 := by rw [hN.1]; exact hw.2.2.2.2.2.1.1.2.1
  have c58 : ∀ (j : Nat) (x : Int), (20 ≤ j ∧ j ≤ 40) ∨ (58 ≤ j ∧ j ≤ 71) → Y j x = S j x := fun j x hj => yc j x (by omega) (hj.elim cSt_20 cSt_58)
  have c19 : ∀ x : Int, x ≠ 11 → x ≠ 12 → Y 19 x = S 19 x := fun x h1 h2 => yc 19 x (by omega) (cSt_19 ⟨rfl, h1, h2⟩)
  have c01 : ∀ (j : Nat) (x : Int), j ≤ 1 → Y j x = S j x := fun j x hj => yc j x (by omega) (cSt_1 hj)
  have f47 : Y 237 47 = S 237 47 := ys 237 47 (by omega)
  have cnt := hC2.2.2.2.2.2.2.2.1
  have rnt := hr.2.2.2.2.2.2.2.1
  obtain ⟨ix, fl, ow, hE⟩ := hC2.2.2.2.2.1
  have hRE := hr.2.2.2.2.1
  have k19 : Y 19 9 = S 237 47 := by rw [c19 9 (by first | decide | omega) (by first | decide | omega), k6.2.2.2.1.1]
  have m1 : mK Y := mK_n k6 (fun x hx => c19 x (by omega) (by omega)) (fun x hx => ys 237 x (by omega)) (fun j x hj => by
    by_cases c : j ≤ 40
    · exact c58 j x (by omega)
    · exact ys j x (by omega)) (fun s s0 s1 => by
    obtain ⟨a1, a2, a3, a4⟩ := cnt.2.2.2.2 s s0 (by omega)
    obtain ⟨d1, d2, d3, d4⟩ := rnt.2.2.2.2.1 s s0 (by omega)
    have e1 := (hE.2.1 s s0 (by omega)).1
    have e2 := (hRE.2 s s0 (by omega)).1
    exact ⟨a1.trans d1.symm, a2.trans d2.symm, a3.trans d3.symm, e1.trans e2.symm, a4.trans d4.symm⟩)
  have m2 : mWf fa Y := mW_agF k7 k6 ⟨h16, by rw [ys 237 19 (by omega)]; exact Int.le_refl _⟩ (fun x hx => ys 237 x (by omega)) (fun j x hj _ => ys j x (by omega)) (fun j x hj _ => ys j x (by omega))
  have m3 : si_L Y := siL_n k1.2.2.2.2.1 hE.1.1 (fun j x hj => by
    by_cases c : j = 19
    · rw [c]
      exact c19 x (by omega) (by omega)
    · exact c58 j x (by omega))
  have m4 : cK (a_N A2) X Y := by
    refine ⟨hC2.2.2.2.1.1.1, ⟨ntL_ag k1.2.1.1 (c58 63 7 (by omega)) (fun j j0 j1 => c58 j (-1) (by omega)), vaL_ag k1.2.1.2.1 (c58 63 13 (by omega)) (fun j j0 j1 => c58 j (-1) (by omega)), by rw [c58 64 (-1) (by omega)]; exact k1.2.1.2.2⟩, ?_, ?_, m3, ?_⟩
    · have := cnt.2.1.2
      unfold cPl at this
      omega
    · rw [c58 31 (-1) (by omega), c58 32 (-1) (by omega), c58 33 (-1) (by omega), c19 7 (by first | decide | omega) (by first | decide | omega)]
      exact k1.2.2.2.1
    · rw [show Y 35 = S 35 from funext fun x => c58 35 x (by omega), show Y 36 = S 36 from funext fun x => c58 36 x (by omega), show Y 37 = S 37 from funext fun x => c58 37 x (by omega), show Y 40 = S 40 from funext fun x => c58 40 x (by omega), c19 9 (by first | decide | omega) (by first | decide | omega), c19 16 (by first | decide | omega) (by first | decide | omega)]
      exact k1.2.2.2.2.2
  have z1 : rZ pm Y ∧ phA pm Y = phA pm S := rZ_ag k4 (fun j x hj => by
    by_cases c : 2000000 ≤ j
    · exact y9 j x (by omega)
    · exact ys j x (by omega))
  have z2 : rD Y := rD_ag k5 (fun j x hj => ys j x (by omega))
  have hCh := hC2.2.2.2.2.2.2.1.1
  have hRh := hr.2.2.2.2.2.2.1.1
  have m5 : cH p q Y := by
    obtain ⟨r1, r2, r3, r4, r5, r6⟩ := hA.2.1
    obtain ⟨⟨K, h1, h2, -⟩, -, h17, -⟩ := hCh
    have e16 : Y p 16 = ((a_C A2).length : Int) := by rw [h1.1, h2]
    have hl := hRh.2.2.2.2.1
    have e17 : Y p 17 = S p 17 := yc p 17 (by omega) (cSt_p ⟨by omega, by omega, by omega, by omega, by omega⟩)
    have e5 : Y 150 5 = S 150 5 := yc 150 5 (by omega) (cSt_150 ⟨rfl, rfl⟩)
    refine ⟨(yc 72 1 (by omega) (cSt_72 ⟨rfl, rfl⟩)).trans r1, (c01 0 10 (by omega)).trans r2, by omega, by omega, by omega, by omega⟩
  have hs4 := hC2.2.2.1.2.1.2.1
  have m6 : cW Y := cW_n hA.1 hC2.1.1 gY hC2.2.2.2.1.1.1.1 hE.1.2.2.2.2.2.1 ⟨hs4.2.2.1, by rw [hs4.1 1 (by first | decide | omega)]; exact hs4.2.2.1, by rw [hs4.1 2 (by first | decide | omega)]; exact hs4.2.2.1, by rw [hs4.1 3 (by first | decide | omega)]; exact hs4.2.2.1, by rw [hs4.1 4 (by first | decide | omega)]; exact hs4.2.2.1⟩ (fun j x hj => yc j x (by omega) (cSt_w hpp.1 hj)) (fun j hj => (yl j (-1) (by omega)).trans (hlen j hj))
  have hpv : pV Y ≤ pV S := by
    rw [pV_ag (yl 2 1 (by first | decide | omega)) (yl 150 3 (by first | decide | omega)) (yl 2 10 (by first | decide | omega)) (yl 2 7 (by first | decide | omega))]
    exact (cPl_s hC.2.2.2.2.2.2.2.1.2.1.2 (pV_ge S) (hC.2.2.2.2.2.2.2.1.1 3 (by first | decide | omega)) (cNt_10 hC.2.2.2.1)).2
  have m7 : KQ (p + 14) (p + 24) (p + 42) p b Y := KQ_n hA.2.2.2.2.2.2 (fun j x hj => by
    rcases hj with z | z | z | z | z
    · exact yc j x (by omega) (cSt_p ⟨by omega, by omega, by omega, by omega, by omega⟩)
    · exact yc j x (by omega) (cSt_p ⟨by omega, by omega, by omega, by omega, by omega⟩)
    · exact yc j x (by omega) (cSt_p ⟨by omega, by omega, by omega, by omega, by omega⟩)
    · exact yc j x (by omega) (cSt_p ⟨by omega, by omega, by omega, by omega, by omega⟩)
    · exact ys j x (by omega))
  have m8 : stT xs Y p b HT nt cs ms os (cs.length : Int) := stT_ag hT (fun j x hj => by
    unfold stD at hj
    rcases hj with z | z | z | z | z | z
    · exact yc j x (by omega) (cSt_p ⟨by omega, by omega, by omega, by omega, by omega⟩)
    · exact yc j x (by omega) (cSt_p ⟨by omega, by omega, by omega, by omega, by omega⟩)
    · exact yc j x (by omega) (cSt_72 z)
    · exact ys j x (by omega)
    · exact ys j x (by omega)
    · by_cases c : j = 34
      · exact yc j x (by omega) (cSt_20 (by omega))
      · exact yc j x (by omega) (cSt_l ⟨by omega, z.2⟩)) (by rw [hN.1]; omega) (fun g g0 g1 => by
    rw [ys 237 34 (by omega)] at g1
    rw [ys 295 g (by omega)]
    exact hT.2.2.2.2 g g0 g1)
  have m9' : wfA Y fa ms (cs.length : Int) (WEs Y HT cs ms os) (1000 * ((m9 + 1 : Nat) : Int)) A2 := wf_cs k6 hw ⟨⟨h16, by rw [ys 237 19 (by omega)]; exact Int.le_refl _, by rw [ys 237 34 (by omega)]; exact Int.le_refl _, by rw [ys 237 43 (by omega)]; exact Int.le_refl _, by rw [f47]; exact Int.le_refl _⟩, fun j x hj _ _ => ys j x (by omega), fun j x hj _ _ => ys j x (by omega), fun j x hj _ _ => ys j x (by omega)⟩ f47 (by rw [hN.1]; exact Int.le_refl _)
  have m10 : rV pm (m9 + 1) Y := by
    unfold rV at hV ⊢
    have e : gl Y = gl Z := gl_same gl_l (fun a ha => yl a (-1) (by have := gl_lt a ha; omega))
    rw [z1.2, c01 0 1 (by omega), e, yz wG 0 (by omega) (by omega), yz wG 1 (by omega) (by omega)]
    have := hC.1.2.2.1.1
    have := hC.1.2.2.1.2
    exact ⟨⟨by omega, by omega⟩, rX_ag (rX_tr hV.2.1 hC.1.2.2.2) (fun k hk => yl k (-1) (by omega)), oTV_ag hV.2.2 (yc 1 (-1) (by omega) (Or.inl (by omega))) (yc 19 7 (by omega) (Or.inr (Or.inr (Or.inl (by omega))))) (by rw [c01 0 1 (by omega)]; exact Int.le_refl _) (yc 31 (-1) (by omega) (Or.inr (Or.inr (Or.inr (Or.inl (by omega))))))⟩
  refine ⟨p, q, b, b2, pm, X, HT, nt, cs, ms, os, mo, fa, A2, hp, ⟨m6, m5, hr.1, ⟨(ys 237 13 (by omega)).trans hA.2.2.2.1.1, (ys 237 14 (by omega)).trans hA.2.2.2.1.2⟩, ?_, ?_, m7⟩, ⟨⟨m4, ⟨hN, hr.2.2.2.1.2.1, z1.1, z2⟩, m1⟩, m2⟩, ⟨hC2, hr2⟩, m9', m8, ⟨hX, by rw [c01 0 1 (by omega)]; omega⟩, ⟨pV_ge Y, by rw [c01 0 1 (by omega)]; have := hv.2; omega⟩, m10, ⟨(yz 1000001 (-1) (by omega) (by omega)).trans ((hC.2.2.2.2.2.2.2.2 1000001 (-1) (cSta_h ⟨by decide, by decide, by rw [hg]; decide⟩)).trans ho.1), kL_ag ho.2 (fun j j0 j1 => (yz j (-1) (by have := RMq hp; omega) (by omega)).trans (hC.2.2.2.2.2.2.2.2 j (-1) (cSta_q hp ⟨j0, j1⟩)))⟩, by omega⟩
  · rw [c01 0 1 (by omega), ys 237 3 (by omega)]
    exact hA.2.2.2.2.1
  · intro i i0 i1
    rw [c01 0 1 (by omega)] at i1
    rw [c01 1 i (by omega), ys 239 i (by omega)]
    exact hA.2.2.2.2.2.1 i i0 i1
end Wnj
