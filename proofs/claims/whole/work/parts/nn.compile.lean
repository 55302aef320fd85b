/-! PART nn: compile. -/
section Wnn
variable {Sb : wS} {xs : List (Nat × List Int32)} {d : Nat} {S0 S Z : wS} {p w m : Nat} {HT : Int → Int} {cs : List hCR} {ms : List hMR} {os : Int → List Int} {X : List (List Int)} {mo t n B B2 oq : Int} {fa : Int → Int} {WE : aA → Prop} {A A2 : aA} {K2 : aK} {ml : List Nat} {k c s kd nms ne ec bh nm en : Int} {b ba : Nat} {ar : List aV} {e : aE} {V Z2 Y : wS} {o : wO} {dn : Int} {H2 : List aH} {N2 : List (List Int)} {E2 : Int → List aE} {C2 : List aQ} {W2 : Int} {c2 : Int → Int} {k2 : Int → Int → Int} {mk rk : Nat → Int → Prop} {K : aK} {T : List aO} {H : List aH} {E : Int → List aE} {gk gb es lo hi a : Int} {r : List aE × Int × Option aE} {A1 : aA} {tl cl : List Int} {sl : Nat → List Int} {L : List aC} {G : Int → aV} {u : aV} {x : List Int} {T2 : List aO} {L2 : List aC} {G2 : Int → aV} {H2 : List aH} {c2 : Int → Int} {y : Int} {Q : wO → wS → Prop} {ps : List (Int × aV)} {k hd wh : Int} {f a9 pn fn md : Int} {vn m9 : Nat} {th : aV} {g : Int} {lp : List aV} {l ds fo g : Int} {mk : Nat → Int → Prop} {C2 : List aQ} {W2 : Int} {RZ : wS → Prop} {N3 : Nat} {SB : wS} {r r0 : Int} {sh : Int} {K9 : aK} {nt : Int} {R2 : List Int} {S2 : Int → aV} {wh en9 : Int} {q b2 pm pm2 m9 : Nat} {N X2 : List (List Int)} {ix : Int → List Int} {fl : List Int} {ow : Int → Int}
theorem sE_x {f g : Int → Int} {a : Nat} (h : ∀ i : Int, 0 ≤ i → i < (a : Int) → g i = f i) : ∀ b : Nat, (∀ i : Int, (a : Int) ≤ i → i < ((a + b : Nat) : Int) → g i = 0) → sE g (a + b) = sE f a
  | 0, _ => sE_cg a h
  | b + 1, h2 => by
    have z := sE_x h b (fun i i0 i1 => h2 i i0 (by omega))
    show sE g (a + b) + g ((a + b : Nat) : Int) = sE f a
    rw [z, h2 _ (by omega) (by omega)]
    omega
/-- sites that have come have no entries -/
theorem cSe_cd {sb : Int} (hsb : S 19 9 = sb) (h : cSe S E ix fl ow) (f : ∀ (j : Nat) (y : Int), (48 ≤ j ∧ j ≤ 57) ∨ (j = 158 ∧ y = 14) ∨ (j = 19 ∧ (y = 11 ∨ y = 12)) → Z j y = S j y) (g : ∀ (j : Nat) (y : Int), j = 35 ∨ j = 36 ∨ j = 44 ∨ j = 46 → 0 ≤ y → y < S 19 9 → Z j y = S j y) (h9 : S 19 9 ≤ Z 19 9) (hn : ∀ y : Int, S 19 9 ≤ y → y < Z 19 9 → Z 44 y = 0 ∧ Z 46 y = -1) (hl : (∀ x : Nat, x < 12 → Z (35 + x) (-1) = Z 35 (-1)) ∧ (0 ≤ Z 19 9 ∧ Z 19 9 ≤ Z 35 (-1) ∧ Z 19 9 ≤ 4000 ∧ Z 35 (-1) ≤ 8191)) : cSe Z (fun s => if s < sb then E s else []) (fun s => if s < sb then ix s else []) fl ow := by
  subst hsb
  obtain ⟨⟨a1, a2, a3, a4⟩, h2, h3, h4, h5⟩ := h
  have f57 : Z 57 = S 57 := funext fun y => f 57 y (by omega)
  have e11 : Z 19 11 = S 19 11 := f 19 11 (by omega)
  have e12 : Z 19 12 = S 19 12 := f 19 12 (by omega)
  refine ⟨⟨hl.1, hl.2, fun x hx => ?_, ?_⟩, fun s s0 s1 => ?_, ?_, ?_, ?_⟩
  · rw [f (48 + x) (-1) (by omega), f 48 (-1) (by omega)]
    exact a3 x hx
  · rw [e11, f 48 (-1) (by omega)]
    exact a4
  · by_cases c : s < S 19 9
    · obtain ⟨b1, b2, b3, b4, b5, b6, b7⟩ := h2 s s0 c
      show cS1 Z ow s (if s < S 19 9 then E s else []) (if s < S 19 9 then ix s else [])
      rw [if_pos c, if_pos c]
      refine ⟨(g 44 s (by omega) s0 c).trans b1, b2, b3, by rw [f57, g 46 s (by omega) s0 c]; exact b4, b5, by rw [e11]; exact b6, fun i hi => ?_⟩
      rw [g 35 s (by omega) s0 c, g 36 s (by omega) s0 c]
      exact cEc_ag (b7 i hi) (fun j j0 j1 => f j _ (by omega))
    · obtain ⟨n1, n2⟩ := hn s (by omega) s1
      show cS1 Z ow s (if s < S 19 9 then E s else []) (if s < S 19 9 then ix s else [])
      rw [if_neg c, if_neg c]
      exact ⟨n1, Nat.zero_le _, rfl, n2, List.nodup_nil, fun x hx => absurd hx List.not_mem_nil, fun i hi => absurd hi (Nat.not_lt_zero _)⟩
  · rw [f57, e12, e11]
    exact h3
  · rw [f 158 14 (by omega), e11]
    exact h4
  · rw [e11, h5]
    have z := sE_x (f := S 44) (g := Z 44) (a := (S 19 9).toNat) (fun i i0 i1 => g 44 i (by omega) i0 (by omega)) ((Z 19 9).toNat - (S 19 9).toNat) (fun i i0 i1 => (hn i (by have := a2.1; omega) (by have := a2.1; omega)).1)
    rw [show (S 19 9).toNat + ((Z 19 9).toNat - (S 19 9).toNat) = (Z 19 9).toNat by omega] at z
    rw [z]
theorem rSe_cd (h : rSe S E) (f : ∀ (j : Nat) (y : Int), 377 ≤ j ∧ j ≤ 385 → Z j y = S j y) (g : ∀ y : Int, 0 ≤ y → y < S 237 47 → Z 376 y = S 376 y) (hn : ∀ y : Int, S 237 47 ≤ y → y < Z 237 47 → Z 376 y = 0) (h4 : 0 ≤ Z 237 47 ∧ Z 237 47 ≤ 4000) : rSe Z (fun s => if s < S 237 47 then E s else []) := by
  refine ⟨h4, fun s s0 s1 => ?_⟩
  by_cases c : s < S 237 47
  · obtain ⟨a1, a2, a3⟩ := h.2 s s0 c
    show Z 376 s = (((if s < S 237 47 then E s else []) : List aE).length : Int) ∧ ((if s < S 237 47 then E s else []) : List aE).length ≤ 4 ∧ ∀ i : Nat, i < ((if s < S 237 47 then E s else []) : List aE).length → rEc Z (((if s < S 237 47 then E s else []) : List aE).getD i (0, 0, 0, 0, 0, 0, 0, 0, 0)) (5 * s + (i : Int))
    rw [if_pos c]
    exact ⟨(g s s0 c).trans a1, a2, fun i hi => rEc_ag (a3 i hi) (fun j j0 j1 => f j _ ⟨j0, j1⟩)⟩
  · show Z 376 s = (((if s < S 237 47 then E s else []) : List aE).length : Int) ∧ ((if s < S 237 47 then E s else []) : List aE).length ≤ 4 ∧ ∀ i : Nat, i < ((if s < S 237 47 then E s else []) : List aE).length → rEc Z (((if s < S 237 47 then E s else []) : List aE).getD i (0, 0, 0, 0, 0, 0, 0, 0, 0)) (5 * s + (i : Int))
    rw [if_neg c]
    exact ⟨hn s (by omega) s1, Nat.zero_le _, fun i hi => absurd hi (Nat.not_lt_zero _)⟩
theorem rCh_Nl {CH : List aQ} {wo : Int} : ∀ (l N : List (List Int)), rCh HT cs ms os N CH wo mo S → rCh HT cs ms os (N ++ l) CH wo mo S
  | [], N, h => by rw [List.append_nil]; exact h
  | x :: l, N, h => by
    have z := rCh_Nl l (N ++ [x]) (rCh_N h)
    rw [List.append_assoc] at z
    exact z
theorem tls_tp {l : List (List Int)} {k : Nat} (h : k ≤ X.length) : tls ((X ++ l).take k) = tls (X.take k) := by
  rw [List.take_append_of_le_length h]
/-- texts stay where code grows -/
theorem rTx_cd {l : List (List Int)} (h : mX X S) (h2 : mX (X ++ l) Z) (e102 : Z 237 102 = S 237 102) (hb : rTb S) (f : ∀ (j : Nat) (x : Int), (((j = 284 ∨ j = 285) ∧ 4000 ≤ x) ∨ (j = 283 ∧ 69632 ≤ x)) → Z j x = S j x) : rTx S Z := by
  obtain ⟨a1, a2, a3, a4⟩ := h
  obtain ⟨b1, b2, b3, b4⟩ := h2
  rw [List.length_append] at b1 b2
  refine ⟨by omega, by omega, fun x hx => ?_⟩
  rcases hx with hx | hx
  · have hk : x.toNat < X.length := by omega
    obtain ⟨c1, c2, c3, c4⟩ := a4 x.toNat hk
    obtain ⟨d1, d2, d3, d4⟩ := b4 x.toNat (by rw [List.length_append]; omega)
    have eg : (X ++ l).getD x.toNat [] = X.getD x.toNat [] := by
      rw [List.getD_eq_getElem?_getD, List.getD_eq_getElem?_getD, List.getElem?_append_left hk]
    rw [show ((x.toNat : Nat) : Int) = x by omega] at c1 c2 d1 d2
    rw [eg] at d2 d4
    rw [tls_tp (by omega)] at d1 d4
    refine ⟨d1.trans c1.symm, d2.trans c2.symm, fun i i0 i1 => ?_⟩
    rw [c2] at i1
    rw [c1]
    have w1 := c4 i.toNat (by omega)
    have w2 := d4 i.toNat (by omega)
    rw [show ((i.toNat : Nat) : Int) = i by omega] at w1 w2
    exact w2.trans w1.symm
  · have lo := hb.2.1.2 x hx.1 hx.2
    exact ⟨f 284 x (by omega), f 285 x (by omega), fun i i0 i1 => f 283 _ (Or.inr ⟨rfl, by omega⟩)⟩
theorem rTt_cd {l : List (List Int)} (h : rTt S ∧ rTb S) (h2 : mX (X ++ l) Z) (hl : (tls (X ++ l) : Int) ≤ 60000) (e102 : Z 237 102 = S 237 102) (e103 : Z 237 103 = S 237 103) (e64 : Z 237 64 = S 237 64) (e65 : Z 237 65 = S 237 65) (f : ∀ (j : Nat) (x : Int), (((j = 284 ∨ j = 285) ∧ 4000 ≤ x) ∨ (j = 283 ∧ 69632 ≤ x)) → Z j x = S j x) : rTt Z ∧ rTb Z := by
  obtain ⟨⟨t1, t2, t3⟩, b1, ⟨b2, b4⟩, b3⟩ := h
  obtain ⟨m1, m2, m3, m4⟩ := h2
  have key : ∀ x : Int, ((0 ≤ x ∧ x < Z 237 19) ∨ (4000 ≤ x ∧ x < 4000 + Z 237 102)) → (0 ≤ Z 284 x ∧ 0 ≤ Z 285 x ∧ Z 284 x + Z 285 x ≤ 269632) ∧ Z 284 x + Z 285 x ≤ 69632 + Z 237 103 := fun x hx => by
    rcases hx with hx | hx
    · obtain ⟨d1, d2, d3, d4⟩ := m4 x.toNat (by omega)
      have tk := tls_tk (L := X ++ l) (k := x.toNat) (by omega)
      rw [show ((x.toNat : Nat) : Int) = x by omega] at d1 d2
      rw [d1, d2]
      omega
    · have y3 := t3 x (by omega)
      have y4 := b3 x (by omega)
      rw [f 284 x (by omega), f 285 x (by omega)]
      omega
  refine ⟨⟨by omega, by omega, fun x hx => (key x hx).1⟩, by omega, ⟨by omega, fun x x0 x1 => ?_⟩, fun x hx => (key x hx).2⟩
  rw [f 284 x (by omega)]
  exact b4 x x0 (by omega)
theorem gX_of (h0 : 0 ≤ S 237 3) (h : mX X S) (hb : (tls X : Int) + S 237 3 ≤ 60000) : gX S := fun X9 h9 i => by
  have e : (tls X9 : Int) = (tls X : Int) := by rw [← h9.2.2.1, h.2.2.1]
  have z := XL_t (T := S 239) (n := S 237 3) (X := X9) h0 i
  have y := (tp_rg (T := S 239) h0 i).2
  omega
/-- behind compile -/
theorem RM_c {l l2 : List (List Int)} (hm : m9 < 512) (hp : RMp p q b b2) (hA : RA (p + 14) (p + 24) (p + 42) p q b b2 S) (hk : RKx (a_N A) X pm S ∧ mWf fa S) (hC : cRel S p HT cs ms os X mo A S) (hr : rRel S S HT cs ms os X mo A S) (hw : wfA S fa ms (cs.length : Int) (WEs S HT cs ms os) (1000 * (m9 : Int)) A) (hT : stT xs S p b HT nt cs ms os (cs.length : Int)) (hX : (∀ k ∈ X, ∀ y ∈ k, 0 ≤ y ∧ y ≤ 255) ∧ (tls X : Int) + S 0 1 ≤ 18 * (m9 : Int)) (hv : 133 ≤ pV S ∧ pV S + S 0 1 ≤ 133 + 16 * (m9 : Int)) (hV : rV pm m9 S) (ho : oL q Z) (zA : RA (p + 14) (p + 24) (p + 42) p q b b2 Z) (zK : RK (a_N A ++ l) (X ++ l2) ((S 2 7 + S 0 1).toNat + 1000000 * (S 2 1 + S 0 1).toNat) pm2 Z) (zr : rmB pm pm2 (24 * S 237 3 + 246) S Z) (z5 : c5P fa (a_N A) X (a_N A ++ l) (X ++ l2) S Z) (zT : c5T S Z) : RM xs (m9 + 1) Z := by
  obtain ⟨⟨k1, ⟨k2, k3, k4, k5⟩, k6⟩, k7⟩ := hk
  obtain ⟨hX, hX2⟩ := hX
  obtain ⟨-, f, cd, fs, fn, f295, ⟨hnd, hxb, htl⟩, fb, hfb, ea⟩ := z5
  obtain ⟨zk1, zwk, ⟨zN, zX, zZ, zD⟩, zm, -⟩ := zK
  obtain ⟨⟨⟨eT, erd, e3, e4, e5⟩, z01⟩, zgx⟩ := zT
  have hpp := RMp_p hp
  have h03 : S 0 1 = S 237 3 := hA.2.2.2.2.1
  have t0 := hA.1.2.2.2.2.2.2.2.1
  have mm := zgx (gX_of (by omega) k3 (by omega))
  have fz : ∀ (j : Nat) (y : Int), 72 ≤ j → j < 237 → Z j y = S j y := fun j y j0 j1 => f j y (Or.inl ⟨j0, j1⟩)
  have f9 : ∀ y : Int, 61 < y → Z 237 y = S 237 y := fun y hy => f 237 y (by omega)
  have fr : ∀ (j : Nat) (y : Int), (241 ≤ j ∧ j ≤ 280) ∨ (314 ≤ j ∧ j ≤ 375) ∨ (377 ≤ j ∧ j ≤ 387) → Z j y = S j y := fun j y hj => f j y (by omega)
  have k47 : S 19 9 = S 237 47 := k6.2.2.2.1.1
  have z47 : Z 19 9 = Z 237 47 := zm.2.2.2.1.1
  have c47 := cd.1.2.2.2.2
  have hl : kLn (a_K A 0) ∧ kLn (a_K A 1) := ⟨hw.1.1.1, hw.1.2.1⟩
  have hpl := hC.2.2.2.2.2.2.2.1.2.1.2
  have hu3 := hw.2.2.2.2.1.2.2.2.1
  have hnl := hw.2.2.2.2.2.1.1.1
  have pge := pV_ge S
  have n10 : S 2 10 = ((a_N A).length : Int) := cNt_10 hC.2.2.2.1
  have y10 : Z 2 10 = ((a_N A ++ l).length : Int) := zk1.1.2.2.1.1
  have hlen : ((a_N A ++ l).length : Int) = ((a_N A).length : Int) + (l.length : Int) := by rw [List.length_append]; omega
  have u3 : S 150 3 = a_c A 3 := hC.2.2.2.2.2.2.2.1.1 3 (by first | decide | omega)
  have s27 : 0 ≤ S 2 7 ∧ 0 ≤ S 2 1 := ⟨by have := k1.1.1.2.2.2.2.1.1; omega, by have := k1.1.1.2.2.2.2.1.2; omega⟩
  have wk1 : Z 2 7 ≤ S 2 7 + S 0 1 ∧ Z 2 1 ≤ S 2 1 + S 0 1 := by
    unfold cPl at hpl
    obtain ⟨w1, w2, -⟩ := zwk
    rw [show ((S 2 7 + S 0 1).toNat + 1000000 * (S 2 1 + S 0 1).toNat) % 1000000 = (S 2 7 + S 0 1).toNat by omega] at w1
    rw [show ((S 2 7 + S 0 1).toNat + 1000000 * (S 2 1 + S 0 1).toNat) / 1000000 = (S 2 1 + S 0 1).toNat by omega] at w2
    omega
  have e150 : Z 150 3 = S 150 3 := fz 150 3 (by first | decide | omega) (by first | decide | omega)
  have pv0 : S 2 1 ≤ pV S + S 150 3 + 60 * S 2 10 ∧ S 2 7 ≤ pV S + S 2 10 := by unfold pV; omega
  have pv1 : pV Z ≤ pV S + S 0 1 := pV_le (by omega) (by omega) (by omega)
  have pv2 : Z 2 1 ≤ pV Z + Z 150 3 + 60 * Z 2 10 ∧ Z 2 7 ≤ pV Z + Z 2 10 := by unfold pV; omega
  have zpl : cPl (pV Z) (a_c A 3) (a_N A ++ l) Z := by
    unfold cPl at hpl ⊢
    omega
  have eX : rTx S Z := rTx_cd k3 zX (f9 102 (by first | decide | omega)) hr.2.2.2.1.2.2.2 mm
  have tt := rTt_cd hr.2.2.2.1.2.2 zX (by omega) (f9 102 (by first | decide | omega)) (f9 103 (by first | decide | omega)) (f9 64 (by first | decide | omega)) (f9 65 (by first | decide | omega)) mm
  have m304 : ∀ (j : Nat) (y : Int), (304 ≤ j ∧ j ≤ 309) → 0 ≤ y → y < S 237 47 → Z j y = S j y := cd.2.2.2
  have g35 : ∀ (j : Nat) (y : Int), j = 35 ∨ j = 36 ∨ j = 44 ∨ j = 46 → 0 ≤ y → y < S 19 9 → Z j y = S j y := fun j y hj y0 y1 => by
    have a := zm.2.2.2.2.2.2.2 y y0 (by omega)
    have c := k6.2.2.2.2.2.2.2 y y0 (by omega)
    rcases hj with rfl | rfl | rfl | rfl
    · rw [a.1, c.1]; exact m304 304 y (by first | decide | omega) y0 (by omega)
    · rw [a.2.1, c.2.1]; exact m304 305 y (by first | decide | omega) y0 (by omega)
    · exact fs 44 y (by omega) y0 (by omega)
    · exact fs 46 y (by omega) y0 (by omega)
  have nw : ∀ y : Int, S 19 9 ≤ y → y < Z 19 9 → Z 44 y = 0 ∧ Z 46 y = -1 := fun y y0 y1 => by
    have a := zm.2.2.2.2.2.2.2 y (by have := k6.2.2.2.1.2.1; omega) (by omega)
    have b := fn y (by omega) (by omega)
    exact ⟨a.2.2.2.2.2.2.2.2.1.trans b.1.2.2.2.2, b.2⟩
  obtain ⟨ix, fl, ow, hE⟩ := hC.2.2.2.2.1
  have sl2 := zk1.2.2.2.2.1
  have hE2 : cSe Z (a_E (u_C A (S 237 47) (a_N A ++ l) 0)) (fun s => if s < S 237 47 then ix s else []) fl ow := cSe_cd k47 hE (fun j y hj => by
    by_cases c : j < 72
    · exact f j y (by omega)
    · exact fz j y (by omega) (by omega)) g35 (by omega) nw ⟨sl2.2.1, by have := sl2.1; have := sl2.2.2.1; omega⟩
  have hR2 : rSe Z (a_E (u_C A (S 237 47) (a_N A ++ l) 0)) := rSe_cd hr.2.2.2.2.1 (fun j y hj => fr j y (by omega)) (fun y y0 y1 => fs 376 y (by omega) y0 y1) (fun y y0 y1 => (fn y y0 y1).1.2.2.2.2) ⟨zm.2.2.2.1.2.1, zm.2.2.2.1.2.2⟩
  have ac : ∀ i : Int, i ≠ 6 → a_c (u_C A (S 237 47) (a_N A ++ l) 0) i = a_c A i := fun i hi => fUp_n hi
  have ak : ∀ s i : Int, a_k (u_C A (S 237 47) (a_N A ++ l) 0) s i = if s < S 237 47 then a_k A s i else 0 := fun _ _ => rfl
  obtain ⟨c1, ⟨c2, -⟩, c3, c4, c5⟩ := hC.2.2.2.2.2.2.2.1
  obtain ⟨d1, d2, d3, d4, d5, d6⟩ := hr.2.2.2.2.2.2.2.1
  have hC2 : cRel Z p HT cs ms os (X ++ l2) mo (u_C A (S 237 47) (a_N A ++ l) 0) Z := by
    refine ⟨⟨zA.1.1, zA.1.2.1, rmR_rfl Z⟩, ⟨cTk_ag hC.2.1.1 eT (fun j y hj => fz j y (by omega) (by omega)), cTk_ag hC.2.1.2 eT (fun j y hj => fz j y (by omega) (by omega))⟩, ⟨cWd_ag hC.2.2.1.1 eT (fun j y hj => fz j y (by unfold cWo at hj; omega) (by unfold cWo at hj; omega)), cSw_ag hC.2.2.1.2.1 (fun j y hj => fz j y (by omega) (by omega)), cPo_ag hC.2.2.1.2.2 (fz 72 3 (by first | decide | omega) (by first | decide | omega)) (fun y => ⟨fz 134 y (by first | decide | omega) (by first | decide | omega), fz 135 y (by first | decide | omega) (by first | decide | omega)⟩) (fz 140 2 (by first | decide | omega) (by first | decide | omega)) (fz 150 1 (by first | decide | omega) (by first | decide | omega))⟩, ⟨⟨zk1.1, erd⟩, ?_⟩, ⟨_, fl, ow, hE2⟩, ⟨cOu_ag hC.2.2.2.2.2.1.1 (fz 72 13 (by first | decide | omega) (by first | decide | omega)) (fun y => fz 151 y (by first | decide | omega) (by first | decide | omega)), cTrc_ag hC.2.2.2.2.2.1.2 (fun y => fz 152 y (by first | decide | omega) (by first | decide | omega)) (fz 72 15 (by first | decide | omega) (by first | decide | omega))⟩, ⟨cCh_ag hC.2.2.2.2.2.2.1.1 (fun j y hj => fz j y (by omega) (by omega)), cStc_ag hC.2.2.2.2.2.2.1.2 eT (fun j y hj => fz j y (by omega) (by omega))⟩, ⟨fun i hi => ?_, ⟨?_, zpl⟩, ?_, fun i hi => ?_, fun s s0 s1 => ?_⟩, fun _ _ _ => rfl⟩
    · unfold cPl at zpl hpl
      omega
    · rw [ac _ (by omega), fz 150 i (by first | decide | omega) (by first | decide | omega)]
      exact c1 i hi
    · rw [ac _ (by first | decide | omega), fz 72 11 (by first | decide | omega) (by first | decide | omega)]
      exact c2
    · rw [ac _ (by first | decide | omega), fz 158 19 (by first | decide | omega) (by first | decide | omega)]
      exact c3
    · rw [ac _ (by omega), fz 160 i (by first | decide | omega) (by first | decide | omega)]
      exact c4 i hi
    · rw [ak, ak, ak, ak]
      by_cases c : s < S 237 47
      · rw [if_pos c, if_pos c, if_pos c, if_pos c, fs 41 s (by omega) s0 c, fs 42 s (by omega) s0 c, fs 43 s (by omega) s0 c, fs 45 s (by omega) s0 c]
        exact c5 s s0 (by omega)
      · rw [if_neg c, if_neg c, if_neg c, if_neg c]
        have a := zm.2.2.2.2.2.2.2 s s0 (by omega)
        have b := (fn s (by omega) (by omega)).1
        exact ⟨a.2.2.2.2.2.1.trans b.1, a.2.2.2.2.2.2.1.trans b.2.1, a.2.2.2.2.2.2.2.1.trans b.2.2.1, a.2.2.2.2.2.2.2.2.2.trans b.2.2.2.1⟩
  have tk : ∀ t : Int, (t = 0 ∨ t = 1) → rTk t S (a_K A t) → rTk t Z (a_K A t) := fun t ht hk => rTk_ag hk eX ⟨fun j hj => fr j t (by omega), fun j y j0 j1 _ _ => fr j y (by omega), fun j y j0 j1 _ _ => fr j y (by omega)⟩ (fr 359 t (by omega)) (fun y _ _ => ⟨fr 363 y (by omega), fr 364 y (by omega)⟩)
  obtain ⟨⟨sl, hW⟩, hH⟩ := hr.2.2.1
  have hr2 : rRel Z Z HT cs ms os (X ++ l2) mo (u_C A (S 237 47) (a_N A ++ l) 0) Z := by
    refine ⟨zA.2.2.1, ⟨tk 0 (Or.inl rfl) hr.2.1.1, tk 1 (Or.inr rfl) hr.2.1.2⟩, ⟨⟨sl, rWd_ag hW eX (fun j y hj => ?_)⟩, rHs_ag hH (f9 87 (by first | decide | omega)) (fun j y j0 j1 => fr j y (by omega))⟩, ⟨zN, zX, tt⟩, hR2, ⟨rOu_ag hr.2.2.2.2.2.1.1 (f9 104 (by first | decide | omega)) (fun y => fr 342 y (by omega)), rTrc_ag hr.2.2.2.2.2.1.2 (fun y => fr 343 y (by omega)) (f9 106 (by first | decide | omega))⟩, ⟨rCh_Nl l _ (rCh_ag hr.2.2.2.2.2.2.1.1 (fun j y hj => ?_)), rStc_ag hr.2.2.2.2.2.2.1.2 eX (fun j y hj => fr j y (by omega))⟩, ⟨fun i hi => ?_, ?_, ?_, fun i hi => ?_, fun s s0 s1 => ?_, ?_⟩, fun _ _ _ => rBs_s.symm⟩
    · unfold rWo at hj
      by_cases c : j = 237
      · rw [c]
        exact f9 y (by omega)
      · exact fr j y (by omega)
    · unfold chM at hj
      by_cases c : j = 237
      · rw [c]
        exact f9 y (by omega)
      · exact fr j y (by omega)
    · rw [ac _ (by omega), f9 _ (by omega)]
      exact d1 i hi
    · rw [ac _ (by first | decide | omega), f9 81 (by first | decide | omega)]
      exact d2
    · rw [ac _ (by first | decide | omega), f9 108 (by first | decide | omega)]
      exact d3
    · rw [ac _ (by omega), fr 344 i (by omega)]
      exact d4 i hi
    · rw [ak, ak, ak, ak]
      by_cases c : s < S 237 47
      · rw [if_pos c, if_pos c, if_pos c, if_pos c, fs 310 s (by omega) s0 c, fs 311 s (by omega) s0 c, fs 312 s (by omega) s0 c, fs 313 s (by omega) s0 c]
        exact d5 s s0 c
      · rw [if_neg c, if_neg c, if_neg c, if_neg c]
        have b := (fn s (by omega) s1).1
        exact ⟨b.1, b.2.1, b.2.2.1, b.2.2.2.1⟩
    · rw [f9 82 (by first | decide | omega), f9 94 (by first | decide | omega), f9 63 (by first | decide | omega)]
      exact d6
  have hnd0 := hw.2.2.2.2.2.2.2.1.2
  have w2 : wfA Z fb ms (cs.length : Int) (WEs Z HT cs ms os) (1000 * ((m9 + 1 : Nat) : Int)) (u_C A (S 237 47) (a_N A ++ l) 0) := wf_B (wf_cd k6 hw cd ea ⟨zN.2.1, by rw [zN.1]; exact Int.le_refl _, hnd hnd0⟩) ⟨by omega, by omega⟩
  have T2 : stT xs Z p b HT nt cs ms os (cs.length : Int) := stT_ag hT (fun j y hj => by
    unfold stD at hj
    rcases hj with z | z | z | z | z | z
    · exact fz j y (by omega) (by omega)
    · exact fz j y (by omega) (by omega)
    · exact fz j y (by omega) (by omega)
    · exact fr j y (by omega)
    · rw [z.1, z.2, zA.2.2.2.1.1, hA.2.2.2.1.1]
    · by_cases c : j = 34
      · exact f j y (by omega)
      · exact fz j y (by omega) (by omega)) (by rw [zN.1]; omega) (fun g g0 g1 => by
    by_cases c : g < S 237 34
    · rw [cd.2.1 295 g (by first | decide | omega) g0 c]
      exact hT.2.2.2.2 g g0 c
    · exact f295 g (by omega) g1)
  have rv : rV pm2 (m9 + 1) Z := by
    unfold rV at hV ⊢
    have r1 := zr.1.1
    have r2 := zr.1.2
    rw [z01]
    obtain ⟨v1, v2, v3⟩ := hV.2.2
    obtain ⟨o1, o2, o3⟩ := e5
    exact ⟨⟨by omega, by omega⟩, rX_tr hV.2.1 zr.2, by rw [o1]; exact v1, by rw [z01]; omega, by omega⟩
  exact ⟨p, q, b, b2, pm2, X ++ l2, HT, nt, cs, ms, os, mo, fb, _, hp, zA, ⟨⟨zk1, ⟨zN, zX, zZ, zD⟩, zm⟩, hfb⟩, ⟨hC2, hr2⟩, w2, T2, ⟨hxb hX, by rw [z01]; omega⟩, ⟨pV_ge Z, by rw [z01]; have := hv.2; omega⟩, rv, ho, by omega⟩
theorem kc5 (h : RM xs m9 S) (hm : m9 < 512) (hx101 : pe_at (pe_GA xs).xs 101 = some (1, tx_101)) (hx107 : pe_at (pe_GA xs).xs 107 = some (1, tx_101)) : wJ (pe_GA xs) wY0 (mS [3, 4, 5, 6, 7, 8, 9, 10, 15, 16, 17, 64, 65, 66, 67, 69, 70, 31, 32, 33, 35, 36, 37, 38, 39, 40, 41, 42, 43, 44, 45, 46, 58, 59]) (d + 546) t_X_compile ((pe_at t_X_compile.bl 0).getD (0, [])).2 [(0, (2, 0))] [] S (fun o1 Z => ∀ d2 : Nat, wJ (pe_GA xs) wY0 (fun _ => False) (d2 + 1061) t_M_compile ((pe_at t_M_compile.bl 0).getD (0, [])).2 [(0, (2, 237))] [] Z (fun o2 S2 => (∃ v : Int, o1 = .inl (some (0, v)) ∧ o2 = .inl (some (0, v))) ∧ RM xs (m9 + 1) S2)) := by
  obtain ⟨p, q, b, b2, pm, X, HT, nt, cs, ms, os, mo, fa, A, hp, hA, ⟨⟨k1, ⟨k2, k3, k4, k5⟩, k6⟩, k7⟩, ⟨hC, hr⟩, hw, hT, ⟨hX, hX2⟩, hv, hV, -⟩ := id h
  have ho := RM_o h
  have hpp := RMp_p hp
  have hpl := hC.2.2.2.2.2.2.2.1.2.1.2
  have hu3 := hw.2.2.2.2.1.2.2.2.1
  have hnl := hw.2.2.2.2.2.1.1.1
  have s27 : 0 ≤ S 2 7 ∧ 0 ≤ S 2 1 := ⟨by have := k1.1.1.2.2.2.2.1.1; omega, by have := k1.1.1.2.2.2.2.1.2; omega⟩
  have t0 := hA.1.2.2.2.2.2.2.2.1
  have hwk : wk ((S 2 7 + S 0 1).toNat + 1000000 * (S 2 1 + S 0 1).toNat) S := by
    unfold cPl at hpl
    have pge := pV_ge S
    have e1 : ((S 2 7 + S 0 1).toNat + 1000000 * (S 2 1 + S 0 1).toNat) % 1000000 = (S 2 7 + S 0 1).toNat := by omega
    have e2 : ((S 2 7 + S 0 1).toNat + 1000000 * (S 2 1 + S 0 1).toNat) / 1000000 = (S 2 1 + S 0 1).toNat := by omega
    unfold wk
    rw [e1, e2]
    exact ⟨by omega, by omega, by omega, by omega, by omega⟩
  have no1 : ¬ mS [3, 4, 5, 6, 7, 8, 9, 10, 15, 16, 17, 64, 65, 66, 67, 69, 70, 31, 32, 33, 35, 36, 37, 38, 39, 40, 41, 42, 43, 44, 45, 46, 58, 59] 1000001 := fun z => by
    rcases z with z | z
    · omega
    · exact absurd z (by first | decide | omega)
  have pr : ∀ V : wS, V 1000001 (-1) = 1 → w_pr wY0 V 1000001 := fun V e => ⟨Or.inr (by rw [e]; decide), by unfold wG; decide⟩
  refine wJ_mono (wJ_len (c5G (m := (S 2 7 + S 0 1).toNat + 1000000 * (S 2 1 + S 0 1).toNat) (D := d) k7 (by omega) (by omega) (by omega) hT.1.1 hx101 hx107 hA ⟨k1, hwk, ⟨k2, k3, k4, k5⟩, k6, fa, k7⟩ hC.2.2.2.1.1.2)) (fun o1 Z hz d2 => ?_)
  have z1 : Z 1000001 (-1) = 1 := (hz.2 1000001 (pr S ho) (by rw [wt_out]; decide) no1).trans ho
  refine wJ_mono (wJ_len (hz.1 (fun _ => False) d2)) (fun o2 S2 hy => ?_)
  obtain ⟨⟨⟨v, rfl⟩, rfl, N2, X2, pm2, a1, a2, a3, a4, a5⟩, hy2⟩ := hy
  have z2 : S2 1000001 (-1) = 1 := (hy2 1000001 (pr Z z1) (by rw [wt_out]; decide) (fun z => z)).trans z1
  have no : ∀ j : Nat, (120 ≤ j ∧ j ≤ 125) ∨ (209 ≤ j ∧ j ≤ 214) → ¬ mS [3, 4, 5, 6, 7, 8, 9, 10, 15, 16, 17, 64, 65, 66, 67, 69, 70, 31, 32, 33, 35, 36, 37, 38, 39, 40, 41, 42, 43, 44, 45, 46, 58, 59] j := fun j hj z => by
    rcases z with z | z
    · omega
    · simp only [List.mem_cons, List.not_mem_nil, or_false] at z
      omega
  have zl : ∀ j : Nat, (120 ≤ j ∧ j ≤ 125) ∨ (209 ≤ j ∧ j ≤ 214) → S2 j (-1) = S j (-1) := fun j hj => by
    have hn := no j hj
    have hj2 : j = 120 ∨ j = 121 ∨ j = 122 ∨ j = 123 ∨ j = 124 ∨ j = 125 ∨ j = 209 ∨ j = 210 ∨ j = 211 ∨ j = 212 ∨ j = 213 ∨ j = 214 := by omega
    rcases hj2 with rfl | rfl | rfl | rfl | rfl | rfl | rfl | rfl | rfl | rfl | rfl | rfl <;> exact (hy2 _ (wy_pr rfl) (by decide +kernel) (fun z => z)).trans (hz.2 _ (wy_pr rfl) (by decide +kernel) hn)
  have z3 : oL q S2 := ⟨z2, kL_ag (RM_k h hA.2.1.2.1) (fun j j0 j1 => zl j (by have := RMq hp; omega))⟩
  obtain ⟨⟨⟨l, rfl⟩, l2, rfl⟩, -⟩ := id a4
  exact ⟨⟨v, rfl, rfl⟩, RM_c hm hp hA ⟨⟨k1, ⟨k2, k3, k4, k5⟩, k6⟩, k7⟩ hC hr hw hT ⟨hX, hX2⟩ hv hV z3 a1 a2 a3 a4 a5⟩
end Wnn
