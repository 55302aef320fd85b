/-! PART ky: a site: what is known of it; the class has gone through its entries. -/
section Wky
variable {Sb : wS} {xs : List (Nat × List Int32)} {d : Nat} {S0 S Z : wS} {p w m : Nat} {HT : Int → Int} {cs : List hCR} {ms : List hMR} {os : Int → List Int} {X : List (List Int)} {mo t n B B2 oq : Int} {fa : Int → Int} {WE : aA → Prop} {A A2 : aA} {K2 : aK} {ml : List Nat} {k c s kd nms ne ec bh nm en : Int} {b ba : Nat} {ar : List aV} {e : aE} {V Z2 Y : wS} {o : wO} {dn : Int} {H2 : List aH} {N2 : List (List Int)} {E2 : Int → List aE} {C2 : List aQ} {W2 : Int} {c2 : Int → Int} {k2 : Int → Int → Int} {mk rk : Nat → Int → Prop} {K : aK} {T : List aO} {H : List aH} {E : Int → List aE} {gk gb es lo hi a : Int} {r : List aE × Int × Option aE} {A1 : aA}
/-- what is known of a site -/
def siH (S0 : wS) (K : aK) (s kd nms ne ec bh : Int) (ba : Nat) (ar : List aV) : Prop := (opA S0 K = s ∧ S0 304 s = kd ∧ S0 305 s = nms ∧ S0 306 s = ne) ∧ siG K kd ne ec bh ba ar ∧ ((0 ≤ s ∧ s < S0 237 47 ∧ S0 237 47 ≤ 4000) ∧ (kd ≤ 3 → ne = 0)) ∧ ((kd = 0 ∨ kd = 1 ∨ kd = 5) → 0 ≤ nms ∧ nms < S0 237 16) ∧ (nms = -1 ∨ (0 ≤ nms ∧ nms < S0 237 16))
theorem dt_g {l : List aV} {q m i : Nat} (hi : i < m) : ((l.drop q).take m).getD i (0, 0, []) = l.getD (q + i) (0, 0, []) := by
  rw [List.getD_eq_getElem?_getD, List.getD_eq_getElem?_getD, List.getElem?_take, if_pos hi, List.getElem?_drop]
theorem si_of (hx : stX S0 fa X) (hk : wTk fa S0 K) (hr : K.2.2.2.1 = 1) (ho : opI S0 K = 27) : ∃ (ec bh : Int) (ba : Nat) (ar : List aV), siH S0 K (opA S0 K) (S0 304 (opA S0 K)) (S0 305 (opA S0 K)) (S0 306 (opA S0 K)) ec bh ba ar ∧ mes (S0 304 (opA S0 K)) (S0 306 (opA S0 K)) = bh := by
  obtain ⟨a1, H, D, n, a2, a3, a4, a5⟩ := topT hx hk hr
  obtain ⟨-, -, -, -, -, b⟩ := a5
  obtain ⟨-, -, -, -, -, -, c, -⟩ := b
  obtain ⟨c1, c2, c3, c4, c5⟩ := c ho
  have hh := tyt_h hx hk hr
  rw [ho] at hh
  unfold mne at hh
  rw [if_pos rfl] at hh
  have q4 := hx.1.2.2.2.1
  have e : mes (S0 304 (opA S0 K)) (S0 306 (opA S0 K)) = (if S0 304 (opA S0 K) = 2 then 1 else if S0 304 (opA S0 K) = 3 then 2 else (if S0 304 (opA S0 K) = 1 then 1 else S0 306 (opA S0 K))) := by
    unfold mes
    repeat' split
    all_goals omega
  have e0 : 0 ≤ mes (S0 304 (opA S0 K)) (S0 306 (opA S0 K)) ∧ mes (S0 304 (opA S0 K)) (S0 306 (opA S0 K)) ≤ 8 := by
    unfold mes
    repeat' split
    all_goals omega
  have e1 : (if S0 304 (opA S0 K) = 1 then 1 else S0 306 (opA S0 K)) ≤ mes (S0 304 (opA S0 K)) (S0 306 (opA S0 K)) ∧ 0 ≤ (if S0 304 (opA S0 K) = 1 then 1 else S0 306 (opA S0 K)) := by
    unfold mes
    repeat' split
    all_goals omega
  refine ⟨(if S0 304 (opA S0 K) = 1 then 1 else S0 306 (opA S0 K)), mes (S0 304 (opA S0 K)) (S0 306 (opA S0 K)), K.1.length - 1 - (mes (S0 304 (opA S0 K)) (S0 306 (opA S0 K))).toNat, (K.1.drop (K.1.length - 1 - (mes (S0 304 (opA S0 K)) (S0 306 (opA S0 K))).toNat + 1)).take (if S0 304 (opA S0 K) = 1 then 1 else S0 306 (opA S0 K)).toNat, ⟨⟨rfl, rfl, rfl, rfl⟩, ⟨⟨c2, c3.1, c3.2.1⟩, ⟨rfl, e⟩, ⟨by omega, e1.1⟩, ?_, fun i hi => ?_⟩, ⟨⟨c1.1, c1.2, by omega⟩, c3.2.2⟩, c4, c5⟩, rfl⟩
  · rw [List.length_take, List.length_drop]
    generalize mes (S0 304 (opA S0 K)) (S0 306 (opA S0 K)) = u at *
    generalize (if S0 304 (opA S0 K) = 1 then 1 else S0 306 (opA S0 K)) = v at *
    omega
  · rw [List.length_take] at hi
    rw [dt_g (by omega)]
theorem si_c (hx : stX S0 fa X) (hS : cRel S0 p HT cs ms os X mo A S) (h : siH S0 K s kd nms ne ec bh ba ar) : S 19 9 = S0 237 47 ∧ S 35 s = kd ∧ S 36 s = nms ∧ S 37 s = ne := by
  have f := hS.2.2.2.2.2.2.2.2
  have g := hx.1.2.2.2.2.2.2.2 s h.2.2.1.1.1 h.2.2.1.1.2.1
  have g4 := hx.1.2.2.2.1.1
  rw [f 19 9 (by unfold cSta; omega), f 35 s (by unfold cSta; omega), f 36 s (by unfold cSta; omega), f 37 s (by unfold cSta; omega)]
  exact ⟨g4, g.1.trans h.1.2.1, g.2.1.trans h.1.2.2.1, g.2.2.1.trans h.1.2.2.2⟩
theorem si_r (hS : rRel S0 Sb HT cs ms os X mo A S) (h : siH S0 K s kd nms ne ec bh ba ar) : S 237 47 = S0 237 47 ∧ S 304 s = kd ∧ S 305 s = nms ∧ S 306 s = ne := by
  have f := fun (j : Nat) (x : Int) (hj : rSta j x) (h2 : 237 ≤ j ∧ j < 387 ∧ (j ≠ 237 ∨ x ≠ 0)) => (hS.2.2.2.2.2.2.2.2 j x hj).trans (rBs_i (Sb := Sb) h2)
  rw [f 237 47 (by unfold rSta; omega) (by omega), f 304 s (by unfold rSta; omega) (by omega), f 305 s (by unfold rSta; omega) (by omega), f 306 s (by unfold rSta; omega) (by omega)]
  exact ⟨rfl, h.1.2.1, h.1.2.2.1, h.1.2.2.2⟩
/-- counters of a site behind its entries -/
def kHl (k : Int → Int → Int) (s a pr : Int) : Int → Int → Int := fUp k s (fUp (fUp (k s) 1 (k s 1 + a)) 2 (k s 2 + pr))
theorem kHl_n {k : Int → Int → Int} {q a pr : Int} (h : q ≠ s) : kHl k s a pr q = k q := fUp_n h
theorem kHl_0 {k : Int → Int → Int} {a pr : Int} : kHl k s a pr s 0 = k s 0 := by unfold kHl; rw [fUp_s, fUp_n (by first | decide | omega), fUp_n (by first | decide | omega)]
theorem kHl_1 {k : Int → Int → Int} {a pr : Int} : kHl k s a pr s 1 = k s 1 + a := by unfold kHl; rw [fUp_s, fUp_n (by first | decide | omega), fUp_s]
theorem kHl_2 {k : Int → Int → Int} {a pr : Int} : kHl k s a pr s 2 = k s 2 + pr := by unfold kHl; rw [fUp_s, fUp_s]
theorem kHl_3 {k : Int → Int → Int} {a pr : Int} : kHl k s a pr s 3 = k s 3 := by unfold kHl; rw [fUp_s, fUp_n (by first | decide | omega), fUp_n (by first | decide | omega)]
/-- the entries of a site have been gone through; a: 1 if one held -/
def u_H (A : aA) (s a : Int) (r : List aE × Int × Option aE) : aA := u_L A (a_H A) (a_N A) (fUp (a_E A) s r.1) (a_C A) (a_W A) (a_c A) (kHl (a_k A) s a r.2.1)
/-- what the linker has taken -/
def cAim (w : Nat) (s kd ec : Int) (ba : Nat) (gk nm es : Int) (Y : wS) : Prop := (Y 158 4 = (w : Int) ∧ Y 158 5 = ((w + 1 : Nat) : Int) ∧ Y 158 6 = s ∧ Y 158 7 = kd ∧ Y 158 8 = (ba : Int) ∧ Y 158 9 = gk ∧ Y 158 10 = Y (w + 3) (ba : Int) ∧ Y 158 11 = nm ∧ Y 158 12 = ec ∧ Y 158 13 = es) ∧ Y w 16 = 0
theorem vsC_R (hp : p = 73 ∨ p = 162) (hw : isWt w t) (hB : cRel S0 p HT cs ms os X mo A S) (hst : stC w S (a_K A t)) (hs : 0 ≤ s) (hv : vsC w s kd ec (ba : Int) gk gb nm es nms lo hi (a_T A) (a_H A) (a_E A) S Y) (h42 : Y 42 s = S 42 s + a) (h19 : Y 158 19 = S 158 19) (hr : r = hlF (a_T A) (a_H A) kd nms gk gb nm lo hi (a_E A s)) : cRel S0 p HT cs ms os X mo (u_H A s a r) Y := by
  subst hr
  obtain ⟨q1, q2, q3⟩ := vsC_st (isWt_w hw) hs hv hst hB.2.2.1.1 hB.2.2.1.2.1
  obtain ⟨v1, v2, v3, v4, f⟩ := hv
  have ww := isWt_w hw
  have fm : ∀ k : Nat, Y k (-1) = S k (-1) := fun k => f k (-1) (by unfold hdM; omega) (by omega) (by omega)
  have fp : ∀ (j : Nat) (x : Int), j ≠ 57 → j ≠ 42 → j ≠ 43 → j ≠ 44 → j ≠ 46 → j ≠ 19 → j ≠ 158 → (j ≠ w ∨ x ≠ 16) → Y j x = S j x := fun j x a1 a2 a3 a4 a5 a6 a7 a8 => f j x (by unfold hdM; omega) (by omega) a8
  have fq : ∀ (j : Nat) (x : Int), (j < 42 ∧ j ≠ 19) ∨ j = 45 ∨ (58 ≤ j ∧ j < 158) ∨ (159 ≤ j ∧ j < 215) → Y j x = S j x := fun j x hj => fp j x (by omega) (by omega) (by omega) (by omega) (by omega) (by omega) (by omega) (by omega)
  have eT : cTx S Y := cTx_of (fq 2 1 (by omega)) (fun x => fq 3 x (by omega))
  have hF : cFm w (fun j x => hdM s j x ∨ (j = 158 ∧ 4 ≤ x ∧ x ≤ 13)) S Y := by
    refine ⟨fun j x j0 j1 j2 hm => f j x (fun z => hm (Or.inl z)) (by omega) (by omega), fun j j0 j1 => fm j, q1.2.1.2, rmR_ag (rmR_rfl S) (fun k _ => fm k) (fp wG 0 (by first | decide | omega) (by first | decide | omega) (by first | decide | omega) (by first | decide | omega) (by first | decide | omega) (by first | decide | omega) (by first | decide | omega) (by unfold wG; omega)) (fp wG 1 (by first | decide | omega) (by first | decide | omega) (by first | decide | omega) (by first | decide | omega) (by first | decide | omega) (by first | decide | omega) (by first | decide | omega) (by unfold wG; omega))⟩
  refine cRel_L hB hp hw hF (fun j x hm => by unfold hdM at hm; unfold mLk; omega) eT q1.2.1.1 q1.1 q3 (cNt_ag hB.2.2.2.1 (fun j hj => funext fun x => fq j x (by omega))) v1 (cCh_ag hB.2.2.2.2.2.2.1.1 (fun j x hj => fq j x (by omega))) ?_
  obtain ⟨c1, ⟨c2, c3⟩, c4, c5, c6⟩ := hB.2.2.2.2.2.2.2.1
  refine ⟨fun i hi => (fq 150 i (by omega)).trans (c1 i hi), ⟨(fq 72 11 (by omega)).trans c2, cPl_ag c3 (fq 2 1 (by omega)) (fq 3 (-1) (by omega)) (fq 2 7 (by omega)) (fq 4 (-1) (by omega)) (Int.le_refl _) (Nat.le_refl _)⟩, h19.trans c4, fun i hi => (fq 160 i (by omega)).trans (c5 i hi), fun q q0 q1 => ?_⟩
  rw [f 19 9 (by unfold hdM; omega) (by omega) (by omega)] at q1
  obtain ⟨d1, d2, d3, d4⟩ := c6 q q0 q1
  rw [fq 41 q (by omega), fq 45 q (by omega)]
  show S 41 q = kHl (a_k A) s a _ q 0 ∧ Y 42 q = kHl (a_k A) s a _ q 1 ∧ Y 43 q = kHl (a_k A) s a _ q 2 ∧ S 45 q = kHl (a_k A) s a _ q 3
  by_cases e : q = s
  · subst e
    rw [kHl_0, kHl_1, kHl_2, kHl_3, h42, v2, d2, d3]
    exact ⟨d1, rfl, rfl, d4⟩
  · rw [kHl_n e, f 42 q (by unfold hdM; omega) (by omega) (by omega), f 43 q (by unfold hdM; omega) (by omega) (by omega)]
    exact ⟨d1, d2, d3, d4⟩
theorem vsC_A (hw : isWt w t) (hv : vsC w s kd ec (ba : Int) gk gb nm es nms lo hi T H E S Y) (hgb : gb = S (w + 3) (ba : Int)) : cAim w s kd ec ba gk nm es Y := by
  obtain ⟨-, -, ⟨v4, v5, v6, v7, v8, v9, v10, v11, v12, v13⟩, v16, f⟩ := hv
  have ww := isWt_w hw
  refine ⟨⟨v4, v5, v6, v7, v8, v9, ?_, v11, v12, v13⟩, v16⟩
  rw [v10, hgb, f (w + 3) (ba : Int) (by unfold hdM; omega) (by omega) (by omega)]
/-- acting at a site: the class, from A with the entry e, comes to A2 with the problem c -/
def cAct (xs : List (Nat × List Int32)) (d : Nat) (S0 : wS) (p : Nat) (HT : Int → Int) (cs : List hCR) (ms : List hMR) (os : Int → List Int) (X : List (List Int)) (mo : Int) (w : Nat) (A : aA) (s kd nms ec : Int) (ba : Nat) (gk nm es : Int) (e : aE) (c : Int) (A2 : aA) : Prop := ∀ (Y : wS) (y : Int), cRel S0 p HT cs ms os X mo A Y → cAim w s kd ec ba gk nm es Y → cEc Y kd nms e y → (0 ≤ y ∧ y < Y 48 (-1)) → wJ (pe_GA xs) wY0 (mS sML) (d + 91) t_XL_act ((pe_at t_XL_act.bl 0).getD (0, [])).2 [(0, (2, 158)), (1, (0, y))] [] Y (fun o V => o = .inl none ∧ V w 16 = c ∧ cRel S0 p HT cs ms os X mo A2 V)
/-- looking, linking and acting at a site -/
def cLook (xs : List (Nat × List Int32)) (d : Nat) (S0 : wS) (p : Nat) (HT : Int → Int) (cs : List hCR) (ms : List hMR) (os : Int → List Int) (X : List (List Int)) (mo : Int) (w : Nat) (A : aA) (s kd ec : Int) (ba : Nat) (gk nm es : Int) (c : Int) (A2 : aA) : Prop := ∀ Y : wS, cRel S0 p HT cs ms os X mo A Y → cAim w s kd ec ba gk nm es Y → wJ (pe_GA xs) wY0 (mS sML) (d + 91) t_XL_look ((pe_at t_XL_look.bl 0).getD (0, [])).2 [(0, (2, 158))] [] Y (fun o X2 => ∃ y2 : Int, o = .inl (some (0, y2)) ∧ ((X2 w 16 ≠ 0 ∧ (X2 w 16 = c ∧ cRel S0 p HT cs ms os X mo A2 X2)) ∨ (X2 w 16 = 0 ∧ wJ (pe_GA xs) wY0 (mS sML) (d + 91) t_XL_act ((pe_at t_XL_act.bl 0).getD (0, [])).2 [(0, (2, 158)), (1, (0, y2))] [] X2 (fun o V => o = .inl none ∧ V w 16 = c ∧ cRel S0 p HT cs ms os X mo A2 V))))
/-- the abstract bits of a receiver serve as well as the class's -/
theorem hl_gc {v : aV} {k b : Int} (h : cVl S k b v) : hlF T H kd nms v.1 b nm lo hi = hlF T H kd nms v.1 v.2.1 nm lo hi := funext fun l => by
  by_cases e : v.1 = 3
  · exact hlF_gb (Or.inl e) l
  · rw [(h.2.1 e).1]
theorem hl_gr {v : aV} {k b : Int} (h : rVl S k b v) : hlF T H kd nms v.1 b nm lo hi = hlF T H kd nms v.1 v.2.1 nm lo hi := funext fun l => by
  by_cases e : v.1 = 3
  · exact hlF_gb (Or.inl e) l
  · rw [(h.2.1 e).1]

end Wky
