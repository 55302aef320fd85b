/-! PART mt: between two calls: what each side holds, taken from the state as it stands. -/
section Wmt
variable {Sb : wS} {xs : List (Nat × List Int32)} {d : Nat} {S0 S Z : wS} {p w m : Nat} {HT : Int → Int} {cs : List hCR} {ms : List hMR} {os : Int → List Int} {X : List (List Int)} {mo t n B B2 oq : Int} {fa : Int → Int} {WE : aA → Prop} {A A2 : aA} {K2 : aK} {ml : List Nat} {k c s kd nms ne ec bh nm en : Int} {b ba : Nat} {ar : List aV} {e : aE} {V Z2 Y : wS} {o : wO} {dn : Int} {H2 : List aH} {N2 : List (List Int)} {E2 : Int → List aE} {C2 : List aQ} {W2 : Int} {c2 : Int → Int} {k2 : Int → Int → Int} {mk rk : Nat → Int → Prop} {K : aK} {T : List aO} {H : List aH} {E : Int → List aE} {gk gb es lo hi a : Int} {r : List aE × Int × Option aE} {A1 : aA} {tl cl : List Int} {sl : Nat → List Int} {L : List aC} {G : Int → aV} {u : aV} {x : List Int} {T2 : List aO} {L2 : List aC} {G2 : Int → aV} {H2 : List aH} {c2 : Int → Int} {y : Int} {Q : wO → wS → Prop} {ps : List (Int × aV)} {k hd wh : Int} {f a9 pn fn md : Int} {vn m9 : Nat} {th : aV} {g : Int} {lp : List aV} {l ds fo g : Int} {mk : Nat → Int → Prop} {C2 : List aQ} {W2 : Int} {RZ : wS → Prop} {N3 : Nat} {SB : wS} {r r0 : Int} {sh : Int} {K9 : aK} {nt : Int} {R2 : List Int} {S2 : Int → aV} {wh en9 : Int}
theorem cNt_10 {N : List (List Int)} (h : cNt N X Z) : Z 2 10 = (N.length : Int) := h.1.1.2.2.1.1
theorem cRel_s (h : cRel S0 p HT cs ms os X mo A Z) : cRel Z p HT cs ms os X mo A Z := ⟨⟨h.1.1, h.1.2.1, rmR_rfl Z⟩, h.2.1, h.2.2.1, h.2.2.2.1, h.2.2.2.2.1, h.2.2.2.2.2.1, h.2.2.2.2.2.2.1, ⟨h.2.2.2.2.2.2.2.1.1, ⟨h.2.2.2.2.2.2.2.1.2.1.1, (cPl_s h.2.2.2.2.2.2.2.1.2.1.2 (pV_ge S0) (h.2.2.2.2.2.2.2.1.1 3 (by decide)) (cNt_10 h.2.2.2.1)).1⟩, h.2.2.2.2.2.2.2.1.2.2⟩, fun _ _ _ => rfl⟩
theorem rRel_s (h : rRel S0 Sb HT cs ms os X mo A Z) : rRel Z Z HT cs ms os X mo A Z := ⟨h.1, h.2.1, h.2.2.1, h.2.2.2.1, h.2.2.2.2.1, h.2.2.2.2.2.1, h.2.2.2.2.2.2.1, h.2.2.2.2.2.2.2.1, fun _ _ _ => rBs_s.symm⟩
theorem wz_237 : ∀ q ∈ wz_n, q.1 < 237 := by decide
/-- the class's state stays where its own slots stay -/
theorem cRel_z0 (h : cRel S0 p HT cs ms os X mo A S) (hp : p = 73 ∨ p = 162) (f : ∀ (j : Nat) (x : Int), j < 237 → Z j x = S j x) (hI : gI Z) : cRel Z p HT cs ms os X mo A Z := by
  have eT : cTx S Z := cTx_of (f 2 1 (by first | decide | omega)) (fun y => f 3 y (by first | decide | omega))
  obtain ⟨ix, fl, ow, hE⟩ := h.2.2.2.2.1
  obtain ⟨c1, ⟨c2, c6⟩, c3, c4, c5⟩ := h.2.2.2.2.2.2.2.1
  refine ⟨⟨fun q hq => (f q.1 (-1) (wz_237 q hq)).trans (h.1.1 q hq), hI, rmR_rfl Z⟩, ⟨cTk_ag h.2.1.1 eT (fun j y hj => f j y (by omega)), cTk_ag h.2.1.2 eT (fun j y hj => f j y (by omega))⟩, ⟨cWd_ag h.2.2.1.1 eT (fun j x hj => f j x (by unfold cWo at hj; omega)), cSw_ag h.2.2.1.2.1 (fun j x hj => f j x (by omega)), cPo_ag h.2.2.1.2.2 (f 72 3 (by first | decide | omega)) (fun x => ⟨f 134 x (by first | decide | omega), f 135 x (by first | decide | omega)⟩) (f 140 2 (by first | decide | omega)) (f 150 1 (by first | decide | omega))⟩, cNt_ag h.2.2.2.1 (fun j hj => funext fun x => f j x (by omega)), ⟨ix, fl, ow, cSe_ag hE (fun j x hj => f j x (by unfold cEo at hj; omega))⟩, ⟨cOu_ag h.2.2.2.2.2.1.1 (f 72 13 (by first | decide | omega)) (fun x => f 151 x (by first | decide | omega)), cTrc_ag h.2.2.2.2.2.1.2 (fun x => f 152 x (by first | decide | omega)) (f 72 15 (by first | decide | omega))⟩, ⟨cCh_ag h.2.2.2.2.2.2.1.1 (fun j x hj => f j x (by omega)), cStc_ag h.2.2.2.2.2.2.1.2 eT (fun j x hj => f j x (by omega))⟩, ⟨fun i hi => (f 150 i (by first | decide | omega)).trans (c1 i hi), ⟨(f 72 11 (by first | decide | omega)).trans c2, (cPl_s (cPl_ag c6 (f 2 1 (by first | decide | omega)) (f 3 (-1) (by first | decide | omega)) (f 2 7 (by first | decide | omega)) (f 4 (-1) (by first | decide | omega)) (Int.le_refl _) (Nat.le_refl _)) (pV_ge S0) ((f 150 3 (by first | decide | omega)).trans (c1 3 (by decide))) ((f 2 10 (by first | decide | omega)).trans (cNt_10 h.2.2.2.1))).1⟩, (f 158 19 (by first | decide | omega)).trans c3, fun i hi => (f 160 i (by first | decide | omega)).trans (c4 i hi), fun s s0 s1 => ?_⟩, fun _ _ _ => rfl⟩
  rw [f 19 9 (by first | decide | omega)] at s1
  obtain ⟨a1, a2, a3, a4⟩ := c5 s s0 s1
  exact ⟨(f 41 s (by first | decide | omega)).trans a1, (f 42 s (by first | decide | omega)).trans a2, (f 43 s (by first | decide | omega)).trans a3, (f 45 s (by first | decide | omega)).trans a4⟩
theorem cRel_z (h : cRel S0 p HT cs ms os X mo A S) (hp : p = 73 ∨ p = 162) (f : ∀ (j : Nat) (x : Int), j < 237 → Z j x = S j x) (hI : gI Z) (_ : rmR S Z) : cRel Z p HT cs ms os X mo A Z := cRel_z0 h hp f hI
/-- the same code, seen from a later state -/
theorem wf_cs (hm : mK S) (h : wfA S fa ms n (WEs S HT cs ms os) B A) (e : cdW S Z) (e47 : Z 237 47 = S 237 47) (e16 : Z 237 16 ≤ ((a_N A).length : Int)) : wfA Z fa ms n (WEs Z HT cs ms os) B A := by
  have e4 := e.2.2.2
  have e1 := e.1
  obtain ⟨⟨a1, a2⟩, a3, a4, ⟨cf, c1, c2, c3⟩, ⟨b1, b2, b3, b4, b5, b6, b7, b8, b9⟩, ⟨⟨n1, n2, n3⟩, n4, n5⟩, w1, w2⟩ := h
  refine ⟨⟨wTk_mo hm e (fun _ _ _ => rfl) a1, wTk_mo hm e (fun _ _ _ => rfl) a2⟩, a3, a4, ⟨cf, wCl_mo e (fun _ _ _ => rfl) c1, c2, c3⟩, ⟨b1, b2, b3, b4, b5, b6, fun s s0 s1 => b7 s s0 (by omega), b8, b9⟩, ⟨⟨n1, e16, n3⟩, n4, n5⟩, fun s s0 s1 => ?_, w2⟩
  rw [e47] at s1
  obtain ⟨x1, x2⟩ := w1 s s0 s1
  refine ⟨x1, fun y hy => ?_⟩
  obtain ⟨⟨y1, y2⟩, y3, y4, y5, y6⟩ := x2 y hy
  have f4 := e4 304 s (by omega) s0 s1
  have f5 := e4 305 s (by omega) s0 s1
  have f6 := e4 306 s (by omega) s0 s1
  unfold eOk
  rw [f4, f5, f6]
  exact ⟨⟨⟨y1.1, y1.2.1, by have := y1.2.2.1; omega, by unfold sKn; rw [f4, f5]; exact y1.2.2.2⟩, y2⟩, y3, y4, y5, y6⟩
/-- what is told of the host, seen from a later state -/
def stD (p b : Nat) (j : Nat) (x : Int) : Prop := (p < j ∧ j ≤ p + 43) ∨ (j = p ∧ (x = 2 ∨ x = 4)) ∨ (j = 72 ∧ x = 1) ∨ (b ≤ j ∧ j ≤ b + 19) ∨ (j = 237 ∧ x = 13) ∨ ((j = 156 ∨ j = 157 ∨ j = 159 ∨ j = 160 ∨ j = 34) ∧ x = -1)
theorem stHo_ag (h : stHo S p b HT nt cs ms os n) (f : ∀ (j : Nat) (x : Int), stD p b j x → Z j x = S j x) : stHo Z p b HT nt cs ms os n := by
  obtain ⟨hb, h72, hcw, h2, ⟨hw1, hw2⟩, ⟨h7a, h7b⟩, hK, hw, hn⟩ := h
  have g := fun (j : Nat) (x : Int) (h0 : p < j) (h1 : j ≤ p + 43) => f j x (by unfold stD; omega)
  refine ⟨hb, (f 72 1 (by unfold stD; omega)).trans h72, cnW_ag hcw (fun j x hj => g j x (by omega) (by omega)), ⟨(f p 2 (by unfold stD; omega)).trans h2.1, h2.2⟩, ⟨wd_at_ag hw1 (fun x hx => funext fun i => g _ i (by omega) (by omega)), wd_L_ag hw2 (fun x hx => g _ _ (by omega) (by omega))⟩, ⟨fun k k0 k1 => ?_, ?_⟩, KR_ag hK (fun j x hj => f j x (by unfold stD; omega)), hw, hn⟩
  · rw [g (p + 19) _ (by omega) (by omega), g (p + 1) _ (by omega) (by omega)]
    exact h7a k k0 k1
  · rw [g (p + 1) _ (by omega) (by omega)]
    exact h7b
theorem stT_ag (h : stT xs S p b HT nt cs ms os n) (f : ∀ (j : Nat) (x : Int), stD p b j x → Z j x = S j x) (h16 : 0 ≤ Z 237 16) (hq : stQ Z) : stT xs Z p b HT nt cs ms os n := by
  obtain ⟨h1, ⟨hw, hx, ⟨h56, h57⟩, hO⟩, ⟨⟨hO2, hC⟩, ⟨hf, hi, hxx, hd⟩, hm, hoo, hnd⟩, ⟨l1, l2, l3⟩, -⟩ := h
  have g := fun (j : Nat) (x : Int) (h0 : p < j) (h1 : j ≤ p + 43) => f j x (by unfold stD; omega)
  refine ⟨h1, ⟨⟨WEs_w, WEs_o⟩, hx, ⟨(f 156 (-1) (by unfold stD; omega)).trans h56, (f 157 (-1) (by unfold stD; omega)).trans h57⟩, stHo_ag hO f⟩, ⟨⟨stHo_ag hO2 f, KC_ag hC.1 (f p 2 (by unfold stD; omega)) (f p 4 (by unfold stD; omega)) (fun j hj => funext fun x => g j x (by omega) (by omega)), (f 159 (-1) (by unfold stD; omega)).trans hC.2⟩, ⟨fun m m0 m1 m2 => ?_, fun m mi c c0 c1 c2 => ?_, fun m m0 m1 m2 => ?_, fun c c0 c1 => ?_⟩, hm, hoo, hnd⟩, ⟨(f 34 (-1) (by unfold stD; omega)).trans l1, (f 160 (-1) (by unfold stD; omega)).trans l2, h16⟩, hq⟩
  · rw [g (p + 39) m (by omega) (by omega)]
    exact hf m m0 m1 m2
  · rw [g (p + 39) m (by omega) (by omega)]
    exact hi m mi c c0 c1 c2
  · obtain ⟨⟨z1, z2, z3, z4, z5⟩, z6⟩ := hxx m m0 m1 m2
    refine ⟨?_, z6⟩
    unfold wdS
    rw [g (p + 38) m (by omega) (by omega), g (p + 1 + 3) _ (by omega) (by omega), g (p + 1 + 2) _ (by omega) (by omega), g (p + 1 + 3) _ (by omega) (by omega), g (p + 1 + 2) _ (by omega) (by omega), g (p + 1 + 1) _ (by omega) (by omega)]
    exact ⟨z1, z2, z3, z4, fun i hi => (g (p + 1 + 1) _ (by omega) (by omega)).trans (z5 i hi)⟩
  · obtain ⟨z1, z2, z3, z4, z5⟩ := hd c c0 c1
    exact ⟨(g _ _ (by omega) (by omega)).trans z1, fun q => (g _ _ (by omega) (by omega)).trans (z2 q), fun i hi => (g _ _ (by omega) (by omega)).trans (z3 i hi), z4, z5⟩
/-- which host it is -/
def RMp (p q b b2 : Nat) : Prop := (p = 73 ∧ q = 162 ∧ b = 241 ∧ b2 = 261) ∨ (p = 162 ∧ q = 73 ∧ b = 261 ∧ b2 = 241)
/-- code of both, without the room for words -/
def RKx (N X : List (List Int)) (pm : Nat) (S : wS) : Prop := cK N X S ∧ (mN N S ∧ mX X S ∧ rZ pm S ∧ rD S) ∧ mK S
/-- the lengths at the law's start: those that grow, and those that don't -/
def SLZ (j : Nat) (_ : Int) : Int := gck j (gxl.map (fun q => (q.1, (q.2 : Int))) ++ (wz_n ++ [(3, 1024), (31, 256), (32, 256), (33, 256), (75, 1024), (164, 1024), (141, 256), (142, 256), (151, 256), (13, 165), (60, 256), (81, 64), (82, 64), (85, 68), (161, 2), (170, 64), (171, 64), (174, 68), (156, 65), (157, 64), (159, 64), (160, 4)]))
/-- the room that has been used behind m calls: by what arrays have grown, by what was fed, and by calls -/
def rC0 : Int := 1815000
def rC1 : Int := 200000
/-- the tape's row and the rows of instructions, by calls -/
def oTV (m : Nat) (S : wS) : Prop := S 1 (-1) ≤ 16383 ∧ S 19 7 + S 0 1 ≤ 16 * (m : Int) ∧ S 31 (-1) ≤ 32 * (m : Int) + 256
theorem oTV_ag {m : Nat} (h : oTV m S) (e1 : Z 1 (-1) = S 1 (-1)) (e2 : Z 19 7 = S 19 7) (e3 : Z 0 1 ≤ S 0 1) (e4 : Z 31 (-1) = S 31 (-1)) : oTV (m + 1) Z := by
  obtain ⟨h1, h2, h3⟩ := h
  exact ⟨by omega, by omega, by omega⟩
def rV (pm m : Nat) (S : wS) : Prop := (S wG 0 + phA pm S + 24 * S 0 1 ≤ 2 * gl S + 390 * (m : Int) + rC0 ∧ 16 * S wG 1 + 2 * phA pm S + 48 * S 0 1 ≤ gl S + 2500 * (m : Int) + rC1) ∧ rX SLZ S ∧ oTV m S
/-- the rows of the choices of the host that is not told -/
def kL (q : Nat) (S : wS) : Prop := (64 ≤ S (q + 47) (-1) ∧ S (q + 47) (-1) ≤ 1023) ∧ (S (q + 49) (-1) = S (q + 48) (-1) ∧ S (q + 50) (-1) = S (q + 48) (-1) ∧ S (q + 51) (-1) = S (q + 48) (-1) ∧ S (q + 52) (-1) = 128) ∧ (64 ≤ S (q + 48) (-1) ∧ S (q + 48) (-1) ≤ 4095)
theorem kL_ag {q : Nat} (h : kL q S) (e : ∀ j : Nat, q + 47 ≤ j → j ≤ q + 52 → Z j (-1) = S j (-1)) : kL q Z := by
  unfold kL at h ⊢
  rw [e (q + 47) (by omega) (by omega), e (q + 48) (by omega) (by omega), e (q + 49) (by omega) (by omega), e (q + 50) (by omega) (by omega), e (q + 51) (by omega) (by omega), e (q + 52) (by omega) (by omega)]
  exact h
theorem RMq {p q b b2 : Nat} (h : RMp p q b b2) : q = 73 ∨ q = 162 := by
  rcases h with h | h <;> omega
theorem cSta_q {p q b b2 j : Nat} {x : Int} (h : RMp p q b b2) (hj : q + 47 ≤ j ∧ j ≤ q + 52) : cSta p j x := by
  unfold cSta
  rcases h with ⟨h1, h2, -⟩ | ⟨h1, h2, -⟩
  · exact Or.inr (Or.inr (Or.inr (Or.inr (Or.inr (Or.inr (Or.inr (Or.inl ⟨h1, by omega, by omega⟩)))))))
  · exact Or.inr (Or.inr (Or.inr (Or.inr (Or.inr (Or.inr (Or.inr (Or.inr (Or.inl ⟨h1, by omega, by omega⟩))))))))
/-- the law's row, and the choices of the other host -/
def oL (q : Nat) (S : wS) : Prop := S 1000001 (-1) = 1 ∧ kL q S
/-- BETWEEN TWO CALLS, behind m of them -/
def RM (xs : List (Nat × List Int32)) (m : Nat) (S : wS) : Prop := ∃ (p q b b2 pm : Nat) (X : List (List Int)) (HT : Int → Int) (nt : Int) (cs : List hCR) (ms : List hMR) (os : Int → List Int) (mo : Int) (fa : Int → Int) (A : aA), RMp p q b b2 ∧ RA (p + 14) (p + 24) (p + 42) p q b b2 S ∧ (RKx (a_N A) X pm S ∧ mWf fa S) ∧ (cRel S p HT cs ms os X mo A S ∧ rRel S S HT cs ms os X mo A S) ∧ wfA S fa ms (cs.length : Int) (WEs S HT cs ms os) (1000 * (m : Int)) A ∧ stT xs S p b HT nt cs ms os (cs.length : Int) ∧ ((∀ k ∈ X, ∀ y ∈ k, 0 ≤ y ∧ y ≤ 255) ∧ (tls X : Int) + S 0 1 ≤ 18 * (m : Int)) ∧ (133 ≤ pV S ∧ pV S + S 0 1 ≤ 133 + 16 * (m : Int)) ∧ rV pm m S ∧ oL q S ∧ m ≤ 512
end Wmt
