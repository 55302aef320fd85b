/-! PART jm: acting at a site by tasks: texts and instances that hosts make: of the class. -/
section Wjm0
variable {xs : List (Nat × List Int32)} {d : Nat} {Y : wS} {K : aK} {T : List aO} {H : List aH} {L : List aC} {G : Int → aV} {x kd ec gk gb es hd wh e50 l : Int} {ba : Nat} {HT : Int → Int} {cs : List hCR} {ms : List hMR} {os : Int → List Int} {SF : Int → aV} {tr : List Int} {A B V S Z : wS} {w : Nat} {m en : Int} {ar : List aV}
/-- a host's word is these signs -/
def wdS (w : Nat) (wd : Int) (NN : List Int) (Y : wS) : Prop := Y (w + 3) (-1) = Y (w + 2) (-1) ∧ (0 ≤ wd ∧ wd < Y (w + 2) (-1)) ∧ (Y (w + 3) wd = (NN.length : Int) ∧ NN.length ≤ 60) ∧ (0 ≤ Y (w + 2) wd ∧ Y (w + 2) wd + (NN.length : Int) ≤ Y (w + 1) (-1)) ∧ ∀ i : Nat, i < NN.length → Y (w + 1) (Y (w + 2) wd + (i : Int)) = NN.getD i 0
def cMu (j : Nat) (x : Int) : Prop := j = 3 ∨ (j = 2 ∧ x = 1) ∨ (j = 150 ∧ (x = 2 ∨ x = 3))
/-- the pool of texts grows by n -/
def plG (n : Int) (Y V : wS) : Prop := V 2 1 = Y 2 1 + n ∧ (∀ x : Int, 0 ≤ x → x < Y 2 1 → V 3 x = Y 3 x) ∧ Y 3 (-1) ≤ V 3 (-1) ∧ V 2 1 ≤ V 3 (-1) ∧ (V 3 (-1) = Y 3 (-1) ∨ V 3 (-1) ≤ 2 * V 2 1)
theorem cmF_x {b : Nat} {a0 n u2 u3 : Int} {NN : List Int} (hA : trR m en Y A) (hB : txR b a0 n u2 u3 A B) (hb : 75 ≤ b ∧ b < 200 ∧ b ≠ 152) (h0 : 0 ≤ Y 2 1) (hn : n = (NN.length : Int)) (hs : ∀ i : Nat, i < NN.length → Y b (a0 + (i : Int)) = NN.getD i 0) : cVl B 3 (Y 2 1 * 4294967296 + n) (3, 0, NN) ∧ cmF cMu Y A B ∧ plG n Y B ∧ (B 150 2 = u2 + 1 ∧ B 150 3 = u3 + n) := by
  obtain ⟨r1, ⟨r2, r3⟩, r4, fr, r5, gA, rA⟩ := hA
  obtain ⟨t1, t2, t3, t4, ft, ⟨t5, t6, t7⟩, gB, rB⟩ := hB
  have e21 : A 2 1 = Y 2 1 := fr 2 1 (by first | decide | omega) (by first | decide | omega) (by first | decide | omega) (by first | decide | omega)
  have e3 : ∀ x : Int, A 3 x = Y 3 x := fun x => fr 3 x (by first | decide | omega) (by first | decide | omega) (by first | decide | omega) (by omega)
  have eb : ∀ x : Int, A b x = Y b x := fun x => fr b x (by omega) (by unfold wG; omega) (by omega) (by omega)
  rw [e21] at t1 t2 t3 t5 t7
  have fB : ∀ (j : Nat) (x : Int), j < 4000000 → j ≠ wG → ¬ (cMh j x ∨ cMu j x) → B j x = Y j x := fun j x j0 j1 j2 => by
    have q3 : ¬ cMh j x := fun z => j2 (Or.inl z)
    have q4 : ¬ cMu j x := fun z => j2 (Or.inr z)
    unfold cMh at q3
    unfold cMu at q4
    exact (ft j x j0 j1 (by omega) (by omega) (by omega) (by omega)).trans (fr j x j0 j1 (by omega) (by omega))
  have e3l := e3 (-1)
  refine ⟨⟨rfl, fun z => absurd rfl z, fun _ => ⟨rfl, Y 2 1, by show _ = _ + ((NN.length : Nat) : Int); rw [hn], h0, by show Y 2 1 + (NN.length : Int) ≤ _; omega, fun i hi => ?_⟩⟩, ⟨⟨by omega, fun x x0 x1 => (t2 x x0 x1).trans (e3 x)⟩, gB, rmR_tr rA rB, fB, fun x => ft 152 x (by first | decide | omega) (by first | decide | omega) (by first | decide | omega) (Or.inl (by first | decide | omega)) (Or.inl (by first | decide | omega)) (Or.inl (by first | decide | omega)), ft 72 15 (by first | decide | omega) (by first | decide | omega) (by first | decide | omega) (Or.inl (by first | decide | omega)) (Or.inl (by first | decide | omega)) (Or.inl (by first | decide | omega))⟩, ⟨t1, fun x x0 x1 => (t2 x x0 x1).trans (e3 x), by omega, by omega, by omega⟩, t4⟩
  replace hi : i < NN.length := hi
  show B 3 (Y 2 1 + (i : Int)) = NN.getD i 0
  rw [t3 i (by omega) (by omega), eb, hs i hi]
/-- what a constructor leaves, place by place -/
theorem co_f2 {g st k : Int} {nf : Nat} {ty pt : Nat → Int} {es : List (Int × Int)} (h : coR g st k nf ty pt es S Z) (hg : S 72 3 = g) (h0 : 0 ≤ g) (hst : S 140 2 = st) (hs0 : 0 ≤ st) : (Z 72 3 = g + 1 ∧ Z 150 0 = S 150 0 + 1 ∧ Z 150 1 = S 150 1 + (nf : Int) ∧ Z 140 2 = st + (nf : Int) ∧ Z 134 g = (nf : Int) ∧ Z 135 g = (nf : Int) ∧ Z 132 g = -1) ∧ (∀ x : Nat, x < 10 → ∀ i : Int, 0 ≤ i → i < g → Z (127 + x) i = S (127 + x) i) ∧ (∀ (j : Nat) (i : Int), j < 4000000 → j ≠ wG → (j < 127 ∨ 136 < j) → j ≠ 141 → j ≠ 142 → (j ≠ 72 ∨ i ≠ 3) → (j ≠ 140 ∨ i ≠ 2) → (j ≠ 150 ∨ (i ≠ 0 ∧ i ≠ 1)) → (j ≠ 158 ∨ (i ≠ 16 ∧ i ≠ 17)) → Z j i = S j i) ∧ gI Z ∧ rmR S Z := by
  have hwg : wG = 1000000 := rfl
  obtain ⟨q1, q2, q3, q4, q5⟩ := co_fr h h0 hs0
  obtain ⟨B, C, D, E, b1, c1, d1, e1, rfl⟩ := h
  have f0 : ∀ (j : Nat) (i : Int), ((j ≠ 141 ∧ j ≠ 142) ∨ i < st ∨ st + (nf : Int) ≤ i) → (j ≠ 158 ∨ (i ≠ 16 ∧ i ≠ 17)) → (w_up (w_up E 158 16 7) 158 17 g) j i = C j i := fun j i a b => (w_up_no (by omega)).trans ((w_up_no (by omega)).trans ((e1.2 j i a).trans (d1.2 j i a)))
  obtain ⟨⟨x1, x2⟩, ⟨-, ⟨-, -, x3⟩, -⟩, x4, x5, -, -, -, x6, -, -⟩ := b1
  obtain ⟨⟨y1, y2⟩, ⟨y3, y4, y5⟩, -, -, -, y6, -, -⟩ := c1
  rw [hg] at x1 x3 x4
  have fC : ∀ (j : Nat) (i : Int), j < 4000000 → j ≠ wG → j ≠ 141 → j ≠ 142 → (j ≠ 134 ∨ i ≠ g) → (j ≠ 150 ∨ i ≠ 1) → C j i = B j i := y6
  refine ⟨⟨(f0 72 3 (by first | decide | omega) (by first | decide | omega)).trans ((fC 72 3 (by first | decide | omega) (by first | decide | omega) (by first | decide | omega) (by first | decide | omega) (by first | decide | omega) (by first | decide | omega)).trans x1), (f0 150 0 (by first | decide | omega) (by first | decide | omega)).trans ((fC 150 0 (by first | decide | omega) (by first | decide | omega) (by first | decide | omega) (by first | decide | omega) (by first | decide | omega) (by first | decide | omega)).trans x2), (f0 150 1 (by first | decide | omega) (by first | decide | omega)).trans (y2.trans (by rw [x6 150 1 (by first | decide | omega) (by first | decide | omega) (by first | decide | omega) (by first | decide | omega) (by first | decide | omega) (by first | decide | omega) (by first | decide | omega) (by first | decide | omega)])), (f0 140 2 (by first | decide | omega) (by first | decide | omega)).trans y5, (f0 134 g (Or.inl (by first | decide | omega)) (Or.inl (by first | decide | omega))).trans y1, (f0 135 g (Or.inl (by first | decide | omega)) (Or.inl (by first | decide | omega))).trans y4, (f0 132 g (Or.inl (by first | decide | omega)) (Or.inl (by first | decide | omega))).trans ((fC 132 g (by first | decide | omega) (by first | decide | omega) (by first | decide | omega) (by first | decide | omega) (Or.inl (by first | decide | omega)) (Or.inl (by first | decide | omega))).trans x3)⟩, fun x hx i i0 i1 => (f0 (127 + x) i (Or.inl (by omega)) (Or.inl (by omega))).trans ((fC (127 + x) i (by omega) (by omega) (by omega) (by omega) (by omega) (by omega)).trans (x4 x hx i i0 i1)), fun j i a1 a2 a3 a4 a5 a6 a7 a8 a9 => (f0 j i (Or.inl ⟨a4, a5⟩) a9).trans ((fC j i a1 a2 a4 a5 (by omega) (by omega)).trans (x6 j i a1 a2 a3 a4 a5 a6 a7 (by omega))), q4, q5⟩
def cMi (j : Nat) (x : Int) : Prop := cMk j x ∨ (j = 150 ∧ x = 1)
/-- the fields of a class as the class has them -/
def cFd (m0 t0 : Nat) (cs : List hCR) (ms : List hMR) (k : Int) (Y : wS) : Prop := Y (t0 + 7) k = ((flA cs ms k).length : Int) ∧ (0 < (flA cs ms k).length → Y (t0 + 8) k = (flA cs ms k).getD ((flA cs ms k).length - 1) 0) ∧ (∀ i : Nat, i + 1 < (flA cs ms k).length → Y (m0 + 16) ((flA cs ms k).getD (i + 1) 0) = (flA cs ms k).getD i 0) ∧ (∀ i : Nat, i < (flA cs ms k).length → 0 ≤ (flA cs ms k).getD i 0 ∧ (flA cs ms k).getD i 0 < (ms.length : Int)) ∧ (flA cs ms k).length ≤ 400
theorem cmF_k {g st k : Int} {nf : Nat} {ty pt : Nat → Int} {es : List (Int × Int)} (hW : cWd Y T L G) (hsw : cSw Y T H) (hwS : wSh T H) (hT : (T.length : Int) ≤ 8000) (hg : g = (T.length : Int)) (hst : Y 140 2 = st) (hs0 : 0 ≤ st) (hz : st + (nf : Int) ≤ 240200) (hel : es.length = ar.length) (hes : ∀ q : Nat, q < es.length → cVl Y (es.getD q (0, 0)).1 (es.getD q (0, 0)).2 (ar.getD q (0, 0, []))) (hA : trR m en Y A) (hB : ∃ X Y2 : wS, gvR A X ∧ coR g st k nf ty pt es X Y2 ∧ gvR Y2 B) : cVl B 7 g (7, (T.length : Int), []) ∧ cmF cMi Y A B ∧ cWd B (T ++ [(7, -1, k, -1, -1, 0, inP nf ty pt ar)]) L G ∧ cSw B (T ++ [(7, -1, k, -1, -1, 0, inP nf ty pt ar)]) H ∧ (B 150 0 = Y 150 0 + 1 ∧ B 150 1 = Y 150 1 + (nf : Int)) ∧ (cPo Y → cPo B) := by
  have hwg : wG = 1000000 := rfl
  obtain ⟨X, Y2, hX, hco, hB2⟩ := hB
  have c0 := cmF_g hA hX
  obtain ⟨c1, c2, c3, c4, c5, c6⟩ := c0
  have fX : ∀ (j : Nat) (x : Int), j < 4000000 → j ≠ wG → ¬ cMh j x → X j x = Y j x := fun j x j0 j1 j2 => c4 j x j0 j1 (fun z => z.elim j2 id)
  have hWX : cWd X T L G := cWd_ag hW c1 (fun j x hj => fX j x (by unfold cWo at hj; omega) (by unfold cWo at hj; omega) (by unfold cWo at hj; unfold cMh; omega))
  have e3 : X 72 3 = g := by rw [hg]; exact hWX.1.1
  have e140 : X 140 2 = st := (fX 140 2 (by first | decide | omega) (by first | decide | omega) (by unfold cMh; omega)).trans hst
  obtain ⟨⟨k1, k2, k3, k4, k5, k6, k7⟩, kr, kf, kg, km⟩ := co_f2 hco e3 (by omega) e140 hs0
  obtain ⟨w1, w2⟩ := cWd_in hWX hco hg e140 hz hT hel (fun q hq => cVl_mo (hes q hq) c1)
  have xB : cTx Y2 B := cTx_of (hB2 2 1 (Or.inl (by first | decide | omega))) (fun i => hB2 3 i (Or.inl (by first | decide | omega)))
  have hWB := cWd_ag w1 xB (fun j x hj => hB2 j x (by unfold cWo at hj; omega))
  have fB : ∀ (j : Nat) (x : Int), j < 4000000 → j ≠ wG → ¬ (cMh j x ∨ cMi j x) → B j x = Y j x := fun j x j0 j1 j2 => by
    have q3 : ¬ cMh j x := fun z => j2 (Or.inl z)
    have q4 : ¬ cMi j x := fun z => j2 (Or.inr z)
    have q5 := q3
    unfold cMh at q3
    unfold cMi cMk at q4
    exact (hB2 j x (by omega)).trans ((kf j x j0 j1 (by omega) (by omega) (by omega) (by omega) (by omega) (by omega) (by omega)).trans (fX j x j0 j1 q5))
  have b72 : ∀ x : Int, B 72 x = Y2 72 x := fun x => hB2 72 x (Or.inl (by first | decide | omega))
  refine ⟨by rw [hg]; exact cV_e (by first | decide | omega) rfl, ⟨cTx_tr c1 (cTx_tr w2 xB), gI_ag2 kg (fun j j0 => hB2 j (-1) (by omega)) (fun x hx => hB2 238 _ (Or.inl (by first | decide | omega))) (hB2 14 5 (Or.inl (by first | decide | omega))), rmR_tr c3 (rmR_ag km (fun k hk => hB2 k (-1) (by omega)) (hB2 wG 0 (Or.inl (by first | decide | omega))) (hB2 wG 1 (Or.inl (by first | decide | omega)))), fB, fun x => (hB2 152 x (Or.inl (by first | decide | omega))).trans ((kf 152 x (by first | decide | omega) (by first | decide | omega) (by first | decide | omega) (by first | decide | omega) (by first | decide | omega) (Or.inl (by first | decide | omega)) (Or.inl (by first | decide | omega)) (Or.inl (by first | decide | omega)) (Or.inl (by first | decide | omega))).trans (c5 x)), (b72 15).trans ((kf 72 15 (by first | decide | omega) (by first | decide | omega) (by first | decide | omega) (by first | decide | omega) (by first | decide | omega) (by first | decide | omega) (by first | decide | omega) (by first | decide | omega) (by first | decide | omega)).trans c6)⟩, hWB, ?_, ⟨?_, ?_⟩, fun hpo => ?_⟩
  · have sw1 : cSw B T H := cSw_ag hsw (fun j x hj => by
      rcases hj with z | ⟨z, z1, z2⟩ | z
      · exact fB j x (by omega) (by omega) (by unfold cMh cMi cMk; omega)
      · subst z
        exact (hB2 132 x (Or.inl (by first | decide | omega))).trans ((kr 5 (by first | decide | omega) x z1 (by omega)).trans (fX 132 x (by first | decide | omega) (by first | decide | omega) (by unfold cMh; omega)))
      · exact fB j x (by omega) (by omega) (by unfold cMh cMi cMk; omega))
    obtain ⟨q1, q2, q3, q4⟩ := sw1
    refine ⟨q1, q2, q3, fun x x0 x1 => ?_⟩
    rw [List.length_append] at x1
    by_cases c : x < (T.length : Int)
    · exact q4 x x0 c
    · have ex : x = (T.length : Int) := by
        have : ((T.length + [((7, -1, k, -1, -1, 0, inP nf ty pt ar) : aO)].length : Nat) : Int) = (T.length : Int) + 1 := rfl
        omega
      rw [ex, aFs_nw hwS]
      exact (hB2 132 _ (Or.inl (by first | decide | omega))).trans (by rw [← hg]; exact k7)
  · exact (hB2 150 0 (Or.inl (by first | decide | omega))).trans (k2.trans (by rw [fX 150 0 (by first | decide | omega) (by first | decide | omega) (by unfold cMh; omega)]))
  · exact (hB2 150 1 (Or.inl (by first | decide | omega))).trans (k3.trans (by rw [fX 150 1 (by first | decide | omega) (by first | decide | omega) (by unfold cMh; omega)]))
  · have h3 : Y 72 3 = g := by rw [hg]; exact hW.1.1
    have z4 : B 134 g = (nf : Int) := (hB2 134 g (Or.inl (by first | decide | omega))).trans k5
    have z5 : B 135 g = (nf : Int) := (hB2 135 g (Or.inl (by first | decide | omega))).trans k6
    have z6 : B 140 2 = st + (nf : Int) := (hB2 140 2 (Or.inl (by first | decide | omega))).trans k4
    have z7 : B 150 1 = Y 150 1 + (nf : Int) := (hB2 150 1 (Or.inl (by first | decide | omega))).trans (k3.trans (by rw [fX 150 1 (by first | decide | omega) (by first | decide | omega) (by unfold cMh; omega)]))
    refine cPo_n hpo (by omega) ((b72 3).trans (by rw [k1, h3])) (fun x x0 x1 => ⟨?_, ?_⟩) ?_
    · exact (hB2 134 x (Or.inl (by first | decide | omega))).trans ((kr 7 (by first | decide | omega) x x0 (by omega)).trans (fX 134 x (by first | decide | omega) (by first | decide | omega) (by unfold cMh; omega)))
    · exact (hB2 135 x (Or.inl (by first | decide | omega))).trans ((kr 8 (by first | decide | omega) x x0 (by omega)).trans (fX 135 x (by first | decide | omega) (by first | decide | omega) (by unfold cMh; omega)))
    · rw [h3, z4, z5, z6, z7, hst]
      unfold mx0
      split <;> omega
end Wjm0
section Wjm
variable {xs : List (Nat × List Int32)} {d : Nat} {Y : wS} {K : aK} {T : List aO} {H : List aH} {L : List aC} {G : Int → aV} {x kd ec gk gb es hd wh e50 l : Int} {ba : Nat} {HT : Int → Int} {cs : List hCR} {ms : List hMR} {os : Int → List Int} {SF : Int → aV} {tr : List Int} {ar : List aV}
theorem amx_73_215 (hx1 : pe_at (pe_GA xs).xs 1 = some (1, tx_1)) (h : rdC 215 kd ec ba gk gb es x l K T L G Y) (hKC : KC 87 97 93 114 115 74 73 HT cs ms os Y) (h72 : Y 72 1 = 73) (hl12 : l = 1 ∨ l = 2) (he51 : Y 51 x = wh) (hm : (0 ≤ wh ∧ wh < (ms.length : Int)) ∧ (hmR ms wh).2.1 = 1) (htr : cTrc Y tr) (hg : arG K ba ec ar) (hty : (hmR ms wh).2.2.2.1 = 7) (hmf : Y 112 wh = -1) (hws : wdS 74 (Y 111 wh) (nmR HT (hmR ms wh)) Y) (h0 : 0 ≤ Y 2 1 ∧ Y 2 1 ≤ Y 3 (-1) ∧ 1024 ≤ Y 3 (-1) ∧ Y 3 (-1) ≤ 16777216) (hu2 : 0 ≤ Y 150 2 ∧ Y 150 2 ≤ 12000) (hu3 : 0 ≤ Y 150 3 ∧ Y 150 3 ≤ 200000) : wJ (pe_GA xs) wY0 (mS [217, 218, 152, 3]) (d + 7) t_XL_act ((pe_at t_XL_act.bl 0).getD (0, [])).2 [(0, (2, 158)), (1, (0, x))] [] Y (fun o V => o = .inl none ∧ (((100000 < (tr.length : Int) + 2 ∨ 12000 ≤ Y 150 2 ∨ 200000 < Y 150 3 + ((nmR HT (hmR ms wh)).length : Int)) ∧ w_up Y 215 16 99 = V) ∨ (¬ (100000 < (tr.length : Int) + 2 ∨ 12000 ≤ Y 150 2 ∨ 200000 < Y 150 3 + ((nmR HT (hmR ms wh)).length : Int)) ∧ cmPt 215 K ba kd (3, 0, (nmR HT (hmR ms wh))) wh ec tr cMu Y V ∧ plG ((nmR HT (hmR ms wh)).length : Int) Y V ∧ V 150 2 = Y 150 2 + 1 ∧ V 150 3 = Y 150 3 + ((nmR HT (hmR ms wh)).length : Int)))) := wJ_E (fun hE => by
  obtain ⟨⟨h, hW, hl, hT⟩, ⟨l4, l5, l7, l8, l9, l10, l12, l13⟩, y16, ⟨hx, e48⟩, hba⟩ := h
  have hP := xP_of (w := 215) (by omega) h
  rw [← w_up_eta y16] at hP
  obtain ⟨hTh, hCa, -, ⟨⟨m1, m2, m3, m4⟩, hl14, ⟨c0, c1⟩, hz16, hz10⟩, ⟨t1, t2, t3, t4⟩, -⟩ := id hW
  obtain ⟨hK, ⟨hC, hI⟩, ⟨k0, k1, -⟩, -⟩ := id h
  have hn4 := hKC.2.2.2.2.1.1
  have hw4 : wh < 400 := by have := hm.1.2; omega
  obtain ⟨⟨a0, a1, a2, a3⟩, ⟨a4, -⟩, -⟩ := mrA hKC.2.2.2.2.1 hm.1
  replace a1 : Y 98 wh = 1 := a1.trans hm.2
  have hg1 := hg.1
  have hu := c_at hK (i := K.1.length - 1) (by omega) (j := (K.1.length : Int) - 1) (by omega)
  replace hu : cVl Y (Y 217 ((K.1.length : Int) - 1)) (Y 218 ((K.1.length : Int) - 1)) (K.1.getD (K.1.length - 1) (0, 0, [])) := hu
  have p3 : (K.1.length : Int) ≤ Y 217 (-1) := hK.1.2.2.1
  have p4 : Y 218 (-1) = Y 217 (-1) := hK.1.2.2.2.1
  obtain ⟨w1, w2, ⟨w3, w4⟩, w5, w6⟩ := hws
  refine achx_73_215 (d := d + 6) hC hI hl h72 hx e48 hl12 he51 ⟨hm.1.1, hw4⟩ a1 (by omega) (R := fun V => (((100000 < (tr.length : Int) + 2 ∨ 12000 ≤ Y 150 2 ∨ 200000 < Y 150 3 + ((nmR HT (hmR ms wh)).length : Int)) ∧ w_up Y 215 16 99 = V) ∨ (¬ (100000 < (tr.length : Int) + 2 ∨ 12000 ≤ Y 150 2 ∨ 200000 < Y 150 3 + ((nmR HT (hmR ms wh)).length : Int)) ∧ cmPt 215 K ba kd (3, 0, (nmR HT (hmR ms wh))) wh ec tr cMu Y V ∧ plG ((nmR HT (hmR ms wh)).length : Int) Y V ∧ V 150 2 = Y 150 2 + 1 ∧ V 150 3 = Y 150 3 + ((nmR HT (hmR ms wh)).length : Int)))) (wJ_mono (cmx_73_215 (d := d) (c := (K.2.1.length : Int)) (p := (K.2.1.getD (K.2.1.length - 1) (0, 0, 0, (0, 0, []), 0, 0, 0)).2.1) (h := (K.1.length : Int)) (kd := kd) (ba := (ba : Int)) (m := wh) (en := ec) (tn := (tr.length : Int)) (ky := Y 217 ((K.1.length : Int) - 1)) (vy := Y 218 ((K.1.length : Int) - 1)) (wd := Y 111 wh) (a0 := Y 76 (Y 111 wh)) (n := ((nmR HT (hmR ms wh)).length : Int)) (u2 := Y 150 2) (u3 := Y 150 3) hP l4 l5 l7 l8 l12 ⟨by omega, by omega⟩ ⟨by omega, by omega⟩ h72 ⟨hm.1.1, hw4⟩ a1 htr.1 ⟨by omega, htr.2.2.1.1, htr.2.2.1.2⟩ (by have := htr.2.2.2; have := htr.2.2.1.2; omega) rfl rfl (br_E hE ⟨Or.inl (by first | decide | omega), by decide⟩ rfl (by omega) (by omega)) (lr_E hE ⟨Or.inl (by first | decide | omega), by decide⟩ rfl (by omega) (by omega)) hx1 (a3.trans hty) hmf rfl w1 w2 w3 rfl ⟨by omega, by omega⟩ w5 h0 rfl rfl hu2 hu3) (fun o V hq => ?_))
  obtain ⟨rfl, hq⟩ := hq
  refine ⟨rfl, ?_⟩
  rcases hq with hq | ⟨q1, hq⟩
  · exact Or.inl hq
  · obtain ⟨g1, A, B, hA, hB, hF⟩ := cmT (w := 215) (a := (3, 0, (nmR HT (hmR ms wh)))) (mk := cMu) (by omega) hK k0 hba k1 y16 htr (by omega) hu (fun j x z => by unfold cMu at z; omega) (fun A B hA hB => ⟨(cmF_x (NN := (nmR HT (hmR ms wh))) hA hB (by first | decide | omega) h0.1 rfl w6).1, (cmF_x (NN := (nmR HT (hmR ms wh))) hA hB (by first | decide | omega) h0.1 rfl w6).2.1⟩) hq
    obtain ⟨-, -, ⟨z1, z2, z3, z4, z5⟩, z6, z7⟩ := cmF_x (NN := (nmR HT (hmR ms wh))) hA hB (by first | decide | omega) h0.1 rfl w6
    have v21 := hF.1 2 1 (by first | decide | omega) (by first | decide | omega) (by first | decide | omega)
    have v3 := fun i => hF.1 3 i (by first | decide | omega) (by first | decide | omega) (by first | decide | omega)
    have v3l := v3 (-1)
    exact Or.inr ⟨q1, g1, ⟨v21.trans z1, fun i i0 i1 => (v3 i).trans (z2 i i0 i1), by omega, by omega, by omega⟩, (hF.1 150 2 (by first | decide | omega) (by first | decide | omega) (by first | decide | omega)).trans z6, (hF.1 150 3 (by first | decide | omega) (by first | decide | omega) (by first | decide | omega)).trans z7⟩)
theorem amk_73_215 (hx1 : pe_at (pe_GA xs).xs 1 = some (1, tx_1)) (h : rdC 215 kd ec ba gk gb es x l K T L G Y) (hKC : KC 87 97 93 114 115 74 73 HT cs ms os Y) (h72 : Y 72 1 = 73) (hl12 : l = 1 ∨ l = 2) (he51 : Y 51 x = wh) (hm : (0 ≤ wh ∧ wh < (ms.length : Int)) ∧ (hmR ms wh).2.1 = 2) (htr : cTrc Y tr) (hg : arG K ba ec ar) (hwH : wHo cs ms os) (hsw : cSw Y T H) (hwS : wSh T H) (hfd : cFd 97 87 cs ms (hmR ms wh).1 Y) (hk1 : 0 ≤ (hmR ms wh).1 ∧ (hmR ms wh).1 < 60) (hpn : 0 < ar.length → 1 ≤ (hmR ms wh).2.2.2.2.1.length) (hz : Y 140 2 ≤ 4 * Y 150 1) (hu1 : 0 ≤ Y 150 0 ∧ Y 150 0 ≤ 8000) (hv1 : 0 ≤ Y 150 1 ∧ Y 150 1 ≤ 60000) : wJ (pe_GA xs) wY0 (mS [217, 218, 152, 127, 128, 129, 130, 131, 132, 133, 134, 135, 136, 141, 142]) (d + 8) t_XL_act ((pe_at t_XL_act.bl 0).getD (0, [])).2 [(0, (2, 158)), (1, (0, x))] [] Y (fun o V => o = .inl none ∧ (((100000 < (tr.length : Int) + 2 ∨ 8000 < Y 150 0 + 1 ∨ 60000 < Y 150 1 + ((flA cs ms (hmR ms wh).1).length : Int)) ∧ w_up Y 215 16 99 = V) ∨ (¬ (100000 < (tr.length : Int) + 2 ∨ 8000 < Y 150 0 + 1 ∨ 60000 < Y 150 1 + ((flA cs ms (hmR ms wh).1).length : Int)) ∧ cmPt 215 K ba kd (7, (T.length : Int), []) wh ec tr cMi Y V ∧ cWd V (T ++ [(7, -1, (hmR ms wh).1, -1, -1, 0, inP (flA cs ms (hmR ms wh).1).length (ftO cs ms (hmR ms wh).1) (fun i => prT (hmR ms wh) i) ar)]) L G ∧ cSw V (T ++ [(7, -1, (hmR ms wh).1, -1, -1, 0, inP (flA cs ms (hmR ms wh).1).length (ftO cs ms (hmR ms wh).1) (fun i => prT (hmR ms wh) i) ar)]) H ∧ (V 150 0 = Y 150 0 + 1 ∧ V 150 1 = Y 150 1 + ((flA cs ms (hmR ms wh).1).length : Int)) ∧ (cPo Y → cPo V)))) := wJ_E (fun hE => by
  obtain ⟨⟨h, hW, hl, hT⟩, ⟨l4, l5, l7, l8, l9, l10, l12, l13⟩, y16, ⟨hx, e48⟩, hba⟩ := h
  have hP := xP_of (w := 215) (by omega) h
  rw [← w_up_eta y16] at hP
  obtain ⟨hTh, hCa, -, ⟨⟨m1, m2, m3, m4⟩, hl14, ⟨c0, c1⟩, hz16, hz10⟩, ⟨t1, t2, t3, t4⟩, -⟩ := id hW
  obtain ⟨hK, ⟨hC, hI⟩, ⟨k0, k1, -⟩, -⟩ := id h
  have hn4 := hKC.2.2.2.2.1.1
  have hw4 : wh < 400 := by have := hm.1.2; omega
  obtain ⟨⟨a0, a1, a2, a3⟩, ⟨a4, -⟩, -⟩ := mrA hKC.2.2.2.2.1 hm.1
  replace a1 : Y 98 wh = 2 := a1.trans hm.2
  have hg1 := hg.1
  have hu := c_at hK (i := K.1.length - 1) (by omega) (j := (K.1.length : Int) - 1) (by omega)
  replace hu : cVl Y (Y 217 ((K.1.length : Int) - 1)) (Y 218 ((K.1.length : Int) - 1)) (K.1.getD (K.1.length - 1) (0, 0, [])) := hu
  have p3 : (K.1.length : Int) ≤ Y 217 (-1) := hK.1.2.2.1
  have p4 : Y 218 (-1) = Y 217 (-1) := hK.1.2.2.2.1
  obtain ⟨d1, d2, d3, d4, d5⟩ := hfd
  have hes : ∀ i : Nat, i < (pEs Y 217 218 ((ba : Int) + 1) ar.length).length → Y 217 ((ba : Int) + 1 + (i : Int)) = ((pEs Y 217 218 ((ba : Int) + 1) ar.length).getD i (0, 0)).1 ∧ Y 218 ((ba : Int) + 1 + (i : Int)) = ((pEs Y 217 218 ((ba : Int) + 1) ar.length).getD i (0, 0)).2 := fun i hi => by rw [pEs_l] at hi; rw [pEs_g hi]; exact ⟨rfl, rfl⟩
  have hcv : ∀ i : Nat, i < (pEs Y 217 218 ((ba : Int) + 1) ar.length).length → cVl Y ((pEs Y 217 218 ((ba : Int) + 1) ar.length).getD i (0, 0)).1 ((pEs Y 217 218 ((ba : Int) + 1) ar.length).getD i (0, 0)).2 (ar.getD i (0, 0, [])) := fun i hi => by rw [pEs_l] at hi; rw [pEs_g hi]; exact ar_c (w := 215) hK hg hi
  refine achk_73_215 (d := d + 7) hC hI hl h72 hx e48 hl12 he51 ⟨hm.1.1, hw4⟩ a1 (by omega) (R := fun V => (((100000 < (tr.length : Int) + 2 ∨ 8000 < Y 150 0 + 1 ∨ 60000 < Y 150 1 + ((flA cs ms (hmR ms wh).1).length : Int)) ∧ w_up Y 215 16 99 = V) ∨ (¬ (100000 < (tr.length : Int) + 2 ∨ 8000 < Y 150 0 + 1 ∨ 60000 < Y 150 1 + ((flA cs ms (hmR ms wh).1).length : Int)) ∧ cmPt 215 K ba kd (7, (T.length : Int), []) wh ec tr cMi Y V ∧ cWd V (T ++ [(7, -1, (hmR ms wh).1, -1, -1, 0, inP (flA cs ms (hmR ms wh).1).length (ftO cs ms (hmR ms wh).1) (fun i => prT (hmR ms wh) i) ar)]) L G ∧ cSw V (T ++ [(7, -1, (hmR ms wh).1, -1, -1, 0, inP (flA cs ms (hmR ms wh).1).length (ftO cs ms (hmR ms wh).1) (fun i => prT (hmR ms wh) i) ar)]) H ∧ (V 150 0 = Y 150 0 + 1 ∧ V 150 1 = Y 150 1 + ((flA cs ms (hmR ms wh).1).length : Int)) ∧ (cPo Y → cPo V)))) (wJ_mono (cmk_73_215 (d := d) (c := (K.2.1.length : Int)) (p := (K.2.1.getD (K.2.1.length - 1) (0, 0, 0, (0, 0, []), 0, 0, 0)).2.1) (h := (K.1.length : Int)) (kd := kd) (ba := (ba : Int)) (m := wh) (en := ec) (tn := (tr.length : Int)) (ky := Y 217 ((K.1.length : Int) - 1)) (vy := Y 218 ((K.1.length : Int) - 1)) (k := (hmR ms wh).1) (g := (T.length : Int)) (st := Y 140 2) (u0 := Y 150 0) (v0 := Y 150 1) (nf := (flA cs ms (hmR ms wh).1).length) (fd := fun i => (flA cs ms (hmR ms wh).1).getD i 0) (ty := ftO cs ms (hmR ms wh).1) (es := (pEs Y 217 218 ((ba : Int) + 1) ar.length)) hP l4 l5 l7 l8 l12 ⟨by omega, by omega⟩ ⟨by omega, by omega⟩ h72 ⟨hm.1.1, hw4⟩ a1 htr.1 ⟨by omega, htr.2.2.1.1, htr.2.2.1.2⟩ (by have := htr.2.2.2; have := htr.2.2.1.2; omega) rfl rfl (br_E hE ⟨Or.inl (by first | decide | omega), by decide⟩ rfl (by omega) (by omega)) (lr_E hE ⟨Or.inl (by first | decide | omega), by decide⟩ rfl (by omega) (by omega)) hx1 hKC hwH (by rw [pEs_l]; exact hg.1.1.symm) (by omega) hm.1.2 (by rw [pEs_l]; exact hpn) hes (fun i hi => ?_) hl14 ⟨hz16, hz10⟩ rfl ⟨c0, c1, by omega⟩ (fun i hi => ⟨(d4 i hi).1, by have := (d4 i hi).2; omega⟩) (fun i hi => ?_) d3 (by omega) t1 hTh.1 ⟨by omega, t2, hT⟩ ⟨t3, t4⟩ rfl hu1 rfl hv1 a0 hk1 d1 d2) (fun o V hq => ?_))
  · rw [pEs_l] at hi
    rw [pEs_g hi]
    exact ⟨br_E hE ⟨Or.inl (by first | decide | omega), by decide⟩ rfl (by omega) (by omega), lr_E hE ⟨Or.inl (by first | decide | omega), by decide⟩ rfl (by omega) (by omega)⟩
  · obtain ⟨⟨-, -, -, b3⟩, -⟩ := mrA hKC.2.2.2.2.1 (d4 i hi)
    exact b3
  obtain ⟨rfl, hq⟩ := hq
  refine ⟨rfl, ?_⟩
  rcases hq with hq | ⟨q1, hq⟩
  · exact Or.inl hq
  · have hcf := fun (A B : wS) (hA : trR wh ec Y A) (hB : ∃ X Y2 : wS, gvR A X ∧ coR (T.length : Int) (Y 140 2) (hmR ms wh).1 (flA cs ms (hmR ms wh).1).length (ftO cs ms (hmR ms wh).1) (fun i => prT (hmR ms wh) i) (pEs Y 217 218 ((ba : Int) + 1) ar.length) X Y2 ∧ gvR Y2 B) => cmF_k (B := B) (ar := ar) (G := G) (L := L) (H := H) (g := (T.length : Int)) (st := Y 140 2) (k := (hmR ms wh).1) (nf := (flA cs ms (hmR ms wh).1).length) (ty := ftO cs ms (hmR ms wh).1) (pt := fun i => prT (hmR ms wh) i) (es := (pEs Y 217 218 ((ba : Int) + 1) ar.length)) hW hsw hwS hT rfl rfl c0 (by omega) pEs_l hcv hA hB
    obtain ⟨g1, A, B, hA, hB, hF⟩ := cmT (w := 215) (a := (7, (T.length : Int), [])) (mk := cMi) (by omega) hK k0 hba k1 y16 htr (by omega) hu (fun j x z => by unfold cMi cMk at z; omega) (fun A B hA hB => ⟨(hcf A B hA hB).1, (hcf A B hA hB).2.1⟩) hq
    obtain ⟨-, -, z1, z2, ⟨z3, z4⟩, z5⟩ := hcf A B hA hB
    exact Or.inr ⟨q1, g1, cWd_fr (w := 215) (by omega) z1 hF, cSw_ag z2 (fun j i hj => hF.1 j i (by omega) (by unfold wG; omega) (by omega)), ⟨(hF.1 150 0 (by first | decide | omega) (by first | decide | omega) (by first | decide | omega)).trans z3, (hF.1 150 1 (by first | decide | omega) (by first | decide | omega) (by first | decide | omega)).trans z4⟩, fun hpo => cPo_ag (z5 hpo) (hF.1 72 3 (by first | decide | omega) (by first | decide | omega) (by first | decide | omega)) (fun i => ⟨hF.1 134 i (by first | decide | omega) (by first | decide | omega) (by first | decide | omega), hF.1 135 i (by first | decide | omega) (by first | decide | omega) (by first | decide | omega)⟩) (hF.1 140 2 (by first | decide | omega) (by first | decide | omega) (by first | decide | omega)) (hF.1 150 1 (by first | decide | omega) (by first | decide | omega) (by first | decide | omega))⟩)
theorem amx_73_226 (hx1 : pe_at (pe_GA xs).xs 1 = some (1, tx_1)) (h : rdC 226 kd ec ba gk gb es x l K T L G Y) (hKC : KC 87 97 93 114 115 74 73 HT cs ms os Y) (h72 : Y 72 1 = 73) (hl12 : l = 1 ∨ l = 2) (he51 : Y 51 x = wh) (hm : (0 ≤ wh ∧ wh < (ms.length : Int)) ∧ (hmR ms wh).2.1 = 1) (htr : cTrc Y tr) (hg : arG K ba ec ar) (hty : (hmR ms wh).2.2.2.1 = 7) (hmf : Y 112 wh = -1) (hws : wdS 74 (Y 111 wh) (nmR HT (hmR ms wh)) Y) (h0 : 0 ≤ Y 2 1 ∧ Y 2 1 ≤ Y 3 (-1) ∧ 1024 ≤ Y 3 (-1) ∧ Y 3 (-1) ≤ 16777216) (hu2 : 0 ≤ Y 150 2 ∧ Y 150 2 ≤ 12000) (hu3 : 0 ≤ Y 150 3 ∧ Y 150 3 ≤ 200000) : wJ (pe_GA xs) wY0 (mS [228, 229, 152, 3]) (d + 7) t_XL_act ((pe_at t_XL_act.bl 0).getD (0, [])).2 [(0, (2, 158)), (1, (0, x))] [] Y (fun o V => o = .inl none ∧ (((100000 < (tr.length : Int) + 2 ∨ 12000 ≤ Y 150 2 ∨ 200000 < Y 150 3 + ((nmR HT (hmR ms wh)).length : Int)) ∧ w_up Y 226 16 99 = V) ∨ (¬ (100000 < (tr.length : Int) + 2 ∨ 12000 ≤ Y 150 2 ∨ 200000 < Y 150 3 + ((nmR HT (hmR ms wh)).length : Int)) ∧ cmPt 226 K ba kd (3, 0, (nmR HT (hmR ms wh))) wh ec tr cMu Y V ∧ plG ((nmR HT (hmR ms wh)).length : Int) Y V ∧ V 150 2 = Y 150 2 + 1 ∧ V 150 3 = Y 150 3 + ((nmR HT (hmR ms wh)).length : Int)))) := wJ_E (fun hE => by
  obtain ⟨⟨h, hW, hl, hT⟩, ⟨l4, l5, l7, l8, l9, l10, l12, l13⟩, y16, ⟨hx, e48⟩, hba⟩ := h
  have hP := xP_of (w := 226) (by omega) h
  rw [← w_up_eta y16] at hP
  obtain ⟨hTh, hCa, -, ⟨⟨m1, m2, m3, m4⟩, hl14, ⟨c0, c1⟩, hz16, hz10⟩, ⟨t1, t2, t3, t4⟩, -⟩ := id hW
  obtain ⟨hK, ⟨hC, hI⟩, ⟨k0, k1, -⟩, -⟩ := id h
  have hn4 := hKC.2.2.2.2.1.1
  have hw4 : wh < 400 := by have := hm.1.2; omega
  obtain ⟨⟨a0, a1, a2, a3⟩, ⟨a4, -⟩, -⟩ := mrA hKC.2.2.2.2.1 hm.1
  replace a1 : Y 98 wh = 1 := a1.trans hm.2
  have hg1 := hg.1
  have hu := c_at hK (i := K.1.length - 1) (by omega) (j := (K.1.length : Int) - 1) (by omega)
  replace hu : cVl Y (Y 228 ((K.1.length : Int) - 1)) (Y 229 ((K.1.length : Int) - 1)) (K.1.getD (K.1.length - 1) (0, 0, [])) := hu
  have p3 : (K.1.length : Int) ≤ Y 228 (-1) := hK.1.2.2.1
  have p4 : Y 229 (-1) = Y 228 (-1) := hK.1.2.2.2.1
  obtain ⟨w1, w2, ⟨w3, w4⟩, w5, w6⟩ := hws
  refine achx_73_226 (d := d + 6) hC hI hl h72 hx e48 hl12 he51 ⟨hm.1.1, hw4⟩ a1 (by omega) (R := fun V => (((100000 < (tr.length : Int) + 2 ∨ 12000 ≤ Y 150 2 ∨ 200000 < Y 150 3 + ((nmR HT (hmR ms wh)).length : Int)) ∧ w_up Y 226 16 99 = V) ∨ (¬ (100000 < (tr.length : Int) + 2 ∨ 12000 ≤ Y 150 2 ∨ 200000 < Y 150 3 + ((nmR HT (hmR ms wh)).length : Int)) ∧ cmPt 226 K ba kd (3, 0, (nmR HT (hmR ms wh))) wh ec tr cMu Y V ∧ plG ((nmR HT (hmR ms wh)).length : Int) Y V ∧ V 150 2 = Y 150 2 + 1 ∧ V 150 3 = Y 150 3 + ((nmR HT (hmR ms wh)).length : Int)))) (wJ_mono (cmx_73_226 (d := d) (c := (K.2.1.length : Int)) (p := (K.2.1.getD (K.2.1.length - 1) (0, 0, 0, (0, 0, []), 0, 0, 0)).2.1) (h := (K.1.length : Int)) (kd := kd) (ba := (ba : Int)) (m := wh) (en := ec) (tn := (tr.length : Int)) (ky := Y 228 ((K.1.length : Int) - 1)) (vy := Y 229 ((K.1.length : Int) - 1)) (wd := Y 111 wh) (a0 := Y 76 (Y 111 wh)) (n := ((nmR HT (hmR ms wh)).length : Int)) (u2 := Y 150 2) (u3 := Y 150 3) hP l4 l5 l7 l8 l12 ⟨by omega, by omega⟩ ⟨by omega, by omega⟩ h72 ⟨hm.1.1, hw4⟩ a1 htr.1 ⟨by omega, htr.2.2.1.1, htr.2.2.1.2⟩ (by have := htr.2.2.2; have := htr.2.2.1.2; omega) rfl rfl (br_E hE ⟨Or.inl (by first | decide | omega), by decide⟩ rfl (by omega) (by omega)) (lr_E hE ⟨Or.inl (by first | decide | omega), by decide⟩ rfl (by omega) (by omega)) hx1 (a3.trans hty) hmf rfl w1 w2 w3 rfl ⟨by omega, by omega⟩ w5 h0 rfl rfl hu2 hu3) (fun o V hq => ?_))
  obtain ⟨rfl, hq⟩ := hq
  refine ⟨rfl, ?_⟩
  rcases hq with hq | ⟨q1, hq⟩
  · exact Or.inl hq
  · obtain ⟨g1, A, B, hA, hB, hF⟩ := cmT (w := 226) (a := (3, 0, (nmR HT (hmR ms wh)))) (mk := cMu) (by omega) hK k0 hba k1 y16 htr (by omega) hu (fun j x z => by unfold cMu at z; omega) (fun A B hA hB => ⟨(cmF_x (NN := (nmR HT (hmR ms wh))) hA hB (by first | decide | omega) h0.1 rfl w6).1, (cmF_x (NN := (nmR HT (hmR ms wh))) hA hB (by first | decide | omega) h0.1 rfl w6).2.1⟩) hq
    obtain ⟨-, -, ⟨z1, z2, z3, z4, z5⟩, z6, z7⟩ := cmF_x (NN := (nmR HT (hmR ms wh))) hA hB (by first | decide | omega) h0.1 rfl w6
    have v21 := hF.1 2 1 (by first | decide | omega) (by first | decide | omega) (by first | decide | omega)
    have v3 := fun i => hF.1 3 i (by first | decide | omega) (by first | decide | omega) (by first | decide | omega)
    have v3l := v3 (-1)
    exact Or.inr ⟨q1, g1, ⟨v21.trans z1, fun i i0 i1 => (v3 i).trans (z2 i i0 i1), by omega, by omega, by omega⟩, (hF.1 150 2 (by first | decide | omega) (by first | decide | omega) (by first | decide | omega)).trans z6, (hF.1 150 3 (by first | decide | omega) (by first | decide | omega) (by first | decide | omega)).trans z7⟩)
theorem amk_73_226 (hx1 : pe_at (pe_GA xs).xs 1 = some (1, tx_1)) (h : rdC 226 kd ec ba gk gb es x l K T L G Y) (hKC : KC 87 97 93 114 115 74 73 HT cs ms os Y) (h72 : Y 72 1 = 73) (hl12 : l = 1 ∨ l = 2) (he51 : Y 51 x = wh) (hm : (0 ≤ wh ∧ wh < (ms.length : Int)) ∧ (hmR ms wh).2.1 = 2) (htr : cTrc Y tr) (hg : arG K ba ec ar) (hwH : wHo cs ms os) (hsw : cSw Y T H) (hwS : wSh T H) (hfd : cFd 97 87 cs ms (hmR ms wh).1 Y) (hk1 : 0 ≤ (hmR ms wh).1 ∧ (hmR ms wh).1 < 60) (hpn : 0 < ar.length → 1 ≤ (hmR ms wh).2.2.2.2.1.length) (hz : Y 140 2 ≤ 4 * Y 150 1) (hu1 : 0 ≤ Y 150 0 ∧ Y 150 0 ≤ 8000) (hv1 : 0 ≤ Y 150 1 ∧ Y 150 1 ≤ 60000) : wJ (pe_GA xs) wY0 (mS [228, 229, 152, 127, 128, 129, 130, 131, 132, 133, 134, 135, 136, 141, 142]) (d + 8) t_XL_act ((pe_at t_XL_act.bl 0).getD (0, [])).2 [(0, (2, 158)), (1, (0, x))] [] Y (fun o V => o = .inl none ∧ (((100000 < (tr.length : Int) + 2 ∨ 8000 < Y 150 0 + 1 ∨ 60000 < Y 150 1 + ((flA cs ms (hmR ms wh).1).length : Int)) ∧ w_up Y 226 16 99 = V) ∨ (¬ (100000 < (tr.length : Int) + 2 ∨ 8000 < Y 150 0 + 1 ∨ 60000 < Y 150 1 + ((flA cs ms (hmR ms wh).1).length : Int)) ∧ cmPt 226 K ba kd (7, (T.length : Int), []) wh ec tr cMi Y V ∧ cWd V (T ++ [(7, -1, (hmR ms wh).1, -1, -1, 0, inP (flA cs ms (hmR ms wh).1).length (ftO cs ms (hmR ms wh).1) (fun i => prT (hmR ms wh) i) ar)]) L G ∧ cSw V (T ++ [(7, -1, (hmR ms wh).1, -1, -1, 0, inP (flA cs ms (hmR ms wh).1).length (ftO cs ms (hmR ms wh).1) (fun i => prT (hmR ms wh) i) ar)]) H ∧ (V 150 0 = Y 150 0 + 1 ∧ V 150 1 = Y 150 1 + ((flA cs ms (hmR ms wh).1).length : Int)) ∧ (cPo Y → cPo V)))) := wJ_E (fun hE => by
  obtain ⟨⟨h, hW, hl, hT⟩, ⟨l4, l5, l7, l8, l9, l10, l12, l13⟩, y16, ⟨hx, e48⟩, hba⟩ := h
  have hP := xP_of (w := 226) (by omega) h
  rw [← w_up_eta y16] at hP
  obtain ⟨hTh, hCa, -, ⟨⟨m1, m2, m3, m4⟩, hl14, ⟨c0, c1⟩, hz16, hz10⟩, ⟨t1, t2, t3, t4⟩, -⟩ := id hW
  obtain ⟨hK, ⟨hC, hI⟩, ⟨k0, k1, -⟩, -⟩ := id h
  have hn4 := hKC.2.2.2.2.1.1
  have hw4 : wh < 400 := by have := hm.1.2; omega
  obtain ⟨⟨a0, a1, a2, a3⟩, ⟨a4, -⟩, -⟩ := mrA hKC.2.2.2.2.1 hm.1
  replace a1 : Y 98 wh = 2 := a1.trans hm.2
  have hg1 := hg.1
  have hu := c_at hK (i := K.1.length - 1) (by omega) (j := (K.1.length : Int) - 1) (by omega)
  replace hu : cVl Y (Y 228 ((K.1.length : Int) - 1)) (Y 229 ((K.1.length : Int) - 1)) (K.1.getD (K.1.length - 1) (0, 0, [])) := hu
  have p3 : (K.1.length : Int) ≤ Y 228 (-1) := hK.1.2.2.1
  have p4 : Y 229 (-1) = Y 228 (-1) := hK.1.2.2.2.1
  obtain ⟨d1, d2, d3, d4, d5⟩ := hfd
  have hes : ∀ i : Nat, i < (pEs Y 228 229 ((ba : Int) + 1) ar.length).length → Y 228 ((ba : Int) + 1 + (i : Int)) = ((pEs Y 228 229 ((ba : Int) + 1) ar.length).getD i (0, 0)).1 ∧ Y 229 ((ba : Int) + 1 + (i : Int)) = ((pEs Y 228 229 ((ba : Int) + 1) ar.length).getD i (0, 0)).2 := fun i hi => by rw [pEs_l] at hi; rw [pEs_g hi]; exact ⟨rfl, rfl⟩
  have hcv : ∀ i : Nat, i < (pEs Y 228 229 ((ba : Int) + 1) ar.length).length → cVl Y ((pEs Y 228 229 ((ba : Int) + 1) ar.length).getD i (0, 0)).1 ((pEs Y 228 229 ((ba : Int) + 1) ar.length).getD i (0, 0)).2 (ar.getD i (0, 0, [])) := fun i hi => by rw [pEs_l] at hi; rw [pEs_g hi]; exact ar_c (w := 226) hK hg hi
  refine achk_73_226 (d := d + 7) hC hI hl h72 hx e48 hl12 he51 ⟨hm.1.1, hw4⟩ a1 (by omega) (R := fun V => (((100000 < (tr.length : Int) + 2 ∨ 8000 < Y 150 0 + 1 ∨ 60000 < Y 150 1 + ((flA cs ms (hmR ms wh).1).length : Int)) ∧ w_up Y 226 16 99 = V) ∨ (¬ (100000 < (tr.length : Int) + 2 ∨ 8000 < Y 150 0 + 1 ∨ 60000 < Y 150 1 + ((flA cs ms (hmR ms wh).1).length : Int)) ∧ cmPt 226 K ba kd (7, (T.length : Int), []) wh ec tr cMi Y V ∧ cWd V (T ++ [(7, -1, (hmR ms wh).1, -1, -1, 0, inP (flA cs ms (hmR ms wh).1).length (ftO cs ms (hmR ms wh).1) (fun i => prT (hmR ms wh) i) ar)]) L G ∧ cSw V (T ++ [(7, -1, (hmR ms wh).1, -1, -1, 0, inP (flA cs ms (hmR ms wh).1).length (ftO cs ms (hmR ms wh).1) (fun i => prT (hmR ms wh) i) ar)]) H ∧ (V 150 0 = Y 150 0 + 1 ∧ V 150 1 = Y 150 1 + ((flA cs ms (hmR ms wh).1).length : Int)) ∧ (cPo Y → cPo V)))) (wJ_mono (cmk_73_226 (d := d) (c := (K.2.1.length : Int)) (p := (K.2.1.getD (K.2.1.length - 1) (0, 0, 0, (0, 0, []), 0, 0, 0)).2.1) (h := (K.1.length : Int)) (kd := kd) (ba := (ba : Int)) (m := wh) (en := ec) (tn := (tr.length : Int)) (ky := Y 228 ((K.1.length : Int) - 1)) (vy := Y 229 ((K.1.length : Int) - 1)) (k := (hmR ms wh).1) (g := (T.length : Int)) (st := Y 140 2) (u0 := Y 150 0) (v0 := Y 150 1) (nf := (flA cs ms (hmR ms wh).1).length) (fd := fun i => (flA cs ms (hmR ms wh).1).getD i 0) (ty := ftO cs ms (hmR ms wh).1) (es := (pEs Y 228 229 ((ba : Int) + 1) ar.length)) hP l4 l5 l7 l8 l12 ⟨by omega, by omega⟩ ⟨by omega, by omega⟩ h72 ⟨hm.1.1, hw4⟩ a1 htr.1 ⟨by omega, htr.2.2.1.1, htr.2.2.1.2⟩ (by have := htr.2.2.2; have := htr.2.2.1.2; omega) rfl rfl (br_E hE ⟨Or.inl (by first | decide | omega), by decide⟩ rfl (by omega) (by omega)) (lr_E hE ⟨Or.inl (by first | decide | omega), by decide⟩ rfl (by omega) (by omega)) hx1 hKC hwH (by rw [pEs_l]; exact hg.1.1.symm) (by omega) hm.1.2 (by rw [pEs_l]; exact hpn) hes (fun i hi => ?_) hl14 ⟨hz16, hz10⟩ rfl ⟨c0, c1, by omega⟩ (fun i hi => ⟨(d4 i hi).1, by have := (d4 i hi).2; omega⟩) (fun i hi => ?_) d3 (by omega) t1 hTh.1 ⟨by omega, t2, hT⟩ ⟨t3, t4⟩ rfl hu1 rfl hv1 a0 hk1 d1 d2) (fun o V hq => ?_))
  · rw [pEs_l] at hi
    rw [pEs_g hi]
    exact ⟨br_E hE ⟨Or.inl (by first | decide | omega), by decide⟩ rfl (by omega) (by omega), lr_E hE ⟨Or.inl (by first | decide | omega), by decide⟩ rfl (by omega) (by omega)⟩
  · obtain ⟨⟨-, -, -, b3⟩, -⟩ := mrA hKC.2.2.2.2.1 (d4 i hi)
    exact b3
  obtain ⟨rfl, hq⟩ := hq
  refine ⟨rfl, ?_⟩
  rcases hq with hq | ⟨q1, hq⟩
  · exact Or.inl hq
  · have hcf := fun (A B : wS) (hA : trR wh ec Y A) (hB : ∃ X Y2 : wS, gvR A X ∧ coR (T.length : Int) (Y 140 2) (hmR ms wh).1 (flA cs ms (hmR ms wh).1).length (ftO cs ms (hmR ms wh).1) (fun i => prT (hmR ms wh) i) (pEs Y 228 229 ((ba : Int) + 1) ar.length) X Y2 ∧ gvR Y2 B) => cmF_k (B := B) (ar := ar) (G := G) (L := L) (H := H) (g := (T.length : Int)) (st := Y 140 2) (k := (hmR ms wh).1) (nf := (flA cs ms (hmR ms wh).1).length) (ty := ftO cs ms (hmR ms wh).1) (pt := fun i => prT (hmR ms wh) i) (es := (pEs Y 228 229 ((ba : Int) + 1) ar.length)) hW hsw hwS hT rfl rfl c0 (by omega) pEs_l hcv hA hB
    obtain ⟨g1, A, B, hA, hB, hF⟩ := cmT (w := 226) (a := (7, (T.length : Int), [])) (mk := cMi) (by omega) hK k0 hba k1 y16 htr (by omega) hu (fun j x z => by unfold cMi cMk at z; omega) (fun A B hA hB => ⟨(hcf A B hA hB).1, (hcf A B hA hB).2.1⟩) hq
    obtain ⟨-, -, z1, z2, ⟨z3, z4⟩, z5⟩ := hcf A B hA hB
    exact Or.inr ⟨q1, g1, cWd_fr (w := 226) (by omega) z1 hF, cSw_ag z2 (fun j i hj => hF.1 j i (by omega) (by unfold wG; omega) (by omega)), ⟨(hF.1 150 0 (by first | decide | omega) (by first | decide | omega) (by first | decide | omega)).trans z3, (hF.1 150 1 (by first | decide | omega) (by first | decide | omega) (by first | decide | omega)).trans z4⟩, fun hpo => cPo_ag (z5 hpo) (hF.1 72 3 (by first | decide | omega) (by first | decide | omega) (by first | decide | omega)) (fun i => ⟨hF.1 134 i (by first | decide | omega) (by first | decide | omega) (by first | decide | omega), hF.1 135 i (by first | decide | omega) (by first | decide | omega) (by first | decide | omega)⟩) (hF.1 140 2 (by first | decide | omega) (by first | decide | omega) (by first | decide | omega)) (hF.1 150 1 (by first | decide | omega) (by first | decide | omega) (by first | decide | omega))⟩)
theorem amx_162_215 (hx1 : pe_at (pe_GA xs).xs 1 = some (1, tx_1)) (h : rdC 215 kd ec ba gk gb es x l K T L G Y) (hKC : KC 176 186 182 203 204 163 162 HT cs ms os Y) (h72 : Y 72 1 = 162) (hl12 : l = 1 ∨ l = 2) (he51 : Y 51 x = wh) (hm : (0 ≤ wh ∧ wh < (ms.length : Int)) ∧ (hmR ms wh).2.1 = 1) (htr : cTrc Y tr) (hg : arG K ba ec ar) (hty : (hmR ms wh).2.2.2.1 = 7) (hmf : Y 201 wh = -1) (hws : wdS 163 (Y 200 wh) (nmR HT (hmR ms wh)) Y) (h0 : 0 ≤ Y 2 1 ∧ Y 2 1 ≤ Y 3 (-1) ∧ 1024 ≤ Y 3 (-1) ∧ Y 3 (-1) ≤ 16777216) (hu2 : 0 ≤ Y 150 2 ∧ Y 150 2 ≤ 12000) (hu3 : 0 ≤ Y 150 3 ∧ Y 150 3 ≤ 200000) : wJ (pe_GA xs) wY0 (mS [217, 218, 152, 3]) (d + 7) t_XL_act ((pe_at t_XL_act.bl 0).getD (0, [])).2 [(0, (2, 158)), (1, (0, x))] [] Y (fun o V => o = .inl none ∧ (((100000 < (tr.length : Int) + 2 ∨ 12000 ≤ Y 150 2 ∨ 200000 < Y 150 3 + ((nmR HT (hmR ms wh)).length : Int)) ∧ w_up Y 215 16 99 = V) ∨ (¬ (100000 < (tr.length : Int) + 2 ∨ 12000 ≤ Y 150 2 ∨ 200000 < Y 150 3 + ((nmR HT (hmR ms wh)).length : Int)) ∧ cmPt 215 K ba kd (3, 0, (nmR HT (hmR ms wh))) wh ec tr cMu Y V ∧ plG ((nmR HT (hmR ms wh)).length : Int) Y V ∧ V 150 2 = Y 150 2 + 1 ∧ V 150 3 = Y 150 3 + ((nmR HT (hmR ms wh)).length : Int)))) := wJ_E (fun hE => by
  obtain ⟨⟨h, hW, hl, hT⟩, ⟨l4, l5, l7, l8, l9, l10, l12, l13⟩, y16, ⟨hx, e48⟩, hba⟩ := h
  have hP := xP_of (w := 215) (by omega) h
  rw [← w_up_eta y16] at hP
  obtain ⟨hTh, hCa, -, ⟨⟨m1, m2, m3, m4⟩, hl14, ⟨c0, c1⟩, hz16, hz10⟩, ⟨t1, t2, t3, t4⟩, -⟩ := id hW
  obtain ⟨hK, ⟨hC, hI⟩, ⟨k0, k1, -⟩, -⟩ := id h
  have hn4 := hKC.2.2.2.2.1.1
  have hw4 : wh < 400 := by have := hm.1.2; omega
  obtain ⟨⟨a0, a1, a2, a3⟩, ⟨a4, -⟩, -⟩ := mrA hKC.2.2.2.2.1 hm.1
  replace a1 : Y 187 wh = 1 := a1.trans hm.2
  have hg1 := hg.1
  have hu := c_at hK (i := K.1.length - 1) (by omega) (j := (K.1.length : Int) - 1) (by omega)
  replace hu : cVl Y (Y 217 ((K.1.length : Int) - 1)) (Y 218 ((K.1.length : Int) - 1)) (K.1.getD (K.1.length - 1) (0, 0, [])) := hu
  have p3 : (K.1.length : Int) ≤ Y 217 (-1) := hK.1.2.2.1
  have p4 : Y 218 (-1) = Y 217 (-1) := hK.1.2.2.2.1
  obtain ⟨w1, w2, ⟨w3, w4⟩, w5, w6⟩ := hws
  refine achx_162_215 (d := d + 6) hC hI hl h72 hx e48 hl12 he51 ⟨hm.1.1, hw4⟩ a1 (by omega) (R := fun V => (((100000 < (tr.length : Int) + 2 ∨ 12000 ≤ Y 150 2 ∨ 200000 < Y 150 3 + ((nmR HT (hmR ms wh)).length : Int)) ∧ w_up Y 215 16 99 = V) ∨ (¬ (100000 < (tr.length : Int) + 2 ∨ 12000 ≤ Y 150 2 ∨ 200000 < Y 150 3 + ((nmR HT (hmR ms wh)).length : Int)) ∧ cmPt 215 K ba kd (3, 0, (nmR HT (hmR ms wh))) wh ec tr cMu Y V ∧ plG ((nmR HT (hmR ms wh)).length : Int) Y V ∧ V 150 2 = Y 150 2 + 1 ∧ V 150 3 = Y 150 3 + ((nmR HT (hmR ms wh)).length : Int)))) (wJ_mono (cmx_162_215 (d := d) (c := (K.2.1.length : Int)) (p := (K.2.1.getD (K.2.1.length - 1) (0, 0, 0, (0, 0, []), 0, 0, 0)).2.1) (h := (K.1.length : Int)) (kd := kd) (ba := (ba : Int)) (m := wh) (en := ec) (tn := (tr.length : Int)) (ky := Y 217 ((K.1.length : Int) - 1)) (vy := Y 218 ((K.1.length : Int) - 1)) (wd := Y 200 wh) (a0 := Y 165 (Y 200 wh)) (n := ((nmR HT (hmR ms wh)).length : Int)) (u2 := Y 150 2) (u3 := Y 150 3) hP l4 l5 l7 l8 l12 ⟨by omega, by omega⟩ ⟨by omega, by omega⟩ h72 ⟨hm.1.1, hw4⟩ a1 htr.1 ⟨by omega, htr.2.2.1.1, htr.2.2.1.2⟩ (by have := htr.2.2.2; have := htr.2.2.1.2; omega) rfl rfl (br_E hE ⟨Or.inl (by first | decide | omega), by decide⟩ rfl (by omega) (by omega)) (lr_E hE ⟨Or.inl (by first | decide | omega), by decide⟩ rfl (by omega) (by omega)) hx1 (a3.trans hty) hmf rfl w1 w2 w3 rfl ⟨by omega, by omega⟩ w5 h0 rfl rfl hu2 hu3) (fun o V hq => ?_))
  obtain ⟨rfl, hq⟩ := hq
  refine ⟨rfl, ?_⟩
  rcases hq with hq | ⟨q1, hq⟩
  · exact Or.inl hq
  · obtain ⟨g1, A, B, hA, hB, hF⟩ := cmT (w := 215) (a := (3, 0, (nmR HT (hmR ms wh)))) (mk := cMu) (by omega) hK k0 hba k1 y16 htr (by omega) hu (fun j x z => by unfold cMu at z; omega) (fun A B hA hB => ⟨(cmF_x (NN := (nmR HT (hmR ms wh))) hA hB (by first | decide | omega) h0.1 rfl w6).1, (cmF_x (NN := (nmR HT (hmR ms wh))) hA hB (by first | decide | omega) h0.1 rfl w6).2.1⟩) hq
    obtain ⟨-, -, ⟨z1, z2, z3, z4, z5⟩, z6, z7⟩ := cmF_x (NN := (nmR HT (hmR ms wh))) hA hB (by first | decide | omega) h0.1 rfl w6
    have v21 := hF.1 2 1 (by first | decide | omega) (by first | decide | omega) (by first | decide | omega)
    have v3 := fun i => hF.1 3 i (by first | decide | omega) (by first | decide | omega) (by first | decide | omega)
    have v3l := v3 (-1)
    exact Or.inr ⟨q1, g1, ⟨v21.trans z1, fun i i0 i1 => (v3 i).trans (z2 i i0 i1), by omega, by omega, by omega⟩, (hF.1 150 2 (by first | decide | omega) (by first | decide | omega) (by first | decide | omega)).trans z6, (hF.1 150 3 (by first | decide | omega) (by first | decide | omega) (by first | decide | omega)).trans z7⟩)
theorem amk_162_215 (hx1 : pe_at (pe_GA xs).xs 1 = some (1, tx_1)) (h : rdC 215 kd ec ba gk gb es x l K T L G Y) (hKC : KC 176 186 182 203 204 163 162 HT cs ms os Y) (h72 : Y 72 1 = 162) (hl12 : l = 1 ∨ l = 2) (he51 : Y 51 x = wh) (hm : (0 ≤ wh ∧ wh < (ms.length : Int)) ∧ (hmR ms wh).2.1 = 2) (htr : cTrc Y tr) (hg : arG K ba ec ar) (hwH : wHo cs ms os) (hsw : cSw Y T H) (hwS : wSh T H) (hfd : cFd 186 176 cs ms (hmR ms wh).1 Y) (hk1 : 0 ≤ (hmR ms wh).1 ∧ (hmR ms wh).1 < 60) (hpn : 0 < ar.length → 1 ≤ (hmR ms wh).2.2.2.2.1.length) (hz : Y 140 2 ≤ 4 * Y 150 1) (hu1 : 0 ≤ Y 150 0 ∧ Y 150 0 ≤ 8000) (hv1 : 0 ≤ Y 150 1 ∧ Y 150 1 ≤ 60000) : wJ (pe_GA xs) wY0 (mS [217, 218, 152, 127, 128, 129, 130, 131, 132, 133, 134, 135, 136, 141, 142]) (d + 8) t_XL_act ((pe_at t_XL_act.bl 0).getD (0, [])).2 [(0, (2, 158)), (1, (0, x))] [] Y (fun o V => o = .inl none ∧ (((100000 < (tr.length : Int) + 2 ∨ 8000 < Y 150 0 + 1 ∨ 60000 < Y 150 1 + ((flA cs ms (hmR ms wh).1).length : Int)) ∧ w_up Y 215 16 99 = V) ∨ (¬ (100000 < (tr.length : Int) + 2 ∨ 8000 < Y 150 0 + 1 ∨ 60000 < Y 150 1 + ((flA cs ms (hmR ms wh).1).length : Int)) ∧ cmPt 215 K ba kd (7, (T.length : Int), []) wh ec tr cMi Y V ∧ cWd V (T ++ [(7, -1, (hmR ms wh).1, -1, -1, 0, inP (flA cs ms (hmR ms wh).1).length (ftO cs ms (hmR ms wh).1) (fun i => prT (hmR ms wh) i) ar)]) L G ∧ cSw V (T ++ [(7, -1, (hmR ms wh).1, -1, -1, 0, inP (flA cs ms (hmR ms wh).1).length (ftO cs ms (hmR ms wh).1) (fun i => prT (hmR ms wh) i) ar)]) H ∧ (V 150 0 = Y 150 0 + 1 ∧ V 150 1 = Y 150 1 + ((flA cs ms (hmR ms wh).1).length : Int)) ∧ (cPo Y → cPo V)))) := wJ_E (fun hE => by
  obtain ⟨⟨h, hW, hl, hT⟩, ⟨l4, l5, l7, l8, l9, l10, l12, l13⟩, y16, ⟨hx, e48⟩, hba⟩ := h
  have hP := xP_of (w := 215) (by omega) h
  rw [← w_up_eta y16] at hP
  obtain ⟨hTh, hCa, -, ⟨⟨m1, m2, m3, m4⟩, hl14, ⟨c0, c1⟩, hz16, hz10⟩, ⟨t1, t2, t3, t4⟩, -⟩ := id hW
  obtain ⟨hK, ⟨hC, hI⟩, ⟨k0, k1, -⟩, -⟩ := id h
  have hn4 := hKC.2.2.2.2.1.1
  have hw4 : wh < 400 := by have := hm.1.2; omega
  obtain ⟨⟨a0, a1, a2, a3⟩, ⟨a4, -⟩, -⟩ := mrA hKC.2.2.2.2.1 hm.1
  replace a1 : Y 187 wh = 2 := a1.trans hm.2
  have hg1 := hg.1
  have hu := c_at hK (i := K.1.length - 1) (by omega) (j := (K.1.length : Int) - 1) (by omega)
  replace hu : cVl Y (Y 217 ((K.1.length : Int) - 1)) (Y 218 ((K.1.length : Int) - 1)) (K.1.getD (K.1.length - 1) (0, 0, [])) := hu
  have p3 : (K.1.length : Int) ≤ Y 217 (-1) := hK.1.2.2.1
  have p4 : Y 218 (-1) = Y 217 (-1) := hK.1.2.2.2.1
  obtain ⟨d1, d2, d3, d4, d5⟩ := hfd
  have hes : ∀ i : Nat, i < (pEs Y 217 218 ((ba : Int) + 1) ar.length).length → Y 217 ((ba : Int) + 1 + (i : Int)) = ((pEs Y 217 218 ((ba : Int) + 1) ar.length).getD i (0, 0)).1 ∧ Y 218 ((ba : Int) + 1 + (i : Int)) = ((pEs Y 217 218 ((ba : Int) + 1) ar.length).getD i (0, 0)).2 := fun i hi => by rw [pEs_l] at hi; rw [pEs_g hi]; exact ⟨rfl, rfl⟩
  have hcv : ∀ i : Nat, i < (pEs Y 217 218 ((ba : Int) + 1) ar.length).length → cVl Y ((pEs Y 217 218 ((ba : Int) + 1) ar.length).getD i (0, 0)).1 ((pEs Y 217 218 ((ba : Int) + 1) ar.length).getD i (0, 0)).2 (ar.getD i (0, 0, [])) := fun i hi => by rw [pEs_l] at hi; rw [pEs_g hi]; exact ar_c (w := 215) hK hg hi
  refine achk_162_215 (d := d + 7) hC hI hl h72 hx e48 hl12 he51 ⟨hm.1.1, hw4⟩ a1 (by omega) (R := fun V => (((100000 < (tr.length : Int) + 2 ∨ 8000 < Y 150 0 + 1 ∨ 60000 < Y 150 1 + ((flA cs ms (hmR ms wh).1).length : Int)) ∧ w_up Y 215 16 99 = V) ∨ (¬ (100000 < (tr.length : Int) + 2 ∨ 8000 < Y 150 0 + 1 ∨ 60000 < Y 150 1 + ((flA cs ms (hmR ms wh).1).length : Int)) ∧ cmPt 215 K ba kd (7, (T.length : Int), []) wh ec tr cMi Y V ∧ cWd V (T ++ [(7, -1, (hmR ms wh).1, -1, -1, 0, inP (flA cs ms (hmR ms wh).1).length (ftO cs ms (hmR ms wh).1) (fun i => prT (hmR ms wh) i) ar)]) L G ∧ cSw V (T ++ [(7, -1, (hmR ms wh).1, -1, -1, 0, inP (flA cs ms (hmR ms wh).1).length (ftO cs ms (hmR ms wh).1) (fun i => prT (hmR ms wh) i) ar)]) H ∧ (V 150 0 = Y 150 0 + 1 ∧ V 150 1 = Y 150 1 + ((flA cs ms (hmR ms wh).1).length : Int)) ∧ (cPo Y → cPo V)))) (wJ_mono (cmk_162_215 (d := d) (c := (K.2.1.length : Int)) (p := (K.2.1.getD (K.2.1.length - 1) (0, 0, 0, (0, 0, []), 0, 0, 0)).2.1) (h := (K.1.length : Int)) (kd := kd) (ba := (ba : Int)) (m := wh) (en := ec) (tn := (tr.length : Int)) (ky := Y 217 ((K.1.length : Int) - 1)) (vy := Y 218 ((K.1.length : Int) - 1)) (k := (hmR ms wh).1) (g := (T.length : Int)) (st := Y 140 2) (u0 := Y 150 0) (v0 := Y 150 1) (nf := (flA cs ms (hmR ms wh).1).length) (fd := fun i => (flA cs ms (hmR ms wh).1).getD i 0) (ty := ftO cs ms (hmR ms wh).1) (es := (pEs Y 217 218 ((ba : Int) + 1) ar.length)) hP l4 l5 l7 l8 l12 ⟨by omega, by omega⟩ ⟨by omega, by omega⟩ h72 ⟨hm.1.1, hw4⟩ a1 htr.1 ⟨by omega, htr.2.2.1.1, htr.2.2.1.2⟩ (by have := htr.2.2.2; have := htr.2.2.1.2; omega) rfl rfl (br_E hE ⟨Or.inl (by first | decide | omega), by decide⟩ rfl (by omega) (by omega)) (lr_E hE ⟨Or.inl (by first | decide | omega), by decide⟩ rfl (by omega) (by omega)) hx1 hKC hwH (by rw [pEs_l]; exact hg.1.1.symm) (by omega) hm.1.2 (by rw [pEs_l]; exact hpn) hes (fun i hi => ?_) hl14 ⟨hz16, hz10⟩ rfl ⟨c0, c1, by omega⟩ (fun i hi => ⟨(d4 i hi).1, by have := (d4 i hi).2; omega⟩) (fun i hi => ?_) d3 (by omega) t1 hTh.1 ⟨by omega, t2, hT⟩ ⟨t3, t4⟩ rfl hu1 rfl hv1 a0 hk1 d1 d2) (fun o V hq => ?_))
  · rw [pEs_l] at hi
    rw [pEs_g hi]
    exact ⟨br_E hE ⟨Or.inl (by first | decide | omega), by decide⟩ rfl (by omega) (by omega), lr_E hE ⟨Or.inl (by first | decide | omega), by decide⟩ rfl (by omega) (by omega)⟩
  · obtain ⟨⟨-, -, -, b3⟩, -⟩ := mrA hKC.2.2.2.2.1 (d4 i hi)
    exact b3
  obtain ⟨rfl, hq⟩ := hq
  refine ⟨rfl, ?_⟩
  rcases hq with hq | ⟨q1, hq⟩
  · exact Or.inl hq
  · have hcf := fun (A B : wS) (hA : trR wh ec Y A) (hB : ∃ X Y2 : wS, gvR A X ∧ coR (T.length : Int) (Y 140 2) (hmR ms wh).1 (flA cs ms (hmR ms wh).1).length (ftO cs ms (hmR ms wh).1) (fun i => prT (hmR ms wh) i) (pEs Y 217 218 ((ba : Int) + 1) ar.length) X Y2 ∧ gvR Y2 B) => cmF_k (B := B) (ar := ar) (G := G) (L := L) (H := H) (g := (T.length : Int)) (st := Y 140 2) (k := (hmR ms wh).1) (nf := (flA cs ms (hmR ms wh).1).length) (ty := ftO cs ms (hmR ms wh).1) (pt := fun i => prT (hmR ms wh) i) (es := (pEs Y 217 218 ((ba : Int) + 1) ar.length)) hW hsw hwS hT rfl rfl c0 (by omega) pEs_l hcv hA hB
    obtain ⟨g1, A, B, hA, hB, hF⟩ := cmT (w := 215) (a := (7, (T.length : Int), [])) (mk := cMi) (by omega) hK k0 hba k1 y16 htr (by omega) hu (fun j x z => by unfold cMi cMk at z; omega) (fun A B hA hB => ⟨(hcf A B hA hB).1, (hcf A B hA hB).2.1⟩) hq
    obtain ⟨-, -, z1, z2, ⟨z3, z4⟩, z5⟩ := hcf A B hA hB
    exact Or.inr ⟨q1, g1, cWd_fr (w := 215) (by omega) z1 hF, cSw_ag z2 (fun j i hj => hF.1 j i (by omega) (by unfold wG; omega) (by omega)), ⟨(hF.1 150 0 (by first | decide | omega) (by first | decide | omega) (by first | decide | omega)).trans z3, (hF.1 150 1 (by first | decide | omega) (by first | decide | omega) (by first | decide | omega)).trans z4⟩, fun hpo => cPo_ag (z5 hpo) (hF.1 72 3 (by first | decide | omega) (by first | decide | omega) (by first | decide | omega)) (fun i => ⟨hF.1 134 i (by first | decide | omega) (by first | decide | omega) (by first | decide | omega), hF.1 135 i (by first | decide | omega) (by first | decide | omega) (by first | decide | omega)⟩) (hF.1 140 2 (by first | decide | omega) (by first | decide | omega) (by first | decide | omega)) (hF.1 150 1 (by first | decide | omega) (by first | decide | omega) (by first | decide | omega))⟩)
theorem amx_162_226 (hx1 : pe_at (pe_GA xs).xs 1 = some (1, tx_1)) (h : rdC 226 kd ec ba gk gb es x l K T L G Y) (hKC : KC 176 186 182 203 204 163 162 HT cs ms os Y) (h72 : Y 72 1 = 162) (hl12 : l = 1 ∨ l = 2) (he51 : Y 51 x = wh) (hm : (0 ≤ wh ∧ wh < (ms.length : Int)) ∧ (hmR ms wh).2.1 = 1) (htr : cTrc Y tr) (hg : arG K ba ec ar) (hty : (hmR ms wh).2.2.2.1 = 7) (hmf : Y 201 wh = -1) (hws : wdS 163 (Y 200 wh) (nmR HT (hmR ms wh)) Y) (h0 : 0 ≤ Y 2 1 ∧ Y 2 1 ≤ Y 3 (-1) ∧ 1024 ≤ Y 3 (-1) ∧ Y 3 (-1) ≤ 16777216) (hu2 : 0 ≤ Y 150 2 ∧ Y 150 2 ≤ 12000) (hu3 : 0 ≤ Y 150 3 ∧ Y 150 3 ≤ 200000) : wJ (pe_GA xs) wY0 (mS [228, 229, 152, 3]) (d + 7) t_XL_act ((pe_at t_XL_act.bl 0).getD (0, [])).2 [(0, (2, 158)), (1, (0, x))] [] Y (fun o V => o = .inl none ∧ (((100000 < (tr.length : Int) + 2 ∨ 12000 ≤ Y 150 2 ∨ 200000 < Y 150 3 + ((nmR HT (hmR ms wh)).length : Int)) ∧ w_up Y 226 16 99 = V) ∨ (¬ (100000 < (tr.length : Int) + 2 ∨ 12000 ≤ Y 150 2 ∨ 200000 < Y 150 3 + ((nmR HT (hmR ms wh)).length : Int)) ∧ cmPt 226 K ba kd (3, 0, (nmR HT (hmR ms wh))) wh ec tr cMu Y V ∧ plG ((nmR HT (hmR ms wh)).length : Int) Y V ∧ V 150 2 = Y 150 2 + 1 ∧ V 150 3 = Y 150 3 + ((nmR HT (hmR ms wh)).length : Int)))) := wJ_E (fun hE => by
  obtain ⟨⟨h, hW, hl, hT⟩, ⟨l4, l5, l7, l8, l9, l10, l12, l13⟩, y16, ⟨hx, e48⟩, hba⟩ := h
  have hP := xP_of (w := 226) (by omega) h
  rw [← w_up_eta y16] at hP
  obtain ⟨hTh, hCa, -, ⟨⟨m1, m2, m3, m4⟩, hl14, ⟨c0, c1⟩, hz16, hz10⟩, ⟨t1, t2, t3, t4⟩, -⟩ := id hW
  obtain ⟨hK, ⟨hC, hI⟩, ⟨k0, k1, -⟩, -⟩ := id h
  have hn4 := hKC.2.2.2.2.1.1
  have hw4 : wh < 400 := by have := hm.1.2; omega
  obtain ⟨⟨a0, a1, a2, a3⟩, ⟨a4, -⟩, -⟩ := mrA hKC.2.2.2.2.1 hm.1
  replace a1 : Y 187 wh = 1 := a1.trans hm.2
  have hg1 := hg.1
  have hu := c_at hK (i := K.1.length - 1) (by omega) (j := (K.1.length : Int) - 1) (by omega)
  replace hu : cVl Y (Y 228 ((K.1.length : Int) - 1)) (Y 229 ((K.1.length : Int) - 1)) (K.1.getD (K.1.length - 1) (0, 0, [])) := hu
  have p3 : (K.1.length : Int) ≤ Y 228 (-1) := hK.1.2.2.1
  have p4 : Y 229 (-1) = Y 228 (-1) := hK.1.2.2.2.1
  obtain ⟨w1, w2, ⟨w3, w4⟩, w5, w6⟩ := hws
  refine achx_162_226 (d := d + 6) hC hI hl h72 hx e48 hl12 he51 ⟨hm.1.1, hw4⟩ a1 (by omega) (R := fun V => (((100000 < (tr.length : Int) + 2 ∨ 12000 ≤ Y 150 2 ∨ 200000 < Y 150 3 + ((nmR HT (hmR ms wh)).length : Int)) ∧ w_up Y 226 16 99 = V) ∨ (¬ (100000 < (tr.length : Int) + 2 ∨ 12000 ≤ Y 150 2 ∨ 200000 < Y 150 3 + ((nmR HT (hmR ms wh)).length : Int)) ∧ cmPt 226 K ba kd (3, 0, (nmR HT (hmR ms wh))) wh ec tr cMu Y V ∧ plG ((nmR HT (hmR ms wh)).length : Int) Y V ∧ V 150 2 = Y 150 2 + 1 ∧ V 150 3 = Y 150 3 + ((nmR HT (hmR ms wh)).length : Int)))) (wJ_mono (cmx_162_226 (d := d) (c := (K.2.1.length : Int)) (p := (K.2.1.getD (K.2.1.length - 1) (0, 0, 0, (0, 0, []), 0, 0, 0)).2.1) (h := (K.1.length : Int)) (kd := kd) (ba := (ba : Int)) (m := wh) (en := ec) (tn := (tr.length : Int)) (ky := Y 228 ((K.1.length : Int) - 1)) (vy := Y 229 ((K.1.length : Int) - 1)) (wd := Y 200 wh) (a0 := Y 165 (Y 200 wh)) (n := ((nmR HT (hmR ms wh)).length : Int)) (u2 := Y 150 2) (u3 := Y 150 3) hP l4 l5 l7 l8 l12 ⟨by omega, by omega⟩ ⟨by omega, by omega⟩ h72 ⟨hm.1.1, hw4⟩ a1 htr.1 ⟨by omega, htr.2.2.1.1, htr.2.2.1.2⟩ (by have := htr.2.2.2; have := htr.2.2.1.2; omega) rfl rfl (br_E hE ⟨Or.inl (by first | decide | omega), by decide⟩ rfl (by omega) (by omega)) (lr_E hE ⟨Or.inl (by first | decide | omega), by decide⟩ rfl (by omega) (by omega)) hx1 (a3.trans hty) hmf rfl w1 w2 w3 rfl ⟨by omega, by omega⟩ w5 h0 rfl rfl hu2 hu3) (fun o V hq => ?_))
  obtain ⟨rfl, hq⟩ := hq
  refine ⟨rfl, ?_⟩
  rcases hq with hq | ⟨q1, hq⟩
  · exact Or.inl hq
  · obtain ⟨g1, A, B, hA, hB, hF⟩ := cmT (w := 226) (a := (3, 0, (nmR HT (hmR ms wh)))) (mk := cMu) (by omega) hK k0 hba k1 y16 htr (by omega) hu (fun j x z => by unfold cMu at z; omega) (fun A B hA hB => ⟨(cmF_x (NN := (nmR HT (hmR ms wh))) hA hB (by first | decide | omega) h0.1 rfl w6).1, (cmF_x (NN := (nmR HT (hmR ms wh))) hA hB (by first | decide | omega) h0.1 rfl w6).2.1⟩) hq
    obtain ⟨-, -, ⟨z1, z2, z3, z4, z5⟩, z6, z7⟩ := cmF_x (NN := (nmR HT (hmR ms wh))) hA hB (by first | decide | omega) h0.1 rfl w6
    have v21 := hF.1 2 1 (by first | decide | omega) (by first | decide | omega) (by first | decide | omega)
    have v3 := fun i => hF.1 3 i (by first | decide | omega) (by first | decide | omega) (by first | decide | omega)
    have v3l := v3 (-1)
    exact Or.inr ⟨q1, g1, ⟨v21.trans z1, fun i i0 i1 => (v3 i).trans (z2 i i0 i1), by omega, by omega, by omega⟩, (hF.1 150 2 (by first | decide | omega) (by first | decide | omega) (by first | decide | omega)).trans z6, (hF.1 150 3 (by first | decide | omega) (by first | decide | omega) (by first | decide | omega)).trans z7⟩)
theorem amk_162_226 (hx1 : pe_at (pe_GA xs).xs 1 = some (1, tx_1)) (h : rdC 226 kd ec ba gk gb es x l K T L G Y) (hKC : KC 176 186 182 203 204 163 162 HT cs ms os Y) (h72 : Y 72 1 = 162) (hl12 : l = 1 ∨ l = 2) (he51 : Y 51 x = wh) (hm : (0 ≤ wh ∧ wh < (ms.length : Int)) ∧ (hmR ms wh).2.1 = 2) (htr : cTrc Y tr) (hg : arG K ba ec ar) (hwH : wHo cs ms os) (hsw : cSw Y T H) (hwS : wSh T H) (hfd : cFd 186 176 cs ms (hmR ms wh).1 Y) (hk1 : 0 ≤ (hmR ms wh).1 ∧ (hmR ms wh).1 < 60) (hpn : 0 < ar.length → 1 ≤ (hmR ms wh).2.2.2.2.1.length) (hz : Y 140 2 ≤ 4 * Y 150 1) (hu1 : 0 ≤ Y 150 0 ∧ Y 150 0 ≤ 8000) (hv1 : 0 ≤ Y 150 1 ∧ Y 150 1 ≤ 60000) : wJ (pe_GA xs) wY0 (mS [228, 229, 152, 127, 128, 129, 130, 131, 132, 133, 134, 135, 136, 141, 142]) (d + 8) t_XL_act ((pe_at t_XL_act.bl 0).getD (0, [])).2 [(0, (2, 158)), (1, (0, x))] [] Y (fun o V => o = .inl none ∧ (((100000 < (tr.length : Int) + 2 ∨ 8000 < Y 150 0 + 1 ∨ 60000 < Y 150 1 + ((flA cs ms (hmR ms wh).1).length : Int)) ∧ w_up Y 226 16 99 = V) ∨ (¬ (100000 < (tr.length : Int) + 2 ∨ 8000 < Y 150 0 + 1 ∨ 60000 < Y 150 1 + ((flA cs ms (hmR ms wh).1).length : Int)) ∧ cmPt 226 K ba kd (7, (T.length : Int), []) wh ec tr cMi Y V ∧ cWd V (T ++ [(7, -1, (hmR ms wh).1, -1, -1, 0, inP (flA cs ms (hmR ms wh).1).length (ftO cs ms (hmR ms wh).1) (fun i => prT (hmR ms wh) i) ar)]) L G ∧ cSw V (T ++ [(7, -1, (hmR ms wh).1, -1, -1, 0, inP (flA cs ms (hmR ms wh).1).length (ftO cs ms (hmR ms wh).1) (fun i => prT (hmR ms wh) i) ar)]) H ∧ (V 150 0 = Y 150 0 + 1 ∧ V 150 1 = Y 150 1 + ((flA cs ms (hmR ms wh).1).length : Int)) ∧ (cPo Y → cPo V)))) := wJ_E (fun hE => by
  obtain ⟨⟨h, hW, hl, hT⟩, ⟨l4, l5, l7, l8, l9, l10, l12, l13⟩, y16, ⟨hx, e48⟩, hba⟩ := h
  have hP := xP_of (w := 226) (by omega) h
  rw [← w_up_eta y16] at hP
  obtain ⟨hTh, hCa, -, ⟨⟨m1, m2, m3, m4⟩, hl14, ⟨c0, c1⟩, hz16, hz10⟩, ⟨t1, t2, t3, t4⟩, -⟩ := id hW
  obtain ⟨hK, ⟨hC, hI⟩, ⟨k0, k1, -⟩, -⟩ := id h
  have hn4 := hKC.2.2.2.2.1.1
  have hw4 : wh < 400 := by have := hm.1.2; omega
  obtain ⟨⟨a0, a1, a2, a3⟩, ⟨a4, -⟩, -⟩ := mrA hKC.2.2.2.2.1 hm.1
  replace a1 : Y 187 wh = 2 := a1.trans hm.2
  have hg1 := hg.1
  have hu := c_at hK (i := K.1.length - 1) (by omega) (j := (K.1.length : Int) - 1) (by omega)
  replace hu : cVl Y (Y 228 ((K.1.length : Int) - 1)) (Y 229 ((K.1.length : Int) - 1)) (K.1.getD (K.1.length - 1) (0, 0, [])) := hu
  have p3 : (K.1.length : Int) ≤ Y 228 (-1) := hK.1.2.2.1
  have p4 : Y 229 (-1) = Y 228 (-1) := hK.1.2.2.2.1
  obtain ⟨d1, d2, d3, d4, d5⟩ := hfd
  have hes : ∀ i : Nat, i < (pEs Y 228 229 ((ba : Int) + 1) ar.length).length → Y 228 ((ba : Int) + 1 + (i : Int)) = ((pEs Y 228 229 ((ba : Int) + 1) ar.length).getD i (0, 0)).1 ∧ Y 229 ((ba : Int) + 1 + (i : Int)) = ((pEs Y 228 229 ((ba : Int) + 1) ar.length).getD i (0, 0)).2 := fun i hi => by rw [pEs_l] at hi; rw [pEs_g hi]; exact ⟨rfl, rfl⟩
  have hcv : ∀ i : Nat, i < (pEs Y 228 229 ((ba : Int) + 1) ar.length).length → cVl Y ((pEs Y 228 229 ((ba : Int) + 1) ar.length).getD i (0, 0)).1 ((pEs Y 228 229 ((ba : Int) + 1) ar.length).getD i (0, 0)).2 (ar.getD i (0, 0, [])) := fun i hi => by rw [pEs_l] at hi; rw [pEs_g hi]; exact ar_c (w := 226) hK hg hi
  refine achk_162_226 (d := d + 7) hC hI hl h72 hx e48 hl12 he51 ⟨hm.1.1, hw4⟩ a1 (by omega) (R := fun V => (((100000 < (tr.length : Int) + 2 ∨ 8000 < Y 150 0 + 1 ∨ 60000 < Y 150 1 + ((flA cs ms (hmR ms wh).1).length : Int)) ∧ w_up Y 226 16 99 = V) ∨ (¬ (100000 < (tr.length : Int) + 2 ∨ 8000 < Y 150 0 + 1 ∨ 60000 < Y 150 1 + ((flA cs ms (hmR ms wh).1).length : Int)) ∧ cmPt 226 K ba kd (7, (T.length : Int), []) wh ec tr cMi Y V ∧ cWd V (T ++ [(7, -1, (hmR ms wh).1, -1, -1, 0, inP (flA cs ms (hmR ms wh).1).length (ftO cs ms (hmR ms wh).1) (fun i => prT (hmR ms wh) i) ar)]) L G ∧ cSw V (T ++ [(7, -1, (hmR ms wh).1, -1, -1, 0, inP (flA cs ms (hmR ms wh).1).length (ftO cs ms (hmR ms wh).1) (fun i => prT (hmR ms wh) i) ar)]) H ∧ (V 150 0 = Y 150 0 + 1 ∧ V 150 1 = Y 150 1 + ((flA cs ms (hmR ms wh).1).length : Int)) ∧ (cPo Y → cPo V)))) (wJ_mono (cmk_162_226 (d := d) (c := (K.2.1.length : Int)) (p := (K.2.1.getD (K.2.1.length - 1) (0, 0, 0, (0, 0, []), 0, 0, 0)).2.1) (h := (K.1.length : Int)) (kd := kd) (ba := (ba : Int)) (m := wh) (en := ec) (tn := (tr.length : Int)) (ky := Y 228 ((K.1.length : Int) - 1)) (vy := Y 229 ((K.1.length : Int) - 1)) (k := (hmR ms wh).1) (g := (T.length : Int)) (st := Y 140 2) (u0 := Y 150 0) (v0 := Y 150 1) (nf := (flA cs ms (hmR ms wh).1).length) (fd := fun i => (flA cs ms (hmR ms wh).1).getD i 0) (ty := ftO cs ms (hmR ms wh).1) (es := (pEs Y 228 229 ((ba : Int) + 1) ar.length)) hP l4 l5 l7 l8 l12 ⟨by omega, by omega⟩ ⟨by omega, by omega⟩ h72 ⟨hm.1.1, hw4⟩ a1 htr.1 ⟨by omega, htr.2.2.1.1, htr.2.2.1.2⟩ (by have := htr.2.2.2; have := htr.2.2.1.2; omega) rfl rfl (br_E hE ⟨Or.inl (by first | decide | omega), by decide⟩ rfl (by omega) (by omega)) (lr_E hE ⟨Or.inl (by first | decide | omega), by decide⟩ rfl (by omega) (by omega)) hx1 hKC hwH (by rw [pEs_l]; exact hg.1.1.symm) (by omega) hm.1.2 (by rw [pEs_l]; exact hpn) hes (fun i hi => ?_) hl14 ⟨hz16, hz10⟩ rfl ⟨c0, c1, by omega⟩ (fun i hi => ⟨(d4 i hi).1, by have := (d4 i hi).2; omega⟩) (fun i hi => ?_) d3 (by omega) t1 hTh.1 ⟨by omega, t2, hT⟩ ⟨t3, t4⟩ rfl hu1 rfl hv1 a0 hk1 d1 d2) (fun o V hq => ?_))
  · rw [pEs_l] at hi
    rw [pEs_g hi]
    exact ⟨br_E hE ⟨Or.inl (by first | decide | omega), by decide⟩ rfl (by omega) (by omega), lr_E hE ⟨Or.inl (by first | decide | omega), by decide⟩ rfl (by omega) (by omega)⟩
  · obtain ⟨⟨-, -, -, b3⟩, -⟩ := mrA hKC.2.2.2.2.1 (d4 i hi)
    exact b3
  obtain ⟨rfl, hq⟩ := hq
  refine ⟨rfl, ?_⟩
  rcases hq with hq | ⟨q1, hq⟩
  · exact Or.inl hq
  · have hcf := fun (A B : wS) (hA : trR wh ec Y A) (hB : ∃ X Y2 : wS, gvR A X ∧ coR (T.length : Int) (Y 140 2) (hmR ms wh).1 (flA cs ms (hmR ms wh).1).length (ftO cs ms (hmR ms wh).1) (fun i => prT (hmR ms wh) i) (pEs Y 228 229 ((ba : Int) + 1) ar.length) X Y2 ∧ gvR Y2 B) => cmF_k (B := B) (ar := ar) (G := G) (L := L) (H := H) (g := (T.length : Int)) (st := Y 140 2) (k := (hmR ms wh).1) (nf := (flA cs ms (hmR ms wh).1).length) (ty := ftO cs ms (hmR ms wh).1) (pt := fun i => prT (hmR ms wh) i) (es := (pEs Y 228 229 ((ba : Int) + 1) ar.length)) hW hsw hwS hT rfl rfl c0 (by omega) pEs_l hcv hA hB
    obtain ⟨g1, A, B, hA, hB, hF⟩ := cmT (w := 226) (a := (7, (T.length : Int), [])) (mk := cMi) (by omega) hK k0 hba k1 y16 htr (by omega) hu (fun j x z => by unfold cMi cMk at z; omega) (fun A B hA hB => ⟨(hcf A B hA hB).1, (hcf A B hA hB).2.1⟩) hq
    obtain ⟨-, -, z1, z2, ⟨z3, z4⟩, z5⟩ := hcf A B hA hB
    exact Or.inr ⟨q1, g1, cWd_fr (w := 226) (by omega) z1 hF, cSw_ag z2 (fun j i hj => hF.1 j i (by omega) (by unfold wG; omega) (by omega)), ⟨(hF.1 150 0 (by first | decide | omega) (by first | decide | omega) (by first | decide | omega)).trans z3, (hF.1 150 1 (by first | decide | omega) (by first | decide | omega) (by first | decide | omega)).trans z4⟩, fun hpo => cPo_ag (z5 hpo) (hF.1 72 3 (by first | decide | omega) (by first | decide | omega) (by first | decide | omega)) (fun i => ⟨hF.1 134 i (by first | decide | omega) (by first | decide | omega) (by first | decide | omega), hF.1 135 i (by first | decide | omega) (by first | decide | omega) (by first | decide | omega)⟩) (hF.1 140 2 (by first | decide | omega) (by first | decide | omega) (by first | decide | omega)) (hF.1 150 1 (by first | decide | omega) (by first | decide | omega) (by first | decide | omega))⟩)
end Wjm
