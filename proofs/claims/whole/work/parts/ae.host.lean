/-! PART ae: what HostReader.read leaves, in short. -/
section Wae
variable {xs : List (Nat × List Int32)} {M : Nat → Prop} {d : Nat} {A B C S Z S0 : wS} {Q : wO → wS → Prop} {T : Int → Int} {n : Int} {c i : Nat}
/-- a host's words and rows, at rest -/
def hi_I (w a b2 : Nat) (S : wS) : Prop := hw_I S w ∧ rw_I S w ∧ (S b2 (-1) = S a (-1) ∧ 16 ≤ S a (-1) ∧ S a (-1) ≤ 2047) ∧ S (w + 2) (-1) ≤ 16383 ∧ S (w + 1) (-1) ≤ 32767
/-- what is neither the reader's nor this host's stays -/
def hs_F (lo hi : Nat) (S Z : wS) : Prop := ∀ (j : Nat) (i : Int), j < 4000000 → j ≠ wG → (j < 14 ∨ 18 < j) → j ≠ 61 → j ≠ 62 → (j < lo ∨ hi < j) → Z j i = S j i
def hs_R (Z : wS) : Prop := Z 16 (-1) = Z 15 (-1) ∧ Z 17 (-1) = Z 15 (-1) ∧ 64 ≤ Z 15 (-1) ∧ Z 15 (-1) ≤ 16383
/-- every word that is a name's own has a token -/
def wTs (w : Nat) (Z : wS) : Prop := ∀ k : Int, 13 ≤ k → k < Z w 7 → ∃ j : Nat, (j : Int) + 1 < Z 14 3 ∧ Z 15 (j : Int) = 5 ∧ Z 17 (j : Int) = k
theorem wTs_r {w c : Nat} {H : Int} {S Z : wS} (h : rh_I w H T n S Z c) (e : S w 7 = 13) : wTs w Z := fun k k0 k1 => by
  obtain ⟨j, j0, j1, j2⟩ := h.2.2.2.2.2.2.1.2 k (by omega) k1
  refine ⟨j, by have := h.2.1; omega, ?_, j2⟩
  rw [(h.2.2.1 j j0).1.2.2.2.1]
  unfold kh
  exact if_pos j1
theorem wTs_ag {w : Nat} {S Z : wS} (h : wTs w S) (e7 : Z w 7 = S w 7) (e3 : Z 14 3 = S 14 3) (e15 : Z 15 = S 15) (e17 : Z 17 = S 17) : wTs w Z := by
  unfold wTs
  rw [e7, e3, e15, e17]
  exact h
def hs_P (ho w a b2 kh : Nat) (S Z : wS) : Prop := hs_F ho kh S Z ∧ hi_I w a b2 Z ∧ w_CL Z ∧ gI Z ∧ hs_R Z ∧ (Z ho 16 = 0 ∧ Z ho 18 = 0) ∧ (∀ i : Int, 0 ≤ i → i < 128 → Z kh i = 0) ∧ Z ho 17 = S ho 17 ∧ 0 ≤ Z 14 3 ∧ Z 14 3 ≤ Z 15 (-1) ∧ wTs w Z
theorem hw_rx {w : Nat} (hw : 18 < w ∧ w < 200) (h : hw_I S w) (r : rx_ag w 64 S Z) : hw_I Z w := by
  obtain ⟨h1, h2, ⟨h3, h4, h5, h6⟩, ⟨h7, h8⟩, ⟨h9, h10, h11⟩, h12, h13⟩ := h
  obtain ⟨r1, r2, r3, r4, r5, r6, r7, r8, r9, r10, r11, r12⟩ := r
  have fx : ∀ (j : Nat) (y : Int), (j = w ∧ y ≠ 1 ∧ y ≠ 7) ∨ j = w + 7 ∨ j = w + 8 ∨ j = w + 9 → Z j y = S j y := fun j y e => r7 j y (by omega) (by unfold wG; omega) (by omega) (by omega) (by omega)
  refine ⟨r8, r9, ⟨(fx w 14 (by omega)).trans h3, (fx w 15 (by omega)).trans h4, (fx w 10 (by omega)).trans h5, (fx w 12 (by omega)).trans h6⟩, ⟨by omega, by omega⟩, ⟨(fx _ _ (by omega)).trans h9, (fx _ _ (by omega)).trans h10, (fx _ _ (by omega)).trans h11⟩, fun k k0 k1 => ?_, fun k k0 k1 => ?_⟩
  · by_cases hk : k < S w 7
    · have e := r2 k k0 hk
      rw [e.2.2.1, e.2.2.2]; exact h12 k k0 hk
    · exact r3 k (by omega) k1
  · have e := r2 k k0 (by omega)
    rw [e.1, e.2.1]; exact h13 k k0 k1
theorem hs_a_73 {Zc Zr : wS} (hoc : oc_ag 73 74 116 125 (w_up S 61 1 73) Zc) (hC : w_CL S) (hn : 0 ≤ n ∧ n ≤ 8176) (hR : hs_R S) (hi0 : hi_I 74 117 118 S) (hrh : rh_I 74 64 T n (w_up (w_up (w_up (w_up (w_up (w_up (w_up Zc 61 2 0) 14 5 1) 14 6 n) 14 7 74) 14 8 1) 14 3 0) 14 4 0) Zr c) : hs_F 73 125 S Zr ∧ (hw_I Zr 74 ∧ Zr 76 (-1) ≤ 16383 ∧ Zr 75 (-1) ≤ 32767) ∧ hs_R Zr ∧ (Zr 73 16 = 0 ∧ Zr 73 18 = 0) ∧ (∀ i : Int, 0 ≤ i → i < 128 → Zr 125 i = 0) ∧ Zr 73 17 = S 73 17 ∧ rmR S Zr := by
  obtain ⟨⟨o1, o2, o3, o4, o5⟩, o6, ⟨o7, o8⟩, o9, o10⟩ := hoc
  have hmo := hrh.2.2.2.2.2.2
  have hc6 := hrh.2.2.2.2.2.1
  have r := hrh.1
  have hw := hw_rx ⟨by decide, by decide⟩ (show hw_I (w_up (w_up (w_up (w_up (w_up (w_up (w_up Zc 61 2 0) 14 5 1) 14 6 n) 14 7 74) 14 8 1) 14 3 0) 14 4 0) 74 from o9) r
  have rl := r.2.2.2.2.2.1
  have rf := r.2.2.2.2.2.2.1
  have rr := r.2.2.2.2.2.2.2.2.2.1
  have fc : ∀ (j : Nat) (y : Int), (y < 0 ∨ ((j ≠ 79 ∧ j ≠ 80 ∧ j ≠ 83 ∧ j ≠ 84 ∧ j ≠ 125) ∧ (j ≠ 74 ∨ (y ≠ 1 ∧ y ≠ 7 ∧ y ≠ 10 ∧ y ≠ 12)) ∧ (j ≠ 73 ∨ (y ≠ 2 ∧ y ≠ 4 ∧ y ≠ 16 ∧ y ≠ 18)) ∧ (j ≠ 116 ∨ y ≠ 2))) → Zc j y = (w_up S 61 1 73) j y := o10
  have f7 : ∀ (j : Nat) (y : Int), j ≠ 61 → j ≠ 14 → (w_up (w_up (w_up (w_up (w_up (w_up (w_up Zc 61 2 0) 14 5 1) 14 6 n) 14 7 74) 14 8 1) 14 3 0) 14 4 0) j y = Zc j y := fun j y h1 h2 => (w_up_no (by omega)).trans ((w_up_no (by omega)).trans ((w_up_no (by omega)).trans ((w_up_no (by omega)).trans ((w_up_no (by omega)).trans ((w_up_no (by omega)).trans ((w_up_no (by omega)).trans rfl))))))
  have f7m : ∀ (j : Nat) (y : Int), y < 0 → (w_up (w_up (w_up (w_up (w_up (w_up (w_up Zc 61 2 0) 14 5 1) 14 6 n) 14 7 74) 14 8 1) 14 3 0) 14 4 0) j y = S j y := fun j y h1 => (w_up_no (by omega)).trans ((w_up_no (by omega)).trans ((w_up_no (by omega)).trans ((w_up_no (by omega)).trans ((w_up_no (by omega)).trans ((w_up_no (by omega)).trans ((w_up_no (by omega)).trans ((fc j y (by omega)).trans (w_up_no (by omega)))))))))
  have rl : (Zr 76 (-1) ≤ (w_up (w_up (w_up (w_up (w_up (w_up (w_up Zc 61 2 0) 14 5 1) 14 6 n) 14 7 74) 14 8 1) 14 3 0) 14 4 0) 76 (-1) ∨ Zr 76 (-1) ≤ 2 * Zr 74 7) ∧ (Zr 75 (-1) ≤ (w_up (w_up (w_up (w_up (w_up (w_up (w_up Zc 61 2 0) 14 5 1) 14 6 n) 14 7 74) 14 8 1) 14 3 0) 14 4 0) 75 (-1) ∨ Zr 75 (-1) ≤ 2 * Zr 74 1) ∧ (Zr 15 (-1) ≤ (w_up (w_up (w_up (w_up (w_up (w_up (w_up Zc 61 2 0) 14 5 1) 14 6 n) 14 7 74) 14 8 1) 14 3 0) 14 4 0) 15 (-1) ∨ Zr 15 (-1) ≤ 2 * Zr 14 3) := rl
  rw [f7m 76 (-1) (by omega), f7m 75 (-1) (by omega), f7m 15 (-1) (by omega)] at rl
  have hm : Zr 74 7 ≤ (w_up (w_up (w_up (w_up (w_up (w_up (w_up Zc 61 2 0) 14 5 1) 14 6 n) 14 7 74) 14 8 1) 14 3 0) 14 4 0) 74 7 + (c : Int) ∧ Zr 74 1 ≤ (w_up (w_up (w_up (w_up (w_up (w_up (w_up Zc 61 2 0) 14 5 1) 14 6 n) 14 7 74) 14 8 1) 14 3 0) 14 4 0) 74 1 + n := ⟨hmo.1.1, hmo.2⟩
  rw [f7 74 7 (by decide) (by decide), f7 74 1 (by decide) (by decide), o7, o8] at hm
  have hi4 : S 76 (-1) ≤ 16383 ∧ S 75 (-1) ≤ 32767 := hi0.2.2.2
  obtain ⟨q1, q2, q3, q4⟩ := hR
  obtain ⟨-, rr1, rr2, rr3, rr4⟩ := rr
  have kl : (w_up S 61 1 73) 125 (-1) = 128 := (w_up_at (by decide)).trans (cl_125 hC)
  refine ⟨fun j y e1 e2 e3 e4 e5 e6 => ?_, ⟨hw, by omega, by omega⟩, ⟨rr1, rr2, rr3, by have h143 := hrh.2.1; have hr15 := rl.2.2; omega⟩, ⟨?_, ?_⟩, fun y y0 y1 => ?_, ?_, ?_⟩
  · rw [rf j y e1 e2 (by omega) (by omega) (by omega), f7 j y e4 (by omega), fc j y (by omega)]
    exact w_up_no (by omega)
  · rw [rf 73 16 (by decide) (by decide) (by omega) (by omega) (by omega), f7 73 16 (by decide) (by decide)]; exact o4
  · rw [rf 73 18 (by decide) (by decide) (by omega) (by omega) (by omega), f7 73 18 (by decide) (by decide)]; exact o5
  · rw [rf 125 y (by decide) (by decide) (by omega) (by omega) (by omega), f7 125 y (by decide) (by decide)]; exact o6 y y0 (by rw [kl]; exact y1)
  · rw [rf 73 17 (by decide) (by decide) (by omega) (by omega) (by omega), f7 73 17 (by decide) (by decide), fc 73 17 (by omega)]; exact w_up_slot (by decide)
  · have rm := r.2.2.2.2.2.2.2.2.2.2.2
    refine rmR_tr (rmR_ag (rmR_rfl S) (fun k _ => f7m k (-1) (by omega)) ?_ ?_) rm
    · rw [f7 wG 0 (by decide) (by decide), fc wG 0 (by unfold wG; omega)]; exact w_up_slot (by decide)
    · rw [f7 wG 1 (by decide) (by decide), fc wG 1 (by unfold wG; omega)]; exact w_up_slot (by decide)
theorem hs_ok_73 {Zc Zr : wS} {cs : List hCR} {ms : List hMR} {os : Int → List Int} (hoc : oc_ag 73 74 116 125 (w_up S 61 1 73) Zc) (hC : w_CL S) (hn : 0 ≤ n ∧ n ≤ 8176) (hR : hs_R S) (hi0 : hi_I 74 117 118 S) (hrh : rh_I 74 64 T n (w_up (w_up (w_up (w_up (w_up (w_up (w_up Zc 61 2 0) 14 5 1) 14 6 n) 14 7 74) 14 8 1) 14 3 0) 14 4 0) Zr c) (hj : JT_73 A T n c cs ms os Z) (hf : FR 73 87 119 Zr Z) : hs_P 73 74 117 118 125 S Z ∧ rmR S Z := by
  obtain ⟨a1, ⟨a2, a3, a4⟩, a5, a6, a7, a8, a9⟩ := hs_a_73 hoc hC hn hR hi0 hrh
  obtain ⟨f1, f2, f3, f4, f5, f6⟩ := hf
  have fx : ∀ (j : Nat) (y : Int), j < 388 → j ≠ 14 → j ≠ 61 → j ≠ 62 → j ≠ 73 → (j < 87 ∨ 119 < j) → Z j y = Zr j y := fun j y e1 e2 e3 e4 e5 e6 => f1 j y (by omega) (by unfold wG; omega) e2 e3 e4 e5 e6
  have hl : rw_S 116 117 118 Z := hj.2.1.2.2.1
  have e15 := fx 15 (-1) (by decide) (by decide) (by decide) (by decide) (by decide) (by decide)
  have e16 := fx 16 (-1) (by decide) (by decide) (by decide) (by decide) (by decide) (by decide)
  have e17 := fx 17 (-1) (by decide) (by decide) (by decide) (by decide) (by decide) (by decide)
  refine ⟨⟨fun j y e1 e2 e3 e4 e5 e6 => (f1 j y e1 e2 (by omega) e4 e5 (by omega) (by omega)).trans (a1 j y e1 e2 e3 e4 e5 e6), ⟨hw_ag a2 (fun x hx => funext fun y => fx (74 + x) y (by omega) (by omega) (by omega) (by omega) (by omega) (by omega)), hj.1.2.2.2.2.1, ⟨hl.2.1, hl.2.2⟩, ?_, ?_⟩, hj.1.2.2.2.2.2.2.1.2.2.1, hj.1.2.2.1, ?_, ⟨(f5 16 (by decide) (by decide)).trans a6.1, (f5 18 (by decide) (by decide)).trans a6.2⟩, fun y y0 y1 => (fx 125 y (by decide) (by decide) (by decide) (by decide) (by decide) (by decide)).trans (a7 y y0 y1), (f5 17 (by decide) (by decide)).trans a8, hj.1.2.1.2.2.2.2.2.2.1.1, hj.1.2.1.2.2.2.2.2.2.1.2, wTs_ag (wTs_r hrh (show Zc 74 7 = 13 from hoc.2.2.1.2)) (fx 74 7 (by decide) (by decide) (by decide) (by decide) (by decide) (by decide)) (f2 3 (by decide)) (funext fun y => fx 15 y (by decide) (by decide) (by decide) (by decide) (by decide) (by decide)) (funext fun y => fx 17 y (by decide) (by decide) (by decide) (by decide) (by decide) (by decide))⟩, rmR_tr a9 f6⟩
  · show Z 76 (-1) ≤ 16383
    rw [fx 76 (-1) (by decide) (by decide) (by decide) (by decide) (by decide) (by decide)]; exact a3
  · show Z 75 (-1) ≤ 32767
    rw [fx 75 (-1) (by decide) (by decide) (by decide) (by decide) (by decide) (by decide)]; exact a4
  · unfold hs_R
    rw [e15, e16, e17]; exact a5
theorem hs_no_73 {Zc Zr S2 Z0 : wS} {cs : List hCR} {ms : List hMR} {os : Int → List Int} {v : Nat} {e : Int} (hoc : oc_ag 73 74 116 125 (w_up S 61 1 73) Zc) (hC : w_CL S) (hn : 0 ≤ n ∧ n ≤ 8176) (hR : hs_R S) (hi0 : hi_I 74 117 118 S) (hrh : rh_I 74 64 T n (w_up (w_up (w_up (w_up (w_up (w_up (w_up Zc 61 2 0) 14 5 1) 14 6 n) 14 7 74) 14 8 1) 14 3 0) 14 4 0) Zr c) (hj : JT_73 A T n c cs ms os S2) (hf : FR 73 87 119 Zr S2) (hz : cz_ag 97 73 87 114 115 (cs.length : Int) (ms.length : Int) S2 Z0) (hr : rz_ag Z0 Z v e) : hs_P 73 74 117 118 125 S Z ∧ ∃ Z1 : wS, rmR S Z1 ∧ (∀ k : Nat, k < 388 → Z k (-1) = Z1 k (-1)) ∧ Z wG 0 = Z1 wG 0 + 6 ∧ Z wG 1 = Z1 wG 1 + 1 ∧ 0 < e ∧ e ≤ 2000000 := by
  obtain ⟨h0, h0r⟩ := hs_ok_73 hoc hC hn hR hi0 hrh hj hf
  obtain ⟨p1, ⟨p2, p3, p4, p5, p6⟩, p7, p8, p9, p10, p11, p12⟩ := h0
  obtain ⟨g1, g2, g3, g4, g5, g6⟩ := hr
  have fx : ∀ (j : Nat) (y : Int), j < 4000000 → j ≠ wG → j ≠ 14 → j ≠ 61 → j ≠ 62 → j ≠ 73 → (j < 87 ∨ 119 < j) → Z j y = S2 j y := fun j y e1 e2 e3 e4 e5 e6 e7 => (g2 j y e1 e2 (by omega)).trans (hz j y (by omega) (by omega) (by omega) (by omega) (by omega) (by omega) (by omega) (by omega))
  have fm : ∀ (j : Nat), j < 388 → Z j (-1) = S2 j (-1) := fun j e1 => (g2 j (-1) (by omega) (by unfold wG; omega) (by omega)).trans (hz j (-1) (by omega) (by omega) (by omega) (by omega) (by omega) (by omega) (by omega) (by omega))
  have fh : ∀ (y : Int), y ≠ 2 → y ≠ 4 → Z 73 y = S2 73 y := fun y e1 e2 => (g2 73 y (by decide) (by decide) (by omega)).trans (hz 73 y (by omega) (by omega) (by omega) (by omega) (by omega) (by omega) (by omega) (by omega))
  have ew : ∀ x : Nat, x ≤ 10 → Z (74 + x) = S2 (74 + x) := fun x hx => funext fun y => fx (74 + x) y (by omega) (by unfold wG; omega) (by omega) (by omega) (by omega) (by omega) (by omega)
  have e143 : Z 14 3 = S2 14 3 := (g2 14 3 (by decide) (by decide) (by omega)).trans (hz 14 3 (by omega) (by omega) (by omega) (by omega) (by omega) (by omega) (by omega) (by omega))
  refine ⟨⟨fun j y e1 e2 e3 e4 e5 e6 => (fx j y e1 e2 (by omega) e4 e5 (by omega) (by omega)).trans (p1 j y e1 e2 e3 e4 e5 e6), ⟨hw_ag p2 ew, ?_, ?_, ?_, ?_⟩, fun y hy => (fm y.1 (by have := wz_lt y hy; omega)).trans (p7 y hy), g3, ?_, ⟨(fh 16 (by decide) (by decide)).trans p10.1, (fh 18 (by decide) (by decide)).trans p10.2⟩, fun y y0 y1 => (fx 125 y (by decide) (by decide) (by decide) (by decide) (by decide) (by decide) (by decide)).trans (p11 y y0 y1), (fh 17 (by decide) (by decide)).trans p12.1, by rw [e143]; exact p12.2.1, by rw [e143, fm 15 (by decide)]; exact p12.2.2.1, wTs_ag p12.2.2.2 (congrFun (ew 0 (by decide)) 7) e143 (funext fun y => fx 15 y (by decide) (by decide) (by decide) (by decide) (by decide) (by decide) (by decide)) (funext fun y => fx 17 y (by decide) (by decide) (by decide) (by decide) (by decide) (by decide) (by decide))⟩, S2, h0r, fm, ?_, ?_, g4.2.2⟩
  · unfold rw_I; rw [show Z (74 + 1) = S2 (74 + 1) from ew 1 (by decide), show Z (74 + 2) = S2 (74 + 2) from ew 2 (by decide), show Z (74 + 3) = S2 (74 + 3) from ew 3 (by decide)]; exact p3
  · rw [fm 117 (by decide), fm 118 (by decide)]; exact p4
  · rw [fm (74 + 2) (by decide)]; exact p5
  · rw [fm (74 + 1) (by decide)]; exact p6
  · unfold hs_R
    rw [fm 15 (by decide), fm 16 (by decide), fm 17 (by decide)]; exact p9
  · rw [g4.1, hz wG 0 (by unfold wG; omega) (by unfold wG; omega) (by unfold wG; omega) (by unfold wG; omega) (by unfold wG; omega) (by unfold wG; omega) (by unfold wG; omega) (by unfold wG; omega)]
  · rw [g4.2.1, hz wG 1 (by unfold wG; omega) (by unfold wG; omega) (by unfold wG; omega) (by unfold wG; omega) (by unfold wG; omega) (by unfold wG; omega) (by unfold wG; omega) (by unfold wG; omega)]
theorem hs_a_162 {Zc Zr : wS} (hoc : oc_ag 162 163 205 214 (w_up S 61 1 162) Zc) (hC : w_CL S) (hn : 0 ≤ n ∧ n ≤ 8176) (hR : hs_R S) (hi0 : hi_I 163 206 207 S) (hrh : rh_I 163 64 T n (w_up (w_up (w_up (w_up (w_up (w_up (w_up Zc 61 2 0) 14 5 1) 14 6 n) 14 7 163) 14 8 1) 14 3 0) 14 4 0) Zr c) : hs_F 162 214 S Zr ∧ (hw_I Zr 163 ∧ Zr 165 (-1) ≤ 16383 ∧ Zr 164 (-1) ≤ 32767) ∧ hs_R Zr ∧ (Zr 162 16 = 0 ∧ Zr 162 18 = 0) ∧ (∀ i : Int, 0 ≤ i → i < 128 → Zr 214 i = 0) ∧ Zr 162 17 = S 162 17 ∧ rmR S Zr := by
  obtain ⟨⟨o1, o2, o3, o4, o5⟩, o6, ⟨o7, o8⟩, o9, o10⟩ := hoc
  have hmo := hrh.2.2.2.2.2.2
  have hc6 := hrh.2.2.2.2.2.1
  have r := hrh.1
  have hw := hw_rx ⟨by decide, by decide⟩ (show hw_I (w_up (w_up (w_up (w_up (w_up (w_up (w_up Zc 61 2 0) 14 5 1) 14 6 n) 14 7 163) 14 8 1) 14 3 0) 14 4 0) 163 from o9) r
  have rl := r.2.2.2.2.2.1
  have rf := r.2.2.2.2.2.2.1
  have rr := r.2.2.2.2.2.2.2.2.2.1
  have fc : ∀ (j : Nat) (y : Int), (y < 0 ∨ ((j ≠ 168 ∧ j ≠ 169 ∧ j ≠ 172 ∧ j ≠ 173 ∧ j ≠ 214) ∧ (j ≠ 163 ∨ (y ≠ 1 ∧ y ≠ 7 ∧ y ≠ 10 ∧ y ≠ 12)) ∧ (j ≠ 162 ∨ (y ≠ 2 ∧ y ≠ 4 ∧ y ≠ 16 ∧ y ≠ 18)) ∧ (j ≠ 205 ∨ y ≠ 2))) → Zc j y = (w_up S 61 1 162) j y := o10
  have f7 : ∀ (j : Nat) (y : Int), j ≠ 61 → j ≠ 14 → (w_up (w_up (w_up (w_up (w_up (w_up (w_up Zc 61 2 0) 14 5 1) 14 6 n) 14 7 163) 14 8 1) 14 3 0) 14 4 0) j y = Zc j y := fun j y h1 h2 => (w_up_no (by omega)).trans ((w_up_no (by omega)).trans ((w_up_no (by omega)).trans ((w_up_no (by omega)).trans ((w_up_no (by omega)).trans ((w_up_no (by omega)).trans ((w_up_no (by omega)).trans rfl))))))
  have f7m : ∀ (j : Nat) (y : Int), y < 0 → (w_up (w_up (w_up (w_up (w_up (w_up (w_up Zc 61 2 0) 14 5 1) 14 6 n) 14 7 163) 14 8 1) 14 3 0) 14 4 0) j y = S j y := fun j y h1 => (w_up_no (by omega)).trans ((w_up_no (by omega)).trans ((w_up_no (by omega)).trans ((w_up_no (by omega)).trans ((w_up_no (by omega)).trans ((w_up_no (by omega)).trans ((w_up_no (by omega)).trans ((fc j y (by omega)).trans (w_up_no (by omega)))))))))
  have rl : (Zr 165 (-1) ≤ (w_up (w_up (w_up (w_up (w_up (w_up (w_up Zc 61 2 0) 14 5 1) 14 6 n) 14 7 163) 14 8 1) 14 3 0) 14 4 0) 165 (-1) ∨ Zr 165 (-1) ≤ 2 * Zr 163 7) ∧ (Zr 164 (-1) ≤ (w_up (w_up (w_up (w_up (w_up (w_up (w_up Zc 61 2 0) 14 5 1) 14 6 n) 14 7 163) 14 8 1) 14 3 0) 14 4 0) 164 (-1) ∨ Zr 164 (-1) ≤ 2 * Zr 163 1) ∧ (Zr 15 (-1) ≤ (w_up (w_up (w_up (w_up (w_up (w_up (w_up Zc 61 2 0) 14 5 1) 14 6 n) 14 7 163) 14 8 1) 14 3 0) 14 4 0) 15 (-1) ∨ Zr 15 (-1) ≤ 2 * Zr 14 3) := rl
  rw [f7m 165 (-1) (by omega), f7m 164 (-1) (by omega), f7m 15 (-1) (by omega)] at rl
  have hm : Zr 163 7 ≤ (w_up (w_up (w_up (w_up (w_up (w_up (w_up Zc 61 2 0) 14 5 1) 14 6 n) 14 7 163) 14 8 1) 14 3 0) 14 4 0) 163 7 + (c : Int) ∧ Zr 163 1 ≤ (w_up (w_up (w_up (w_up (w_up (w_up (w_up Zc 61 2 0) 14 5 1) 14 6 n) 14 7 163) 14 8 1) 14 3 0) 14 4 0) 163 1 + n := ⟨hmo.1.1, hmo.2⟩
  rw [f7 163 7 (by decide) (by decide), f7 163 1 (by decide) (by decide), o7, o8] at hm
  have hi4 : S 165 (-1) ≤ 16383 ∧ S 164 (-1) ≤ 32767 := hi0.2.2.2
  obtain ⟨q1, q2, q3, q4⟩ := hR
  obtain ⟨-, rr1, rr2, rr3, rr4⟩ := rr
  have kl : (w_up S 61 1 162) 214 (-1) = 128 := (w_up_at (by decide)).trans (cl_214 hC)
  refine ⟨fun j y e1 e2 e3 e4 e5 e6 => ?_, ⟨hw, by omega, by omega⟩, ⟨rr1, rr2, rr3, by have h143 := hrh.2.1; have hr15 := rl.2.2; omega⟩, ⟨?_, ?_⟩, fun y y0 y1 => ?_, ?_, ?_⟩
  · rw [rf j y e1 e2 (by omega) (by omega) (by omega), f7 j y e4 (by omega), fc j y (by omega)]
    exact w_up_no (by omega)
  · rw [rf 162 16 (by decide) (by decide) (by omega) (by omega) (by omega), f7 162 16 (by decide) (by decide)]; exact o4
  · rw [rf 162 18 (by decide) (by decide) (by omega) (by omega) (by omega), f7 162 18 (by decide) (by decide)]; exact o5
  · rw [rf 214 y (by decide) (by decide) (by omega) (by omega) (by omega), f7 214 y (by decide) (by decide)]; exact o6 y y0 (by rw [kl]; exact y1)
  · rw [rf 162 17 (by decide) (by decide) (by omega) (by omega) (by omega), f7 162 17 (by decide) (by decide), fc 162 17 (by omega)]; exact w_up_slot (by decide)
  · have rm := r.2.2.2.2.2.2.2.2.2.2.2
    refine rmR_tr (rmR_ag (rmR_rfl S) (fun k _ => f7m k (-1) (by omega)) ?_ ?_) rm
    · rw [f7 wG 0 (by decide) (by decide), fc wG 0 (by unfold wG; omega)]; exact w_up_slot (by decide)
    · rw [f7 wG 1 (by decide) (by decide), fc wG 1 (by unfold wG; omega)]; exact w_up_slot (by decide)
theorem hs_ok_162 {Zc Zr : wS} {cs : List hCR} {ms : List hMR} {os : Int → List Int} (hoc : oc_ag 162 163 205 214 (w_up S 61 1 162) Zc) (hC : w_CL S) (hn : 0 ≤ n ∧ n ≤ 8176) (hR : hs_R S) (hi0 : hi_I 163 206 207 S) (hrh : rh_I 163 64 T n (w_up (w_up (w_up (w_up (w_up (w_up (w_up Zc 61 2 0) 14 5 1) 14 6 n) 14 7 163) 14 8 1) 14 3 0) 14 4 0) Zr c) (hj : JT_162 A T n c cs ms os Z) (hf : FR 162 176 208 Zr Z) : hs_P 162 163 206 207 214 S Z ∧ rmR S Z := by
  obtain ⟨a1, ⟨a2, a3, a4⟩, a5, a6, a7, a8, a9⟩ := hs_a_162 hoc hC hn hR hi0 hrh
  obtain ⟨f1, f2, f3, f4, f5, f6⟩ := hf
  have fx : ∀ (j : Nat) (y : Int), j < 388 → j ≠ 14 → j ≠ 61 → j ≠ 62 → j ≠ 162 → (j < 176 ∨ 208 < j) → Z j y = Zr j y := fun j y e1 e2 e3 e4 e5 e6 => f1 j y (by omega) (by unfold wG; omega) e2 e3 e4 e5 e6
  have hl : rw_S 205 206 207 Z := hj.2.1.2.2.1
  have e15 := fx 15 (-1) (by decide) (by decide) (by decide) (by decide) (by decide) (by decide)
  have e16 := fx 16 (-1) (by decide) (by decide) (by decide) (by decide) (by decide) (by decide)
  have e17 := fx 17 (-1) (by decide) (by decide) (by decide) (by decide) (by decide) (by decide)
  refine ⟨⟨fun j y e1 e2 e3 e4 e5 e6 => (f1 j y e1 e2 (by omega) e4 e5 (by omega) (by omega)).trans (a1 j y e1 e2 e3 e4 e5 e6), ⟨hw_ag a2 (fun x hx => funext fun y => fx (163 + x) y (by omega) (by omega) (by omega) (by omega) (by omega) (by omega)), hj.1.2.2.2.2.1, ⟨hl.2.1, hl.2.2⟩, ?_, ?_⟩, hj.1.2.2.2.2.2.2.1.2.2.1, hj.1.2.2.1, ?_, ⟨(f5 16 (by decide) (by decide)).trans a6.1, (f5 18 (by decide) (by decide)).trans a6.2⟩, fun y y0 y1 => (fx 214 y (by decide) (by decide) (by decide) (by decide) (by decide) (by decide)).trans (a7 y y0 y1), (f5 17 (by decide) (by decide)).trans a8, hj.1.2.1.2.2.2.2.2.2.1.1, hj.1.2.1.2.2.2.2.2.2.1.2, wTs_ag (wTs_r hrh (show Zc 163 7 = 13 from hoc.2.2.1.2)) (fx 163 7 (by decide) (by decide) (by decide) (by decide) (by decide) (by decide)) (f2 3 (by decide)) (funext fun y => fx 15 y (by decide) (by decide) (by decide) (by decide) (by decide) (by decide)) (funext fun y => fx 17 y (by decide) (by decide) (by decide) (by decide) (by decide) (by decide))⟩, rmR_tr a9 f6⟩
  · show Z 165 (-1) ≤ 16383
    rw [fx 165 (-1) (by decide) (by decide) (by decide) (by decide) (by decide) (by decide)]; exact a3
  · show Z 164 (-1) ≤ 32767
    rw [fx 164 (-1) (by decide) (by decide) (by decide) (by decide) (by decide) (by decide)]; exact a4
  · unfold hs_R
    rw [e15, e16, e17]; exact a5
theorem hs_no_162 {Zc Zr S2 Z0 : wS} {cs : List hCR} {ms : List hMR} {os : Int → List Int} {v : Nat} {e : Int} (hoc : oc_ag 162 163 205 214 (w_up S 61 1 162) Zc) (hC : w_CL S) (hn : 0 ≤ n ∧ n ≤ 8176) (hR : hs_R S) (hi0 : hi_I 163 206 207 S) (hrh : rh_I 163 64 T n (w_up (w_up (w_up (w_up (w_up (w_up (w_up Zc 61 2 0) 14 5 1) 14 6 n) 14 7 163) 14 8 1) 14 3 0) 14 4 0) Zr c) (hj : JT_162 A T n c cs ms os S2) (hf : FR 162 176 208 Zr S2) (hz : cz_ag 186 162 176 203 204 (cs.length : Int) (ms.length : Int) S2 Z0) (hr : rz_ag Z0 Z v e) : hs_P 162 163 206 207 214 S Z ∧ ∃ Z1 : wS, rmR S Z1 ∧ (∀ k : Nat, k < 388 → Z k (-1) = Z1 k (-1)) ∧ Z wG 0 = Z1 wG 0 + 6 ∧ Z wG 1 = Z1 wG 1 + 1 ∧ 0 < e ∧ e ≤ 2000000 := by
  obtain ⟨h0, h0r⟩ := hs_ok_162 hoc hC hn hR hi0 hrh hj hf
  obtain ⟨p1, ⟨p2, p3, p4, p5, p6⟩, p7, p8, p9, p10, p11, p12⟩ := h0
  obtain ⟨g1, g2, g3, g4, g5, g6⟩ := hr
  have fx : ∀ (j : Nat) (y : Int), j < 4000000 → j ≠ wG → j ≠ 14 → j ≠ 61 → j ≠ 62 → j ≠ 162 → (j < 176 ∨ 208 < j) → Z j y = S2 j y := fun j y e1 e2 e3 e4 e5 e6 e7 => (g2 j y e1 e2 (by omega)).trans (hz j y (by omega) (by omega) (by omega) (by omega) (by omega) (by omega) (by omega) (by omega))
  have fm : ∀ (j : Nat), j < 388 → Z j (-1) = S2 j (-1) := fun j e1 => (g2 j (-1) (by omega) (by unfold wG; omega) (by omega)).trans (hz j (-1) (by omega) (by omega) (by omega) (by omega) (by omega) (by omega) (by omega) (by omega))
  have fh : ∀ (y : Int), y ≠ 2 → y ≠ 4 → Z 162 y = S2 162 y := fun y e1 e2 => (g2 162 y (by decide) (by decide) (by omega)).trans (hz 162 y (by omega) (by omega) (by omega) (by omega) (by omega) (by omega) (by omega) (by omega))
  have ew : ∀ x : Nat, x ≤ 10 → Z (163 + x) = S2 (163 + x) := fun x hx => funext fun y => fx (163 + x) y (by omega) (by unfold wG; omega) (by omega) (by omega) (by omega) (by omega) (by omega)
  have e143 : Z 14 3 = S2 14 3 := (g2 14 3 (by decide) (by decide) (by omega)).trans (hz 14 3 (by omega) (by omega) (by omega) (by omega) (by omega) (by omega) (by omega) (by omega))
  refine ⟨⟨fun j y e1 e2 e3 e4 e5 e6 => (fx j y e1 e2 (by omega) e4 e5 (by omega) (by omega)).trans (p1 j y e1 e2 e3 e4 e5 e6), ⟨hw_ag p2 ew, ?_, ?_, ?_, ?_⟩, fun y hy => (fm y.1 (by have := wz_lt y hy; omega)).trans (p7 y hy), g3, ?_, ⟨(fh 16 (by decide) (by decide)).trans p10.1, (fh 18 (by decide) (by decide)).trans p10.2⟩, fun y y0 y1 => (fx 214 y (by decide) (by decide) (by decide) (by decide) (by decide) (by decide) (by decide)).trans (p11 y y0 y1), (fh 17 (by decide) (by decide)).trans p12.1, by rw [e143]; exact p12.2.1, by rw [e143, fm 15 (by decide)]; exact p12.2.2.1, wTs_ag p12.2.2.2 (congrFun (ew 0 (by decide)) 7) e143 (funext fun y => fx 15 y (by decide) (by decide) (by decide) (by decide) (by decide) (by decide) (by decide)) (funext fun y => fx 17 y (by decide) (by decide) (by decide) (by decide) (by decide) (by decide) (by decide))⟩, S2, h0r, fm, ?_, ?_, g4.2.2⟩
  · unfold rw_I; rw [show Z (163 + 1) = S2 (163 + 1) from ew 1 (by decide), show Z (163 + 2) = S2 (163 + 2) from ew 2 (by decide), show Z (163 + 3) = S2 (163 + 3) from ew 3 (by decide)]; exact p3
  · rw [fm 206 (by decide), fm 207 (by decide)]; exact p4
  · rw [fm (163 + 2) (by decide)]; exact p5
  · rw [fm (163 + 1) (by decide)]; exact p6
  · unfold hs_R
    rw [fm 15 (by decide), fm 16 (by decide), fm 17 (by decide)]; exact p9
  · rw [g4.1, hz wG 0 (by unfold wG; omega) (by unfold wG; omega) (by unfold wG; omega) (by unfold wG; omega) (by unfold wG; omega) (by unfold wG; omega) (by unfold wG; omega) (by unfold wG; omega)]
  · rw [g4.2.1, hz wG 1 (by unfold wG; omega) (by unfold wG; omega) (by unfold wG; omega) (by unfold wG; omega) (by unfold wG; omega) (by unfold wG; omega) (by unfold wG; omega) (by unfold wG; omega)]
end Wae
