/-! PART 9k: a host's words: those that are no names, and the names of classes. -/
section W9k
variable {xs : List (Nat × List Int32)} {M : Nat → Prop} {d : Nat} {A B C S Z : wS} {Q : wO → wS → Prop} {T : Int → Int} {n : Int}
/-- the words that are no names -/
def hw_l : List (List Int32) := [[118, 111, 105, 100], [105, 110, 116], [108, 111, 110, 103], [98, 111, 111, 108], [73, 110, 116], [76, 111, 110, 103], [66, 111, 111, 108], [84, 101, 120, 116], [65, 110, 121], [99, 108, 97, 115, 115], [105, 110, 116, 101, 114, 102, 97, 99, 101], [115, 116, 97, 116, 105, 99], [110, 101, 119]]
def hwl (k : Nat) : List Int32 := hw_l.getD k []
theorem wq_2 {w : Nat} {H u v a m a2 m2 : Int} {g g2 : Int → Int} (hI : wd_at Z w H) (hu : 0 ≤ u ∧ u < Z w 7) (hv : 0 ≤ v ∧ v < Z w 7) (h1 : wq (Z (w + 1)) (Z (w + 2)) (Z (w + 3)) g a m u) (h2 : wq (Z (w + 1)) (Z (w + 2)) (Z (w + 3)) g2 a2 m2 v) : u = v ↔ m = m2 ∧ ∀ i : Nat, i < m.toNat → g (a + (i : Int)) = g2 (a2 + (i : Int)) := by
  constructor
  · intro e
    subst e
    have e := h1.1.symm.trans h2.1
    exact ⟨e, fun i hi => (h1.2 i hi).symm.trans (h2.2 i (by omega))⟩
  · rintro ⟨e, he⟩
    refine hI.2.2.2.2.2 u v hu.1 hu.2 hv.1 hv.2 ⟨by rw [h1.1, h2.1, e], fun i hi => ?_⟩
    have hi2 : i < m2.toNat := by have := h2.1; omega
    rw [h1.2 i (by omega), he i (by omega), h2.2 i hi2]
/-- the first words are those that are no names -/
def rw_I (Z : wS) (w : Nat) : Prop := ∀ k : Nat, k < 13 → wq (Z (w + 1)) (Z (w + 2)) (Z (w + 3)) (fun i => w_tx (hwl k) i) 0 ((hwl k).length : Int) (k : Int)
/-- the state B of the reference is on this text -/
def zT (B : wS) (T : Int → Int) (n : Int) : Prop := B 239 = T ∧ B 237 4 = n ∧ B 237 5 = 1
theorem zT_6 {p : Int} (h : zT B T n) : zq B p 237 6 = lx_tk T n 1 p := by rw [zq_6, h.1, h.2.1, h.2.2]
theorem zT_8 {p : Int} (h : zT B T n) : zq B p 237 8 = lx_en T n 1 p := by rw [zq_8, h.1, h.2.1, h.2.2]
theorem zT_9 {p : Int} (h : zT B T n) : zq B p 237 9 = lx_si T n 1 p := by rw [zq_9, h.1, h.2.1, h.2.2]
theorem zT_T {p : Int} (h : zT B T n) : zq B p 239 = T := by rw [zq_o (by decide), h.1]
theorem zT_ne {p : Int} (h : zT B T n) : lx_ne (zq B p) p = lx_go T n (lx_en T n 1 p) := by
  unfold lx_ne
  rw [zT_T h, zq_4, zq_5, h.2.1, h.2.2]
/-- the word v is the name at p -/
def nt_I (Z : wS) (w : Nat) (T : Int → Int) (n p v : Int) : Prop := lx_tk T n 1 p = 1 ∧ (0 ≤ v ∧ v < Z w 7) ∧ wq (Z (w + 1)) (Z (w + 2)) (Z (w + 3)) T p (lx_en T n 1 p - p) v
theorem lx_w_k {w k : Nat} {H p v : Int} (hB : zT B T n) (hI : wd_at Z w H) (hr : rw_I Z w) (hk : k < 13) (hc : 13 ≤ Z w 7) (hv : nt_I Z w T n p v) : lx_w (zq B p) (hwl k) = true ↔ v = (k : Int) := by
  obtain ⟨h1, h2, h3⟩ := hv
  have h := wq_2 hI h2 ⟨by omega, by omega⟩ h3 (hr k hk)
  rw [h]
  unfold lx_w
  rw [decide_eq_true_iff, zT_6 hB, zT_8 hB, zT_T hB, zq_7]
  constructor
  · rintro ⟨-, e1, e2⟩
    refine ⟨e1, fun i hi => ?_⟩
    rw [e2 i (by omega)]
    show w_tx (hwl k) (i : Int) = w_tx (hwl k) (0 + (i : Int))
    rw [Int.zero_add]
  · rintro ⟨e1, e2⟩
    refine ⟨h1, e1, fun i hi => ?_⟩
    rw [e2 i (by omega)]
    show w_tx (hwl k) (0 + (i : Int)) = w_tx (hwl k) (i : Int)
    rw [Int.zero_add]
theorem pl_q_w {tx ty : List Int32} {k e : Int} (he : e - k = (ty.length : Int)) (hb : ∀ i : Nat, i < ty.length → w_tx tx (k + (i : Int)) = w_tx ty i) : pl_q S tx k e = lx_w S ty := by
  unfold pl_q lx_w
  rw [decide_eq_decide]
  constructor
  · rintro ⟨a1, a2, a3⟩
    refine ⟨a1, by omega, fun i hi => ?_⟩
    have := a3 i (by omega)
    rw [hb i hi] at this
    rw [this]
    congr 1
    omega
  · rintro ⟨a1, a2, a3⟩
    refine ⟨a1, by omega, fun i hi => ?_⟩
    have := a3 i (by omega)
    rw [hb i (by omega), ← this]
    congr 1
    omega
theorem pl_27_w (S : wS) : pl_of S tx_27 = if lx_w S (hwl 0) = true then 0 else if lx_w S (hwl 1) = true then 1 else if lx_w S (hwl 2) = true then 2 else if lx_w S (hwl 3) = true then 3 else if lx_w S (hwl 4) = true then 4 else if lx_w S (hwl 5) = true then 5 else if lx_w S (hwl 6) = true then 6 else if lx_w S (hwl 7) = true then 7 else if lx_w S (hwl 8) = true then 8 else -1 := by
  show pl_f S tx_27 44 0 1 = _
  rw [show (44 : Nat) = 43 + 1 from rfl, pl_f_s, if_pos (show (1 : Int) < (tx_27.length : Int) by decide), show pl_e tx_27 tx_27.length 1 = 5 by decide, pl_q_w (k := 1) (e := 5) (ty := hwl 0) (by decide) (by decide)]
  refine congrArg (fun z => if lx_w S (hwl 0) = true then (0 : Int) else z) ?_
  show pl_f S tx_27 43 1 6 = _
  rw [show (43 : Nat) = 42 + 1 from rfl, pl_f_s, if_pos (show (6 : Int) < (tx_27.length : Int) by decide), show pl_e tx_27 tx_27.length 6 = 9 by decide, pl_q_w (k := 6) (e := 9) (ty := hwl 1) (by decide) (by decide)]
  refine congrArg (fun z => if lx_w S (hwl 1) = true then (1 : Int) else z) ?_
  show pl_f S tx_27 42 2 10 = _
  rw [show (42 : Nat) = 41 + 1 from rfl, pl_f_s, if_pos (show (10 : Int) < (tx_27.length : Int) by decide), show pl_e tx_27 tx_27.length 10 = 14 by decide, pl_q_w (k := 10) (e := 14) (ty := hwl 2) (by decide) (by decide)]
  refine congrArg (fun z => if lx_w S (hwl 2) = true then (2 : Int) else z) ?_
  show pl_f S tx_27 41 3 15 = _
  rw [show (41 : Nat) = 40 + 1 from rfl, pl_f_s, if_pos (show (15 : Int) < (tx_27.length : Int) by decide), show pl_e tx_27 tx_27.length 15 = 19 by decide, pl_q_w (k := 15) (e := 19) (ty := hwl 3) (by decide) (by decide)]
  refine congrArg (fun z => if lx_w S (hwl 3) = true then (3 : Int) else z) ?_
  show pl_f S tx_27 40 4 20 = _
  rw [show (40 : Nat) = 39 + 1 from rfl, pl_f_s, if_pos (show (20 : Int) < (tx_27.length : Int) by decide), show pl_e tx_27 tx_27.length 20 = 23 by decide, pl_q_w (k := 20) (e := 23) (ty := hwl 4) (by decide) (by decide)]
  refine congrArg (fun z => if lx_w S (hwl 4) = true then (4 : Int) else z) ?_
  show pl_f S tx_27 39 5 24 = _
  rw [show (39 : Nat) = 38 + 1 from rfl, pl_f_s, if_pos (show (24 : Int) < (tx_27.length : Int) by decide), show pl_e tx_27 tx_27.length 24 = 28 by decide, pl_q_w (k := 24) (e := 28) (ty := hwl 5) (by decide) (by decide)]
  refine congrArg (fun z => if lx_w S (hwl 5) = true then (5 : Int) else z) ?_
  show pl_f S tx_27 38 6 29 = _
  rw [show (38 : Nat) = 37 + 1 from rfl, pl_f_s, if_pos (show (29 : Int) < (tx_27.length : Int) by decide), show pl_e tx_27 tx_27.length 29 = 33 by decide, pl_q_w (k := 29) (e := 33) (ty := hwl 6) (by decide) (by decide)]
  refine congrArg (fun z => if lx_w S (hwl 6) = true then (6 : Int) else z) ?_
  show pl_f S tx_27 37 7 34 = _
  rw [show (37 : Nat) = 36 + 1 from rfl, pl_f_s, if_pos (show (34 : Int) < (tx_27.length : Int) by decide), show pl_e tx_27 tx_27.length 34 = 38 by decide, pl_q_w (k := 34) (e := 38) (ty := hwl 7) (by decide) (by decide)]
  refine congrArg (fun z => if lx_w S (hwl 7) = true then (7 : Int) else z) ?_
  show pl_f S tx_27 36 8 39 = _
  rw [show (36 : Nat) = 35 + 1 from rfl, pl_f_s, if_pos (show (39 : Int) < (tx_27.length : Int) by decide), show pl_e tx_27 tx_27.length 39 = 42 by decide, pl_q_w (k := 39) (e := 42) (ty := hwl 8) (by decide) (by decide)]
  refine congrArg (fun z => if lx_w S (hwl 8) = true then (8 : Int) else z) ?_
  show pl_f S tx_27 35 9 43 = _
  rw [show (35 : Nat) = 34 + 1 from rfl, pl_f_s, if_neg (show ¬ (43 : Int) < (tx_27.length : Int) by decide)]
theorem pl_27_k {w : Nat} {H p v : Int} (hB : zT B T n) (hI : wd_at Z w H) (hr : rw_I Z w) (hc : 13 ≤ Z w 7) (hv : nt_I Z w T n p v) : pl_of (zq B p) tx_27 = if v < 9 then v else -1 := by
  have h0 := hv.2.1.1
  rw [pl_27_w]
  have a0 := lx_w_k (k := 0) hB hI hr (by decide) hc hv
  have a1 := lx_w_k (k := 1) hB hI hr (by decide) hc hv
  have a2 := lx_w_k (k := 2) hB hI hr (by decide) hc hv
  have a3 := lx_w_k (k := 3) hB hI hr (by decide) hc hv
  have a4 := lx_w_k (k := 4) hB hI hr (by decide) hc hv
  have a5 := lx_w_k (k := 5) hB hI hr (by decide) hc hv
  have a6 := lx_w_k (k := 6) hB hI hr (by decide) hc hv
  have a7 := lx_w_k (k := 7) hB hI hr (by decide) hc hv
  have a8 := lx_w_k (k := 8) hB hI hr (by decide) hc hv
  by_cases c0 : v = 0
  · rw [if_pos (a0.2 c0), if_pos (by omega), c0]
  rw [if_neg (fun z => c0 (a0.1 z))]
  by_cases c1 : v = 1
  · rw [if_pos (a1.2 c1), if_pos (by omega), c1]
  rw [if_neg (fun z => c1 (a1.1 z))]
  by_cases c2 : v = 2
  · rw [if_pos (a2.2 c2), if_pos (by omega), c2]
  rw [if_neg (fun z => c2 (a2.1 z))]
  by_cases c3 : v = 3
  · rw [if_pos (a3.2 c3), if_pos (by omega), c3]
  rw [if_neg (fun z => c3 (a3.1 z))]
  by_cases c4 : v = 4
  · rw [if_pos (a4.2 c4), if_pos (by omega), c4]
  rw [if_neg (fun z => c4 (a4.1 z))]
  by_cases c5 : v = 5
  · rw [if_pos (a5.2 c5), if_pos (by omega), c5]
  rw [if_neg (fun z => c5 (a5.1 z))]
  by_cases c6 : v = 6
  · rw [if_pos (a6.2 c6), if_pos (by omega), c6]
  rw [if_neg (fun z => c6 (a6.1 z))]
  by_cases c7 : v = 7
  · rw [if_pos (a7.2 c7), if_pos (by omega), c7]
  rw [if_neg (fun z => c7 (a7.1 z))]
  by_cases c8 : v = 8
  · rw [if_pos (a8.2 c8), if_pos (by omega), c8]
  rw [if_neg (fun z => c8 (a8.1 z))]
  rw [if_neg (by omega)]
theorem pl_21_w (S : wS) : pl_of S tx_21 = if lx_w S (hwl 0) = true then 0 else if lx_w S (hwl 1) = true then 1 else if lx_w S (hwl 2) = true then 2 else if lx_w S (hwl 3) = true then 3 else if lx_w S (hwl 4) = true then 4 else if lx_w S (hwl 5) = true then 5 else if lx_w S (hwl 6) = true then 6 else if lx_w S (hwl 7) = true then 7 else if lx_w S (hwl 8) = true then 8 else if lx_w S (hwl 9) = true then 9 else if lx_w S (hwl 10) = true then 10 else if lx_w S (hwl 11) = true then 11 else if lx_w S (hwl 12) = true then 12 else -1 := by
  show pl_f S tx_21 71 0 1 = _
  rw [show (71 : Nat) = 70 + 1 from rfl, pl_f_s, if_pos (show (1 : Int) < (tx_21.length : Int) by decide), show pl_e tx_21 tx_21.length 1 = 5 by decide, pl_q_w (k := 1) (e := 5) (ty := hwl 0) (by decide) (by decide)]
  refine congrArg (fun z => if lx_w S (hwl 0) = true then (0 : Int) else z) ?_
  show pl_f S tx_21 70 1 6 = _
  rw [show (70 : Nat) = 69 + 1 from rfl, pl_f_s, if_pos (show (6 : Int) < (tx_21.length : Int) by decide), show pl_e tx_21 tx_21.length 6 = 9 by decide, pl_q_w (k := 6) (e := 9) (ty := hwl 1) (by decide) (by decide)]
  refine congrArg (fun z => if lx_w S (hwl 1) = true then (1 : Int) else z) ?_
  show pl_f S tx_21 69 2 10 = _
  rw [show (69 : Nat) = 68 + 1 from rfl, pl_f_s, if_pos (show (10 : Int) < (tx_21.length : Int) by decide), show pl_e tx_21 tx_21.length 10 = 14 by decide, pl_q_w (k := 10) (e := 14) (ty := hwl 2) (by decide) (by decide)]
  refine congrArg (fun z => if lx_w S (hwl 2) = true then (2 : Int) else z) ?_
  show pl_f S tx_21 68 3 15 = _
  rw [show (68 : Nat) = 67 + 1 from rfl, pl_f_s, if_pos (show (15 : Int) < (tx_21.length : Int) by decide), show pl_e tx_21 tx_21.length 15 = 19 by decide, pl_q_w (k := 15) (e := 19) (ty := hwl 3) (by decide) (by decide)]
  refine congrArg (fun z => if lx_w S (hwl 3) = true then (3 : Int) else z) ?_
  show pl_f S tx_21 67 4 20 = _
  rw [show (67 : Nat) = 66 + 1 from rfl, pl_f_s, if_pos (show (20 : Int) < (tx_21.length : Int) by decide), show pl_e tx_21 tx_21.length 20 = 23 by decide, pl_q_w (k := 20) (e := 23) (ty := hwl 4) (by decide) (by decide)]
  refine congrArg (fun z => if lx_w S (hwl 4) = true then (4 : Int) else z) ?_
  show pl_f S tx_21 66 5 24 = _
  rw [show (66 : Nat) = 65 + 1 from rfl, pl_f_s, if_pos (show (24 : Int) < (tx_21.length : Int) by decide), show pl_e tx_21 tx_21.length 24 = 28 by decide, pl_q_w (k := 24) (e := 28) (ty := hwl 5) (by decide) (by decide)]
  refine congrArg (fun z => if lx_w S (hwl 5) = true then (5 : Int) else z) ?_
  show pl_f S tx_21 65 6 29 = _
  rw [show (65 : Nat) = 64 + 1 from rfl, pl_f_s, if_pos (show (29 : Int) < (tx_21.length : Int) by decide), show pl_e tx_21 tx_21.length 29 = 33 by decide, pl_q_w (k := 29) (e := 33) (ty := hwl 6) (by decide) (by decide)]
  refine congrArg (fun z => if lx_w S (hwl 6) = true then (6 : Int) else z) ?_
  show pl_f S tx_21 64 7 34 = _
  rw [show (64 : Nat) = 63 + 1 from rfl, pl_f_s, if_pos (show (34 : Int) < (tx_21.length : Int) by decide), show pl_e tx_21 tx_21.length 34 = 38 by decide, pl_q_w (k := 34) (e := 38) (ty := hwl 7) (by decide) (by decide)]
  refine congrArg (fun z => if lx_w S (hwl 7) = true then (7 : Int) else z) ?_
  show pl_f S tx_21 63 8 39 = _
  rw [show (63 : Nat) = 62 + 1 from rfl, pl_f_s, if_pos (show (39 : Int) < (tx_21.length : Int) by decide), show pl_e tx_21 tx_21.length 39 = 42 by decide, pl_q_w (k := 39) (e := 42) (ty := hwl 8) (by decide) (by decide)]
  refine congrArg (fun z => if lx_w S (hwl 8) = true then (8 : Int) else z) ?_
  show pl_f S tx_21 62 9 43 = _
  rw [show (62 : Nat) = 61 + 1 from rfl, pl_f_s, if_pos (show (43 : Int) < (tx_21.length : Int) by decide), show pl_e tx_21 tx_21.length 43 = 48 by decide, pl_q_w (k := 43) (e := 48) (ty := hwl 9) (by decide) (by decide)]
  refine congrArg (fun z => if lx_w S (hwl 9) = true then (9 : Int) else z) ?_
  show pl_f S tx_21 61 10 49 = _
  rw [show (61 : Nat) = 60 + 1 from rfl, pl_f_s, if_pos (show (49 : Int) < (tx_21.length : Int) by decide), show pl_e tx_21 tx_21.length 49 = 58 by decide, pl_q_w (k := 49) (e := 58) (ty := hwl 10) (by decide) (by decide)]
  refine congrArg (fun z => if lx_w S (hwl 10) = true then (10 : Int) else z) ?_
  show pl_f S tx_21 60 11 59 = _
  rw [show (60 : Nat) = 59 + 1 from rfl, pl_f_s, if_pos (show (59 : Int) < (tx_21.length : Int) by decide), show pl_e tx_21 tx_21.length 59 = 65 by decide, pl_q_w (k := 59) (e := 65) (ty := hwl 11) (by decide) (by decide)]
  refine congrArg (fun z => if lx_w S (hwl 11) = true then (11 : Int) else z) ?_
  show pl_f S tx_21 59 12 66 = _
  rw [show (59 : Nat) = 58 + 1 from rfl, pl_f_s, if_pos (show (66 : Int) < (tx_21.length : Int) by decide), show pl_e tx_21 tx_21.length 66 = 69 by decide, pl_q_w (k := 66) (e := 69) (ty := hwl 12) (by decide) (by decide)]
  refine congrArg (fun z => if lx_w S (hwl 12) = true then (12 : Int) else z) ?_
  show pl_f S tx_21 58 13 70 = _
  rw [show (58 : Nat) = 57 + 1 from rfl, pl_f_s, if_neg (show ¬ (70 : Int) < (tx_21.length : Int) by decide)]
theorem pl_21_k {w : Nat} {H p v : Int} (hB : zT B T n) (hI : wd_at Z w H) (hr : rw_I Z w) (hc : 13 ≤ Z w 7) (hv : nt_I Z w T n p v) : pl_of (zq B p) tx_21 = if v < 13 then v else -1 := by
  have h0 := hv.2.1.1
  rw [pl_21_w]
  have a0 := lx_w_k (k := 0) hB hI hr (by decide) hc hv
  have a1 := lx_w_k (k := 1) hB hI hr (by decide) hc hv
  have a2 := lx_w_k (k := 2) hB hI hr (by decide) hc hv
  have a3 := lx_w_k (k := 3) hB hI hr (by decide) hc hv
  have a4 := lx_w_k (k := 4) hB hI hr (by decide) hc hv
  have a5 := lx_w_k (k := 5) hB hI hr (by decide) hc hv
  have a6 := lx_w_k (k := 6) hB hI hr (by decide) hc hv
  have a7 := lx_w_k (k := 7) hB hI hr (by decide) hc hv
  have a8 := lx_w_k (k := 8) hB hI hr (by decide) hc hv
  have a9 := lx_w_k (k := 9) hB hI hr (by decide) hc hv
  have a10 := lx_w_k (k := 10) hB hI hr (by decide) hc hv
  have a11 := lx_w_k (k := 11) hB hI hr (by decide) hc hv
  have a12 := lx_w_k (k := 12) hB hI hr (by decide) hc hv
  by_cases c0 : v = 0
  · rw [if_pos (a0.2 c0), if_pos (by omega), c0]
  rw [if_neg (fun z => c0 (a0.1 z))]
  by_cases c1 : v = 1
  · rw [if_pos (a1.2 c1), if_pos (by omega), c1]
  rw [if_neg (fun z => c1 (a1.1 z))]
  by_cases c2 : v = 2
  · rw [if_pos (a2.2 c2), if_pos (by omega), c2]
  rw [if_neg (fun z => c2 (a2.1 z))]
  by_cases c3 : v = 3
  · rw [if_pos (a3.2 c3), if_pos (by omega), c3]
  rw [if_neg (fun z => c3 (a3.1 z))]
  by_cases c4 : v = 4
  · rw [if_pos (a4.2 c4), if_pos (by omega), c4]
  rw [if_neg (fun z => c4 (a4.1 z))]
  by_cases c5 : v = 5
  · rw [if_pos (a5.2 c5), if_pos (by omega), c5]
  rw [if_neg (fun z => c5 (a5.1 z))]
  by_cases c6 : v = 6
  · rw [if_pos (a6.2 c6), if_pos (by omega), c6]
  rw [if_neg (fun z => c6 (a6.1 z))]
  by_cases c7 : v = 7
  · rw [if_pos (a7.2 c7), if_pos (by omega), c7]
  rw [if_neg (fun z => c7 (a7.1 z))]
  by_cases c8 : v = 8
  · rw [if_pos (a8.2 c8), if_pos (by omega), c8]
  rw [if_neg (fun z => c8 (a8.1 z))]
  by_cases c9 : v = 9
  · rw [if_pos (a9.2 c9), if_pos (by omega), c9]
  rw [if_neg (fun z => c9 (a9.1 z))]
  by_cases c10 : v = 10
  · rw [if_pos (a10.2 c10), if_pos (by omega), c10]
  rw [if_neg (fun z => c10 (a10.1 z))]
  by_cases c11 : v = 11
  · rw [if_pos (a11.2 c11), if_pos (by omega), c11]
  rw [if_neg (fun z => c11 (a11.1 z))]
  by_cases c12 : v = 12
  · rw [if_pos (a12.2 c12), if_pos (by omega), c12]
  rw [if_neg (fun z => c12 (a12.1 z))]
  rw [if_neg (by omega)]
/-- the names of the classes read so far: those of B, and the class's own row -/
def cn_R (b ho t0 t5 w : Nat) (T : Int → Int) (B Z : wS) : Prop := Z ho 2 = B b 1 ∧ (0 ≤ B b 1 ∧ B b 1 ≤ 60) ∧ w_CL Z ∧ ∀ k : Int, 0 ≤ k → k < B b 1 → Z t0 k = B (b + 2) k ∧ (13 ≤ Z t5 k ∧ Z t5 k < Z w 7) ∧ wq (Z (w + 1)) (Z (w + 2)) (Z (w + 3)) T (B (b + 9) k) (B (b + 10) k - B (b + 9) k) (Z t5 k)
theorem tp_q_w {w : Nat} {H p v k : Int} {b ho t0 t5 : Nat} (hI : wd_at Z w H) (hR : cn_R b ho t0 t5 w T B Z) (hv : nt_I Z w T n p v) (hk : 0 ≤ k ∧ k < B b 1) : tp_q T (B (b + 9) k) (B (b + 10) k) p (lx_en T n 1 p) = true ↔ Z t5 k = v := by
  obtain ⟨-, h2, h3⟩ := hv
  obtain ⟨-, c2, c3⟩ := hR.2.2.2 k hk.1 hk.2
  rw [wq_2 hI ⟨by omega, c2.2⟩ h2 c3 h3]
  unfold tp_q
  exact decide_eq_true_iff
theorem ct_l_73 {B : wS} {H p v : Int} (hB : zT B T n) (hI : wd_at S 74 H) (hR : cn_R 241 73 87 92 74 T B S) (hv : nt_I S 74 T n p v) (hvr : v ≤ 2147483647) : ∀ (f : Nat) (k : Int), (B 241 1 - k).toNat < f → 0 ≤ k → k ≤ 60 → wJ (pe_GA xs) wY0 M d t_XO_classTyped ((pe_at t_XO_classTyped.bl 1).getD (0, [])).2 [(0, (2, 73)), (1, (0, v)), (2, (0, k))] [] S (fun o Z => S = Z ∧ o = .inl (some (0, ch_f T 1 p (lx_en T n 1 p) (B 250) (B 251) (B 241 1) f k))) := by
  have r1 : S 73 2 = B 241 1 := hR.1
  have r2 : 0 ≤ B 241 1 ∧ B 241 1 ≤ 60 := hR.2.1
  have hC : w_CL S := hR.2.2.1
  intro f
  induction f with
  | zero => intro k h; exact absurd h (Nat.not_lt_zero _)
  | succ f ih =>
    intro k hf hk0 hk1
    have hv0 := hv.2.1.1
    rw [ch_f_s]
    refine wa_iload_n (n := 2) rfl ?_
    refine wa_aload_n (n := 0) rfl ?_
    refine wb_gfi 73 rfl (wy_pr rfl) wt_73 wf_3_2 (v := (B 241 1)) (r1) (fun r1 => ?_)
    refine wa_icmpge (w_rg0 (by omega) (by omega)) (w_rg0 (by omega) (by omega)) ⟨_, rfl⟩ (fun c2 => ?_) (fun c2 => ?_)
    · skip
      refine wa_iconst ?_
      refine wa_ireturn rfl ?_
      rw [if_neg (by omega)]
      exact ⟨rfl, rfl⟩
    · skip
      refine wa_aload_n (n := 0) rfl ?_
      refine wb_gf4 73 rfl (wy_pr rfl) wt_73 wf_3_1 (v := 86) wl_73_1 ?_
      refine wa_iconst ?_
      refine wb_aald5 86 5 rfl rfl (wy_pr rfl) wt_86 (by rw [show _ = _ from ((cl_86 hC))]; omega) wl_86_5 ?_
      refine wa_iload_n (n := 2) rfl ?_
      refine wb_iald 92 rfl (wy_pr rfl) wt_92 (n := 60) ((cl_92 hC)) (by omega) (by omega) (v := (S 92 k)) rfl (fun r3 => ?_)
      refine wa_iload_n (n := 1) rfl ?_
      refine wa_icmpne (w_rg0 (by omega) (by omega)) (w_rg0 (by omega) (by omega)) ⟨_, rfl⟩ (fun c4 => ?_) (fun c4 => ?_)
      · skip
        refine wa_iinc rfl rfl ?_
        refine wa_goto ⟨_, rfl⟩ ?_
        have hq : ¬ tp_q T (B 250 k) (B 251 k) p (lx_en T n 1 p) = true := fun z => absurd ((tp_q_w hI hR hv ⟨hk0, by omega⟩).1 z) (by omega)
        rw [if_pos (by omega), if_neg (fun z => hq z.2)]
        exact wJ_S (ih (k + 1) (by omega) (by omega) (by omega)) ⟨rfl, rfl, rfl, trivial⟩
      · skip
        refine wa_iload_n (n := 2) rfl ?_
        refine wa_ireturn rfl ?_
        have hq : tp_q T (B 250 k) (B 251 k) p (lx_en T n 1 p) = true := (tp_q_w hI hR hv ⟨hk0, by omega⟩).2 (by omega)
        rw [if_pos (by omega), if_pos ⟨rfl, hq⟩]
        exact ⟨rfl, rfl⟩
theorem ct_73 {B : wS} {H p v : Int} (hB : zT B T n) (hI : wd_at S 74 H) (hR : cn_R 241 73 87 92 74 T B S) (hv : nt_I S 74 T n p v) (hvr : v ≤ 2147483647) : wJ (pe_GA xs) wY0 M d t_XO_classTyped ((pe_at t_XO_classTyped.bl 0).getD (0, [])).2 [(0, (2, 73)), (1, (0, v))] [] S (fun o Z => S = Z ∧ o = .inl (some (0, ch_of (zq B p) 241))) := by
  have e : ch_of (zq B p) 241 = ch_f T 1 p (lx_en T n 1 p) (B 250) (B 251) (B 241 1) ((B 241 1).toNat + 1) 0 := by
    unfold ch_of
    rw [zT_T hB, zT_6 hB, zT_8 hB, zq_7, zq_o (show 241 + 9 ≠ 237 by decide), zq_o (show 241 + 10 ≠ 237 by decide), zq_o (show 241 ≠ 237 by decide), hv.1]
  rw [e]
  refine wa_iconst ?_
  refine wa_istore_n (n := 2) rfl ?_
  refine wa_fall ⟨_, rfl⟩ ?_
  exact wJ_S (ct_l_73 hB hI hR hv hvr ((B 241 1).toNat + 1) 0 (by omega) (by omega) (by omega)) ⟨rfl, rfl, rfl, trivial⟩
theorem ct_l_162 {B : wS} {H p v : Int} (hB : zT B T n) (hI : wd_at S 163 H) (hR : cn_R 261 162 176 181 163 T B S) (hv : nt_I S 163 T n p v) (hvr : v ≤ 2147483647) : ∀ (f : Nat) (k : Int), (B 261 1 - k).toNat < f → 0 ≤ k → k ≤ 60 → wJ (pe_GA xs) wY0 M d t_XO_classTyped ((pe_at t_XO_classTyped.bl 1).getD (0, [])).2 [(0, (2, 162)), (1, (0, v)), (2, (0, k))] [] S (fun o Z => S = Z ∧ o = .inl (some (0, ch_f T 1 p (lx_en T n 1 p) (B 270) (B 271) (B 261 1) f k))) := by
  have r1 : S 162 2 = B 261 1 := hR.1
  have r2 : 0 ≤ B 261 1 ∧ B 261 1 ≤ 60 := hR.2.1
  have hC : w_CL S := hR.2.2.1
  intro f
  induction f with
  | zero => intro k h; exact absurd h (Nat.not_lt_zero _)
  | succ f ih =>
    intro k hf hk0 hk1
    have hv0 := hv.2.1.1
    rw [ch_f_s]
    refine wa_iload_n (n := 2) rfl ?_
    refine wa_aload_n (n := 0) rfl ?_
    refine wb_gfi 162 rfl (wy_pr rfl) wt_162 wf_3_2 (v := (B 261 1)) (r1) (fun r1 => ?_)
    refine wa_icmpge (w_rg0 (by omega) (by omega)) (w_rg0 (by omega) (by omega)) ⟨_, rfl⟩ (fun c2 => ?_) (fun c2 => ?_)
    · skip
      refine wa_iconst ?_
      refine wa_ireturn rfl ?_
      rw [if_neg (by omega)]
      exact ⟨rfl, rfl⟩
    · skip
      refine wa_aload_n (n := 0) rfl ?_
      refine wb_gf4 162 rfl (wy_pr rfl) wt_162 wf_3_1 (v := 175) wl_162_1 ?_
      refine wa_iconst ?_
      refine wb_aald5 175 5 rfl rfl (wy_pr rfl) wt_175 (by rw [show _ = _ from ((cl_175 hC))]; omega) wl_175_5 ?_
      refine wa_iload_n (n := 2) rfl ?_
      refine wb_iald 181 rfl (wy_pr rfl) wt_181 (n := 60) ((cl_181 hC)) (by omega) (by omega) (v := (S 181 k)) rfl (fun r3 => ?_)
      refine wa_iload_n (n := 1) rfl ?_
      refine wa_icmpne (w_rg0 (by omega) (by omega)) (w_rg0 (by omega) (by omega)) ⟨_, rfl⟩ (fun c4 => ?_) (fun c4 => ?_)
      · skip
        refine wa_iinc rfl rfl ?_
        refine wa_goto ⟨_, rfl⟩ ?_
        have hq : ¬ tp_q T (B 270 k) (B 271 k) p (lx_en T n 1 p) = true := fun z => absurd ((tp_q_w hI hR hv ⟨hk0, by omega⟩).1 z) (by omega)
        rw [if_pos (by omega), if_neg (fun z => hq z.2)]
        exact wJ_S (ih (k + 1) (by omega) (by omega) (by omega)) ⟨rfl, rfl, rfl, trivial⟩
      · skip
        refine wa_iload_n (n := 2) rfl ?_
        refine wa_ireturn rfl ?_
        have hq : tp_q T (B 270 k) (B 271 k) p (lx_en T n 1 p) = true := (tp_q_w hI hR hv ⟨hk0, by omega⟩).2 (by omega)
        rw [if_pos (by omega), if_pos ⟨rfl, hq⟩]
        exact ⟨rfl, rfl⟩
theorem ct_162 {B : wS} {H p v : Int} (hB : zT B T n) (hI : wd_at S 163 H) (hR : cn_R 261 162 176 181 163 T B S) (hv : nt_I S 163 T n p v) (hvr : v ≤ 2147483647) : wJ (pe_GA xs) wY0 M d t_XO_classTyped ((pe_at t_XO_classTyped.bl 0).getD (0, [])).2 [(0, (2, 162)), (1, (0, v))] [] S (fun o Z => S = Z ∧ o = .inl (some (0, ch_of (zq B p) 261))) := by
  have e : ch_of (zq B p) 261 = ch_f T 1 p (lx_en T n 1 p) (B 270) (B 271) (B 261 1) ((B 261 1).toNat + 1) 0 := by
    unfold ch_of
    rw [zT_T hB, zT_6 hB, zT_8 hB, zq_7, zq_o (show 261 + 9 ≠ 237 by decide), zq_o (show 261 + 10 ≠ 237 by decide), zq_o (show 261 ≠ 237 by decide), hv.1]
  rw [e]
  refine wa_iconst ?_
  refine wa_istore_n (n := 2) rfl ?_
  refine wa_fall ⟨_, rfl⟩ ?_
  exact wJ_S (ct_l_162 hB hI hR hv hvr ((B 261 1).toNat + 1) 0 (by omega) (by omega) (by omega)) ⟨rfl, rfl, rfl, trivial⟩
end W9k
