/-! PART b4: the reference's keywords; takesName. -/
section Wb4
variable {xs : List (Nat × List Int32)} {M : Nat → Prop} {d : Nat} {A B C S Z : wS} {Q : wO → wS → Prop} {L : List (List Int)}
/-- the words that are no names -/
def kw_l : List (List Int32) := [[118, 97, 114], [102, 117, 110], [105, 102], [101, 108, 115, 101], [119, 104, 105, 108, 101], [114, 101, 116, 117, 114, 110], [116, 104, 114, 111, 119], [116, 114, 121], [99, 97, 116, 99, 104], [110, 101, 119], [116, 104, 105, 115], [110, 117, 108, 108], [116, 114, 117, 101], [102, 97, 108, 115, 101], [112, 114, 105, 110, 116], [109, 97, 107, 101], [112, 114, 111, 116, 111], [116, 117, 114, 110], [100, 114, 111, 112], [104, 97, 115], [107, 105, 110, 100], [104, 111, 115, 116]]
def kwl (k : Nat) : List Int32 := kw_l.getD k []
theorem pl_85_w (S : wS) : pl_of S tx_85 = if lx_w S (kwl 0) = true then 0 else if lx_w S (kwl 1) = true then 1 else if lx_w S (kwl 2) = true then 2 else if lx_w S (kwl 3) = true then 3 else if lx_w S (kwl 4) = true then 4 else if lx_w S (kwl 5) = true then 5 else if lx_w S (kwl 6) = true then 6 else if lx_w S (kwl 7) = true then 7 else if lx_w S (kwl 8) = true then 8 else if lx_w S (kwl 9) = true then 9 else if lx_w S (kwl 10) = true then 10 else if lx_w S (kwl 11) = true then 11 else if lx_w S (kwl 12) = true then 12 else if lx_w S (kwl 13) = true then 13 else if lx_w S (kwl 14) = true then 14 else if lx_w S (kwl 15) = true then 15 else if lx_w S (kwl 16) = true then 16 else if lx_w S (kwl 17) = true then 17 else if lx_w S (kwl 18) = true then 18 else if lx_w S (kwl 19) = true then 19 else if lx_w S (kwl 20) = true then 20 else if lx_w S (kwl 21) = true then 21 else -1 := by
  show pl_f S tx_85 113 0 1 = _
  rw [show (113 : Nat) = 112 + 1 from rfl, pl_f_s, if_pos (show (1 : Int) < (tx_85.length : Int) by decide), show pl_e tx_85 tx_85.length 1 = 4 by decide +kernel, pl_q_w (k := 1) (e := 4) (ty := kwl 0) (by decide) (by decide +kernel)]
  refine congrArg (fun z => if lx_w S (kwl 0) = true then (0 : Int) else z) ?_
  show pl_f S tx_85 112 1 5 = _
  rw [show (112 : Nat) = 111 + 1 from rfl, pl_f_s, if_pos (show (5 : Int) < (tx_85.length : Int) by decide), show pl_e tx_85 tx_85.length 5 = 8 by decide +kernel, pl_q_w (k := 5) (e := 8) (ty := kwl 1) (by decide) (by decide +kernel)]
  refine congrArg (fun z => if lx_w S (kwl 1) = true then (1 : Int) else z) ?_
  show pl_f S tx_85 111 2 9 = _
  rw [show (111 : Nat) = 110 + 1 from rfl, pl_f_s, if_pos (show (9 : Int) < (tx_85.length : Int) by decide), show pl_e tx_85 tx_85.length 9 = 11 by decide +kernel, pl_q_w (k := 9) (e := 11) (ty := kwl 2) (by decide) (by decide +kernel)]
  refine congrArg (fun z => if lx_w S (kwl 2) = true then (2 : Int) else z) ?_
  show pl_f S tx_85 110 3 12 = _
  rw [show (110 : Nat) = 109 + 1 from rfl, pl_f_s, if_pos (show (12 : Int) < (tx_85.length : Int) by decide), show pl_e tx_85 tx_85.length 12 = 16 by decide +kernel, pl_q_w (k := 12) (e := 16) (ty := kwl 3) (by decide) (by decide +kernel)]
  refine congrArg (fun z => if lx_w S (kwl 3) = true then (3 : Int) else z) ?_
  show pl_f S tx_85 109 4 17 = _
  rw [show (109 : Nat) = 108 + 1 from rfl, pl_f_s, if_pos (show (17 : Int) < (tx_85.length : Int) by decide), show pl_e tx_85 tx_85.length 17 = 22 by decide +kernel, pl_q_w (k := 17) (e := 22) (ty := kwl 4) (by decide) (by decide +kernel)]
  refine congrArg (fun z => if lx_w S (kwl 4) = true then (4 : Int) else z) ?_
  show pl_f S tx_85 108 5 23 = _
  rw [show (108 : Nat) = 107 + 1 from rfl, pl_f_s, if_pos (show (23 : Int) < (tx_85.length : Int) by decide), show pl_e tx_85 tx_85.length 23 = 29 by decide +kernel, pl_q_w (k := 23) (e := 29) (ty := kwl 5) (by decide) (by decide +kernel)]
  refine congrArg (fun z => if lx_w S (kwl 5) = true then (5 : Int) else z) ?_
  show pl_f S tx_85 107 6 30 = _
  rw [show (107 : Nat) = 106 + 1 from rfl, pl_f_s, if_pos (show (30 : Int) < (tx_85.length : Int) by decide), show pl_e tx_85 tx_85.length 30 = 35 by decide +kernel, pl_q_w (k := 30) (e := 35) (ty := kwl 6) (by decide) (by decide +kernel)]
  refine congrArg (fun z => if lx_w S (kwl 6) = true then (6 : Int) else z) ?_
  show pl_f S tx_85 106 7 36 = _
  rw [show (106 : Nat) = 105 + 1 from rfl, pl_f_s, if_pos (show (36 : Int) < (tx_85.length : Int) by decide), show pl_e tx_85 tx_85.length 36 = 39 by decide +kernel, pl_q_w (k := 36) (e := 39) (ty := kwl 7) (by decide) (by decide +kernel)]
  refine congrArg (fun z => if lx_w S (kwl 7) = true then (7 : Int) else z) ?_
  show pl_f S tx_85 105 8 40 = _
  rw [show (105 : Nat) = 104 + 1 from rfl, pl_f_s, if_pos (show (40 : Int) < (tx_85.length : Int) by decide), show pl_e tx_85 tx_85.length 40 = 45 by decide +kernel, pl_q_w (k := 40) (e := 45) (ty := kwl 8) (by decide) (by decide +kernel)]
  refine congrArg (fun z => if lx_w S (kwl 8) = true then (8 : Int) else z) ?_
  show pl_f S tx_85 104 9 46 = _
  rw [show (104 : Nat) = 103 + 1 from rfl, pl_f_s, if_pos (show (46 : Int) < (tx_85.length : Int) by decide), show pl_e tx_85 tx_85.length 46 = 49 by decide +kernel, pl_q_w (k := 46) (e := 49) (ty := kwl 9) (by decide) (by decide +kernel)]
  refine congrArg (fun z => if lx_w S (kwl 9) = true then (9 : Int) else z) ?_
  show pl_f S tx_85 103 10 50 = _
  rw [show (103 : Nat) = 102 + 1 from rfl, pl_f_s, if_pos (show (50 : Int) < (tx_85.length : Int) by decide), show pl_e tx_85 tx_85.length 50 = 54 by decide +kernel, pl_q_w (k := 50) (e := 54) (ty := kwl 10) (by decide) (by decide +kernel)]
  refine congrArg (fun z => if lx_w S (kwl 10) = true then (10 : Int) else z) ?_
  show pl_f S tx_85 102 11 55 = _
  rw [show (102 : Nat) = 101 + 1 from rfl, pl_f_s, if_pos (show (55 : Int) < (tx_85.length : Int) by decide), show pl_e tx_85 tx_85.length 55 = 59 by decide +kernel, pl_q_w (k := 55) (e := 59) (ty := kwl 11) (by decide) (by decide +kernel)]
  refine congrArg (fun z => if lx_w S (kwl 11) = true then (11 : Int) else z) ?_
  show pl_f S tx_85 101 12 60 = _
  rw [show (101 : Nat) = 100 + 1 from rfl, pl_f_s, if_pos (show (60 : Int) < (tx_85.length : Int) by decide), show pl_e tx_85 tx_85.length 60 = 64 by decide +kernel, pl_q_w (k := 60) (e := 64) (ty := kwl 12) (by decide) (by decide +kernel)]
  refine congrArg (fun z => if lx_w S (kwl 12) = true then (12 : Int) else z) ?_
  show pl_f S tx_85 100 13 65 = _
  rw [show (100 : Nat) = 99 + 1 from rfl, pl_f_s, if_pos (show (65 : Int) < (tx_85.length : Int) by decide), show pl_e tx_85 tx_85.length 65 = 70 by decide +kernel, pl_q_w (k := 65) (e := 70) (ty := kwl 13) (by decide) (by decide +kernel)]
  refine congrArg (fun z => if lx_w S (kwl 13) = true then (13 : Int) else z) ?_
  show pl_f S tx_85 99 14 71 = _
  rw [show (99 : Nat) = 98 + 1 from rfl, pl_f_s, if_pos (show (71 : Int) < (tx_85.length : Int) by decide), show pl_e tx_85 tx_85.length 71 = 76 by decide +kernel, pl_q_w (k := 71) (e := 76) (ty := kwl 14) (by decide) (by decide +kernel)]
  refine congrArg (fun z => if lx_w S (kwl 14) = true then (14 : Int) else z) ?_
  show pl_f S tx_85 98 15 77 = _
  rw [show (98 : Nat) = 97 + 1 from rfl, pl_f_s, if_pos (show (77 : Int) < (tx_85.length : Int) by decide), show pl_e tx_85 tx_85.length 77 = 81 by decide +kernel, pl_q_w (k := 77) (e := 81) (ty := kwl 15) (by decide) (by decide +kernel)]
  refine congrArg (fun z => if lx_w S (kwl 15) = true then (15 : Int) else z) ?_
  show pl_f S tx_85 97 16 82 = _
  rw [show (97 : Nat) = 96 + 1 from rfl, pl_f_s, if_pos (show (82 : Int) < (tx_85.length : Int) by decide), show pl_e tx_85 tx_85.length 82 = 87 by decide +kernel, pl_q_w (k := 82) (e := 87) (ty := kwl 16) (by decide) (by decide +kernel)]
  refine congrArg (fun z => if lx_w S (kwl 16) = true then (16 : Int) else z) ?_
  show pl_f S tx_85 96 17 88 = _
  rw [show (96 : Nat) = 95 + 1 from rfl, pl_f_s, if_pos (show (88 : Int) < (tx_85.length : Int) by decide), show pl_e tx_85 tx_85.length 88 = 92 by decide +kernel, pl_q_w (k := 88) (e := 92) (ty := kwl 17) (by decide) (by decide +kernel)]
  refine congrArg (fun z => if lx_w S (kwl 17) = true then (17 : Int) else z) ?_
  show pl_f S tx_85 95 18 93 = _
  rw [show (95 : Nat) = 94 + 1 from rfl, pl_f_s, if_pos (show (93 : Int) < (tx_85.length : Int) by decide), show pl_e tx_85 tx_85.length 93 = 97 by decide +kernel, pl_q_w (k := 93) (e := 97) (ty := kwl 18) (by decide) (by decide +kernel)]
  refine congrArg (fun z => if lx_w S (kwl 18) = true then (18 : Int) else z) ?_
  show pl_f S tx_85 94 19 98 = _
  rw [show (94 : Nat) = 93 + 1 from rfl, pl_f_s, if_pos (show (98 : Int) < (tx_85.length : Int) by decide), show pl_e tx_85 tx_85.length 98 = 101 by decide +kernel, pl_q_w (k := 98) (e := 101) (ty := kwl 19) (by decide) (by decide +kernel)]
  refine congrArg (fun z => if lx_w S (kwl 19) = true then (19 : Int) else z) ?_
  show pl_f S tx_85 93 20 102 = _
  rw [show (93 : Nat) = 92 + 1 from rfl, pl_f_s, if_pos (show (102 : Int) < (tx_85.length : Int) by decide), show pl_e tx_85 tx_85.length 102 = 106 by decide +kernel, pl_q_w (k := 102) (e := 106) (ty := kwl 20) (by decide) (by decide +kernel)]
  refine congrArg (fun z => if lx_w S (kwl 20) = true then (20 : Int) else z) ?_
  show pl_f S tx_85 92 21 107 = _
  rw [show (92 : Nat) = 91 + 1 from rfl, pl_f_s, if_pos (show (107 : Int) < (tx_85.length : Int) by decide), show pl_e tx_85 tx_85.length 107 = 111 by decide +kernel, pl_q_w (k := 107) (e := 111) (ty := kwl 21) (by decide) (by decide +kernel)]
  refine congrArg (fun z => if lx_w S (kwl 21) = true then (21 : Int) else z) ?_
  show pl_f S tx_85 91 22 112 = _
  rw [show (91 : Nat) = 90 + 1 from rfl, pl_f_s, if_neg (show ¬ (112 : Int) < (tx_85.length : Int) by decide)]
theorem kwl_wl : ∀ k : Nat, k < 22 → (kwl k).length = (wl2.getD k []).length ∧ ∀ i : Nat, i < (kwl k).length → w_tx (kwl k) (i : Int) = (wl2.getD k []).getD i 0 := by decide +kernel
theorem lx_w_kw {k : Nat} (hk : k < 22) (h1 : S 237 6 = 1) (h78 : S 237 7 ≤ S 237 8) : lx_w S (kwl k) = true ↔ wl2.getD k [] = sl_ (S 239) (S 237 7) (S 237 8 - S 237 7) := by
  obtain ⟨a1, a2⟩ := kwl_wl k hk
  rw [sl_eq (by omega)]
  unfold lx_w
  rw [decide_eq_true_iff]
  constructor
  · rintro ⟨-, e1, e2⟩
    exact ⟨by omega, fun i hi => by rw [← a2 i (by omega), e2 i (by omega)]⟩
  · rintro ⟨e1, e2⟩
    exact ⟨h1, by omega, fun i hi => by rw [a2 i hi, e2 i (by omega)]⟩
theorem oo_85 (h1 : S 237 6 = 1) (h78 : S 237 7 ≤ S 237 8) : lx_oo S tx_85 = true ↔ kwL (sl_ (S 239) (S 237 7) (S 237 8 - S 237 7)) ≠ -1 := by
  have hw : ∀ k : Nat, k < 22 → (lx_w S (kwl k) = true ↔ wl2.getD k [] = sl_ (S 239) (S 237 7) (S 237 8 - S 237 7)) := fun k hk => lx_w_kw hk h1 h78
  have hg : ∀ j : Nat, j < 22 → (wl2.take 22).getD j [] = wl2.getD j [] := by decide +kernel
  have hmem : sl_ (S 239) (S 237 7) (S 237 8 - S 237 7) ∈ wl2.take 22 ↔ ∃ k : Nat, k < 22 ∧ lx_w S (kwl k) = true := by
    constructor
    · intro h
      obtain ⟨g1, g2⟩ := getD_idx h
      have g1 : (wl2.take 22).idxOf (sl_ (S 239) (S 237 7) (S 237 8 - S 237 7)) < 22 := g1
      exact ⟨_, g1, (hw _ g1).mpr (by rw [← hg _ g1]; exact g2)⟩
    · rintro ⟨k, hk, h⟩
      rw [← (hw k hk).mp h, ← hg k hk, List.getD_eq_getElem?_getD, List.getElem?_eq_getElem (show k < (wl2.take 22).length from hk)]
      exact List.getElem_mem _
  unfold lx_oo
  rw [decide_eq_true_iff]
  constructor
  · rintro ⟨-, h⟩ hk
    have hn : ¬ ∃ k : Nat, k < 22 ∧ lx_w S (kwl k) = true := fun q => by
      have := hmem.mpr q
      unfold kwL at hk
      rw [if_pos this] at hk
      omega
    have hf : ∀ k : Nat, k < 22 → ¬ lx_w S (kwl k) = true := fun k q1 q2 => hn ⟨k, q1, q2⟩
    rw [pl_85_w] at h
    rw [if_neg (hf 0 (by decide)), if_neg (hf 1 (by decide)), if_neg (hf 2 (by decide)), if_neg (hf 3 (by decide)), if_neg (hf 4 (by decide)), if_neg (hf 5 (by decide)), if_neg (hf 6 (by decide)), if_neg (hf 7 (by decide)), if_neg (hf 8 (by decide)), if_neg (hf 9 (by decide)), if_neg (hf 10 (by decide)), if_neg (hf 11 (by decide)), if_neg (hf 12 (by decide)), if_neg (hf 13 (by decide)), if_neg (hf 14 (by decide)), if_neg (hf 15 (by decide)), if_neg (hf 16 (by decide)), if_neg (hf 17 (by decide)), if_neg (hf 18 (by decide)), if_neg (hf 19 (by decide)), if_neg (hf 20 (by decide)), if_neg (hf 21 (by decide))] at h
    omega
  · intro hk
    refine ⟨h1, ?_⟩
    have hm : sl_ (S 239) (S 237 7) (S 237 8 - S 237 7) ∈ wl2.take 22 := Decidable.byContradiction (fun q => hk (if_neg q))
    obtain ⟨k, hk2, hw2⟩ := hmem.mp hm
    rw [pl_85_w]
    refine Decidable.byContradiction (fun hneg => ?_)
    have f0 : ¬ lx_w S (kwl 0) = true := fun q => hneg (by rw [if_pos q]; decide)
    rw [if_neg f0] at hneg
    have f1 : ¬ lx_w S (kwl 1) = true := fun q => hneg (by rw [if_pos q]; decide)
    rw [if_neg f1] at hneg
    have f2 : ¬ lx_w S (kwl 2) = true := fun q => hneg (by rw [if_pos q]; decide)
    rw [if_neg f2] at hneg
    have f3 : ¬ lx_w S (kwl 3) = true := fun q => hneg (by rw [if_pos q]; decide)
    rw [if_neg f3] at hneg
    have f4 : ¬ lx_w S (kwl 4) = true := fun q => hneg (by rw [if_pos q]; decide)
    rw [if_neg f4] at hneg
    have f5 : ¬ lx_w S (kwl 5) = true := fun q => hneg (by rw [if_pos q]; decide)
    rw [if_neg f5] at hneg
    have f6 : ¬ lx_w S (kwl 6) = true := fun q => hneg (by rw [if_pos q]; decide)
    rw [if_neg f6] at hneg
    have f7 : ¬ lx_w S (kwl 7) = true := fun q => hneg (by rw [if_pos q]; decide)
    rw [if_neg f7] at hneg
    have f8 : ¬ lx_w S (kwl 8) = true := fun q => hneg (by rw [if_pos q]; decide)
    rw [if_neg f8] at hneg
    have f9 : ¬ lx_w S (kwl 9) = true := fun q => hneg (by rw [if_pos q]; decide)
    rw [if_neg f9] at hneg
    have f10 : ¬ lx_w S (kwl 10) = true := fun q => hneg (by rw [if_pos q]; decide)
    rw [if_neg f10] at hneg
    have f11 : ¬ lx_w S (kwl 11) = true := fun q => hneg (by rw [if_pos q]; decide)
    rw [if_neg f11] at hneg
    have f12 : ¬ lx_w S (kwl 12) = true := fun q => hneg (by rw [if_pos q]; decide)
    rw [if_neg f12] at hneg
    have f13 : ¬ lx_w S (kwl 13) = true := fun q => hneg (by rw [if_pos q]; decide)
    rw [if_neg f13] at hneg
    have f14 : ¬ lx_w S (kwl 14) = true := fun q => hneg (by rw [if_pos q]; decide)
    rw [if_neg f14] at hneg
    have f15 : ¬ lx_w S (kwl 15) = true := fun q => hneg (by rw [if_pos q]; decide)
    rw [if_neg f15] at hneg
    have f16 : ¬ lx_w S (kwl 16) = true := fun q => hneg (by rw [if_pos q]; decide)
    rw [if_neg f16] at hneg
    have f17 : ¬ lx_w S (kwl 17) = true := fun q => hneg (by rw [if_pos q]; decide)
    rw [if_neg f17] at hneg
    have f18 : ¬ lx_w S (kwl 18) = true := fun q => hneg (by rw [if_pos q]; decide)
    rw [if_neg f18] at hneg
    have f19 : ¬ lx_w S (kwl 19) = true := fun q => hneg (by rw [if_pos q]; decide)
    rw [if_neg f19] at hneg
    have f20 : ¬ lx_w S (kwl 20) = true := fun q => hneg (by rw [if_pos q]; decide)
    rw [if_neg f20] at hneg
    have f21 : ¬ lx_w S (kwl 21) = true := fun q => hneg (by rw [if_pos q]; decide)
    rw [if_neg f21] at hneg
    exact absurd hw2 (by rcases (show k = 0 ∨ k = 1 ∨ k = 2 ∨ k = 3 ∨ k = 4 ∨ k = 5 ∨ k = 6 ∨ k = 7 ∨ k = 8 ∨ k = 9 ∨ k = 10 ∨ k = 11 ∨ k = 12 ∨ k = 13 ∨ k = 14 ∨ k = 15 ∨ k = 16 ∨ k = 17 ∨ k = 18 ∨ k = 19 ∨ k = 20 ∨ k = 21 by omega) with rfl | rfl | rfl | rfl | rfl | rfl | rfl | rfl | rfl | rfl | rfl | rfl | rfl | rfl | rfl | rfl | rfl | rfl | rfl | rfl | rfl | rfl <;> assumption)
end Wb4
