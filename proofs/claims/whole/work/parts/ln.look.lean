/-! PART ln: looking at a site: what is asked is counted, what is found is linked. -/
section Wln
variable {Sb : wS} {xs : List (Nat × List Int32)} {d : Nat} {S0 S Z : wS} {p w m : Nat} {HT : Int → Int} {cs : List hCR} {ms : List hMR} {os : Int → List Int} {X : List (List Int)} {mo t n B B2 oq : Int} {fa : Int → Int} {WE : aA → Prop} {A A2 : aA} {K2 : aK} {ml : List Nat} {k c s kd nms ne ec bh nm en : Int} {b ba : Nat} {ar : List aV} {e : aE} {V Z2 Y : wS} {o : wO} {dn : Int} {H2 : List aH} {N2 : List (List Int)} {E2 : Int → List aE} {C2 : List aQ} {W2 : Int} {c2 : Int → Int} {k2 : Int → Int → Int} {mk rk : Nat → Int → Prop} {K : aK} {T : List aO} {H : List aH} {E : Int → List aE} {gk gb es lo hi a : Int} {r : List aE × Int × Option aE} {A1 : aA} {tl cl : List Int} {sl : Nat → List Int} {L : List aC} {G : Int → aV} {u : aV} {x : List Int} {T2 : List aO} {L2 : List aC} {G2 : Int → aV} {H2 : List aH} {c2 : Int → Int} {y : Int} {Q : wO → wS → Prop} {ps : List (Int × aV)} {k hd wh : Int} {f a9 pn fn md : Int} {vn m9 : Nat} {th : aV} {g : Int} {lp : List aV} {l ds fo g : Int} {mk : Nat → Int → Prop} {C2 : List aQ} {W2 : Int} {RZ : wS → Prop} {N3 : Nat}
/-- something was asked: shapes and choices may have come -/
def u_Q (A : aA) (H2 : List aH) (C2 : List aQ) (W2 l ds : Int) : aA := u_L A H2 (a_N A) (a_E A) C2 W2 (fUp (fUp (a_c A) (20 + l) (a_c A (20 + l) + 1)) 4 (a_c A 4 + ds)) (a_k A)
def kLk (k : Int → Int → Int) (s : Int) : Int → Int → Int := fUp k s (fUp (fUp (k s) 0 (if k s 3 = 1 then k s 0 else k s 0 + 1)) 3 (if k s 3 = 1 then 1 else if k s 0 = 8 then 1 else 0))
/-- an entry was linked -/
def u_N (A : aA) (s : Int) (e : aE) : aA := u_L A (a_H A) (a_N A) (fUp (a_E A) s (lnE (a_k A s 3) (a_k A s 0) e (a_E A s))) (a_C A) (a_W A) (a_c A) (kLk (a_k A) s)
theorem kLk_n {k : Int → Int → Int} {q : Int} (h : q ≠ s) : kLk k s q = k q := fUp_n h
theorem kLk_0 {k : Int → Int → Int} : kLk k s s 0 = (if k s 3 = 1 then k s 0 else k s 0 + 1) := by unfold kLk; rw [fUp_s, fUp_n (by first | decide | omega), fUp_s]
theorem kLk_1 {k : Int → Int → Int} : kLk k s s 1 = k s 1 := by unfold kLk; rw [fUp_s, fUp_n (by first | decide | omega), fUp_n (by first | decide | omega)]
theorem kLk_2 {k : Int → Int → Int} : kLk k s s 2 = k s 2 := by unfold kLk; rw [fUp_s, fUp_n (by first | decide | omega), fUp_n (by first | decide | omega)]
theorem kLk_3 {k : Int → Int → Int} : kLk k s s 3 = (if k s 3 = 1 then 1 else if k s 0 = 8 then 1 else 0) := by unfold kLk; rw [fUp_s, fUp_s]
theorem cq_w (hl : 0 ≤ l ∧ l ≤ 3) : a_c A 21 + a_c A 22 ≤ (fUp (fUp (a_c A) (20 + l) (a_c A (20 + l) + 1)) 4 (a_c A 4 + ds)) 21 + (fUp (fUp (a_c A) (20 + l) (a_c A (20 + l) + 1)) 4 (a_c A 4 + ds)) 22 := by
  have f1 : (fUp (fUp (a_c A) (20 + l) (a_c A (20 + l) + 1)) 4 (a_c A 4 + ds)) 21 = (fUp (a_c A) (20 + l) (a_c A (20 + l) + 1)) 21 := fUp_n (by first | decide | omega)
  have f2 : (fUp (fUp (a_c A) (20 + l) (a_c A (20 + l) + 1)) 4 (a_c A 4 + ds)) 22 = (fUp (a_c A) (20 + l) (a_c A (20 + l) + 1)) 22 := fUp_n (by first | decide | omega)
  rw [f1, f2]
  by_cases h1 : l = 1
  · subst h1
    rw [show (20 + 1 : Int) = 21 from rfl, fUp_s, fUp_n (by first | decide | omega)]
    omega
  · by_cases h2 : l = 2
    · subst h2
      rw [show (20 + 2 : Int) = 22 from rfl, fUp_s, fUp_n (by first | decide | omega)]
      omega
    · rw [fUp_n (by omega), fUp_n (by omega)]
      exact Int.le_refl _
theorem cq_w1 (hl : l = 1 ∨ l = 2) : (fUp (fUp (a_c A) (20 + l) (a_c A (20 + l) + 1)) 4 (a_c A 4 + ds)) 21 + (fUp (fUp (a_c A) (20 + l) (a_c A (20 + l) + 1)) 4 (a_c A 4 + ds)) 22 = a_c A 21 + a_c A 22 + 1 := by
  have f1 : (fUp (fUp (a_c A) (20 + l) (a_c A (20 + l) + 1)) 4 (a_c A 4 + ds)) 21 = (fUp (a_c A) (20 + l) (a_c A (20 + l) + 1)) 21 := fUp_n (by first | decide | omega)
  have f2 : (fUp (fUp (a_c A) (20 + l) (a_c A (20 + l) + 1)) 4 (a_c A 4 + ds)) 22 = (fUp (a_c A) (20 + l) (a_c A (20 + l) + 1)) 22 := fUp_n (by first | decide | omega)
  rw [f1, f2]
  rcases hl with h1 | h2
  · subst h1
    rw [show (20 + 1 : Int) = 21 from rfl, fUp_s, fUp_n (by first | decide | omega)]
    omega
  · subst h2
    rw [show (20 + 2 : Int) = 22 from rfl, fUp_s, fUp_n (by first | decide | omega)]
    omega
theorem cq_4 : (fUp (fUp (a_c A) (20 + l) (a_c A (20 + l) + 1)) 4 (a_c A 4 + ds)) 4 = a_c A 4 + ds := fUp_s
theorem cq_l (h : 0 ≤ l) : (fUp (fUp (a_c A) (20 + l) (a_c A (20 + l) + 1)) 4 (a_c A 4 + ds)) (20 + l) = a_c A (20 + l) + 1 := by rw [fUp_n (by omega), fUp_s]
theorem cq_n {i : Int} (h : i ≠ 4) (h2 : i ≠ 20 + l) : (fUp (fUp (a_c A) (20 + l) (a_c A (20 + l) + 1)) 4 (a_c A 4 + ds)) i = a_c A i := by rw [fUp_n h, fUp_n h2]
theorem wz_48 : ∀ q ∈ wz_n, ¬ (48 ≤ q.1 ∧ q.1 ≤ 57) := by decide
/-- the class has looked -/
theorem lk_R (hp : p = 73 ∨ p = 162) (hw : isWt w t) (hY : cRel S0 p HT cs ms os X mo A Y) (hfo : Y 158 14 = fo) (h0 : 0 ≤ fo) (hl : 0 ≤ l ∧ l ≤ 3) (hmk : mkL mk) (hmk2 : ∀ (j : Nat) (x : Int), mk j x → mLk p j x) (h150 : ∀ x : Int, x ≠ 4 → ¬ mk 150 x) (hF : lkF w fo mk (bkZ fo l (w_up Y 160 l (Y 160 l + 1))) Z) (hCL : w_CL Z) (hSw : cSw Z (a_T A) H2) (hCh : cCh p (p + 48) (p + 47) (p + 1) HT cs ms os C2 W2 mo Z) (h4 : Z 150 4 = a_c A 4 + ds) : cRel S0 p HT cs ms os X mo (u_Q A H2 C2 W2 l ds) Z := by
  have ww := isWt_w hw
  obtain ⟨ix, fl, ow, hE⟩ := hY.2.2.2.2.1
  obtain ⟨se, f⟩ := lkF_se hE hfo ww hmk hl h0 hF
  have hg : wG = 1000000 := rfl
  have fq : ∀ (j : Nat) (x : Int), j < 237 → ¬ (48 ≤ j ∧ j ≤ 57 ∧ x = fo) → (j ≠ w ∨ x ≠ 16) → (j ≠ 160 ∨ x ≠ l) → ¬ mk j x → Z j x = Y j x := fun j x j0 a1 a2 a3 a4 => f j x (by omega) (by omega) a1 a2 a3 a4
  have nm : ∀ (j : Nat) (x : Int), (j < 72 ∨ (127 ≤ j ∧ j ≤ 142) ∨ j = 158 ∨ j = 160 ∨ 215 ≤ j) → ¬ mk j x := fun j x hj hm => by have := hmk j x hm; omega
  have eT : cTx Y Z := cTx_of (fq 2 1 (by first | decide | omega) (by omega) (by omega) (by omega) (nm _ _ (by omega))) (fun x => fq 3 x (by first | decide | omega) (by omega) (by omega) (by omega) (nm _ _ (by omega)))
  have rr : rmR Y Z := by
    refine rmR_tr ?_ hF.2.2
    exact rmR_ag (rmR_rfl Y) (fun k _ => (bkZ_e k (-1) (by omega)).trans (w_up_at (by omega))) ((bkZ_e wG 0 (by omega)).trans (w_up_slot (by first | decide | omega))) ((bkZ_e wG 1 (by omega)).trans (w_up_slot (by first | decide | omega)))
  have hFm : cFm w (fun j x => (48 ≤ j ∧ j ≤ 57 ∧ x = fo) ∨ (j = 160 ∧ x = l) ∨ mk j x) Y Z := ⟨fun j x j0 j1 j2 hm => f j x j0 j1 (fun z => hm (Or.inl z)) (by omega) (by have : ¬ (j = 160 ∧ x = l) := fun z => hm (Or.inr (Or.inl z)); omega) (fun z => hm (Or.inr (Or.inr z))), fun j j0 j1 => fq j (-1) (by omega) (by omega) (by omega) (by omega) (nm _ _ (by omega)), hF.2.1, rr⟩
  have h160 : Z 160 l = Y 160 l + 1 := (hF.1 160 l (by first | decide | omega) (by first | decide | omega) (by omega) (by omega) (nm _ _ (by omega))).trans ((bkZ_e 160 l (by omega)).trans (w_up_same _ _ _ _))
  have fi : ∀ (j : Nat) (x : Int), (j < 41 ∨ (j = 72 ∧ x ≠ 8) ∨ (127 ≤ j ∧ j ≤ 142) ∨ (j = 150 ∧ x ≠ 4) ∨ j = 158) → Z j x = Y j x := fun j x hj => fq j x (by omega) (by omega) (by omega) (by omega) (fun hm => by
    have z := hmk j x hm
    by_cases e : j = 150
    · subst e
      exact h150 x (by omega) hm
    · omega)
  refine cRel_L hY hp hw hFm (fun j x hm => by rcases hm with z | z | z; (unfold mLk; omega); (unfold mLk; omega); exact hmk2 j x z) eT hCL (cTk_ag (cT_of hY hw) eT (fun j x hj => fq j x (by omega) (by omega) (by omega) (by omega) (nm _ _ (by omega)))) hSw (cNt_ag hY.2.2.2.1 (fun j hj => funext fun x => fi j x (by omega))) ⟨ix, fl, ow, se⟩ hCh ?_
  obtain ⟨c1, ⟨c2, c3⟩, c4, c5, c6⟩ := hY.2.2.2.2.2.2.2.1
  refine ⟨fun i hi => ?_, ⟨?_, ?_⟩, ?_, fun i hi => ?_, fun q q0 q1 => ?_⟩
  · show Z 150 (i : Int) = (fUp (fUp (a_c A) (20 + l) (a_c A (20 + l) + 1)) 4 (a_c A 4 + ds)) (i : Int)
    by_cases e : (i : Int) = 4
    · rw [e, cq_4]
      exact h4
    · rw [cq_n e (by omega), fi 150 i (by omega)]
      exact c1 i hi
  · show Z 72 11 = (fUp (fUp (a_c A) (20 + l) (a_c A (20 + l) + 1)) 4 (a_c A 4 + ds)) 11
    rw [cq_n (by first | decide | omega) (by omega), fi 72 11 (by omega)]
    exact c2
  · show cPl (pV S0) ((fUp (fUp (a_c A) (20 + l) (a_c A (20 + l) + 1)) 4 (a_c A 4 + ds)) 3) (a_N A) Z
    rw [cq_n (by first | decide | omega) (by omega)]
    exact cPl_ag c3 (fi 2 1 (by omega)) (fi 3 (-1) (by omega)) (fi 2 7 (by omega)) (fi 4 (-1) (by omega)) (Int.le_refl _) (Nat.le_refl _)
  · show Z 158 19 = (fUp (fUp (a_c A) (20 + l) (a_c A (20 + l) + 1)) 4 (a_c A 4 + ds)) 19
    rw [cq_n (by first | decide | omega) (by omega), fi 158 19 (by omega)]
    exact c4
  · show Z 160 (i : Int) = (fUp (fUp (a_c A) (20 + l) (a_c A (20 + l) + 1)) 4 (a_c A 4 + ds)) (20 + (i : Int))
    by_cases e : (i : Int) = l
    · rw [e, cq_l hl.1, h160]
      have z := c5 i hi
      rw [e] at z
      omega
    · rw [cq_n (by omega) (by omega), fq 160 i (by first | decide | omega) (by omega) (by omega) (by omega) (nm _ _ (by omega))]
      exact c5 i hi
  · have g4 : ∀ j : Nat, 41 ≤ j → j ≤ 46 → Z j q = Y j q := fun j j0 j1 => fq j q (by omega) (by omega) (by omega) (by omega) (nm _ _ (by omega))
    rw [fi 19 9 (by omega)] at q1
    rw [g4 41 (by omega) (by omega), g4 42 (by omega) (by omega), g4 43 (by omega) (by omega), g4 45 (by omega) (by omega)]
    exact c6 q q0 q1
/-- the class has linked -/
theorem ln_R (hp : p = 73 ∨ p = 162) (hw : isWt w t) (hZ : cRel S0 p HT cs ms os X mo A Z) (hs : 0 ≤ s ∧ s < Z 19 9) (ha : cAim w s kd ec ba g nm es Z) {V : wS} (hl : lnO w s kd nms (a_E A) e Z V y) : cRel S0 p HT cs ms os X mo (u_N A s e) V ∧ cAim w s kd ec ba g nm es V ∧ cEc V kd nms e y ∧ (0 ≤ y ∧ y < V 48 (-1)) := by
  have ww := isWt_w hw
  obtain ⟨l1, ⟨l2, l3⟩, l4, ⟨l5, l6⟩, f, gi, rm⟩ := hl
  have hg : wG = 1000000 := rfl
  have fq : ∀ (j : Nat) (x : Int), j < 237 → ¬ lkM s j x → V j x = Z j x := fun j x j0 hm => f j x (by omega) (by omega) hm
  have fi : ∀ (j : Nat) (x : Int), ((j < 41 ∧ j ≠ 19) ∨ (58 ≤ j ∧ j < 158) ∨ (159 ≤ j ∧ j < 237)) → V j x = Z j x := fun j x hj => fq j x (by omega) (by unfold lkM; omega)
  have eT : cTx Z V := cTx_of (fi 2 1 (by omega)) (fun x => fi 3 x (by omega))
  have hFm : cFm w (lkM s) Z V := ⟨fun j x j0 j1 _ hm => f j x j0 j1 hm, fun j j0 j1 => fi j (-1) (by omega), gi, rm⟩
  obtain ⟨c1, ⟨c2, c3⟩, c4, c5, c6⟩ := hZ.2.2.2.2.2.2.2.1
  obtain ⟨d1, d2, d3, d4⟩ := c6 s hs.1 hs.2
  rw [d4, d1] at l4 l5 l6
  refine ⟨?_, ?_, l2, l3⟩
  · refine cRel_L hZ hp hw hFm (fun j x hm => by unfold lkM at hm; unfold mLk; omega) eT (fun q hq => (fq q.1 (-1) (by have := (CL_t q hq).2.1; have := wz_l5 q hq; omega) (fun z => by have := wz_48 q hq; unfold lkM at z; omega)).trans (hZ.1.1 q hq)) (cTk_ag (cT_of hZ hw) eT (fun j x hj => fi j x (by omega))) (cSw_ag hZ.2.2.1.2.1 (fun j x hj => fi j x (by omega))) (cNt_ag hZ.2.2.2.1 (fun j hj => funext fun x => fi j x (by omega))) l4 (cCh_ag hZ.2.2.2.2.2.2.1.1 (fun j x hj => fi j x (by omega))) ?_
    refine ⟨fun i hi => (fi 150 i (by omega)).trans (c1 i hi), ⟨(fi 72 11 (by omega)).trans c2, cPl_ag c3 (fi 2 1 (by omega)) (fi 3 (-1) (by omega)) (fi 2 7 (by omega)) (fi 4 (-1) (by omega)) (Int.le_refl _) (Nat.le_refl _)⟩, (fq 158 19 (by first | decide | omega) (by unfold lkM; omega)).trans c4, fun i hi => (fi 160 i (by omega)).trans (c5 i hi), fun q q0 q1 => ?_⟩
    rw [fq 19 9 (by first | decide | omega) (by unfold lkM; omega)] at q1
    obtain ⟨e1, e2, e3, e4⟩ := c6 q q0 q1
    rw [fq 42 q (by first | decide | omega) (by unfold lkM; omega), fq 43 q (by first | decide | omega) (by unfold lkM; omega)]
    show V 41 q = kLk (a_k A) s q 0 ∧ Z 42 q = kLk (a_k A) s q 1 ∧ Z 43 q = kLk (a_k A) s q 2 ∧ V 45 q = kLk (a_k A) s q 3
    by_cases e : q = s
    · rw [e, kLk_0, kLk_1, kLk_2, kLk_3]
      exact ⟨l5, d2, d3, l6⟩
    · rw [kLk_n e, fq 41 q (by first | decide | omega) (by unfold lkM; omega), fq 45 q (by first | decide | omega) (by unfold lkM; omega)]
      exact ⟨e1, e2, e3, e4⟩
  · obtain ⟨⟨v4, v5, v6, v7, v8, v9, v10, v11, v12, v13⟩, v16⟩ := ha
    have g8 : ∀ x : Int, 4 ≤ x → x ≤ 13 → V 158 x = Z 158 x := fun x x0 x1 => fq 158 x (by first | decide | omega) (by unfold lkM; omega)
    refine ⟨⟨(g8 4 (by first | decide | omega) (by first | decide | omega)).trans v4, (g8 5 (by first | decide | omega) (by first | decide | omega)).trans v5, (g8 6 (by first | decide | omega) (by first | decide | omega)).trans v6, (g8 7 (by first | decide | omega) (by first | decide | omega)).trans v7, (g8 8 (by first | decide | omega) (by first | decide | omega)).trans v8, (g8 9 (by first | decide | omega) (by first | decide | omega)).trans v9, ?_, (g8 11 (by first | decide | omega) (by first | decide | omega)).trans v11, (g8 12 (by first | decide | omega) (by first | decide | omega)).trans v12, (g8 13 (by first | decide | omega) (by first | decide | omega)).trans v13⟩, l1⟩
    rw [g8 10 (by first | decide | omega) (by first | decide | omega), fi (w + 3) _ (by omega)]
    exact v10
/-- the reference has linked -/
theorem rn_R (ht : t = 0 ∨ t = 1) (hl9 : kLn (a_K A 0) ∧ kLn (a_K A 1)) (hZ : rRun S0 Sb HT cs ms os X mo t A Z) (hs : 0 ≤ s ∧ s < Z 237 47) (ha : rAim t K ba bh en Z) (hl : rlO s (a_E A) e Z V) : rRun S0 Sb HT cs ms os X mo t (u_N A s e) V ∧ rAim t K ba bh en V ∧ ∀ x : Int, V 237 x = Z 237 x := by
  obtain ⟨l1, l2, ⟨l3, l4⟩, f⟩ := hl
  obtain ⟨c1, c2, c3, c4, c5, c6⟩ := hZ.1.2.2.2.2.2.2.2.1
  obtain ⟨d1, d2, d3, d4⟩ := c5 s hs.1 hs.2
  rw [d4, d1] at l2 l3 l4
  have g37 : ∀ x : Int, V 237 x = Z 237 x := fun x => f 237 x (by omega) (by omega) (by omega)
  have hF : rTm t (fun j x => (376 ≤ j ∧ j ≤ 385) ∨ ((j = 310 ∨ j = 313) ∧ x = s)) Z V := fun j x _ hm => f j x (by have : ¬ (376 ≤ j ∧ j ≤ 385) := fun z => hm (Or.inl z); omega) (by have : ¬ ((j = 310 ∨ j = 313) ∧ x = s) := fun z => hm (Or.inr z); omega) (by have : ¬ ((j = 310 ∨ j = 313) ∧ x = s) := fun z => hm (Or.inr z); omega)
  have g : ∀ (j : Nat) (x : Int), (j < 376 ∨ 385 < j) → j ≠ 310 → j ≠ 313 → V j x = Z j x := fun j x h1 h2 h3 => f j x h1 (by omega) (by omega)
  refine ⟨?_, ?_, g37⟩
  · refine rRel_L hZ ht hl9 hF (fun j x hm => by unfold rLk; omega) l1 (rTk_e (rT_of hZ.1 ht) (fun j x hj => g j x (by omega) (by omega) (by omega))) (rR_W (A := A) hZ.1 hF (tf_tx hF (fun j x hj hm => by omega)) (fun j x hj hm => by unfold rWo at hj; omega)) (rR_H (A := A) hZ.1 hF (fun j x hj hm => by omega)) (rR_N (A := A) hZ.1 hF (fun j x hj hm => by omega)) l2 (rCh_ag hZ.1.2.2.2.2.2.2.1.1 (fun j x hj => g j x (by unfold chM at hj; omega) (by unfold chM at hj; omega) (by unfold chM at hj; omega))) ?_
    refine ⟨fun i hi => (g37 _).trans (c1 i hi), (g37 81).trans c2, (g37 108).trans c3, fun i hi => (g 344 i (by omega) (by omega) (by omega)).trans (c4 i hi), fun q q0 q1 => ?_, by rw [g37 82, g37 94, g37 63]; exact c6⟩
    rw [g37 47] at q1
    obtain ⟨e1, e2, e3, e4⟩ := c5 q q0 q1
    rw [g 311 q (by omega) (by omega) (by omega), g 312 q (by omega) (by omega) (by omega)]
    show V 310 q = kLk (a_k A) s q 0 ∧ Z 311 q = kLk (a_k A) s q 1 ∧ Z 312 q = kLk (a_k A) s q 2 ∧ V 313 q = kLk (a_k A) s q 3
    by_cases e : q = s
    · rw [e, kLk_0, kLk_1, kLk_2, kLk_3]
      exact ⟨l3, d2, d3, l4⟩
    · rw [kLk_n e, f 310 q (by omega) (by omega) (by omega), f 313 q (by omega) (by omega) (by omega)]
      exact ⟨e1, e2, e3, e4⟩
  · obtain ⟨⟨a1, a2⟩, a3, a4, a5, a6, a7⟩ := ha
    exact ⟨⟨(g37 _).trans a1, (g37 _).trans a2⟩, (g37 _).trans a3, (g37 _).trans a4, by rw [g37, g 364 _ (by omega) (by omega) (by omega)]; exact a5, (g37 _).trans a6, (g37 _).trans a7⟩
/-- all that holds, when an entry was linked -/
theorem wf_N (h : wfA S0 fa ms n (WEs S0 HT cs ms os) B A) (hs : 0 ≤ s ∧ s < S0 237 47) (he : eOk S0 HT cs ms os A s e) : wfA S0 fa ms n (WEs S0 HT cs ms os) B (u_N A s e) := by
  obtain ⟨a1, a3, a4, a5, ⟨b1, b2, b3, b4, b5, b6, b7, b8, b9⟩, a6, a7, a8x⟩ := h
  have z7 := b7 s hs.1 hs.2
  have zE := a7 s hs.1 hs.2
  have hle : (lnE (a_k A s 3) (a_k A s 0) e (a_E A s)).length ≤ 4 ∧ (∀ y ∈ lnE (a_k A s 3) (a_k A s 0) e (a_E A s), y = e ∨ y ∈ a_E A s) ∧ ((a_k A s 3 = 1 → (lnE (a_k A s 3) (a_k A s 0) e (a_E A s)) = a_E A s) ∧ (a_k A s 3 ≠ 1 → a_k A s 0 = 8 → (lnE (a_k A s 3) (a_k A s 0) e (a_E A s)) = []) ∧ (a_k A s 3 ≠ 1 → (lnE (a_k A s 3) (a_k A s 0) e (a_E A s)).length ≤ (a_E A s).length + 1)) := by
    unfold lnE
    by_cases c1 : a_k A s 3 = 1
    · rw [if_pos c1]
      exact ⟨zE.1, fun y hy => Or.inr hy, fun _ => rfl, fun q => absurd c1 q, fun q => absurd c1 q⟩
    · rw [if_neg c1]
      by_cases c2 : a_k A s 0 = 8
      · rw [if_pos c2]
        exact ⟨Nat.zero_le _, fun y hy => absurd hy (List.not_mem_nil), fun q => absurd q c1, fun _ _ => rfl, fun _ => Nat.zero_le _⟩
      · rw [if_neg c2]
        refine ⟨?_, fun y hy => ?_, fun q => absurd q c1, fun _ q => absurd q c2, fun _ => ?_⟩
        · show ((a_E A s).take 3).length + 1 ≤ 4
          rw [List.length_take]
          omega
        · rcases List.mem_cons.mp hy with z | z
          · exact Or.inl z
          · exact Or.inr (List.mem_of_mem_take z)
        · show ((a_E A s).take 3).length + 1 ≤ (a_E A s).length + 1
          rw [List.length_take]
          omega
  refine ⟨a1, a3, a4, a5, ⟨b1, b2, b3, b4, b5, b6, fun q q0 q1 => ?_, b8, b9⟩, a6, ⟨fun q q0 q1 => ?_, a8x⟩⟩
  · show (0 ≤ kLk (a_k A) s q 0 ∧ kLk (a_k A) s q 0 ≤ 9) ∧ (0 ≤ kLk (a_k A) s q 1 ∧ kLk (a_k A) s q 1 ≤ B) ∧ (0 ≤ kLk (a_k A) s q 2 ∧ kLk (a_k A) s q 2 + ((fUp (a_E A) s (lnE (a_k A s 3) (a_k A s 0) e (a_E A s)) q).length : Int) ≤ kLk (a_k A) s q 0) ∧ ((kLk (a_k A) s q 3 = 0 ∧ kLk (a_k A) s q 0 ≤ 8) ∨ (kLk (a_k A) s q 3 = 1 ∧ fUp (a_E A) s (lnE (a_k A s 3) (a_k A s 0) e (a_E A s)) q = []))
    by_cases e9 : q = s
    · rw [e9, kLk_0, kLk_1, kLk_2, kLk_3, fUp_s]
      obtain ⟨y1, y2, y3, y4⟩ := z7
      obtain ⟨x1, x2, x3, x4, x5⟩ := hle
      by_cases c1 : a_k A s 3 = 1
      · rw [if_pos c1, if_pos c1, x3 c1]
        exact ⟨y1, y2, y3, Or.inr ⟨rfl, by rcases y4 with z | z; omega; exact z.2⟩⟩
      · have y5 : a_k A s 3 = 0 ∧ a_k A s 0 ≤ 8 := by
          rcases y4 with z | z
          · exact z
          · exact absurd z.1 c1
        have x6 := x5 c1
        rw [if_neg c1, if_neg c1]
        by_cases c2 : a_k A s 0 = 8
        · rw [if_pos c2, x4 c1 c2]
          refine ⟨by omega, y2, ⟨y3.1, ?_⟩, Or.inr ⟨rfl, rfl⟩⟩
          show a_k A s 2 + (0 : Int) ≤ a_k A s 0 + 1
          have := y3.2
          omega
        · rw [if_neg c2]
          exact ⟨by omega, y2, ⟨y3.1, by have := y3.2; omega⟩, Or.inl ⟨rfl, by omega⟩⟩
    · rw [kLk_n e9, fUp_n e9]
      exact b7 q q0 q1
  · show (fUp (a_E A) s (lnE (a_k A s 3) (a_k A s 0) e (a_E A s)) q).length ≤ 4 ∧ ∀ e9 ∈ fUp (a_E A) s (lnE (a_k A s 3) (a_k A s 0) e (a_E A s)) q, eOk S0 HT cs ms os A q e9
    by_cases e9 : q = s
    · rw [e9, fUp_s]
      refine ⟨hle.1, fun y hy => ?_⟩
      rcases hle.2.1 y hy with z | z
      · rw [z]
        exact he
      · exact zE.2 y z
    · rw [fUp_n e9]
      exact a7 q q0 q1
/-- all that holds, when something was asked -/
theorem wf_Q0 (h : wfA S0 fa ms n (WEs S0 HT cs ms os) B A) (hl : 0 ≤ l ∧ l ≤ 3) (ha : a_c A (20 + l) + 1 ≤ B) : wfA S0 fa ms n (WEs S0 HT cs ms os) B (u_Q A (a_H A) (a_C A) (a_W A) l 0) := by
  obtain ⟨a1, a3, a4, a5, ⟨b1, b2, b3, b4, b5, ⟨b6, b6b, b6c⟩, b7, b8, b9⟩, a6, a7, a8x⟩ := h
  have ew := cq_w (A := A) (ds := 0) hl
  have en : ∀ i : Int, i ≠ 20 + l → (fUp (fUp (a_c A) (20 + l) (a_c A (20 + l) + 1)) 4 (a_c A 4 + 0)) i = a_c A i := fun i hi => by
    by_cases e : i = 4
    · rw [e, fUp_s]
      omega
    · exact cq_n e hi
  have e11 := en 11 (by omega)
  have eq : ∀ e : aE, ∀ q : Int, eOk S0 HT cs ms os A q e → eOk S0 HT cs ms os (u_Q A (a_H A) (a_C A) (a_W A) l 0) q e := fun e q hq => by
    obtain ⟨⟨c0, c1⟩, c2⟩ := hq
    refine ⟨⟨c0, c1.1, ?_⟩, c2⟩
    show e.2.2.2.2.2.2.1 ≤ (fUp (fUp (a_c A) (20 + l) (a_c A (20 + l) + 1)) 4 (a_c A 4 + 0)) 11
    rw [e11]
    exact c1.2
  have e0 := en 0 (by omega)
  have e1 := en 1 (by omega)
  have e2 := en 2 (by omega)
  have e3 := en 3 (by omega)
  have e4 := en 4 (by omega)
  have e19 := en 19 (by omega)
  have el := cq_l (A := A) (ds := 0) hl.1
  generalize hcc : (fUp (fUp (a_c A) (20 + l) (a_c A (20 + l) + 1)) 4 (a_c A 4 + 0)) = cc at *
  refine ⟨a1, a3, a4, a5, ⟨?_, ?_, ?_, ?_, ?_, ⟨?_, ?_, fun i i0 i1 => ?_⟩, b7, fun k k0 k1 => ?_, b9⟩, a6, ⟨fun q q0 q1 => ⟨(a7 q q0 q1).1, fun e he => eq e q ((a7 q q0 q1).2 e he)⟩, ⟨⟨?_, a8x.1.2⟩, a8x.2⟩⟩⟩
  all_goals unfold u_Q
  all_goals rw [hcc]
  · show ((a_T A).length : Int) + ((a_L A).length : Int) ≤ cc 0 ∧ cc 0 ≤ 8000
    rw [e0]
    exact b1
  · show 0 ≤ cc 1 ∧ cc 1 ≤ 60000 ∧ ∀ o ∈ a_T A, (o.2.2.2.2.2.2.length : Int) ≤ cc 1
    rw [e1]
    exact b2
  · show 0 ≤ cc 2 ∧ cc 2 ≤ 12000
    rw [e2]
    exact b3
  · show 0 ≤ cc 3 ∧ cc 3 ≤ 200000
    rw [e3]
    exact b4
  · show 0 ≤ cc 4 ∧ cc 4 ≤ 4000 ∧ ((a_H A).length : Int) ≤ cc 4 + 1
    rw [e4]
    exact b5
  · show 0 ≤ cc 11 ∧ cc 11 ≤ B
    rw [e11]
    exact b6
  · show 0 ≤ cc 19 ∧ cc 19 ≤ B
    rw [e19]
    exact b6b
  · show 0 ≤ cc i ∧ cc i ≤ B
    by_cases e : i = 20 + l
    · rw [e, el]
      have := b6c (20 + l) (by omega) (by omega)
      omega
    · rw [en i e]
      exact b6c i i0 i1
  · show (-1 ≤ (tO (a_T A) k).2.2.2.2.1 ∧ (tO (a_T A) k).2.2.2.2.1 ≤ cc 11) ∧ 0 ≤ (tO (a_T A) k).2.2.2.2.2.1 ∧ (tO (a_T A) k).2.2.2.2.2.1 ≤ cc 11
    rw [e11]
    exact b8 k k0 k1
  · show a_W A ≤ cc 21 + cc 22
    exact Int.le_trans a8x.1.1 ew
end Wln
