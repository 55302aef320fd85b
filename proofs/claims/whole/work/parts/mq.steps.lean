/-! PART mq: many steps of both sides. -/
section Wmq
variable {Sb : wS} {xs : List (Nat × List Int32)} {d : Nat} {S0 S Z : wS} {p w m : Nat} {HT : Int → Int} {cs : List hCR} {ms : List hMR} {os : Int → List Int} {X : List (List Int)} {mo t n B B2 oq : Int} {fa : Int → Int} {WE : aA → Prop} {A A2 : aA} {K2 : aK} {ml : List Nat} {k c s kd nms ne ec bh nm en : Int} {b ba : Nat} {ar : List aV} {e : aE} {V Z2 Y : wS} {o : wO} {dn : Int} {H2 : List aH} {N2 : List (List Int)} {E2 : Int → List aE} {C2 : List aQ} {W2 : Int} {c2 : Int → Int} {k2 : Int → Int → Int} {mk rk : Nat → Int → Prop} {K : aK} {T : List aO} {H : List aH} {E : Int → List aE} {gk gb es lo hi a : Int} {r : List aE × Int × Option aE} {A1 : aA} {tl cl : List Int} {sl : Nat → List Int} {L : List aC} {G : Int → aV} {u : aV} {x : List Int} {T2 : List aO} {L2 : List aC} {G2 : Int → aV} {H2 : List aH} {c2 : Int → Int} {y : Int} {Q : wO → wS → Prop} {ps : List (Int × aV)} {k hd wh : Int} {f a9 pn fn md : Int} {vn m9 : Nat} {th : aV} {g : Int} {lp : List aV} {l ds fo g : Int} {mk : Nat → Int → Prop} {C2 : List aQ} {W2 : Int} {RZ : wS → Prop} {N3 : Nat} {SB : wS} {r r0 : Int} {sh : Int} {K9 : aK} {nt : Int} {R2 : List Int} {S2 : Int → aV} {wh en9 : Int} {k9 n9 : Int} {C : aA}
theorem wf_B (h : wfA S0 fa ms n WE B A) (hB : B ≤ B2 ∧ B2 ≤ 600000) : wfA S0 fa ms n WE B2 A := ⟨h.1, h.2.1, h.2.2.1, h.2.2.2.1, wCt_B h.2.2.2.2.1 hB, h.2.2.2.2.2.1, h.2.2.2.2.2.2⟩
/-- a step of both sides -/
def stp2 (xs : List (Nat × List Int32)) (d : Nat) (S0 : wS) (p : Nat) (HT : Int → Int) (cs : List hCR) (ms : List hMR) (os : Int → List Int) (X : List (List Int)) (mo : Int) (w : Nat) (t : Int) (A : aA) (e : Int) (C : aA) : Prop := (e = 0 ∨ e = 1) ∧ (e = 0 → ¬ (a_K C t).2.2.2.1 = 1) ∧ stpR xs (d + 80) S0 p HT cs ms os X mo w t A e C
theorem lp_ex (hp : p = 73 ∨ p = 162) (hw : isWt w t) (hx : stX S0 fa X) {b9 : Nat} (hT : stT xs S0 p b9 HT nt cs ms os n) : ∀ (f : Nat) (A : aA) (B : Int), wfA S0 fa ms n (WEs S0 HT cs ms os) B A → B + (f : Int) ≤ 600000 → ∃ (k : Int) (C : aA), lpN (fun A : aA => (a_K A t).2.2.2.1 = 1) (stp2 xs d S0 p HT cs ms os X mo w t) f A k C ∧ wfA S0 fa ms n (WEs S0 HT cs ms os) (B + (f : Int)) C ∧ (0 ≤ k ∧ k ≤ (f : Int)) ∧ ∀ t2 : Int, t2 ≠ t → a_K C t2 = a_K A t2
  | 0, A, B, h, hB => ⟨0, A, ⟨rfl, rfl⟩, wf_B h ⟨by omega, hB⟩, ⟨Int.le_refl _, Int.le_refl _⟩, fun _ _ => rfl⟩
  | f + 1, A, B, h, hB => by
    have hc : ((f + 1 : Nat) : Int) = (f : Int) + 1 := by omega
    by_cases hr : (a_K A t).2.2.2.1 = 1
    · obtain ⟨e, A2, e1, e2, e3, e4, e5⟩ := st_all (d := d) (mo := mo) (B := B) (B2 := B + 1) (w := w) (t := t) (A := A) ⟨hp, hw, hx, h, WEs_k, ⟨by omega, by omega⟩, hr⟩ hT (by omega)
      obtain ⟨k, C, c1, c2, c3, c4⟩ := lp_ex hp hw hx hT f A2 (B + 1) e2 (by omega)
      refine ⟨k + e, C, Or.inl ⟨hr, e, A2, ⟨e1, e4, e5⟩, ?_⟩, ?_, ⟨by omega, by omega⟩, fun t2 h2 => (c4 t2 h2).trans (e3 t2 h2)⟩
      · rw [show k + e - e = k by omega]
        exact c1
      · rw [show B + ((f + 1 : Nat) : Int) = B + 1 + (f : Int) by omega]
        exact c2
    · exact ⟨0, A, Or.inr ⟨hr, rfl, rfl⟩, wf_B h ⟨by omega, hB⟩, ⟨Int.le_refl _, by omega⟩, fun _ _ => rfl⟩
theorem sM_n {j : Nat} (hj : j < 388) (h : j ∉ sML) : ¬ mS sML j := fun z => by
  rcases z with z | z
  · omega
  · exact h z
/-- the class's loop -/
theorem sps_c (hw : isWt w t) (hS : cRel S0 p HT cs ms os X mo A S) (hn : 1 ≤ n9 ∧ n9 ≤ 1000) (hl : lpN (fun A : aA => (a_K A t).2.2.2.1 = 1) (stp2 xs d S0 p HT cs ms os X mo w t) n9.toNat A k9 C) : wJ (pe_GA xs) wY0 (mS sML) (d + 86 + 7) t_X_steps ((pe_at t_X_steps.bl 4).getD (0, [])).2 [(0, (2, 0)), (1, (0, t)), (2, (0, n9)), (3, (2, (w : Int))), (4, (0, 0)), (5, (0, 0))] [] S (fun o Z => o = .inl (some (0, k9)) ∧ cRel S0 p HT cs ms os X mo C Z) := by
  have hl2 : lpN (fun A : aA => (a_K A t).2.2.2.1 = 1) (lpC xs (mS sML) (d + 80 + 12) w (cRel S0 p HT cs ms os X mo)) n9.toNat A k9 C := lpN_m (fun a e c h => ⟨h.1, h.2.2.1⟩) _ hl
  rcases hw with ⟨rfl, rfl⟩ | ⟨rfl, rfl⟩
  · have z := xssl_215 (xs := xs) (M := mS sML) (d := d + 80 + 12) (t := 0) (n := n9) (run := fun A : aA => (a_K A 0).2.2.2.1 = 1) (R := cRel S0 p HT cs ms os X mo) (fun a S h => by rw [(cT_of h (Or.inl ⟨rfl, rfl⟩)).2.2.2.1]) (sM_n (by first | decide | omega) (by first | decide | omega)) (sM_n (by first | decide | omega) (by first | decide | omega)) hn.2 n9.toNat 0 0 k9 A S (by omega) ⟨by decide, by decide, by decide⟩ hS hl2
    rw [Int.zero_add] at z
    exact z
  · have z := xssl_226 (xs := xs) (M := mS sML) (d := d + 80 + 12) (t := 1) (n := n9) (run := fun A : aA => (a_K A 1).2.2.2.1 = 1) (R := cRel S0 p HT cs ms os X mo) (fun a S h => by rw [(cT_of h (Or.inr ⟨rfl, rfl⟩)).2.2.2.1]) (sM_n (by first | decide | omega) (by first | decide | omega)) (sM_n (by first | decide | omega) (by first | decide | omega)) hn.2 n9.toNat 0 0 k9 A S (by omega) ⟨by decide, by decide, by decide⟩ hS hl2
    rw [Int.zero_add] at z
    exact z
/-- the reference's loop -/
theorem sps_r (ht : t = 0 ∨ t = 1) (hS : rRun S0 Sb HT cs ms os X mo t A S) (hn : 1 ≤ n9 ∧ n9 ≤ 1000) (hl : lpN (fun A : aA => (a_K A t).2.2.2.1 = 1) (stp2 xs d S0 p HT cs ms os X mo w t) n9.toNat A k9 C) : wJ (pe_GA xs) wY0 (fun _ => False) (d + 80 + 13) t_M_steps ((pe_at t_M_steps.bl 4).getD (0, [])).2 [(0, (2, 237)), (1, (0, t)), (2, (0, n9)), (3, (0, 0))] [] S (fun o Z => o = .inl (some (0, k9)) ∧ rRun S0 Sb HT cs ms os X mo t C Z) := by
  have hl2 : lpN (fun A : aA => (a_K A t).2.2.2.1 = 1) (lpR xs (d + 80) t (fun A : aA => (a_K A t).2.2.2.1 = 1) (rRun S0 Sb HT cs ms os X mo t)) n9.toNat A k9 C := lpN_m (fun a e c h => ⟨h.1, h.2.1, h.2.2.2⟩) _ hl
  have z := mssl (xs := xs) (M := fun _ => False) (d := d + 80) (t := t) (n := n9) (run := (fun A : aA => (a_K A t).2.2.2.1 = 1)) (R := rRun S0 Sb HT cs ms os X mo t) (fun a S h => ⟨by rw [(rT_of h.1 ht).2.2.2.1], h.1.1, h.2.1⟩) (by omega) hn.2 n9.toNat 0 k9 A S (by omega) (Int.le_refl _) hS hl2
  rw [Int.zero_add] at z
  exact z
/-- workings of the reference that no state hangs on -/
def rQm (j : Nat) (x : Int) : Prop := (j = 237 ∧ (x = 0 ∨ x = 110 ∨ x = 111 ∨ x = 113 ∨ x = 122 ∨ x = 124 ∨ x = 126 ∨ x = 128 ∨ x = 130 ∨ (151 ≤ x ∧ x ≤ 155) ∨ (166 ≤ x ∧ x ≤ 177))) ∨ (j = 238 ∧ (x = 5 ∨ x = 6)) ∨ j = 345 ∨ (352 ≤ j ∧ j ≤ 356) ∨ j = 386 ∨ j = 387
theorem rRel_zb {S1 S1b : wS} (h : rRel S0 Sb HT cs ms os X mo A S) (hl : kLn (a_K A 0) ∧ kLn (a_K A 1)) (f : ∀ (j : Nat) (x : Int), 237 ≤ j → j ≤ 387 → ¬ rQm j x → Z j x = S j x) (hM : w_ML Z) (hs : ∀ (j : Nat) (x : Int), rSta j x → Z j x = rBs S1 S1b j x) : rRel S1 S1b HT cs ms os X mo A Z := by
  have g : ∀ (j : Nat) (x : Int), 357 ≤ j → j ≤ 375 → Z j x = S j x := fun j x j0 j1 => f j x (by omega) (by omega) (by unfold rQm; omega)
  have hx : rTx S Z := rTx_of (f _ _ (by first | decide | omega) (by first | decide | omega) (by unfold rQm; omega)) (f _ _ (by first | decide | omega) (by first | decide | omega) (by unfold rQm; omega)) (fun j x j0 j1 => f j x (by omega) (by omega) (by unfold rQm; omega))
  have hF : rTm 0 (fun j x => rQm j x ∨ j < 237 ∨ 387 < j) S Z := fun j x _ hm => f j x (by omega) (by omega) (fun q => hm (Or.inl q))
  have hK : ∀ (t : Int), rTk t S (a_K A t) → rTk t Z (a_K A t) := fun t hk => rTk_ag hk hx ⟨fun j hj => g j t (by omega) (by omega), fun j i j0 j1 _ _ => g j i (by omega) (by omega), fun j i j0 j1 _ _ => g j i (by omega) (by omega)⟩ (g 359 t (by first | decide | omega) (by first | decide | omega)) (fun i _ _ => ⟨g 363 i (by first | decide | omega) (by first | decide | omega), g 364 i (by first | decide | omega) (by first | decide | omega)⟩)
  exact ⟨hM, ⟨hK 0 h.2.1.1, hK 1 h.2.1.2⟩, ⟨rR_W (A := A) h hF hx (fun j x hj hm => by unfold rWo at hj; rcases hm with hm | hm; (unfold rQm at hm; omega); omega), rR_H (A := A) h hF (fun j x hj hm => by rcases hm with hm | hm; (unfold rQm at hm; omega); omega)⟩, ⟨rR_N (A := A) h hF (fun j x hj hm => by rcases hm with hm | hm; (unfold rQm at hm; omega); omega), rR_X (A := A) h hF hx (fun j x hj hm => by rcases hm with hm | hm; (unfold rQm at hm; omega); omega), rR_t (A := A) h hF (fun j x hj hm => by unfold txD at hj; rcases hm with hm | hm; (unfold rQm at hm; omega); omega)⟩, rR_E (A := A) h hF (fun j x hj hm => by rcases hm with hm | hm; (unfold rQm at hm; omega); omega), ⟨rR_O (A := A) h hF (fun x hm => by rcases hm with hm | hm; (unfold rQm at hm; omega); omega) (fun hm => by rcases hm with hm | hm; (unfold rQm at hm; omega); omega), rR_R (A := A) h hF (fun x hm => by rcases hm with hm | hm; (unfold rQm at hm; omega); omega) (fun hm => by rcases hm with hm | hm; (unfold rQm at hm; omega); omega)⟩, ⟨rR_C (A := A) h hF (fun j x hj hm => by unfold chM at hj; rcases hm with hm | hm; (unfold rQm at hm; omega); omega), rR_S (A := A) h hF hx (fun j x hj hm => by rcases hm with hm | hm; (unfold rQm at hm; omega); omega)⟩, rR_cn (A := A) h hF (fun j x hj hm => by unfold rcD at hj; rcases hm with hm | hm; (unfold rQm at hm; omega); omega), hs⟩
theorem rRel_z {S1 : wS} (h : rRel S0 Sb HT cs ms os X mo A S) (hl : kLn (a_K A 0) ∧ kLn (a_K A 1)) (f : ∀ (j : Nat) (x : Int), 237 ≤ j → j ≤ 387 → ¬ rQm j x → Z j x = S j x) (hM : w_ML Z) (hs : ∀ (j : Nat) (x : Int), rSta j x → Z j x = S1 j x) : rRel S1 S1 HT cs ms os X mo A Z := rRel_zb h hl f hM (fun j x hj => (hs j x hj).trans rBs_s.symm)
/-- the reference takes a task -/
theorem tkZ_r (h : rRel S0 Sb HT cs ms os X mo A S) (hl : kLn (a_K A 0) ∧ kLn (a_K A 1)) : rRun S0 (tkZ t S) HT cs ms os X mo t A (tkZ t S) := by
  have f : ∀ (j : Nat) (x : Int), ¬ (j = 237 ∧ (x = 0 ∨ x = 151 ∨ x = 152 ∨ x = 153 ∨ x = 154)) → tkZ t S j x = S j x := fun j x hj => by
    unfold tkZ
    rw [w_up_no (by omega), w_up_no (by omega), w_up_no (by omega), w_up_no (by omega), w_up_no (by omega)]
  have hM : w_ML (tkZ t S) := w_ML_up (w_ML_up (w_ML_up (w_ML_up (w_ML_up h.1 (by first | decide | omega)) (by first | decide | omega)) (by first | decide | omega)) (by first | decide | omega)) (by first | decide | omega)
  refine ⟨rRel_zb h hl (fun j x _ _ hm => f j x (fun z => hm (by unfold rQm; omega))) hM (fun j x hj => ?_), ?_, ?_, ?_⟩
  · by_cases c : 237 ≤ j ∧ j < 387 ∧ (j ≠ 237 ∨ x ≠ 0)
    · rw [rBs_i c, f j x (by unfold rSta at hj; omega), h.2.2.2.2.2.2.2.2 j x hj, rBs_i c]
    · rw [rBs_o c]
  · unfold tkZ
    rw [w_up_no (by omega), w_up_no (by omega), w_up_no (by omega), w_up_same]
  · unfold tkZ
    rw [w_up_no (by omega), w_up_no (by omega), w_up_same]
  · unfold tkZ
    rw [w_up_no (by omega), w_up_same]
end Wmq
