/-! PART nk: steps. -/
section Wnk
variable {Sb : wS} {xs : List (Nat × List Int32)} {d : Nat} {S0 S Z : wS} {p w m : Nat} {HT : Int → Int} {cs : List hCR} {ms : List hMR} {os : Int → List Int} {X : List (List Int)} {mo t n B B2 oq : Int} {fa : Int → Int} {WE : aA → Prop} {A A2 : aA} {K2 : aK} {ml : List Nat} {k c s kd nms ne ec bh nm en : Int} {b ba : Nat} {ar : List aV} {e : aE} {V Z2 Y : wS} {o : wO} {dn : Int} {H2 : List aH} {N2 : List (List Int)} {E2 : Int → List aE} {C2 : List aQ} {W2 : Int} {c2 : Int → Int} {k2 : Int → Int → Int} {mk rk : Nat → Int → Prop} {K : aK} {T : List aO} {H : List aH} {E : Int → List aE} {gk gb es lo hi a : Int} {r : List aE × Int × Option aE} {A1 : aA} {tl cl : List Int} {sl : Nat → List Int} {L : List aC} {G : Int → aV} {u : aV} {x : List Int} {T2 : List aO} {L2 : List aC} {G2 : Int → aV} {H2 : List aH} {c2 : Int → Int} {y : Int} {Q : wO → wS → Prop} {ps : List (Int × aV)} {k hd wh : Int} {f a9 pn fn md : Int} {vn m9 : Nat} {th : aV} {g : Int} {lp : List aV} {l ds fo g : Int} {mk : Nat → Int → Prop} {C2 : List aQ} {W2 : Int} {RZ : wS → Prop} {N3 : Nat} {SB : wS} {r r0 : Int} {sh : Int} {K9 : aK} {nt : Int} {R2 : List Int} {S2 : Int → aV} {wh en9 : Int} {q b2 pm m9 : Nat} {N : List (List Int)} {k9 n9 : Int} {C : aA}
/-- the class's loop, with what it leaves of lengths -/
theorem sx_c {b9 : Nat} (hp : p = 73 ∨ p = 162) (hw : isWt w t) (hx : stX S fa X) (hT : stT xs S p b9 HT nt cs ms os n) (hf : wfA S fa ms n (WEs S HT cs ms os) B A) (hB : B + 1000 ≤ 600000) (hC : cRel S p HT cs ms os X mo A S) (hn : 1 ≤ n9 ∧ n9 ≤ 1000) : wJ (pe_GA xs) wY0 (mS sML) (d + 86 + 7) t_X_steps ((pe_at t_X_steps.bl 4).getD (0, [])).2 [(0, (2, 0)), (1, (0, t)), (2, (0, n9)), (3, (2, (w : Int))), (4, (0, 0)), (5, (0, 0))] [] S (fun o Z => ∃ (k9 : Int) (C : aA), o = .inl (some (0, k9)) ∧ (0 ≤ k9 ∧ k9 ≤ 1000) ∧ cRel S p HT cs ms os X mo C Z ∧ lpN (fun A : aA => (a_K A t).2.2.2.1 = 1) (stp2 xs d S p HT cs ms os X mo w t) n9.toNat A k9 C ∧ wfA S fa ms n (WEs S HT cs ms os) (B + 1000) C ∧ ∀ j : Nat, j = 117 ∨ j = 118 ∨ j = 206 ∨ j = 207 → Z j (-1) = S j (-1)) := by
  obtain ⟨k9, C, c1, c2, c3, -⟩ := lp_ex (d := d) (mo := mo) hp hw hx hT n9.toNat A B hf (by omega)
  refine wJ_mono (wJ_len (sps_c hw hC hn c1)) (fun o Z hz => ⟨k9, C, hz.1.1, ⟨c3.1, by omega⟩, hz.1.2, c1, wf_B c2 ⟨by omega, by omega⟩, fun j hj => ?_⟩)
  rcases hj with rfl | rfl | rfl | rfl
  · exact hz.2 117 (wy_pr rfl) (by decide +kernel) (sM_n (by first | decide | omega) (by first | decide | omega))
  · exact hz.2 118 (wy_pr rfl) (by decide +kernel) (sM_n (by first | decide | omega) (by first | decide | omega))
  · exact hz.2 206 (wy_pr rfl) (by decide +kernel) (sM_n (by first | decide | omega) (by first | decide | omega))
  · exact hz.2 207 (wy_pr rfl) (by decide +kernel) (sM_n (by first | decide | omega) (by first | decide | omega))
theorem kc12 {k wh : Int} (h : RM xs m9 S) (hm : m9 < 512) (hk : -2147483648 ≤ k ∧ k ≤ 2147483647) (hwh : -2147483648 ≤ wh ∧ wh ≤ 2147483647) : wJ (pe_GA xs) wY0 (mS sML) (d + 94) t_LL_steps ((pe_at t_LL_steps.bl 0).getD (0, [])).2 [(0, (2, 0)), (1, (0, k)), (2, (0, wh)), (3, (2, ((1000001 : Nat) : Int)))] [] S (fun o1 Z => wJ (pe_GA xs) wY0 (fun _ => False) (d + 94) t_M_steps ((pe_at t_M_steps.bl 0).getD (0, [])).2 [(0, (2, 237)), (1, (0, k)), (2, (0, wh))] [] Z (fun o2 S2 => (∃ c v : Int, o1 = .inl (some (0, c)) ∧ o2 = .inl (some (0, v)) ∧ S2 237 0 = c ∧ (0 ≤ v ∧ v ≤ 1000) ∧ (c = 0 → S2 1000001 0 = v)) ∧ RM xs (m9 + 1) S2)) := by
  obtain ⟨p, q, b, b2, pm, X, HT, nt, cs, ms, os, mo, fa, A, hp, hA, ⟨⟨k1, ⟨k2, k3, k4, k5⟩, k6⟩, k7⟩, ⟨hC, hr⟩, hw, hT, ⟨hX, hX2⟩, hv, hV, -⟩ := id h
  have ho := RM_o h
  have hpp := RMp_p hp
  have hg : wG = 1000000 := rfl
  refine wJ_E (fun hE => ?_)
  have hl : kLn (a_K A 0) ∧ kLn (a_K A 1) := ⟨hw.1.1.1, hw.1.2.1⟩
  have hx : stX S fa X := stX_of hE hA.2.2.1 ⟨k1, ⟨k2, k3, k4, k5⟩, k6⟩ k7 hX
  have s0 : S 215 13 = (a_K A 0).2.2.2.1 := hC.2.1.1.2.2.2.1
  have s1 : S 226 13 = (a_K A 1).2.2.2.1 := hC.2.1.2.2.2.2.1
  have q0 : S 357 0 = (a_K A 0).2.2.2.1 := hr.2.1.1.2.2.2.1
  have q1 : S 357 1 = (a_K A 1).2.2.2.1 := hr.2.1.2.2.2.2.1
  have h58 : ∀ t : Int, 0 ≤ t → t ≤ 1 → 0 ≤ S 358 t ∧ S 358 t ≤ 200 := fun t t0 t1 => by
    have e0 : S 358 0 = ((a_K A 0).2.1.length : Int) := hr.2.1.1.2.1.1
    have e1 : S 358 1 = ((a_K A 1).2.1.length : Int) := hr.2.1.2.2.1.1
    have l0 := hl.1.2
    have l1 := hl.2.2
    rcases (show t = 0 ∨ t = 1 by omega) with rfl | rfl
    · omega
    · omega
  have mo1 : ¬ mS sML 1000001 := fun z => by
    rcases z with z | z
    · omega
    · exact absurd z (by first | decide | omega)
  -- what the reference does where no step is done
  have key : ∀ Z : wS, zO S Z → ∀ c : Int, (c = 1 ∧ ¬ (0 ≤ k ∧ k < 2 ∧ 1 ≤ wh ∧ wh ≤ 1000)) ∨ (c = 2 ∧ (0 ≤ k ∧ k < 2 ∧ 1 ≤ wh ∧ wh ≤ 1000) ∧ S 357 k ≠ 1) → wJ (pe_GA xs) wY0 (fun _ => False) (d + 94) t_M_steps ((pe_at t_M_steps.bl 0).getD (0, [])).2 [(0, (2, 237)), (1, (0, k)), (2, (0, wh))] [] Z (fun o2 S2 => o2 = .inl (some (0, 0)) ∧ w_up Z 237 0 c = S2) := fun Z hz c hc => by
    have hrZ := rRel_o hr hl hz
    have z357 : ∀ t : Int, Z 357 t = S 357 t := fun t => hz.1 357 t (by omega) (by rw [hg]; omega) (Or.inl (by omega))
    have z358 : ∀ t : Int, Z 358 t = S 358 t := fun t => hz.1 358 t (by omega) (by rw [hg]; omega) (Or.inl (by omega))
    refine mss_o (d := d + 81) hrZ.1 (fun t t0 t1 => by rw [z358]; exact h58 t t0 t1) hk hwh (fun n => ?_) (fun n e => ?_) (fun n e => ?_)
    · rcases hc with ⟨rfl, -⟩ | ⟨-, n2, -⟩
      · exact ⟨rfl, rfl⟩
      · exact absurd n2 n
    · rcases hc with ⟨-, n2⟩ | ⟨rfl, -, -⟩
      · exact absurd n n2
      · exact ⟨rfl, rfl⟩
    · rw [z357] at e
      rcases hc with ⟨-, n2⟩ | ⟨-, -, n2⟩
      · exact absurd n n2
      · exact absurd e n2
  -- what it does where steps are done
  have go : ∀ (w : Nat) (k9 : Int) (C : aA) (Z : wS), isWt w k → (0 ≤ k ∧ k < 2 ∧ 1 ≤ wh ∧ wh ≤ 1000) → S 357 k = 1 → (0 ≤ k9 ∧ k9 ≤ 1000) → cRel S p HT cs ms os X mo C Z → lpN (fun A : aA => (a_K A k).2.2.2.1 = 1) (stp2 xs d S p HT cs ms os X mo w k) wh.toNat A k9 C → wfA S fa ms (cs.length : Int) (WEs S HT cs ms os) (1000 * (m9 : Int) + 1000) C → (∀ j : Nat, j = 117 ∨ j = 118 ∨ j = 206 ∨ j = 207 → Z j (-1) = S j (-1)) → wJ (pe_GA xs) wY0 (fun _ => False) (d + 94) t_M_steps ((pe_at t_M_steps.bl 0).getD (0, [])).2 [(0, (2, 237)), (1, (0, k)), (2, (0, wh))] [] (w_up Z 1000001 0 k9) (fun o2 S2 => o2 = .inl (some (0, k9)) ∧ S2 237 0 = 0 ∧ S2 1000001 0 = k9 ∧ RM xs (m9 + 1) S2) := fun w k9 C Z hwt hc hrun h9 hCZ hlp hwC hlen => by
    have zs := hCZ.2.2.2.2.2.2.2.2
    have uz : ∀ (j : Nat) (x : Int), (j ≠ 1000001 ∨ x < 0) → w_up Z 1000001 0 k9 j x = Z j x := fun j x hj => w_up_no (by omega)
    have vs : ∀ (j : Nat) (x : Int), 237 ≤ j → j < 400 → w_up Z 1000001 0 k9 j x = S j x := fun j x j0 j1 => (uz j x (by omega)).trans (zs j x (cSta_h ⟨j0, by omega, by omega⟩))
    have u1 : w_up Z 1000001 0 k9 1000001 0 = k9 := w_up_same _ _ _ _
    generalize w_up Z 1000001 0 k9 = V at uz vs u1 ⊢
    have hMV : w_ML V := fun y hy => (vs y.1 (-1) (by have := (wy_lt y hy).1; omega) (by have := (ML_t y hy).2; omega)).trans (hA.2.2.1 y hy)
    have hrV : rRel S V HT cs ms os X mo A V := rRel_zb hr hl (fun j x j0 j1 _ => vs j x j0 (by omega)) hMV (fun j x hj => by
      by_cases c : 237 ≤ j ∧ j < 387 ∧ (j ≠ 237 ∨ x ≠ 0)
      · rw [rBs_i c]
        exact vs j x c.1 (by omega)
      · rw [rBs_o c])
    have tk : ∀ (j : Nat) (x : Int), j ≠ 237 → tkZ k V j x = V j x := fun j x hj => by
      unfold tkZ
      rw [w_up_slot hj, w_up_slot hj, w_up_slot hj, w_up_slot hj, w_up_slot hj]
    have tk0 : tkZ k V 237 0 = 0 := by
      unfold tkZ
      rw [w_up_at (by first | decide | omega), w_up_at (by first | decide | omega), w_up_at (by first | decide | omega), w_up_at (by first | decide | omega), w_up_same]
    refine wJ_d (mss_o (d := d + 80) hMV (fun t t0 t1 => by rw [vs 358 t (by first | decide | omega) (by first | decide | omega)]; exact h58 t t0 t1) hk hwh (fun n => absurd hc n) (fun n e => absurd ((vs 357 k (by first | decide | omega) (by first | decide | omega)).trans hrun) e) (fun n e => ?_))
    refine wJ_mono (sps_r (wt_t hwt) (tkZ_r hrV hl) ⟨hc.2.2.1, hc.2.2.2⟩ hlp) (fun o2 Y hz => ?_)
    obtain ⟨z1, z2, -⟩ := hz
    have fb : ∀ (j : Nat) (x : Int), (j < 237 ∨ 387 ≤ j) → (j ≠ 1000001 ∨ x < 0) → tkZ k V j x = Z j x := fun j x j0 j1 => (tk j x (by omega)).trans (uz j x j1)
    have yb : ∀ (j : Nat) (x : Int), rSta j x → ¬ (237 ≤ j ∧ j < 387 ∧ (j ≠ 237 ∨ x ≠ 0)) → Y j x = tkZ k V j x := fun j x a b => (z2.2.2.2.2.2.2.2.2 j x a).trans (rBs_o b)
    refine ⟨z1, (yb 237 0 (by unfold rSta; omega) (by omega)).trans tk0, (yb 1000001 0 (by unfold rSta; omega) (by omega)).trans ((tk 1000001 0 (by first | decide | omega)).trans u1), ?_⟩
    exact RM_n hm hp hA ⟨⟨k1, ⟨k2, k3, k4, k5⟩, k6⟩, k7⟩ hT ⟨hX, hX2⟩ hv hCZ hlen z2 (by rw [show (1000 : Int) * ((m9 + 1 : Nat) : Int) = 1000 * (m9 : Int) + 1000 by omega]; exact hwC) hV ⟨ho, RM_k h hA.2.1.2.1⟩ fb
  refine ll_steps (M2 := mS sML) (o := 1000001) (d := d + 93) (Q2 := fun o Z => (¬ (0 ≤ k ∧ k < 2 ∧ 1 ≤ wh ∧ wh ≤ 1000) ∧ nxO S 16 o Z) ∨ ((0 ≤ k ∧ k < 2 ∧ 1 ≤ wh ∧ wh ≤ 1000) ∧ S 357 k ≠ 1 ∧ nxO S 17 o Z) ∨ ((0 ≤ k ∧ k < 2 ∧ 1 ≤ wh ∧ wh ≤ 1000) ∧ ∃ (k9 : Int), o = .inl (some (0, k9)) ∧ (0 ≤ k9 ∧ k9 ≤ 1000) ∧ Z 1000001 (-1) = 1 ∧ wJ (pe_GA xs) wY0 (fun _ => False) (d + 94) t_M_steps ((pe_at t_M_steps.bl 0).getD (0, [])).2 [(0, (2, 237)), (1, (0, k)), (2, (0, wh))] [] (w_up Z 1000001 0 k9) (fun o2 S2 => o2 = .inl (some (0, k9)) ∧ S2 237 0 = 0 ∧ S2 1000001 0 = k9 ∧ RM xs (m9 + 1) S2))) ⟨Or.inr (by rw [ho]; decide), by unfold wG; decide⟩ wt_out ?_ (fun _ _ z => z) mo1 (sM_n (by first | decide | omega) (by first | decide | omega)) (fun o1 Z hz => ?_)
  · refine xss (d := d + 86) hC.1.2.1 hC.1.1 hA.1.2.2.2.2.2.2.1 hk hwh (fun n o Z hz => Or.inl ⟨n, hz⟩) (fun n e o Z hz => Or.inr (Or.inl ⟨n, ?_, hz⟩)) (fun n e e2 => ?_) (fun n e e2 => ?_)
    · rcases e with ⟨rfl, e⟩ | ⟨rfl, e⟩
      · rw [q0, ← s0]; exact e
      · rw [q1, ← s1]; exact e
    · subst e
      refine wJ_mono (sx_c (d := d) (w := 215) (t := 0) (B := 1000 * (m9 : Int)) hpp.1 (Or.inl ⟨rfl, rfl⟩) hx hT hw (by omega) hC ⟨n.2.2.1, n.2.2.2⟩) (fun o Z hz => Or.inr (Or.inr ⟨n, ?_⟩))
      obtain ⟨k9, C, z1, z2, z3, z4, z5, z6⟩ := hz
      exact ⟨k9, z1, z2, (z3.2.2.2.2.2.2.2.2 1000001 (-1) (cSta_h ⟨by decide, by decide, by rw [hg]; decide⟩)).trans ho, go 215 k9 C Z (Or.inl ⟨rfl, rfl⟩) n (by rw [q0, ← s0]; exact e2) z2 z3 z4 z5 z6⟩
    · subst e
      refine wJ_mono (sx_c (d := d) (w := 226) (t := 1) (B := 1000 * (m9 : Int)) hpp.1 (Or.inr ⟨rfl, rfl⟩) hx hT hw (by omega) hC ⟨n.2.2.1, n.2.2.2⟩) (fun o Z hz => Or.inr (Or.inr ⟨n, ?_⟩))
      obtain ⟨k9, C, z1, z2, z3, z4, z5, z6⟩ := hz
      exact ⟨k9, z1, z2, (z3.2.2.2.2.2.2.2.2 1000001 (-1) (cSta_h ⟨by decide, by decide, by rw [hg]; decide⟩)).trans ho, go 226 k9 C Z (Or.inr ⟨rfl, rfl⟩) n (by rw [q1, ← s1]; exact e2) z2 z3 z4 z5 z6⟩
  · rcases hz with ⟨n, x⟩ | ⟨n, e, x⟩ | ⟨n, k9, rfl, z2, z3, z4⟩
    · obtain ⟨v, rfl, -, -, -, ty, pr⟩ := id x
      refine Or.inr (Or.inl ⟨v, rfl, ty, pr, wJ_mono (key Z (zO_n x) 1 (Or.inl ⟨rfl, n⟩)) (fun o2 S2 z => ?_)⟩)
      obtain ⟨rfl, rfl⟩ := z
      exact ⟨⟨1, 0, rfl, rfl, w_up_same _ _ _ _, ⟨by decide, by decide⟩, fun z => absurd z (by first | decide | omega)⟩, RM_w h hm (zO_n x)⟩
    · obtain ⟨v, rfl, -, -, -, ty, pr⟩ := id x
      refine Or.inr (Or.inr ⟨v, rfl, ty, pr, wJ_mono (key Z (zO_n x) 2 (Or.inr ⟨rfl, n, e⟩)) (fun o2 S2 z => ?_)⟩)
      obtain ⟨rfl, rfl⟩ := z
      exact ⟨⟨2, 0, rfl, rfl, w_up_same _ _ _ _, ⟨by decide, by decide⟩, fun z => absurd z (by first | decide | omega)⟩, RM_w h hm (zO_n x)⟩
    · refine Or.inl ⟨k9, rfl, ⟨by omega, by omega⟩, z3, wJ_mono z4 (fun o2 S2 z => ?_)⟩
      exact ⟨⟨0, k9, rfl, z.1, z.2.1, z2, fun _ => z.2.2.1⟩, z.2.2.2⟩
end Wnk
