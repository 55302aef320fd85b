/-! PART ek: THROW, RETURN, TRY and its end, by tasks. -/
section Wek
variable {xs : List (Nat × List Int32)} {d : Nat} {S Z A T : wS} {K Kr : aK} {k v q t a b : Int} {u : aV} {w m : Nat}
theorem wJ_M {G : pe_G} {Y : wY} {M M2 : Nat → Prop} {mt : pe_Mt} {is : List pe_I} {L : wL} {st : List wv} {Q : wO → wS → Prop} (h : wJ G Y M d mt is L st S Q) (hm : ∀ j : Nat, M j → M2 j) : wJ G Y M2 d mt is L st S Q := by
  intro ad Lc hp he hl
  obtain ⟨o, ad2, S2, h2, f0, h1, h3, h4, h5⟩ := h ad Lc hp he hl
  exact ⟨o, ad2, S2, h2, f0, h1, h3, fun j hj => ⟨(h4 j hj).1, fun q => (h4 j hj).2 (fun z => q (hm j z))⟩, h5⟩
theorem mS_s {l l2 : List Nat} (h : ∀ x ∈ l, x ∈ l2) : ∀ j : Nat, mS l j → mS l2 j := fun j hj => hj.imp id (h j)
/-- a step of the class that changes its task alone, the row of tries may grow -/
def cS3 (xs : List (Nat × List Int32)) (d w : Nat) (S : wS) (K2 : aK) : Prop := wJ (pe_GA xs) wY0 (mS [w + 2, w + 3, w + 10]) (d + 12) t_XK_step ((pe_at t_XK_step.bl 0).getD (0, [])).2 [(0, (2, w))] [] S (fun o Z => o = .inl (some (0, 1)) ∧ cTk w Z K2 ∧ cFr w S Z)
theorem cS3_t {K2 : aK} (h : cSt xs d w S K2) : cS3 xs d w S K2 := wJ_M h (mS_s (fun x hx => (List.mem_cons.mp hx).elim (fun r => by rw [r]; exact List.mem_cons_self) (fun r => List.mem_cons_of_mem _ ((List.mem_cons.mp r).elim (fun r => by rw [r]; exact List.mem_cons_self) (fun r => absurd r List.not_mem_nil)))))
theorem rs_16 (hw : w = 215 ∨ w = 226) (r : rsQ w k v T Z) : Z w 16 = T w 16 := by
  have hg : wG = 1000000 := rfl
  rcases r with ⟨-, rfl⟩ | ⟨hz, ra⟩
  · rw [w_up_at (by decide), w_up_at (by decide), w_up_at (by decide), w_up_at (by decide), w_up_at (by decide), w_up_at (by decide), w_up_at (by decide)]
  · rw [ra.2.2.2.1 w 16 (by omega) (by omega) (by omega) (by omega) (by omega), w_up_at (by decide), w_up_no (by omega), w_up_at (by decide), w_up_at (by decide)]
theorem tk_all {l : List aF} : l.take l.length = l := List.take_length
/-- a row of the newest call, of the class -/
theorem c_fr (h : cTk w S K) (h0 : 0 < K.2.1.length) : cVl S (S (w + 7) ((K.2.1.length : Int) - 1)) (S (w + 8) ((K.2.1.length : Int) - 1)) (K.2.1.getD (K.2.1.length - 1) (0, 0, 0, (0, 0, []), 0, 0, 0)).2.2.2.1 := by
  have := (h.2.1.2.2 (K.2.1.length - 1) (by omega)).2.1
  rw [show ((K.2.1.length - 1 : Nat) : Int) = (K.2.1.length : Int) - 1 by omega] at this
  exact this
theorem z30_215 (h : stC 215 S K) (hi : cIn S K 30 a b) (hab : (-2147483648 ≤ a ∧ a ≤ 2147483647) ∧ (-2147483648 ≤ b ∧ b ≤ 2147483647)) (hh1 : 1 ≤ K.1.length) : cSt xs d 215 S (kTh K (K.1.getD (K.1.length - 1) (0, 0, []))) := by
  obtain ⟨h1, ⟨h2, h2b⟩, ⟨h3, h4, h5⟩, -⟩ := id h
  have hf : cFr 215 S (w_up S 215 16 0) := cFr_up (Or.inl rfl) (cFr_rfl h2b) (by decide) (by omega)
  have hk : cTk 215 (w_up S 215 16 0) K := cTk_16 h1 (Or.inl rfl)
  have hx := xR_of hk (cFr_cl (Or.inl rfl) hf h2) hf.2.2.1 h5
  exact cg_p_215 h hi.1 hi.2.1 hi.2.2 (by decide) (fun _ => by omega) (fun x hx => hx) (by unfold mS; decide) (x30_215 (xP_of (Or.inl rfl) h) hab rfl rfl (by omega) hx) (fun Z hz => ⟨(rs_16 (Or.inl rfl) hz).trans (w_up_same _ _ _ _), cTk_rs hk (Or.inl rfl) hz (c_at hk (i := K.1.length - 1) (by omega) (j := (K.1.length : Int) - 1) (by omega)) h5 (by omega), cFr_rs (Or.inl rfl) hf hz (fun q => (hx.2.2.2 q).1.1) (fun q => (hx.2.2.2 q).2.1)⟩)
theorem z32_215 (h : stC 215 S K) (hi : cIn S K 32 a b) (hab : (-2147483648 ≤ a ∧ a ≤ 2147483647) ∧ (-2147483648 ≤ b ∧ b ≤ 2147483647)) (hy : 0 < K.2.2.1.length) : cSt xs d 215 S (kNx (K.1, K.2.1, K.2.2.1.take (K.2.2.1.length - 1), K.2.2.2) ((K.2.1.getD (K.2.1.length - 1) (0, 0, 0, (0, 0, []), 0, 0, 0)).2.1 + 1)) := by
  obtain ⟨h1, ⟨h2, h2b⟩, ⟨h3, h4, h5⟩, -⟩ := id h
  have hf : cFr 215 S (w_up S 215 16 0) := cFr_up (Or.inl rfl) (cFr_rfl h2b) (by decide) (by omega)
  have hk : cTk 215 (w_up S 215 16 0) K := cTk_16 h1 (Or.inl rfl)
  have c1 : (w_up S 215 16 0) 215 12 = 3 * (K.2.2.1.length : Int) := hk.2.2.1.1
  have c2 : 3 * (K.2.2.1.length : Int) ≤ 60000 := by have := hk.2.2.1; omega
  have hc := cTk_cu (m1 := K.2.1.length) (m2 := K.2.2.1.length - 1) (Z := w_up (w_up S 215 16 0) 215 12 (3 * (K.2.2.1.length : Int) - 3)) hk (Or.inl rfl) (Nat.le_refl _) (by omega) (fun j x hj => w_up_no (by omega)) ((w_up_at (by decide)).trans hk.2.1.1) ((w_up_same _ _ _ _).trans (by omega))
  have e : kCu K K.2.1.length (K.2.2.1.length - 1) = (K.1, K.2.1, K.2.2.1.take (K.2.2.1.length - 1), K.2.2.2) := by unfold kCu; rw [tk_all]
  rw [e] at hc
  exact cg_p_215 h hi.1 hi.2.1 hi.2.2 (by decide) (fun _ => by omega) (fun x hx => hx) (by unfold mS; decide) (x32_215 (xP_of (Or.inl rfl) h) hab c1 (by omega)) (fun Z hz => by subst hz; exact ⟨by rw [w_up_slot (by decide), w_up_at (by decide), w_up_same], cTk_nx hc (Or.inl rfl) h3, cFr_up (Or.inl rfl) (cFr_up (Or.inl rfl) hf (by decide) (by omega)) (by omega) (by omega)⟩)
theorem z31_215 (h : stC 215 S K) (hi : cIn S K 31 a b) (hab : (-2147483648 ≤ a ∧ a ≤ 2147483647) ∧ (-2147483648 ≤ b ∧ b ≤ 2147483647)) (hy : K.2.2.1.length < 10000) : cS3 xs d 215 S (kNx (kTy K a) ((K.2.1.getD (K.2.1.length - 1) (0, 0, 0, (0, 0, []), 0, 0, 0)).2.1 + 1)) := by
  obtain ⟨h1, ⟨h2, h2b⟩, ⟨h3, h4, h5⟩, -⟩ := id h
  have hf : cFr 215 S (w_up S 215 16 0) := cFr_up (Or.inl rfl) (cFr_rfl h2b) (by decide) (by omega)
  have hk : cTk 215 (w_up S 215 16 0) K := cTk_16 h1 (Or.inl rfl)
  obtain ⟨-, -, ⟨c1, c2, c3, c4, -⟩, -, -⟩ := id hk
  replace c2 : 3 * (K.2.2.1.length : Int) ≤ (w_up S 215 16 0) 225 (-1) := c2
  replace c3 : 48 ≤ (w_up S 215 16 0) 225 (-1) := c3
  replace c4 : (w_up S 215 16 0) 225 (-1) ≤ 60000 := c4
  refine cg_p_215 (R := fun Z => ∃ A : wS, tr_ag 215 (3 * (K.2.2.1.length : Int)) (w_up S 215 16 0) A ∧ w_up (w_up (w_up (w_up (w_up A 225 (3 * (K.2.2.1.length : Int)) (K.2.1.length : Int)) 225 (3 * (K.2.2.1.length : Int) + 1) a) 225 (3 * (K.2.2.1.length : Int) + 2) (K.1.length : Int)) 215 12 (3 * (K.2.2.1.length : Int) + 3)) 220 ((K.2.1.length : Int) - 1) ((K.2.1.getD (K.2.1.length - 1) (0, 0, 0, (0, 0, []), 0, 0, 0)).2.1 + 1) = Z) h hi.1 hi.2.1 hi.2.2 (by decide) (fun _ => by omega) (by decide) (by unfold mS; decide) (wJ_M (x31_215 (xP_of (Or.inl rfl) h) hab c1 (by omega) (by omega)) (mS_s (by decide))) (fun Z hz => ⟨?_, cTk_31 hk (Or.inl rfl) h3 hz, ?_⟩)
  · obtain ⟨A, hA, rfl⟩ := hz
    rw [w_up_slot (by decide), w_up_at (by decide), w_up_slot (by decide), w_up_slot (by decide), w_up_slot (by decide), hA.2.1 215 16 (by decide) (by decide) (by decide), w_up_same]
  · obtain ⟨A, hA, rfl⟩ := hz
    have hg : wG = 1000000 := rfl
    have hA2 : cFr 215 S A := cFr_tr hf ⟨fun j x j0 j1 j2 => hA.2.1 j x j0 j1 (by omega), fun j j0 j1 => hA.2.1 j (-1) (by omega) (by omega) (by omega), hA.2.2.2.1, hA.2.2.2.2⟩
    exact cFr_up (Or.inl rfl) (cFr_up (Or.inl rfl) (cFr_up (Or.inl rfl) (cFr_up (Or.inl rfl) (cFr_up (Or.inl rfl) hA2 (by omega) (by omega)) (by omega) (by omega)) (by omega) (by omega)) (by decide) (by omega)) (by omega) (by omega)
theorem z29_215 (h : stC 215 S K) (hi : cIn S K 29 a b) (hab : (-2147483648 ≤ a ∧ a ≤ 2147483647) ∧ (-2147483648 ≤ b ∧ b ≤ 2147483647)) (hh1 : 1 ≤ K.1.length) (hR : wRe K) : cSt xs d 215 S (kRe K (reV K)) := by
  obtain ⟨h1, ⟨h2, h2b⟩, ⟨h3, h4, h5⟩, -⟩ := id h
  have hf : cFr 215 S (w_up S 215 16 0) := cFr_up (Or.inl rfl) (cFr_rfl h2b) (by decide) (by omega)
  have hk : cTk 215 (w_up S 215 16 0) K := cTk_16 h1 (Or.inl rfl)
  have hg : wG = 1000000 := rfl
  obtain ⟨-, -, ⟨c1, c2, c3, c4, -⟩, -, -⟩ := id hk
  refine cg_p_215 h hi.1 hi.2.1 hi.2.2 (by decide) (fun _ => by omega) (fun x hx => hx) (by unfold mS; decide) (x29_215 (xP_of (Or.inl rfl) h) hab rfl rfl (by omega) c1 (by omega) (by omega) rfl rfl rfl) (fun Z hz => ⟨?_, cTk_re hk (Or.inl rfl) hR (by omega) rfl rfl rfl rfl rfl hz, ?_⟩)
  · obtain ⟨k1, v1, -, ⟨-, rfl⟩ | ⟨-, ra⟩⟩ := hz
    · rw [w_up_at (by decide), w_up_at (by decide), w_up_at (by decide), w_up_at (by decide), w_up_slot (by decide), w_up_at (by decide), w_up_at (by decide), w_up_at (by decide), w_up_at (by decide), w_up_slot (by decide), w_up_same]
    · rw [ra.2.2.2.1 215 16 (by decide) (by decide) (by decide) (by decide) (by decide), w_up_at (by decide), w_up_at (by decide), w_up_slot (by decide), w_up_same]
  · obtain ⟨k1, v1, -, ⟨-, rfl⟩ | ⟨-, ra⟩⟩ := hz
    · exact cFr_up (Or.inl rfl) (cFr_up (Or.inl rfl) (cFr_up (Or.inl rfl) (cFr_up (Or.inl rfl) (cFr_up (Or.inl rfl) (cFr_up (Or.inl rfl) (cFr_up (Or.inl rfl) (cFr_up (Or.inl rfl) (cFr_up (Or.inl rfl) (cFr_up (Or.inl rfl) hf (by decide) (by omega)) (by decide) (by omega)) (by decide) (by omega)) (by decide) (by omega)) (by decide) (by omega)) (by decide) (by omega)) (by decide) (by omega)) (by decide) (by omega)) (by decide) (by omega)) (by decide) (by omega)
    · exact cFr_ra (Or.inl rfl) (cFr_up (Or.inl rfl) (cFr_up (Or.inl rfl) (cFr_up (Or.inl rfl) hf (by decide) (by omega)) (by decide) (by omega)) (by decide) (by omega)) ra
theorem z30_226 (h : stC 226 S K) (hi : cIn S K 30 a b) (hab : (-2147483648 ≤ a ∧ a ≤ 2147483647) ∧ (-2147483648 ≤ b ∧ b ≤ 2147483647)) (hh1 : 1 ≤ K.1.length) : cSt xs d 226 S (kTh K (K.1.getD (K.1.length - 1) (0, 0, []))) := by
  obtain ⟨h1, ⟨h2, h2b⟩, ⟨h3, h4, h5⟩, -⟩ := id h
  have hf : cFr 226 S (w_up S 226 16 0) := cFr_up (Or.inr rfl) (cFr_rfl h2b) (by decide) (by omega)
  have hk : cTk 226 (w_up S 226 16 0) K := cTk_16 h1 (Or.inr rfl)
  have hx := xR_of hk (cFr_cl (Or.inr rfl) hf h2) hf.2.2.1 h5
  exact cg_p_226 h hi.1 hi.2.1 hi.2.2 (by decide) (fun _ => by omega) (fun x hx => hx) (by unfold mS; decide) (x30_226 (xP_of (Or.inr rfl) h) hab rfl rfl (by omega) hx) (fun Z hz => ⟨(rs_16 (Or.inr rfl) hz).trans (w_up_same _ _ _ _), cTk_rs hk (Or.inr rfl) hz (c_at hk (i := K.1.length - 1) (by omega) (j := (K.1.length : Int) - 1) (by omega)) h5 (by omega), cFr_rs (Or.inr rfl) hf hz (fun q => (hx.2.2.2 q).1.1) (fun q => (hx.2.2.2 q).2.1)⟩)
theorem z32_226 (h : stC 226 S K) (hi : cIn S K 32 a b) (hab : (-2147483648 ≤ a ∧ a ≤ 2147483647) ∧ (-2147483648 ≤ b ∧ b ≤ 2147483647)) (hy : 0 < K.2.2.1.length) : cSt xs d 226 S (kNx (K.1, K.2.1, K.2.2.1.take (K.2.2.1.length - 1), K.2.2.2) ((K.2.1.getD (K.2.1.length - 1) (0, 0, 0, (0, 0, []), 0, 0, 0)).2.1 + 1)) := by
  obtain ⟨h1, ⟨h2, h2b⟩, ⟨h3, h4, h5⟩, -⟩ := id h
  have hf : cFr 226 S (w_up S 226 16 0) := cFr_up (Or.inr rfl) (cFr_rfl h2b) (by decide) (by omega)
  have hk : cTk 226 (w_up S 226 16 0) K := cTk_16 h1 (Or.inr rfl)
  have c1 : (w_up S 226 16 0) 226 12 = 3 * (K.2.2.1.length : Int) := hk.2.2.1.1
  have c2 : 3 * (K.2.2.1.length : Int) ≤ 60000 := by have := hk.2.2.1; omega
  have hc := cTk_cu (m1 := K.2.1.length) (m2 := K.2.2.1.length - 1) (Z := w_up (w_up S 226 16 0) 226 12 (3 * (K.2.2.1.length : Int) - 3)) hk (Or.inr rfl) (Nat.le_refl _) (by omega) (fun j x hj => w_up_no (by omega)) ((w_up_at (by decide)).trans hk.2.1.1) ((w_up_same _ _ _ _).trans (by omega))
  have e : kCu K K.2.1.length (K.2.2.1.length - 1) = (K.1, K.2.1, K.2.2.1.take (K.2.2.1.length - 1), K.2.2.2) := by unfold kCu; rw [tk_all]
  rw [e] at hc
  exact cg_p_226 h hi.1 hi.2.1 hi.2.2 (by decide) (fun _ => by omega) (fun x hx => hx) (by unfold mS; decide) (x32_226 (xP_of (Or.inr rfl) h) hab c1 (by omega)) (fun Z hz => by subst hz; exact ⟨by rw [w_up_slot (by decide), w_up_at (by decide), w_up_same], cTk_nx hc (Or.inr rfl) h3, cFr_up (Or.inr rfl) (cFr_up (Or.inr rfl) hf (by decide) (by omega)) (by omega) (by omega)⟩)
theorem z31_226 (h : stC 226 S K) (hi : cIn S K 31 a b) (hab : (-2147483648 ≤ a ∧ a ≤ 2147483647) ∧ (-2147483648 ≤ b ∧ b ≤ 2147483647)) (hy : K.2.2.1.length < 10000) : cS3 xs d 226 S (kNx (kTy K a) ((K.2.1.getD (K.2.1.length - 1) (0, 0, 0, (0, 0, []), 0, 0, 0)).2.1 + 1)) := by
  obtain ⟨h1, ⟨h2, h2b⟩, ⟨h3, h4, h5⟩, -⟩ := id h
  have hf : cFr 226 S (w_up S 226 16 0) := cFr_up (Or.inr rfl) (cFr_rfl h2b) (by decide) (by omega)
  have hk : cTk 226 (w_up S 226 16 0) K := cTk_16 h1 (Or.inr rfl)
  obtain ⟨-, -, ⟨c1, c2, c3, c4, -⟩, -, -⟩ := id hk
  replace c2 : 3 * (K.2.2.1.length : Int) ≤ (w_up S 226 16 0) 236 (-1) := c2
  replace c3 : 48 ≤ (w_up S 226 16 0) 236 (-1) := c3
  replace c4 : (w_up S 226 16 0) 236 (-1) ≤ 60000 := c4
  refine cg_p_226 (R := fun Z => ∃ A : wS, tr_ag 226 (3 * (K.2.2.1.length : Int)) (w_up S 226 16 0) A ∧ w_up (w_up (w_up (w_up (w_up A 236 (3 * (K.2.2.1.length : Int)) (K.2.1.length : Int)) 236 (3 * (K.2.2.1.length : Int) + 1) a) 236 (3 * (K.2.2.1.length : Int) + 2) (K.1.length : Int)) 226 12 (3 * (K.2.2.1.length : Int) + 3)) 231 ((K.2.1.length : Int) - 1) ((K.2.1.getD (K.2.1.length - 1) (0, 0, 0, (0, 0, []), 0, 0, 0)).2.1 + 1) = Z) h hi.1 hi.2.1 hi.2.2 (by decide) (fun _ => by omega) (by decide) (by unfold mS; decide) (wJ_M (x31_226 (xP_of (Or.inr rfl) h) hab c1 (by omega) (by omega)) (mS_s (by decide))) (fun Z hz => ⟨?_, cTk_31 hk (Or.inr rfl) h3 hz, ?_⟩)
  · obtain ⟨A, hA, rfl⟩ := hz
    rw [w_up_slot (by decide), w_up_at (by decide), w_up_slot (by decide), w_up_slot (by decide), w_up_slot (by decide), hA.2.1 226 16 (by decide) (by decide) (by decide), w_up_same]
  · obtain ⟨A, hA, rfl⟩ := hz
    have hg : wG = 1000000 := rfl
    have hA2 : cFr 226 S A := cFr_tr hf ⟨fun j x j0 j1 j2 => hA.2.1 j x j0 j1 (by omega), fun j j0 j1 => hA.2.1 j (-1) (by omega) (by omega) (by omega), hA.2.2.2.1, hA.2.2.2.2⟩
    exact cFr_up (Or.inr rfl) (cFr_up (Or.inr rfl) (cFr_up (Or.inr rfl) (cFr_up (Or.inr rfl) (cFr_up (Or.inr rfl) hA2 (by omega) (by omega)) (by omega) (by omega)) (by omega) (by omega)) (by decide) (by omega)) (by omega) (by omega)
theorem z29_226 (h : stC 226 S K) (hi : cIn S K 29 a b) (hab : (-2147483648 ≤ a ∧ a ≤ 2147483647) ∧ (-2147483648 ≤ b ∧ b ≤ 2147483647)) (hh1 : 1 ≤ K.1.length) (hR : wRe K) : cSt xs d 226 S (kRe K (reV K)) := by
  obtain ⟨h1, ⟨h2, h2b⟩, ⟨h3, h4, h5⟩, -⟩ := id h
  have hf : cFr 226 S (w_up S 226 16 0) := cFr_up (Or.inr rfl) (cFr_rfl h2b) (by decide) (by omega)
  have hk : cTk 226 (w_up S 226 16 0) K := cTk_16 h1 (Or.inr rfl)
  have hg : wG = 1000000 := rfl
  obtain ⟨-, -, ⟨c1, c2, c3, c4, -⟩, -, -⟩ := id hk
  refine cg_p_226 h hi.1 hi.2.1 hi.2.2 (by decide) (fun _ => by omega) (fun x hx => hx) (by unfold mS; decide) (x29_226 (xP_of (Or.inr rfl) h) hab rfl rfl (by omega) c1 (by omega) (by omega) rfl rfl rfl) (fun Z hz => ⟨?_, cTk_re hk (Or.inr rfl) hR (by omega) rfl rfl rfl rfl rfl hz, ?_⟩)
  · obtain ⟨k1, v1, -, ⟨-, rfl⟩ | ⟨-, ra⟩⟩ := hz
    · rw [w_up_at (by decide), w_up_at (by decide), w_up_at (by decide), w_up_at (by decide), w_up_slot (by decide), w_up_at (by decide), w_up_at (by decide), w_up_at (by decide), w_up_at (by decide), w_up_slot (by decide), w_up_same]
    · rw [ra.2.2.2.1 226 16 (by decide) (by decide) (by decide) (by decide) (by decide), w_up_at (by decide), w_up_at (by decide), w_up_slot (by decide), w_up_same]
  · obtain ⟨k1, v1, -, ⟨-, rfl⟩ | ⟨-, ra⟩⟩ := hz
    · exact cFr_up (Or.inr rfl) (cFr_up (Or.inr rfl) (cFr_up (Or.inr rfl) (cFr_up (Or.inr rfl) (cFr_up (Or.inr rfl) (cFr_up (Or.inr rfl) (cFr_up (Or.inr rfl) (cFr_up (Or.inr rfl) (cFr_up (Or.inr rfl) (cFr_up (Or.inr rfl) hf (by decide) (by omega)) (by decide) (by omega)) (by decide) (by omega)) (by decide) (by omega)) (by decide) (by omega)) (by decide) (by omega)) (by decide) (by omega)) (by decide) (by omega)) (by decide) (by omega)) (by decide) (by omega)
    · exact cFr_ra (Or.inr rfl) (cFr_up (Or.inr rfl) (cFr_up (Or.inr rfl) (cFr_up (Or.inr rfl) hf (by decide) (by omega)) (by decide) (by omega)) (by decide) (by omega)) ra
theorem rn32 (h : stR t S K) (hs : S 357 t = 1) (hi : rIn S K 32 a b) (hab : (-2147483648 ≤ a ∧ a ≤ 2147483647) ∧ (-2147483648 ≤ b ∧ b ≤ 2147483647)) (hy : 0 < K.2.2.1.length) : rSt xs d t S (kNx (K.1, K.2.1, K.2.2.1.take (K.2.2.1.length - 1), K.2.2.2) ((K.2.1.getD (K.2.1.length - 1) (0, 0, 0, (0, 0, []), 0, 0, 0)).2.1 + 1)) := by
  obtain ⟨h1, h2, h3, ⟨h4, h5, h6⟩, ⟨h7, h8, h9, h9b⟩, ⟨g0, g1, g2, g3⟩, e0, e1⟩ := id h
  obtain ⟨r1, r2, r3⟩ := sr_row h1 h7
  have hk : rTk t (w_up (w_up S 237 154 (200 * t + (K.2.1.length : Int) - 1)) 237 155 ((K.2.1.getD (K.2.1.length - 1) (0, 0, 0, (0, 0, []), 0, 0, 0)).2.1 + 1)) K := T0_k h1
  have hc := rTk_cu (m1 := K.2.1.length) (m2 := K.2.2.1.length - 1) (Z := w_up (w_up (w_up S 237 154 (200 * t + (K.2.1.length : Int) - 1)) 237 155 ((K.2.1.getD (K.2.1.length - 1) (0, 0, 0, (0, 0, []), 0, 0, 0)).2.1 + 1)) 360 t ((K.2.2.1.length : Int) - 1)) hk (Nat.le_refl _) (by omega) (fun j x hj hj2 => w_up_no (by omega)) ((w_up_slot (by decide)).trans hk.2.1.1) ((w_up_same _ _ _ _).trans (by omega))
  have e : kCu K K.2.1.length (K.2.2.1.length - 1) = (K.1, K.2.1, K.2.2.1.take (K.2.2.1.length - 1), K.2.2.2) := by unfold kCu; rw [tk_all]
  rw [e] at hc
  have c2 := hk.2.2.1.2.1
  exact rg_t h hs hi.1 hi.2.1 hi.2.2 (by decide) (y32 (mP_of h) hab.1 hk.2.2.1.1 (by omega)) (fun Z hz => by subst hz; exact rp_g h (w_ML_up (T0_ml h2) (by omega)) ((w_up_slot (by decide)).trans T0_4) ((w_up_slot (by decide)).trans T0_5) hc rfl (rTf_up T0_f (no_t (by decide))))
theorem rn31 (h : stR t S K) (hs : S 357 t = 1) (hi : rIn S K 31 a b) (hab : (-2147483648 ≤ a ∧ a ≤ 2147483647) ∧ (-2147483648 ≤ b ∧ b ≤ 2147483647)) (hy : K.2.2.1.length < 10000) : rSt xs d t S (kNx (kTy K a) ((K.2.1.getD (K.2.1.length - 1) (0, 0, 0, (0, 0, []), 0, 0, 0)).2.1 + 1)) := by
  obtain ⟨h1, h2, h3, ⟨h4, h5, h6⟩, ⟨h7, h8, h9, h9b⟩, ⟨g0, g1, g2, g3⟩, e0, e1⟩ := id h
  obtain ⟨r1, r2, r3⟩ := sr_row h1 h7
  have hk : rTk t (w_up (w_up S 237 154 (200 * t + (K.2.1.length : Int) - 1)) 237 155 ((K.2.1.getD (K.2.1.length - 1) (0, 0, 0, (0, 0, []), 0, 0, 0)).2.1 + 1)) K := T0_k h1
  have hc := rTk_31 (x := a) hk h3 (by omega) h7
  exact rg_t h hs hi.1 hi.2.1 hi.2.2 (by decide) (y31 (mP_of h) hab.1 hk.2.2.1.1 (by omega)) (fun Z hz => by subst hz; exact rp_g h (w_ML_up (w_ML_up (w_ML_up (w_ML_up (T0_ml h2) (by omega)) (by omega)) (by omega)) (by omega)) ((w_up_slot (by decide)).trans ((w_up_slot (by decide)).trans ((w_up_slot (by decide)).trans ((w_up_slot (by decide)).trans T0_4)))) ((w_up_slot (by decide)).trans ((w_up_slot (by decide)).trans ((w_up_slot (by decide)).trans ((w_up_slot (by decide)).trans T0_5)))) hc rfl (rTf_up (rTf_up (rTf_up (rTf_up T0_f (no_y (by decide) (by omega))) (no_y (by decide) (by omega))) (no_y (by decide) (by omega))) (no_t (by decide))))
theorem rn30 (h : stR t S K) (hs : S 357 t = 1) (hi : rIn S K 30 a b) (hh : 1 ≤ K.1.length) (hp : wTr (K.1.take (K.1.length - 1), K.2)) : rSt xs d t S (kTh K (K.1.getD (K.1.length - 1) (0, 0, []))) := by
  obtain ⟨h1, h2, h3, ⟨h4, h5, h6⟩, ⟨h7, h8, h9, h9b⟩, ⟨g0, g1, g2, g3⟩, e0, e1⟩ := id h
  obtain ⟨r1, r2, r3⟩ := sr_row h1 h7
  have hl : (K.1.length : Int) - 1 = ((K.1.length - 1 : Nat) : Int) := by omega
  have hk : rTk t (w_up (w_up (w_up (w_up (w_up S 237 154 (200 * t + (K.2.1.length : Int) - 1)) 237 155 ((K.2.1.getD (K.2.1.length - 1) (0, 0, 0, (0, 0, []), 0, 0, 0)).2.1 + 1)) 359 t ((K.1.length : Int) - 1)) 237 110 ((w_up (w_up S 237 154 (200 * t + (K.2.1.length : Int) - 1)) 237 155 ((K.2.1.getD (K.2.1.length - 1) (0, 0, 0, (0, 0, []), 0, 0, 0)).2.1 + 1)) 363 (2100 * t + (K.1.length : Int) - 1))) 237 111 ((w_up (w_up S 237 154 (200 * t + (K.2.1.length : Int) - 1)) 237 155 ((K.2.1.getD (K.2.1.length - 1) (0, 0, 0, (0, 0, []), 0, 0, 0)).2.1 + 1)) 364 (2100 * t + (K.1.length : Int) - 1))) (K.1.take (K.1.length - 1), K.2) := by
    rw [hl]
    exact rTk_37 (rTk_37 (rTk_tk (T0_k h1) (by omega)) (by decide) (by decide)) (by decide) (by decide)
  have hf : rTf t S (w_up (w_up (w_up (w_up (w_up S 237 154 (200 * t + (K.2.1.length : Int) - 1)) 237 155 ((K.2.1.getD (K.2.1.length - 1) (0, 0, 0, (0, 0, []), 0, 0, 0)).2.1 + 1)) 359 t ((K.1.length : Int) - 1)) 237 110 ((w_up (w_up S 237 154 (200 * t + (K.2.1.length : Int) - 1)) 237 155 ((K.2.1.getD (K.2.1.length - 1) (0, 0, 0, (0, 0, []), 0, 0, 0)).2.1 + 1)) 363 (2100 * t + (K.1.length : Int) - 1))) 237 111 ((w_up (w_up S 237 154 (200 * t + (K.2.1.length : Int) - 1)) 237 155 ((K.2.1.getD (K.2.1.length - 1) (0, 0, 0, (0, 0, []), 0, 0, 0)).2.1 + 1)) 364 (2100 * t + (K.1.length : Int) - 1))) := rTf_up (rTf_up (rTf_up T0_f (no_t (by decide))) (no_37 (by decide))) (no_37 (by decide))
  have hM : w_ML (w_up (w_up (w_up (w_up (w_up S 237 154 (200 * t + (K.2.1.length : Int) - 1)) 237 155 ((K.2.1.getD (K.2.1.length - 1) (0, 0, 0, (0, 0, []), 0, 0, 0)).2.1 + 1)) 359 t ((K.1.length : Int) - 1)) 237 110 ((w_up (w_up S 237 154 (200 * t + (K.2.1.length : Int) - 1)) 237 155 ((K.2.1.getD (K.2.1.length - 1) (0, 0, 0, (0, 0, []), 0, 0, 0)).2.1 + 1)) 363 (2100 * t + (K.1.length : Int) - 1))) 237 111 ((w_up (w_up S 237 154 (200 * t + (K.2.1.length : Int) - 1)) 237 155 ((K.2.1.getD (K.2.1.length - 1) (0, 0, 0, (0, 0, []), 0, 0, 0)).2.1 + 1)) 364 (2100 * t + (K.1.length : Int) - 1))) := w_ML_up (w_ML_up (w_ML_up (T0_ml h2) (by omega)) (by decide)) (by decide)
  have lt : (K.1.take (K.1.length - 1)).length = K.1.length - 1 := by rw [List.length_take]; omega
  have hR : mR t (w_up (w_up (w_up (w_up (w_up S 237 154 (200 * t + (K.2.1.length : Int) - 1)) 237 155 ((K.2.1.getD (K.2.1.length - 1) (0, 0, 0, (0, 0, []), 0, 0, 0)).2.1 + 1)) 359 t ((K.1.length : Int) - 1)) 237 110 ((w_up (w_up S 237 154 (200 * t + (K.2.1.length : Int) - 1)) 237 155 ((K.2.1.getD (K.2.1.length - 1) (0, 0, 0, (0, 0, []), 0, 0, 0)).2.1 + 1)) 363 (2100 * t + (K.1.length : Int) - 1))) 237 111 ((w_up (w_up S 237 154 (200 * t + (K.2.1.length : Int) - 1)) 237 155 ((K.2.1.getD (K.2.1.length - 1) (0, 0, 0, (0, 0, []), 0, 0, 0)).2.1 + 1)) 364 (2100 * t + (K.1.length : Int) - 1))) := mR_of hk hM h3 ⟨(hf 237 151 (ou_37 (by decide))).trans h4, (hf 237 152 (ou_37 (by decide))).trans h5, (hf 237 153 (ou_37 (by decide))).trans h6⟩ hp ⟨h8, by rw [lt]; omega⟩
  have e : rTx (w_up (w_up S 237 154 (200 * t + (K.2.1.length : Int) - 1)) 237 155 ((K.2.1.getD (K.2.1.length - 1) (0, 0, 0, (0, 0, []), 0, 0, 0)).2.1 + 1)) (w_up (w_up (w_up (w_up (w_up S 237 154 (200 * t + (K.2.1.length : Int) - 1)) 237 155 ((K.2.1.getD (K.2.1.length - 1) (0, 0, 0, (0, 0, []), 0, 0, 0)).2.1 + 1)) 359 t ((K.1.length : Int) - 1)) 237 110 ((w_up (w_up S 237 154 (200 * t + (K.2.1.length : Int) - 1)) 237 155 ((K.2.1.getD (K.2.1.length - 1) (0, 0, 0, (0, 0, []), 0, 0, 0)).2.1 + 1)) 363 (2100 * t + (K.1.length : Int) - 1))) 237 111 ((w_up (w_up S 237 154 (200 * t + (K.2.1.length : Int) - 1)) 237 155 ((K.2.1.getD (K.2.1.length - 1) (0, 0, 0, (0, 0, []), 0, 0, 0)).2.1 + 1)) 364 (2100 * t + (K.1.length : Int) - 1))) := rTx_of ((w_up_at (by decide)).trans ((w_up_at (by decide)).trans (w_up_slot (by decide)))) ((w_up_at (by decide)).trans ((w_up_at (by decide)).trans (w_up_slot (by decide)))) (fun j x j0 j1 => (w_up_slot (by omega)).trans ((w_up_slot (by omega)).trans (w_up_slot (by omega))))
  have hv := rVl_mo (r_at (T0_k (x := (200 * t + (K.2.1.length : Int) - 1)) (y := (K.2.1.getD (K.2.1.length - 1) (0, 0, 0, (0, 0, []), 0, 0, 0)).2.1 + 1) h1) (i := K.1.length - 1) (by omega) (j := 2100 * t + (K.1.length : Int) - 1) (by omega)) e
  have ek : kTh (K.1.take (K.1.length - 1), K.2) (K.1.getD (K.1.length - 1) (0, 0, [])) = kTh K (K.1.getD (K.1.length - 1) (0, 0, [])) := by
    unfold kTh
    by_cases c : K.2.2.1.length = 0
    · rw [if_pos c, if_pos c]
    · have hw := (hp (K.2.2.1.length - 1) (show K.2.2.1.length - 1 < K.2.2.1.length by omega)).2
      rw [lt] at hw
      rw [if_neg c, if_neg c, List.take_take, Nat.min_eq_left hw]
  refine rt_n h hs (wJ_mono (d30_d (mP_of h) (r_16 r1 (by decide)) ⟨g0, g1⟩ (r_16 r2 (by decide)) (r_16 rfl (by decide)) ⟨e0, e1⟩ (r_16 hi.1 (by decide)) (r_16 hi.2.1 (by decide)) (r_16 hi.2.2 (by decide)) rfl rfl (by omega) hR) (fun o Z hz => ⟨hz.1, ?_, rTf_ts hf hR hz.2⟩))
  rw [← ek]
  exact rTk_ts hk h3 hz.2 hv hp
theorem rn29 (h : stR t S K) (hs : S 357 t = 1) (hi : rIn S K 29 a b) (hh : 1 ≤ K.1.length) (hR : wRe K) (hb : (K.2.1.getD (K.2.1.length - 1) (0, 0, 0, (0, 0, []), 0, 0, 0)).2.2.2.2.1 ≤ 1000000 ∧ -1 ≤ (K.2.1.getD (K.2.1.length - 1) (0, 0, 0, (0, 0, []), 0, 0, 0)).2.2.2.2.1) : rSt xs d t S (kRe K (reV K)) := by
  obtain ⟨h1, h2, h3, ⟨h4, h5, h6⟩, ⟨h7, h8, h9, h9b⟩, ⟨g0, g1, g2, g3⟩, e0, e1⟩ := id h
  obtain ⟨r1, r2, r3⟩ := sr_row h1 h7
  have hk : rTk t (w_up (w_up S 237 154 (200 * t + (K.2.1.length : Int) - 1)) 237 155 ((K.2.1.getD (K.2.1.length - 1) (0, 0, 0, (0, 0, []), 0, 0, 0)).2.1 + 1)) K := T0_k h1
  obtain ⟨-, -, x1, x2, x3⟩ := hk.2.1.2 (K.2.1.length - 1) (by omega)
  rw [show 200 * t + ((K.2.1.length - 1 : Nat) : Int) = (200 * t + (K.2.1.length : Int) - 1) by omega] at x1 x2 x3
  obtain ⟨⟨w0, w1⟩, w2, w3⟩ := id hR
  have c2 := hk.2.2.1.2.1
  refine rt_n h hs (wJ_mono (d29_d (mP_of h) (r_16 r1 (by decide)) ⟨g0, g1⟩ (r_16 r2 (by decide)) (r_16 rfl (by decide)) ⟨e0, e1⟩ (r_16 hi.1 (by decide)) (r_16 hi.2.1 (by decide)) (r_16 hi.2.2 (by decide)) (y29 (mP_of h) rfl rfl (by omega) x1 x2 x3 (by omega) (by omega) (by omega))) (fun o Z hz => ?_))
  obtain ⟨z0, hz⟩ := hz
  refine ⟨z0, rTk_re hk h3 hR rfl rfl x1 x2 x3 ?_, ?_⟩
  · rcases hz with ⟨q1, q2, hz⟩ | ⟨q1, hz⟩
    · exact ⟨4, _, _, Or.inl ⟨q1, q2, rfl, rfl⟩, fun j x j0 j1 => (w_up_no (by omega)).trans ((w_up_no (by omega)).trans ((w_up_no (by omega)).trans ((w_up_no (by omega)).trans ((w_up_no (by omega)).trans ((w_up_no (by omega)).trans ((w_up_no (by omega)).trans (w_up_no (by omega)))))))), ⟨(w_up_slot (by decide)).trans ((w_up_slot (by decide)).trans (w_up_same _ _ _ _)), (w_up_slot (by decide)).trans (w_up_same _ _ _ _), w_up_same _ _ _ _⟩, hz⟩
    · exact ⟨_, _, _, Or.inr ⟨q1, rfl, rfl⟩, fun j x j0 j1 => (w_up_no (by omega)).trans ((w_up_no (by omega)).trans ((w_up_no (by omega)).trans ((w_up_no (by omega)).trans ((w_up_no (by omega)).trans (w_up_no (by omega)))))), ⟨(w_up_slot (by decide)).trans ((w_up_slot (by decide)).trans (w_up_same _ _ _ _)), (w_up_slot (by decide)).trans (w_up_same _ _ _ _), w_up_same _ _ _ _⟩, hz⟩
  · have f1 : ∀ x y z b1 b2 b3 : Int, rTf t S (w_up (w_up (w_up (w_up (w_up (w_up (w_up (w_up S 237 154 (200 * t + (K.2.1.length : Int) - 1)) 237 155 ((K.2.1.getD (K.2.1.length - 1) (0, 0, 0, (0, 0, []), 0, 0, 0)).2.1 + 1)) 359 t x) 237 110 y) 237 111 z) 359 t b1) 360 t b2) 358 t b3) := fun x y z b1 b2 b3 => rTf_up (rTf_up (rTf_up (rTf_up (rTf_up (rTf_up T0_f (no_t (by decide))) (no_37 (by decide))) (no_37 (by decide))) (no_t (by decide))) (no_t (by decide))) (no_t (by decide))
    have f2 : ∀ x y z y2 z2 b1 b2 b3 : Int, rTf t S (w_up (w_up (w_up (w_up (w_up (w_up (w_up (w_up (w_up (w_up S 237 154 (200 * t + (K.2.1.length : Int) - 1)) 237 155 ((K.2.1.getD (K.2.1.length - 1) (0, 0, 0, (0, 0, []), 0, 0, 0)).2.1 + 1)) 359 t x) 237 110 y) 237 111 z) 237 110 y2) 237 111 z2) 359 t b1) 360 t b2) 358 t b3) := fun x y z y2 z2 b1 b2 b3 => rTf_up (rTf_up (rTf_up (rTf_up (rTf_up (rTf_up (rTf_up (rTf_up T0_f (no_t (by decide))) (no_37 (by decide))) (no_37 (by decide))) (no_37 (by decide))) (no_37 (by decide))) (no_t (by decide))) (no_t (by decide))) (no_t (by decide))
    rcases hz with ⟨q1, q2, ⟨q3, rfl⟩ | ⟨q3, rfl⟩⟩ | ⟨q1, ⟨q3, rfl⟩ | ⟨q3, rfl⟩⟩
    · exact rTf_fi (f2 _ _ _ _ _ _ _ _)
    · exact rTf_pU (rTf_up (f2 _ _ _ _ _ _ _ _) (no_37 (by decide))) (by omega)
    · exact rTf_fi (f1 _ _ _ _ _ _)
    · exact rTf_pU (rTf_up (f1 _ _ _ _ _ _) (no_37 (by decide))) (by omega)
end Wek
