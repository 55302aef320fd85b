/-! PART hg: the reference: chosen. -/
section Whg
variable {xs : List (Nat × List Int32)} {M : Nat → Prop} {d : Nat} {S Z A : wS} {T : Int → Int} {n : Int} {cs : List hCR} {ms : List hMR} {os : Int → List Int} {Q : wO → wS → Prop} {N : List (List Int)} {CH : List aQ} {wo mo : Int}
/-- how the reference writes down what is asked of a choice -/
def qMd (q : aQ) : Int := if q.2.1 = 2 then 2 else q.2.1 + 4 * q.2.2.1
def qNc (T : Int → Int) (cs : List hCR) (ms : List hMR) (os : Int → List Int) (N : List (List Int)) (q : aQ) : Int := if q.2.1 = 2 then -1 else if q.2.2.1 = 1 then (FA T cs ms os q.1 q.2.1 q.2.2.1 q.2.2.2.1).getD 0 (-1) else ixL N q.2.2.2.1
def qRk (T : Int → Int) (cs : List hCR) (ms : List hMR) (os : Int → List Int) (N : List (List Int)) (q : aQ) : Prop := (0 ≤ q.1 ∧ q.1 < (cs.length : Int)) ∧ (0 ≤ q.2.1 ∧ q.2.1 ≤ 2) ∧ (q.2.2.1 = 0 ∨ q.2.2.1 = 1) ∧ (q.2.1 = 2 → q.2.2.1 = 0 ∧ q.2.2.2.1 = []) ∧ (q.2.1 ≠ 2 → q.2.2.1 = 0 → q.2.2.2.1 ∈ N) ∧ q.2.2.2.2.length ≤ 8 ∧ FA T cs ms os q.1 q.2.1 q.2.2.1 q.2.2.2.1 ≠ []
def rRw (T : Int → Int) (cs : List hCR) (ms : List hMR) (os : Int → List Int) (N : List (List Int)) (q : aQ) (k : Int) (S : wS) : Prop := (S 346 k = q.1 ∧ S 347 k = qMd q ∧ S 348 k = qNc T cs ms os N q ∧ S 349 k = (q.2.2.2.2.length : Int)) ∧ (∀ i : Nat, i < q.2.2.2.2.length → S 350 (8 * k + (i : Int)) = q.2.2.2.2.getD i 0) ∧ S 351 k = rvA T cs ms os q
/-- the choices that are kept, in the reference -/
def rCh (T : Int → Int) (cs : List hCR) (ms : List hMR) (os : Int → List Int) (N : List (List Int)) (CH : List aQ) (wo mo : Int) (S : wS) : Prop := S 237 114 = (CH.length : Int) ∧ (∀ k : Nat, k < CH.length → rRw T cs ms os N (CH.getD k (0, 0, 0, [], [])) (k : Int) S ∧ qRk T cs ms os N (CH.getD k (0, 0, 0, [], []))) ∧ S 237 115 = wo ∧ S 237 67 = 2000 - mo + (CH.length : Int) ∧ ((CH.length : Int) ≤ mo ∧ mo ≤ 2000) ∧ (0 ≤ wo ∧ wo ≤ 10000000)
def chM (j : Nat) (x : Int) : Prop := (346 ≤ j ∧ j ≤ 351 ∧ 0 ≤ x) ∨ (j = 237 ∧ (x = 67 ∨ x = 114 ∨ x = 115))
def rcQ (CH : List aQ) (c md nc v : Int) (tl : List Int) (S0 : wS) (o : wO) (Z : wS) : Prop := o = .inl (some (0, v)) ∧ Z 237 115 = S0 237 115 + 1 ∧ (S0 237 67 < 2000 → (Z 237 114 = (CH.length : Int) + 1 ∧ Z 237 67 = S0 237 67 + 1) ∧ (Z 346 (CH.length : Int) = c ∧ Z 347 (CH.length : Int) = md ∧ Z 348 (CH.length : Int) = nc ∧ Z 349 (CH.length : Int) = (tl.length : Int)) ∧ (∀ i : Nat, i < tl.length → Z 350 (8 * (CH.length : Int) + (i : Int)) = tl.getD i 0) ∧ Z 351 (CH.length : Int) = v) ∧ (¬ S0 237 67 < 2000 → Z 237 114 = S0 237 114 ∧ Z 237 67 = S0 237 67) ∧ (∀ (j : Nat) (x : Int), 346 ≤ j → j ≤ 351 → 0 ≤ x → (j ≠ 350 ∧ x < (CH.length : Int) ∨ j = 350 ∧ x < 8 * (CH.length : Int)) → Z j x = S0 j x) ∧ ∀ (j : Nat) (x : Int), ¬ chM j x → Z j x = S0 j x
theorem ixL_at {W : List Int} (h : W ∈ N) : 0 ≤ ixL N W ∧ N.getD (ixL N W).toNat [] = W := by
  have e : ixL N W = (N.idxOf W : Int) := if_pos h
  rw [e]
  have hl : N.idxOf W < N.length := List.idxOf_lt_length_of_mem h
  refine ⟨by omega, ?_⟩
  rw [Int.toNat_natCast, List.getD_eq_getElem?_getD, List.getElem?_eq_getElem hl, List.getElem_idxOf hl]; rfl
theorem FA_hd {c am fs : Int} {WW : List Int} (h : FA T cs ms os c am fs WW ≠ []) : nmR T (hmR ms ((FA T cs ms os c am fs WW).getD 0 (-1))) = WW := by
  cases hF : FA T cs ms os c am fs WW with
  | nil => exact absurd hF h
  | cons m t =>
    have hm : m ∈ FA T cs ms os c am fs WW := by rw [hF]; exact List.mem_cons_self
    rcases cdA_m _ _ _ _ hm with z | z
    · exact absurd z List.not_mem_nil
    · exact (of_decide_eq_true z.2).2.2.2
theorem qR_e {q r : aQ} (hq : qRk T cs ms os N q) (hr : qRk T cs ms os N r) (h1 : q.1 = r.1) (h2 : qMd q = qMd r) (h3 : qNc T cs ms os N q = qNc T cs ms os N r) (h4 : q.2.2.2.2 = r.2.2.2.2) : q = r := by
  obtain ⟨c, am, fs, W, tl⟩ := q
  obtain ⟨c', am', fs', W', tl'⟩ := r
  obtain ⟨q1, q2, q3, q4, q5, q6, q7⟩ := hq
  obtain ⟨r1, r2, r3, r4, r5, r6, r7⟩ := hr
  replace h1 : c = c' := h1
  replace h4 : tl = tl' := h4
  replace h2 : (if am = 2 then 2 else am + 4 * fs : Int) = (if am' = 2 then 2 else am' + 4 * fs') := h2
  replace q2 : 0 ≤ am ∧ am ≤ 2 := q2
  replace r2 : 0 ≤ am' ∧ am' ≤ 2 := r2
  replace q3 : fs = 0 ∨ fs = 1 := q3
  replace r3 : fs' = 0 ∨ fs' = 1 := r3
  replace q4 : am = 2 → fs = 0 ∧ W = [] := q4
  replace r4 : am' = 2 → fs' = 0 ∧ W' = [] := r4
  replace q5 : am ≠ 2 → fs = 0 → W ∈ N := q5
  replace r5 : am' ≠ 2 → fs' = 0 → W' ∈ N := r5
  replace q7 : FA T cs ms os c am fs W ≠ [] := q7
  replace r7 : FA T cs ms os c' am' fs' W' ≠ [] := r7
  replace h3 : (if am = 2 then -1 else if fs = 1 then (FA T cs ms os c am fs W).getD 0 (-1) else ixL N W : Int) = (if am' = 2 then -1 else if fs' = 1 then (FA T cs ms os c' am' fs' W').getD 0 (-1) else ixL N W') := h3
  have ea : am = am' := by
    split at h2 <;> split at h2 <;> omega
  have ef : fs = fs' := by
    by_cases c2 : am = 2
    · have := (q4 c2).1; have := (r4 (by omega)).1; omega
    · rw [if_neg c2, if_neg (by omega)] at h2; omega
  subst h1 ea ef h4
  have eW : W = W' := by
    by_cases c2 : am = 2
    · rw [(q4 c2).2, (r4 c2).2]
    · rw [if_neg c2, if_neg c2] at h3
      by_cases c3 : fs = 1
      · rw [if_pos c3, if_pos c3] at h3
        rw [← FA_hd q7, ← FA_hd r7, h3]
      · rw [if_neg c3, if_neg c3] at h3
        rw [← (ixL_at (q5 c2 (by omega))).2, ← (ixL_at (r5 c2 (by omega))).2, h3]
  rw [eW]
theorem rCh_ag (h : rCh T cs ms os N CH wo mo S) (f : ∀ (j : Nat) (x : Int), chM j x → Z j x = S j x) : rCh T cs ms os N CH wo mo Z := by
  obtain ⟨h1, h2, h3, h4, h5⟩ := h
  refine ⟨(f 237 114 (by unfold chM; omega)).trans h1, fun k hk => ?_, (f 237 115 (by unfold chM; omega)).trans h3, (f 237 67 (by unfold chM; omega)).trans h4, h5⟩
  obtain ⟨⟨⟨a1, a2, a3, a4⟩, a5, a6⟩, a7⟩ := h2 k hk
  exact ⟨⟨⟨(f 346 _ (by unfold chM; omega)).trans a1, (f 347 _ (by unfold chM; omega)).trans a2, (f 348 _ (by unfold chM; omega)).trans a3, (f 349 _ (by unfold chM; omega)).trans a4⟩, fun i hi => (f 350 _ (by unfold chM; omega)).trans (a5 i hi), (f 351 _ (by unfold chM; omega)).trans a6⟩, a7⟩
theorem rc4_241 {c am fs md nc : Int} {WW tl : List Int} {k : Nat} (hM : w_ML S) (hK : KR 241 T n cs ms S) (hw : wHo cs ms os) (hC : rCh T cs ms os N CH wo mo S) (hT : tEs tl S) (hqk : qRk T cs ms os N (c, am, fs, WW, tl)) (hmd : md = (qMd (c, am, fs, WW, tl))) (hnc : nc = (qNc T cs ms os N (c, am, fs, WW, tl))) (hmr : 0 ≤ md ∧ md ≤ 5) (hnr : -1 ≤ nc ∧ nc ≤ 4000) (hk : k < CH.length) (h1 : CH.getD k (0, 0, 0, [], []) = (c, am, fs, WW, tl) → Q (.inl (some (0, rvA T cs ms os (c, am, fs, WW, tl)))) S) (h0 : CH.getD k (0, 0, 0, [], []) ≠ (c, am, fs, WW, tl) → wJ (pe_GA xs) wY0 M (d + 5) t_M_chosen ((pe_at t_M_chosen.bl 1).getD (0, [])).2 [(0, (2, 237)), (1, (0, c)), (2, (0, md)), (3, (0, nc)), (4, (0, ((k + 1 : Nat) : Int)))] [] S Q) : ∀ (f i : Nat) (v : Bool), tl.length - i < f → i ≤ tl.length → (v = true → ((CH.getD k (0, 0, 0, [], [])).1 = c ∧ qMd (CH.getD k (0, 0, 0, [], [])) = md ∧ qNc T cs ms os N (CH.getD k (0, 0, 0, [], [])) = nc ∧ (CH.getD k (0, 0, 0, [], [])).2.2.2.2.length = tl.length) ∧ ∀ j : Nat, j < i → (CH.getD k (0, 0, 0, [], [])).2.2.2.2.getD j 0 = tl.getD j 0) → (v = false → CH.getD k (0, 0, 0, [], []) ≠ (c, am, fs, WW, tl)) → wJ (pe_GA xs) wY0 M (d + 5) t_M_chosen ((pe_at t_M_chosen.bl 4).getD (0, [])).2 [(0, (2, 237)), (1, (0, c)), (2, (0, md)), (3, (0, nc)), (4, (0, (k : Int))), (5, (0, bI v)), (6, (0, (i : Int)))] [] S Q := by
  have hrow := hC.2.1 k hk
  have hr1 := hrow.1
  have h122 : S 237 122 = (tl.length : Int) := hT.1
  have htl := hT.2.2
  have h51 : S 351 (k : Int) = rvA T cs ms os (CH.getD k (0, 0, 0, [], [])) := hr1.2.2
  have hck := hC.2.2.2.2.1
  have hend : (((CH.getD k (0, 0, 0, [], [])).1 = c ∧ qMd (CH.getD k (0, 0, 0, [], [])) = md ∧ qNc T cs ms os N (CH.getD k (0, 0, 0, [], [])) = nc ∧ (CH.getD k (0, 0, 0, [], [])).2.2.2.2.length = tl.length) ∧ ∀ j : Nat, j < tl.length → (CH.getD k (0, 0, 0, [], [])).2.2.2.2.getD j 0 = tl.getD j 0) → CH.getD k (0, 0, 0, [], []) = (c, am, fs, WW, tl) := fun z => qR_e hrow.2 hqk z.1.1 (z.1.2.1.trans hmd) (z.1.2.2.1.trans hnc) (ls_eq.mpr ⟨z.1.2.2.2, fun j hj => z.2 j (by rw [z.1.2.2.2] at hj; exact hj)⟩)
  intro f
  induction f with
  | zero => intro i v h; exact absurd h (Nat.not_lt_zero _)
  | succ f ih =>
    intro i v hf hi hvt hvf
    have hbv := bI_rg v
    refine wa_iload (n := 6) rfl ?_
    refine wa_aload_n (n := 0) rfl ?_
    refine wb_gfi 237 rfl (wy_pr rfl) wt_237 wf_15_122 (v := (tl.length : Int)) (h122) (fun r1 => ?_)
    refine wa_icmpge (w_rg0 (by omega) (by omega)) (w_rg0 (by omega) (by omega)) ⟨_, rfl⟩ (fun c2 => ?_) (fun c2 => ?_)
    · skip
      by_cases cv : v = true
      · have hq := hend ⟨(hvt cv).1, fun j hj => (hvt cv).2 j (by rw [cv] at hbv; first | omega | exact absurd (show bI true = 0 by rw [← cv]; omega) (by first | decide | omega))⟩
        rw [cv]
        refine wJ_S (L2 := [(0, (2, 237)), (1, (0, c)), (2, (0, md)), (3, (0, nc)), (4, (0, (k : Int))), (5, (0, (bI true)))]) ?_ ⟨rfl, rfl, rfl, rfl, rfl, rfl, trivial⟩
        have hbt : bI true = 1 := rfl
        refine wa_iload (n := 5) rfl ?_
        refine wa_ifeq (w_rg0 (by omega) (by omega)) ⟨_, rfl⟩ (fun c103 => ?_) (fun c103 => ?_)
        · skip
          exact absurd c103 (by first | decide | omega)
        · skip
          refine wa_aload_n (n := 0) rfl ?_
          refine wb_gf4 237 rfl (wy_pr rfl) wt_237 wf_15_121 (v := 351) wl_237_121 ?_
          refine wa_iload (n := 4) rfl ?_
          refine wb_iald 351 rfl (wy_pr rfl) wt_351 (n := 2000) ((ml_351 hM)) (by omega) (by omega) (v := (rvA T cs ms os (CH.getD k (0, 0, 0, [], [])))) (h51) (fun r104 => ?_)
          refine wa_ireturn rfl ?_
          rw [hq]; exact h1 hq
      · have cf : v = false := Bool.eq_false_iff.mpr cv
        have hq := hvf cf
        rw [cf]
        refine wJ_S (L2 := [(0, (2, 237)), (1, (0, c)), (2, (0, md)), (3, (0, nc)), (4, (0, (k : Int))), (5, (0, (bI false)))]) ?_ ⟨rfl, rfl, rfl, rfl, rfl, rfl, trivial⟩
        have hbt : bI false = 0 := rfl
        refine wa_iload (n := 5) rfl ?_
        refine wa_ifeq (w_rg0 (by omega) (by omega)) ⟨_, rfl⟩ (fun c203 => ?_) (fun c203 => ?_)
        · skip
          refine wa_iinc rfl rfl ?_
          refine wa_goto ⟨_, rfl⟩ ?_
          exact wJ_S (h0 hq) ⟨rfl, rfl, rfl, rfl, rfl, trivial⟩
        · skip
          exact absurd rfl c203
    · skip
      refine wa_iload (n := 5) rfl ?_
      refine wa_ifeq (w_rg0 (by omega) (by omega)) ⟨_, rfl⟩ (fun c3 => ?_) (fun c3 => ?_)
      · skip
        by_cases cv : v = true
        · have hq := hend ⟨(hvt cv).1, fun j hj => (hvt cv).2 j (by rw [cv] at hbv; first | omega | exact absurd (show bI true = 0 by rw [← cv]; omega) (by first | decide | omega))⟩
          rw [cv]
          refine wJ_S (L2 := [(0, (2, 237)), (1, (0, c)), (2, (0, md)), (3, (0, nc)), (4, (0, (k : Int))), (5, (0, (bI true)))]) ?_ ⟨rfl, rfl, rfl, rfl, rfl, rfl, trivial⟩
          have hbt : bI true = 1 := rfl
          refine wa_iload (n := 5) rfl ?_
          refine wa_ifeq (w_rg0 (by omega) (by omega)) ⟨_, rfl⟩ (fun c104 => ?_) (fun c104 => ?_)
          · skip
            exact absurd c104 (by first | decide | omega)
          · skip
            refine wa_aload_n (n := 0) rfl ?_
            refine wb_gf4 237 rfl (wy_pr rfl) wt_237 wf_15_121 (v := 351) wl_237_121 ?_
            refine wa_iload (n := 4) rfl ?_
            refine wb_iald 351 rfl (wy_pr rfl) wt_351 (n := 2000) ((ml_351 hM)) (by omega) (by omega) (v := (rvA T cs ms os (CH.getD k (0, 0, 0, [], [])))) (h51) (fun r105 => ?_)
            refine wa_ireturn rfl ?_
            rw [hq]; exact h1 hq
        · have cf : v = false := Bool.eq_false_iff.mpr cv
          have hq := hvf cf
          rw [cf]
          refine wJ_S (L2 := [(0, (2, 237)), (1, (0, c)), (2, (0, md)), (3, (0, nc)), (4, (0, (k : Int))), (5, (0, (bI false)))]) ?_ ⟨rfl, rfl, rfl, rfl, rfl, rfl, trivial⟩
          have hbt : bI false = 0 := rfl
          refine wa_iload (n := 5) rfl ?_
          refine wa_ifeq (w_rg0 (by omega) (by omega)) ⟨_, rfl⟩ (fun c204 => ?_) (fun c204 => ?_)
          · skip
            refine wa_iinc rfl rfl ?_
            refine wa_goto ⟨_, rfl⟩ ?_
            exact wJ_S (h0 hq) ⟨rfl, rfl, rfl, rfl, rfl, trivial⟩
          · skip
            exact absurd rfl c204
      · skip
        have hv1 := bI_1 (b := v) (by omega)
        have hvt1 := hvt hv1
        have h50 : S 350 ((8 * (k : Int)) + (i : Int)) = (CH.getD k (0, 0, 0, [], [])).2.2.2.2.getD i 0 := hr1.2.1 i (by rw [hvt1.1.2.2.2]; omega)
        have h52 := hT.2.1 i (by omega)
        refine wa_aload_n (n := 0) rfl ?_
        refine wb_gf4 237 rfl (wy_pr rfl) wt_237 wf_15_120 (v := 350) wl_237_120 ?_
        refine wa_bipush (w_rg2 (by omega) (by omega)) ?_
        refine wa_iload (n := 4) rfl ?_
        refine wa_imul ?_
        refine wa_iload (n := 6) rfl ?_
        refine wa_iadd ?_
        refine wb_iald 350 rfl (wy_pr rfl) wt_350 (n := 16000) ((ml_350 hM)) (by omega) (by omega) (v := ((CH.getD k (0, 0, 0, [], [])).2.2.2.2.getD i 0)) (h50) (fun r4 => ?_)
        refine wa_aload_n (n := 0) rfl ?_
        refine wb_gf4 237 rfl (wy_pr rfl) wt_237 wf_15_123 (v := 352) wl_237_123 ?_
        refine wa_iload (n := 6) rfl ?_
        refine wb_iald 352 rfl (wy_pr rfl) wt_352 (n := 8) ((ml_352 hM)) (by omega) (by omega) (v := (tl.getD i 0)) (h52) (fun r5 => ?_)
        refine wa_icmpne (w_rg0 (by omega) (by omega)) (w_rg0 (by omega) (by omega)) ⟨_, rfl⟩ (fun c6 => ?_) (fun c6 => ?_)
        · skip
          refine wa_iconst ?_
          refine wa_fall ⟨_, rfl⟩ ?_
          refine wa_istore (n := 5) rfl ?_
          refine wa_iinc rfl rfl ?_
          refine wa_goto ⟨_, rfl⟩ ?_
          refine wJ_S (ih (i + 1) false (by omega) (by omega) (fun z => absurd z (by first | decide | omega)) (fun _ z => ?_)) ⟨rfl, rfl, rfl, rfl, rfl, rfl, rfl, trivial⟩
          have z2 : (CH.getD k (0, 0, 0, [], [])).2.2.2.2.getD i 0 = tl.getD i 0 := by rw [z]
          omega
        · skip
          refine wa_iconst ?_
          refine wa_goto ⟨_, rfl⟩ ?_
          refine wa_istore (n := 5) rfl ?_
          refine wa_iinc rfl rfl ?_
          refine wa_goto ⟨_, rfl⟩ ?_
          refine wJ_S (ih (i + 1) true (by omega) (by omega) (fun _ => ⟨hvt1.1, fun j hj => ?_⟩) (fun z => absurd z (by first | decide | omega))) ⟨rfl, rfl, rfl, rfl, rfl, rfl, rfl, trivial⟩
          by_cases hji : j = i
          · rw [hji]; omega
          · exact hvt1.2 j (by omega)
theorem rc1_241 {c am fs md nc : Int} {WW tl : List Int} (hM : w_ML S) (hK : KR 241 T n cs ms S) (hw : wHo cs ms os) (hC : rCh T cs ms os N CH wo mo S) (hT : tEs tl S) (hqk : qRk T cs ms os N (c, am, fs, WW, tl)) (hmd : md = (qMd (c, am, fs, WW, tl))) (hnc : nc = (qNc T cs ms os N (c, am, fs, WW, tl))) (hmr : 0 ≤ md ∧ md ≤ 5) (hnr : -1 ≤ nc ∧ nc ≤ 4000) (hcr : 0 ≤ c ∧ c < 60) (h1 : (c, am, fs, WW, tl) ∈ CH → Q (.inl (some (0, rvA T cs ms os (c, am, fs, WW, tl)))) S) (h9 : (c, am, fs, WW, tl) ∉ CH → wJ (pe_GA xs) wY0 M (d + 5) t_M_chosen ((pe_at t_M_chosen.bl 9).getD (0, [])).2 [(0, (2, 237)), (1, (0, c)), (2, (0, md)), (3, (0, nc))] [] S Q) : ∀ (r k : Nat), k + r = CH.length → (∀ i : Nat, i < k → CH.getD i (0, 0, 0, [], []) ≠ (c, am, fs, WW, tl)) → wJ (pe_GA xs) wY0 M (d + 5) t_M_chosen ((pe_at t_M_chosen.bl 1).getD (0, [])).2 [(0, (2, 237)), (1, (0, c)), (2, (0, md)), (3, (0, nc)), (4, (0, (k : Int)))] [] S Q := by
  have h114 : S 237 114 = (CH.length : Int) := hC.1
  have hck := hC.2.2.2.2.1
  have h122 : S 237 122 = (tl.length : Int) := hT.1
  have htl := hT.2.2
  intro r
  induction r with
  | zero =>
    intro k hr hno
    have hni : (c, am, fs, WW, tl) ∉ CH := fun z => by
      obtain ⟨i, hi, e⟩ := List.getElem_of_mem z
      exact hno i (by omega) (by rw [List.getD_eq_getElem?_getD, List.getElem?_eq_getElem hi, e]; rfl)
    refine wa_iload (n := 4) rfl ?_
    refine wa_aload_n (n := 0) rfl ?_
    refine wb_gfi 237 rfl (wy_pr rfl) wt_237 wf_15_114 (v := (CH.length : Int)) (h114) (fun r1 => ?_)
    refine wa_icmpge (w_rg0 (by omega) (by omega)) (w_rg0 (by omega) (by omega)) ⟨_, rfl⟩ (fun c2 => ?_) (fun c2 => ?_)
    · skip
      exact wJ_S (h9 hni) ⟨rfl, rfl, rfl, rfl, trivial⟩
    · skip
      exfalso; omega
  | succ r ih =>
    intro k hr hno
    have hk : k < CH.length := by omega
    have hrow := hC.2.1 k hk
    have hr1 := hrow.1.1
    have hqr := hrow.2
    have e46 : S 346 (k : Int) = (CH.getD k (0, 0, 0, [], [])).1 := hr1.1
    have e47 : S 347 (k : Int) = qMd (CH.getD k (0, 0, 0, [], [])) := hr1.2.1
    have e48 : S 348 (k : Int) = qNc T cs ms os N (CH.getD k (0, 0, 0, [], [])) := hr1.2.2.1
    have e49 : S 349 (k : Int) = ((CH.getD k (0, 0, 0, [], [])).2.2.2.2.length : Int) := hr1.2.2.2
    have hmk : CH.getD k (0, 0, 0, [], []) ∈ CH := by rw [List.getD_eq_getElem?_getD, List.getElem?_eq_getElem hk]; exact List.getElem_mem hk
    refine wa_iload (n := 4) rfl ?_
    refine wa_aload_n (n := 0) rfl ?_
    refine wb_gfi 237 rfl (wy_pr rfl) wt_237 wf_15_114 (v := (CH.length : Int)) (h114) (fun r51 => ?_)
    refine wa_icmpge (w_rg0 (by omega) (by omega)) (w_rg0 (by omega) (by omega)) ⟨_, rfl⟩ (fun c52 => ?_) (fun c52 => ?_)
    · skip
      exfalso; omega
    · skip
      refine wa_aload_n (n := 0) rfl ?_
      refine wb_gf4 237 rfl (wy_pr rfl) wt_237 wf_15_116 (v := 346) wl_237_116 ?_
      refine wa_iload (n := 4) rfl ?_
      refine wb_iald 346 rfl (wy_pr rfl) wt_346 (n := 2000) ((ml_346 hM)) (by omega) (by omega) (v := (CH.getD k (0, 0, 0, [], [])).1) (e46) (fun r53 => ?_)
      refine wa_iload_n (n := 1) rfl ?_
      refine wa_icmpne (w_rg0 (by omega) (by omega)) (w_rg0 (by omega) (by omega)) ⟨_, rfl⟩ (fun c54 => ?_) (fun c54 => ?_)
      · skip
        refine wa_iconst ?_
        refine wa_fall ⟨_, rfl⟩ ?_
        refine wa_istore (n := 5) rfl ?_
        refine wa_iconst ?_
        refine wa_istore (n := 6) rfl ?_
        refine wa_fall ⟨_, rfl⟩ ?_
        have hdf : CH.getD k (0, 0, 0, [], []) ≠ (c, am, fs, WW, tl) := fun z => by
          have z1 : (CH.getD k (0, 0, 0, [], [])).1 = c := by rw [z]
          have z2 : qMd (CH.getD k (0, 0, 0, [], [])) = md := by rw [z, hmd]
          have z3 : qNc T cs ms os N (CH.getD k (0, 0, 0, [], [])) = nc := by rw [z, hnc]
          have z4 : (CH.getD k (0, 0, 0, [], [])).2.2.2.2.length = tl.length := by rw [z]
          omega
        refine wJ_S (rc4_241 hM hK hw hC hT hqk hmd hnc hmr hnr hk (fun e => h1 (by rw [← e]; exact hmk)) (fun e => ih (k + 1) (by omega) (fun i hi => ?_)) (tl.length + 1) 0 false (by omega) (by omega) (fun z => absurd z (by first | decide | omega)) (fun _ => hdf)) ⟨rfl, rfl, rfl, rfl, rfl, rfl, rfl, trivial⟩
        by_cases ci : i = k
        · rw [ci]; exact e
        · exact hno i (by omega)
      · skip
        refine wa_aload_n (n := 0) rfl ?_
        refine wb_gf4 237 rfl (wy_pr rfl) wt_237 wf_15_117 (v := 347) wl_237_117 ?_
        refine wa_iload (n := 4) rfl ?_
        refine wb_iald 347 rfl (wy_pr rfl) wt_347 (n := 2000) ((ml_347 hM)) (by omega) (by omega) (v := (qMd (CH.getD k (0, 0, 0, [], [])))) (e47) (fun r55 => ?_)
        refine wa_iload_n (n := 2) rfl ?_
        refine wa_icmpne (w_rg0 (by omega) (by omega)) (w_rg0 (by omega) (by omega)) ⟨_, rfl⟩ (fun c56 => ?_) (fun c56 => ?_)
        · skip
          refine wa_iconst ?_
          refine wa_fall ⟨_, rfl⟩ ?_
          refine wa_istore (n := 5) rfl ?_
          refine wa_iconst ?_
          refine wa_istore (n := 6) rfl ?_
          refine wa_fall ⟨_, rfl⟩ ?_
          have hdf : CH.getD k (0, 0, 0, [], []) ≠ (c, am, fs, WW, tl) := fun z => by
            have z1 : (CH.getD k (0, 0, 0, [], [])).1 = c := by rw [z]
            have z2 : qMd (CH.getD k (0, 0, 0, [], [])) = md := by rw [z, hmd]
            have z3 : qNc T cs ms os N (CH.getD k (0, 0, 0, [], [])) = nc := by rw [z, hnc]
            have z4 : (CH.getD k (0, 0, 0, [], [])).2.2.2.2.length = tl.length := by rw [z]
            omega
          refine wJ_S (rc4_241 hM hK hw hC hT hqk hmd hnc hmr hnr hk (fun e => h1 (by rw [← e]; exact hmk)) (fun e => ih (k + 1) (by omega) (fun i hi => ?_)) (tl.length + 1) 0 false (by omega) (by omega) (fun z => absurd z (by first | decide | omega)) (fun _ => hdf)) ⟨rfl, rfl, rfl, rfl, rfl, rfl, rfl, trivial⟩
          by_cases ci : i = k
          · rw [ci]; exact e
          · exact hno i (by omega)
        · skip
          refine wa_aload_n (n := 0) rfl ?_
          refine wb_gf4 237 rfl (wy_pr rfl) wt_237 wf_15_118 (v := 348) wl_237_118 ?_
          refine wa_iload (n := 4) rfl ?_
          refine wb_iald 348 rfl (wy_pr rfl) wt_348 (n := 2000) ((ml_348 hM)) (by omega) (by omega) (v := (qNc T cs ms os N (CH.getD k (0, 0, 0, [], [])))) (e48) (fun r57 => ?_)
          refine wa_iload_n (n := 3) rfl ?_
          refine wa_icmpne (w_rg0 (by omega) (by omega)) (w_rg0 (by omega) (by omega)) ⟨_, rfl⟩ (fun c58 => ?_) (fun c58 => ?_)
          · skip
            refine wa_iconst ?_
            refine wa_fall ⟨_, rfl⟩ ?_
            refine wa_istore (n := 5) rfl ?_
            refine wa_iconst ?_
            refine wa_istore (n := 6) rfl ?_
            refine wa_fall ⟨_, rfl⟩ ?_
            have hdf : CH.getD k (0, 0, 0, [], []) ≠ (c, am, fs, WW, tl) := fun z => by
              have z1 : (CH.getD k (0, 0, 0, [], [])).1 = c := by rw [z]
              have z2 : qMd (CH.getD k (0, 0, 0, [], [])) = md := by rw [z, hmd]
              have z3 : qNc T cs ms os N (CH.getD k (0, 0, 0, [], [])) = nc := by rw [z, hnc]
              have z4 : (CH.getD k (0, 0, 0, [], [])).2.2.2.2.length = tl.length := by rw [z]
              omega
            refine wJ_S (rc4_241 hM hK hw hC hT hqk hmd hnc hmr hnr hk (fun e => h1 (by rw [← e]; exact hmk)) (fun e => ih (k + 1) (by omega) (fun i hi => ?_)) (tl.length + 1) 0 false (by omega) (by omega) (fun z => absurd z (by first | decide | omega)) (fun _ => hdf)) ⟨rfl, rfl, rfl, rfl, rfl, rfl, rfl, trivial⟩
            by_cases ci : i = k
            · rw [ci]; exact e
            · exact hno i (by omega)
          · skip
            refine wa_aload_n (n := 0) rfl ?_
            refine wb_gf4 237 rfl (wy_pr rfl) wt_237 wf_15_119 (v := 349) wl_237_119 ?_
            refine wa_iload (n := 4) rfl ?_
            refine wb_iald 349 rfl (wy_pr rfl) wt_349 (n := 2000) ((ml_349 hM)) (by omega) (by omega) (v := ((CH.getD k (0, 0, 0, [], [])).2.2.2.2.length : Int)) (e49) (fun r59 => ?_)
            refine wa_aload_n (n := 0) rfl ?_
            refine wb_gfi 237 rfl (wy_pr rfl) wt_237 wf_15_122 (v := (tl.length : Int)) (h122) (fun r60 => ?_)
            refine wa_icmpne (w_rg0 (by omega) (by omega)) (w_rg0 (by omega) (by omega)) ⟨_, rfl⟩ (fun c61 => ?_) (fun c61 => ?_)
            · skip
              refine wa_iconst ?_
              refine wa_fall ⟨_, rfl⟩ ?_
              refine wa_istore (n := 5) rfl ?_
              refine wa_iconst ?_
              refine wa_istore (n := 6) rfl ?_
              refine wa_fall ⟨_, rfl⟩ ?_
              have hdf : CH.getD k (0, 0, 0, [], []) ≠ (c, am, fs, WW, tl) := fun z => by
                have z1 : (CH.getD k (0, 0, 0, [], [])).1 = c := by rw [z]
                have z2 : qMd (CH.getD k (0, 0, 0, [], [])) = md := by rw [z, hmd]
                have z3 : qNc T cs ms os N (CH.getD k (0, 0, 0, [], [])) = nc := by rw [z, hnc]
                have z4 : (CH.getD k (0, 0, 0, [], [])).2.2.2.2.length = tl.length := by rw [z]
                omega
              refine wJ_S (rc4_241 hM hK hw hC hT hqk hmd hnc hmr hnr hk (fun e => h1 (by rw [← e]; exact hmk)) (fun e => ih (k + 1) (by omega) (fun i hi => ?_)) (tl.length + 1) 0 false (by omega) (by omega) (fun z => absurd z (by first | decide | omega)) (fun _ => hdf)) ⟨rfl, rfl, rfl, rfl, rfl, rfl, rfl, trivial⟩
              by_cases ci : i = k
              · rw [ci]; exact e
              · exact hno i (by omega)
            · skip
              refine wa_iconst ?_
              refine wa_goto ⟨_, rfl⟩ ?_
              refine wa_istore (n := 5) rfl ?_
              refine wa_iconst ?_
              refine wa_istore (n := 6) rfl ?_
              refine wa_fall ⟨_, rfl⟩ ?_
              refine wJ_S (rc4_241 hM hK hw hC hT hqk hmd hnc hmr hnr hk (fun e => h1 (by rw [← e]; exact hmk)) (fun e => ih (k + 1) (by omega) (fun i hi => ?_)) (tl.length + 1) 0 true (by omega) (by omega) (fun _ => ⟨⟨by omega, by omega, by omega, by omega⟩, fun j hj => absurd hj (Nat.not_lt_zero _)⟩) (fun z => absurd z (by first | decide | omega))) ⟨rfl, rfl, rfl, rfl, rfl, rfl, rfl, trivial⟩
              by_cases ci : i = k
              · rw [ci]; exact e
              · exact hno i (by omega)
theorem rc10_241 {c md nc v : Int} {tl : List Int} {S0 : wS} (hM0 : w_ML S0) (hT : tEs tl S0) (hcl : CH.length < 2000) (h114 : S0 237 114 = (CH.length : Int)) (h67 : 0 ≤ S0 237 67 ∧ S0 237 67 < 2000) : ∀ (f i : Nat) (A : wS), tl.length - i < f → i ≤ tl.length → A 237 115 = S0 237 115 + 1 → (A 346 (CH.length : Int) = c ∧ A 347 (CH.length : Int) = md ∧ A 348 (CH.length : Int) = nc ∧ A 349 (CH.length : Int) = (tl.length : Int)) → (∀ j : Nat, j < i → A 350 (8 * (CH.length : Int) + (j : Int)) = tl.getD j 0) → (∀ (j : Nat) (x : Int), ¬ (346 ≤ j ∧ j ≤ 349 ∧ x = (CH.length : Int)) → ¬ (j = 350 ∧ 8 * (CH.length : Int) ≤ x) → ¬ (j = 237 ∧ x = 115) → A j x = S0 j x) → (-2147483648 ≤ v ∧ v ≤ 2147483647) → wJ (pe_GA xs) wY0 M (d + 5) t_M_chosen ((pe_at t_M_chosen.bl 10).getD (0, [])).2 [(0, (2, 237)), (1, (0, c)), (2, (0, md)), (3, (0, nc)), (4, (0, v)), (5, (0, (i : Int)))] [] A (rcQ CH c md nc v tl S0) := by
  have htl := hT.2.2
  intro f
  induction f with
  | zero => intro i A h; exact absurd h (Nat.not_lt_zero _)
  | succ f ih =>
    intro i A hf hi a1 a2 a3 a4 hv
    have hMA : w_ML A := fun q hq => (a4 q.1 (-1) (by omega) (by omega) (by omega)).trans (hM0 q hq)
    have e122 : A 237 122 = (tl.length : Int) := (a4 237 122 (by omega) (by omega) (by omega)).trans hT.1
    have e114 : A 237 114 = (CH.length : Int) := (a4 237 114 (by omega) (by omega) (by omega)).trans h114
    have e67 : A 237 67 = S0 237 67 := a4 237 67 (by omega) (by omega) (by omega)
    refine wa_iload (n := 5) rfl ?_
    refine wa_aload_n (n := 0) rfl ?_
    refine wb_gfi 237 rfl (wy_pr rfl) wt_237 wf_15_122 (v := (tl.length : Int)) (e122) (fun r1 => ?_)
    refine wa_icmpge (w_rg0 (by omega) (by omega)) (w_rg0 (by omega) (by omega)) ⟨_, rfl⟩ (fun c2 => ?_) (fun c2 => ?_)
    · skip
      refine wa_aload_n (n := 0) rfl ?_
      refine wb_gf4 237 rfl (wy_pr rfl) wt_237 wf_15_121 (v := 351) wl_237_121 ?_
      refine wa_aload_n (n := 0) rfl ?_
      refine wb_gfi 237 rfl (wy_pr rfl) wt_237 wf_15_114 (v := (CH.length : Int)) (e114) (fun r3 => ?_)
      refine wa_iload (n := 4) rfl ?_
      refine wb_iast 351 rfl (wy_pr rfl) wt_351 (n := 2000) ((ml_351 hMA)) (by omega) (by omega) ⟨(by omega), (by omega)⟩ ?_
      refine wa_aload_n (n := 0) rfl ?_
      refine wa_dup (by decide) ?_
      refine wb_gfi 237 rfl (wy_pr rfl) wt_237 wf_15_114 (v := (CH.length : Int)) ((w_up_slot (by decide)).trans (e114)) (fun r4 => ?_)
      refine wa_iconst ?_
      refine wa_iadd ?_
      refine wb_pfi 237 rfl (wy_pr rfl) wt_237 wf_15_114 (n := 114) rfl ⟨(by omega), (by omega)⟩ ?_
      refine wa_aload_n (n := 0) rfl ?_
      refine wa_dup (by decide) ?_
      refine wb_gfi 237 rfl (wy_pr rfl) wt_237 wf_15_67 (v := (S0 237 67)) ((w_up_at (by decide)).trans ((w_up_slot (by decide)).trans (e67))) (fun r5 => ?_)
      refine wa_iconst ?_
      refine wa_iadd ?_
      refine wb_pfi 237 rfl (wy_pr rfl) wt_237 wf_15_67 (n := 67) rfl ⟨(by omega), (by omega)⟩ ?_
      refine wa_fall ⟨_, rfl⟩ ?_
      refine wa_iload (n := 4) rfl ?_
      refine wa_ireturn rfl ?_
      refine ⟨rfl, (((w_up_at (by first | decide | omega)).trans ((w_up_at (by first | decide | omega)).trans (w_up_slot (by first | decide | omega)))) : (w_up (w_up (w_up A 351 (CH.length : Int) v) 237 114 ((CH.length : Int) + 1)) 237 67 ((S0 237 67) + 1)) 237 115 = A 237 115).trans a1, fun _ => ⟨⟨((w_up_at (by first | decide | omega)).trans (w_up_same _ _ _ _)), (w_up_same _ _ _ _)⟩, ⟨(((w_up_slot (by first | decide | omega)).trans ((w_up_slot (by first | decide | omega)).trans (w_up_slot (by first | decide | omega)))) : (w_up (w_up (w_up A 351 (CH.length : Int) v) 237 114 ((CH.length : Int) + 1)) 237 67 ((S0 237 67) + 1)) 346 (CH.length : Int) = A 346 (CH.length : Int)).trans a2.1, (((w_up_slot (by first | decide | omega)).trans ((w_up_slot (by first | decide | omega)).trans (w_up_slot (by first | decide | omega)))) : (w_up (w_up (w_up A 351 (CH.length : Int) v) 237 114 ((CH.length : Int) + 1)) 237 67 ((S0 237 67) + 1)) 347 (CH.length : Int) = A 347 (CH.length : Int)).trans a2.2.1, (((w_up_slot (by first | decide | omega)).trans ((w_up_slot (by first | decide | omega)).trans (w_up_slot (by first | decide | omega)))) : (w_up (w_up (w_up A 351 (CH.length : Int) v) 237 114 ((CH.length : Int) + 1)) 237 67 ((S0 237 67) + 1)) 348 (CH.length : Int) = A 348 (CH.length : Int)).trans a2.2.2.1, (((w_up_slot (by first | decide | omega)).trans ((w_up_slot (by first | decide | omega)).trans (w_up_slot (by first | decide | omega)))) : (w_up (w_up (w_up A 351 (CH.length : Int) v) 237 114 ((CH.length : Int) + 1)) 237 67 ((S0 237 67) + 1)) 349 (CH.length : Int) = A 349 (CH.length : Int)).trans a2.2.2.2⟩, fun j hj => ((w_up_slot (by first | decide | omega)).trans ((w_up_slot (by first | decide | omega)).trans ((w_up_slot (by first | decide | omega)).trans (a3 j (by omega))))), ((w_up_slot (by first | decide | omega)).trans ((w_up_slot (by first | decide | omega)).trans (w_up_same _ _ _ _)))⟩, fun z => absurd h67.2 z, fun j x j0 j1 x0 hx => ?_, fun j x hj => ?_⟩
      · exact ((w_up_no (by omega)).trans ((w_up_no (by omega)).trans ((w_up_no (by omega)).trans (a4 j x (by omega) (by omega) (by omega)))))
      · exact ((w_up_no (by unfold chM at hj; omega)).trans ((w_up_no (by unfold chM at hj; omega)).trans ((w_up_no (by unfold chM at hj; omega)).trans (a4 j x (by unfold chM at hj; omega) (by unfold chM at hj; omega) (by unfold chM at hj; omega)))))
    · skip
      have h52 : A 352 (i : Int) = tl.getD i 0 := (a4 352 _ (by omega) (by omega) (by omega)).trans (hT.2.1 i (by omega))
      refine wa_aload_n (n := 0) rfl ?_
      refine wb_gf4 237 rfl (wy_pr rfl) wt_237 wf_15_120 (v := 350) wl_237_120 ?_
      refine wa_bipush (w_rg2 (by omega) (by omega)) ?_
      refine wa_aload_n (n := 0) rfl ?_
      refine wb_gfi 237 rfl (wy_pr rfl) wt_237 wf_15_114 (v := (CH.length : Int)) (e114) (fun r6 => ?_)
      refine wa_imul ?_
      refine wa_iload (n := 5) rfl ?_
      refine wa_iadd ?_
      refine wa_aload_n (n := 0) rfl ?_
      refine wb_gf4 237 rfl (wy_pr rfl) wt_237 wf_15_123 (v := 352) wl_237_123 ?_
      refine wa_iload (n := 5) rfl ?_
      refine wb_iald 352 rfl (wy_pr rfl) wt_352 (n := 8) ((ml_352 hMA)) (by omega) (by omega) (v := (tl.getD i 0)) (h52) (fun r7 => ?_)
      refine wb_iast 350 rfl (wy_pr rfl) wt_350 (n := 16000) ((ml_350 hMA)) (by omega) (by omega) ⟨(by omega), (by omega)⟩ ?_
      refine wa_iinc rfl rfl ?_
      refine wa_goto ⟨_, rfl⟩ ?_
      refine wJ_S (ih (i + 1) _ (by omega) (by omega) ((w_up_slot (by first | decide | omega)).trans a1) ⟨(w_up_slot (by first | decide | omega)).trans a2.1, (w_up_slot (by first | decide | omega)).trans a2.2.1, (w_up_slot (by first | decide | omega)).trans a2.2.2.1, (w_up_slot (by first | decide | omega)).trans a2.2.2.2⟩ (fun j hj => ?_) (fun j x h1 h2 h3 => (w_up_no (by omega)).trans (a4 j x h1 h2 h3)) hv) ⟨rfl, rfl, rfl, rfl, rfl, rfl, trivial⟩
      by_cases cj : j = i
      · rw [cj]; exact w_up_same _ _ _ _
      · exact (w_up_at (by omega)).trans (a3 j (by omega))
theorem rcn_241 {c am fs md nc : Int} {WW tl F : List Int} (hM : w_ML S) (hK : KR 241 T n cs ms S) (hw : wHo cs ms os) (hC : rCh T cs ms os N CH wo mo S) (hT : tEs tl S) (hqk : qRk T cs ms os N (c, am, fs, WW, tl)) (hmd : md = (qMd (c, am, fs, WW, tl))) (hnc : nc = (qNc T cs ms os N (c, am, fs, WW, tl))) (hmr : 0 ≤ md ∧ md ≤ 5) (hnr : -1 ≤ nc ∧ nc ≤ 4000) (hes : esOk tl) (hty : ∀ c ∈ tl, c < 9 + (cs.length : Int)) (hcd : cdI F S) (hFm : ∀ x ∈ F, 0 ≤ x ∧ x < (ms.length : Int)) (hF : F = (FA T cs ms os c am fs WW)) (hwo : wo < 10000000) : wJ (pe_GA xs) wY0 M (d + 5) t_M_chosen ((pe_at t_M_chosen.bl 0).getD (0, [])).2 [(0, (2, 237)), (1, (0, c)), (2, (0, md)), (3, (0, nc))] [] S (fun o Z => o = .inl (some (0, rvA T cs ms os (c, am, fs, WW, tl))) ∧ rCh T cs ms os N (chN CH wo mo (c, am, fs, WW, tl) F).1 (chN CH wo mo (c, am, fs, WW, tl) F).2 mo Z ∧ ∀ (j : Nat) (x : Int), ¬ chM j x → Z j x = S j x) := by
  have hcr : 0 ≤ c ∧ c < 60 := by have z : 0 ≤ c ∧ c < (cs.length : Int) := hqk.1; have z2 := hw.1.1; omega
  have hFn : F ≠ [] := by rw [hF]; exact hqk.2.2.2.2.2.2
  have hrvs : rvA T cs ms os (c, am, fs, WW, tl) = sgA cs ms tl F := by rw [hF]; exact if_neg hqk.2.2.2.2.2.2
  have hrr := rvA_rg (T := T) (q := (c, am, fs, WW, tl)) hw hqk.1
  obtain ⟨v, hv⟩ : ∃ v : Int, v = rvA T cs ms os (c, am, fs, WW, tl) := ⟨_, rfl⟩
  rw [← hv] at hrr
  have h114 : S 237 114 = (CH.length : Int) := hC.1
  have hck := hC.2.2.2.2.1
  have h67e := hC.2.2.2.1
  have h115 := hC.2.2.1
  have hwor := hC.2.2.2.2.2
  have h122 : S 237 122 = (tl.length : Int) := hT.1
  have htl := hT.2.2
  have hnew : (c, am, fs, WW, tl) ∉ CH → ∀ Z : wS, rcQ CH c md nc v tl S (.inl (some (0, v))) Z → rCh T cs ms os N (chN CH wo mo (c, am, fs, WW, tl) F).1 (chN CH wo mo (c, am, fs, WW, tl) F).2 mo Z := by
    intro hni Z hz
    obtain ⟨-, z1, z2, z3, z4, z5⟩ := hz
    have e : chN CH wo mo (c, am, fs, WW, tl) F = (if (CH.length : Int) < mo then CH ++ [(c, am, fs, WW, tl)] else CH, wo + 1) := if_neg (fun y => y.elim hFn hni)
    rw [e]
    have hold : ∀ k : Nat, k < CH.length → rRw T cs ms os N (CH.getD k (0, 0, 0, [], [])) (k : Int) Z ∧ qRk T cs ms os N (CH.getD k (0, 0, 0, [], [])) := fun k hk => by
      obtain ⟨⟨⟨b1, b2, b3, b4⟩, b5, b6⟩, b7⟩ := hC.2.1 k hk
      have b8 := b7.2.2.2.2.2.1
      exact ⟨⟨⟨(z4 346 _ (by omega) (by omega) (by omega) (by omega)).trans b1, (z4 347 _ (by omega) (by omega) (by omega) (by omega)).trans b2, (z4 348 _ (by omega) (by omega) (by omega) (by omega)).trans b3, (z4 349 _ (by omega) (by omega) (by omega) (by omega)).trans b4⟩, fun i hi => (z4 350 _ (by omega) (by omega) (by omega) (by omega)).trans (b5 i hi), (z4 351 _ (by omega) (by omega) (by omega) (by omega)).trans b6⟩, b7⟩
    by_cases cm : (CH.length : Int) < mo
    · have hlt : S 237 67 < 2000 := by omega
      obtain ⟨⟨y1, y2⟩, ⟨y3, y4, y5, y6⟩, y7, y8⟩ := z2 hlt
      show rCh T cs ms os N (if (CH.length : Int) < mo then CH ++ [(c, am, fs, WW, tl)] else CH) (wo + 1) mo Z
      rw [if_pos cm]
      have hll : (CH ++ [(c, am, fs, WW, tl)]).length = CH.length + 1 := by rw [List.length_append]; rfl
      refine ⟨by rw [y1, hll]; omega, fun k hk => ?_, by rw [z1, h115], by rw [y2, h67e, hll]; omega, ⟨by rw [hll]; omega, hck.2⟩, ⟨by omega, by omega⟩⟩
      rw [hll] at hk
      by_cases ck : k = CH.length
      · have eg : (CH ++ [(c, am, fs, WW, tl)]).getD k (0, 0, 0, [], []) = (c, am, fs, WW, tl) := by rw [ck, List.getD_eq_getElem?_getD, List.getElem?_append_right (Nat.le_refl _), Nat.sub_self]; rfl
        rw [eg, ck]
        exact ⟨⟨⟨y3, y4.trans hmd, y5.trans hnc, y6⟩, y7, y8.trans hv⟩, hqk⟩
      · have eg : (CH ++ [(c, am, fs, WW, tl)]).getD k (0, 0, 0, [], []) = CH.getD k (0, 0, 0, [], []) := by rw [List.getD_eq_getElem?_getD, List.getD_eq_getElem?_getD, List.getElem?_append_left (by omega)]
        rw [eg]
        exact hold k (by omega)
    · have hge : ¬ S 237 67 < 2000 := by omega
      obtain ⟨y1, y2⟩ := z3 hge
      show rCh T cs ms os N (if (CH.length : Int) < mo then CH ++ [(c, am, fs, WW, tl)] else CH) (wo + 1) mo Z
      rw [if_neg cm]
      exact ⟨y1.trans h114, hold, by rw [z1, h115], y2.trans h67e, hck, ⟨by omega, by omega⟩⟩
  refine wa_iconst ?_
  refine wa_istore (n := 4) rfl ?_
  refine wa_fall ⟨_, rfl⟩ ?_
  refine wJ_S (rc1_241 hM hK hw hC hT hqk hmd hnc hmr hnr hcr (fun hin => ?_) (fun hni => ?_) CH.length 0 (by omega) (fun i hi => absurd hi (Nat.not_lt_zero _))) ⟨rfl, rfl, rfl, rfl, rfl, trivial⟩
  · have e : chN CH wo mo (c, am, fs, WW, tl) F = (CH, wo) := if_pos (Or.inr hin)
    rw [e]; exact ⟨rfl, hC, fun j x _ => rfl⟩
  · rw [← hv]
    refine wJ_mono (Q := (rcQ CH c md nc v tl S)) ?_ (fun o Z hz => ⟨hz.1, hnew hni Z ⟨rfl, hz.2⟩, hz.2.2.2.2.2⟩)
    refine wa_aload_n (n := 0) rfl ?_
    refine wa_cv 237 rfl (wy_pr rfl) wt_237 (M2 := fun _ => False) rfl at_M_single ⟨_, rfl⟩ rfl rfl ⟨(Or.inr ⟨wy_pr rfl, fun q => q⟩), trivial, trivial, trivial, trivial⟩ trivial (fun _ _ q => False.elim q) (wJ_mono (rsg_241 (S := S) (tl := tl) (F := F) hM hK hw hT hes hty hcd hFm) (fun o Z hz => (⟨hz.1, hz.2.trans (by rw [hv, hrvs])⟩ : S = Z ∧ o = .inl (some (0, v))))) (fun oq301 Sq301 hp302 q301 => ?_)
    rcases q301 with ⟨rfl, rfl⟩
    show wJ _ _ _ _ _ _ _ _ _ _
    refine wa_istore (n := 4) rfl ?_
    refine wa_aload_n (n := 0) rfl ?_
    refine wa_dup (by decide) ?_
    refine wb_gfi 237 rfl (wy_pr rfl) wt_237 wf_15_115 (v := (S 237 115)) rfl (fun r303 => ?_)
    refine wa_iconst ?_
    refine wa_iadd ?_
    refine wb_pfi 237 rfl (wy_pr rfl) wt_237 wf_15_115 (n := 115) rfl ⟨(by omega), (by omega)⟩ ?_
    refine wa_aload_n (n := 0) rfl ?_
    refine wb_gfi 237 rfl (wy_pr rfl) wt_237 wf_15_67 (v := (S 237 67)) (w_up_at (by decide)) (fun r304 => ?_)
    refine wa_sipush (by omega) ?_
    refine wa_icmpge (w_rg0 (by omega) (by omega)) (w_rg0 (by omega) (by omega)) ⟨_, rfl⟩ (fun c305 => ?_) (fun c305 => ?_)
    · skip
      refine wa_iload (n := 4) rfl ?_
      refine wa_ireturn rfl ?_
      exact ⟨rfl, (w_up_same _ _ _ _), fun z => absurd z (by omega), fun _ => ⟨w_up_at (by first | decide | omega), w_up_at (by first | decide | omega)⟩, fun j x j0 j1 x0 hx => (w_up_no (by omega)), fun j x hj => (w_up_no (by unfold chM at hj; omega))⟩
    · skip
      refine wa_aload_n (n := 0) rfl ?_
      refine wb_gf4 237 rfl (wy_pr rfl) wt_237 wf_15_116 (v := 346) wl_237_116 ?_
      refine wa_aload_n (n := 0) rfl ?_
      refine wb_gfi 237 rfl (wy_pr rfl) wt_237 wf_15_114 (v := (CH.length : Int)) ((w_up_at (by decide)).trans (h114)) (fun r306 => ?_)
      refine wa_iload_n (n := 1) rfl ?_
      refine wb_iast 346 rfl (wy_pr rfl) wt_346 (n := 2000) ((w_up_slot (by decide)).trans ((ml_346 hM))) (by omega) (by omega) ⟨(by omega), (by omega)⟩ ?_
      refine wa_aload_n (n := 0) rfl ?_
      refine wb_gf4 237 rfl (wy_pr rfl) wt_237 wf_15_117 (v := 347) wl_237_117 ?_
      refine wa_aload_n (n := 0) rfl ?_
      refine wb_gfi 237 rfl (wy_pr rfl) wt_237 wf_15_114 (v := (CH.length : Int)) ((w_up_slot (by decide)).trans ((w_up_at (by decide)).trans (h114))) (fun r307 => ?_)
      refine wa_iload_n (n := 2) rfl ?_
      refine wb_iast 347 rfl (wy_pr rfl) wt_347 (n := 2000) ((w_up_slot (by decide)).trans ((w_up_slot (by decide)).trans ((ml_347 hM)))) (by omega) (by omega) ⟨(by omega), (by omega)⟩ ?_
      refine wa_aload_n (n := 0) rfl ?_
      refine wb_gf4 237 rfl (wy_pr rfl) wt_237 wf_15_118 (v := 348) wl_237_118 ?_
      refine wa_aload_n (n := 0) rfl ?_
      refine wb_gfi 237 rfl (wy_pr rfl) wt_237 wf_15_114 (v := (CH.length : Int)) ((w_up_slot (by decide)).trans ((w_up_slot (by decide)).trans ((w_up_at (by decide)).trans (h114)))) (fun r308 => ?_)
      refine wa_iload_n (n := 3) rfl ?_
      refine wb_iast 348 rfl (wy_pr rfl) wt_348 (n := 2000) ((w_up_slot (by decide)).trans ((w_up_slot (by decide)).trans ((w_up_slot (by decide)).trans ((ml_348 hM))))) (by omega) (by omega) ⟨(by omega), (by omega)⟩ ?_
      refine wa_aload_n (n := 0) rfl ?_
      refine wb_gf4 237 rfl (wy_pr rfl) wt_237 wf_15_119 (v := 349) wl_237_119 ?_
      refine wa_aload_n (n := 0) rfl ?_
      refine wb_gfi 237 rfl (wy_pr rfl) wt_237 wf_15_114 (v := (CH.length : Int)) ((w_up_slot (by decide)).trans ((w_up_slot (by decide)).trans ((w_up_slot (by decide)).trans ((w_up_at (by decide)).trans (h114))))) (fun r309 => ?_)
      refine wa_aload_n (n := 0) rfl ?_
      refine wb_gfi 237 rfl (wy_pr rfl) wt_237 wf_15_122 (v := (tl.length : Int)) ((w_up_slot (by decide)).trans ((w_up_slot (by decide)).trans ((w_up_slot (by decide)).trans ((w_up_at (by decide)).trans (h122))))) (fun r310 => ?_)
      refine wb_iast 349 rfl (wy_pr rfl) wt_349 (n := 2000) ((w_up_slot (by decide)).trans ((w_up_slot (by decide)).trans ((w_up_slot (by decide)).trans ((w_up_slot (by decide)).trans ((ml_349 hM)))))) (by omega) (by omega) ⟨(by omega), (by omega)⟩ ?_
      refine wa_iconst ?_
      refine wa_istore (n := 5) rfl ?_
      refine wa_fall ⟨_, rfl⟩ ?_
      exact wJ_S (rc10_241 (S0 := S) hM hT (by omega) h114 ⟨by omega, by omega⟩ (tl.length + 1) 0 (w_up (w_up (w_up (w_up (w_up S 237 115 ((S 237 115) + 1)) 346 (CH.length : Int) c) 347 (CH.length : Int) md) 348 (CH.length : Int) nc) 349 (CH.length : Int) (tl.length : Int)) (by omega) (by omega) ((w_up_slot (by first | decide | omega)).trans ((w_up_slot (by first | decide | omega)).trans ((w_up_slot (by first | decide | omega)).trans ((w_up_slot (by first | decide | omega)).trans (w_up_same _ _ _ _))))) ⟨((w_up_slot (by first | decide | omega)).trans ((w_up_slot (by first | decide | omega)).trans ((w_up_slot (by first | decide | omega)).trans (w_up_same _ _ _ _)))), ((w_up_slot (by first | decide | omega)).trans ((w_up_slot (by first | decide | omega)).trans (w_up_same _ _ _ _))), ((w_up_slot (by first | decide | omega)).trans (w_up_same _ _ _ _)), (w_up_same _ _ _ _)⟩ (fun j hj => absurd hj (Nat.not_lt_zero _)) (fun j x h1 h2 h3 => ((w_up_no (by omega)).trans ((w_up_no (by omega)).trans ((w_up_no (by omega)).trans ((w_up_no (by omega)).trans (w_up_no (by omega))))))) ⟨by omega, by omega⟩) ⟨rfl, rfl, rfl, rfl, rfl, rfl, trivial⟩
theorem rc4_261 {c am fs md nc : Int} {WW tl : List Int} {k : Nat} (hM : w_ML S) (hK : KR 261 T n cs ms S) (hw : wHo cs ms os) (hC : rCh T cs ms os N CH wo mo S) (hT : tEs tl S) (hqk : qRk T cs ms os N (c, am, fs, WW, tl)) (hmd : md = (qMd (c, am, fs, WW, tl))) (hnc : nc = (qNc T cs ms os N (c, am, fs, WW, tl))) (hmr : 0 ≤ md ∧ md ≤ 5) (hnr : -1 ≤ nc ∧ nc ≤ 4000) (hk : k < CH.length) (h1 : CH.getD k (0, 0, 0, [], []) = (c, am, fs, WW, tl) → Q (.inl (some (0, rvA T cs ms os (c, am, fs, WW, tl)))) S) (h0 : CH.getD k (0, 0, 0, [], []) ≠ (c, am, fs, WW, tl) → wJ (pe_GA xs) wY0 M (d + 5) t_M_chosen ((pe_at t_M_chosen.bl 1).getD (0, [])).2 [(0, (2, 237)), (1, (0, c)), (2, (0, md)), (3, (0, nc)), (4, (0, ((k + 1 : Nat) : Int)))] [] S Q) : ∀ (f i : Nat) (v : Bool), tl.length - i < f → i ≤ tl.length → (v = true → ((CH.getD k (0, 0, 0, [], [])).1 = c ∧ qMd (CH.getD k (0, 0, 0, [], [])) = md ∧ qNc T cs ms os N (CH.getD k (0, 0, 0, [], [])) = nc ∧ (CH.getD k (0, 0, 0, [], [])).2.2.2.2.length = tl.length) ∧ ∀ j : Nat, j < i → (CH.getD k (0, 0, 0, [], [])).2.2.2.2.getD j 0 = tl.getD j 0) → (v = false → CH.getD k (0, 0, 0, [], []) ≠ (c, am, fs, WW, tl)) → wJ (pe_GA xs) wY0 M (d + 5) t_M_chosen ((pe_at t_M_chosen.bl 4).getD (0, [])).2 [(0, (2, 237)), (1, (0, c)), (2, (0, md)), (3, (0, nc)), (4, (0, (k : Int))), (5, (0, bI v)), (6, (0, (i : Int)))] [] S Q := by
  have hrow := hC.2.1 k hk
  have hr1 := hrow.1
  have h122 : S 237 122 = (tl.length : Int) := hT.1
  have htl := hT.2.2
  have h51 : S 351 (k : Int) = rvA T cs ms os (CH.getD k (0, 0, 0, [], [])) := hr1.2.2
  have hck := hC.2.2.2.2.1
  have hend : (((CH.getD k (0, 0, 0, [], [])).1 = c ∧ qMd (CH.getD k (0, 0, 0, [], [])) = md ∧ qNc T cs ms os N (CH.getD k (0, 0, 0, [], [])) = nc ∧ (CH.getD k (0, 0, 0, [], [])).2.2.2.2.length = tl.length) ∧ ∀ j : Nat, j < tl.length → (CH.getD k (0, 0, 0, [], [])).2.2.2.2.getD j 0 = tl.getD j 0) → CH.getD k (0, 0, 0, [], []) = (c, am, fs, WW, tl) := fun z => qR_e hrow.2 hqk z.1.1 (z.1.2.1.trans hmd) (z.1.2.2.1.trans hnc) (ls_eq.mpr ⟨z.1.2.2.2, fun j hj => z.2 j (by rw [z.1.2.2.2] at hj; exact hj)⟩)
  intro f
  induction f with
  | zero => intro i v h; exact absurd h (Nat.not_lt_zero _)
  | succ f ih =>
    intro i v hf hi hvt hvf
    have hbv := bI_rg v
    refine wa_iload (n := 6) rfl ?_
    refine wa_aload_n (n := 0) rfl ?_
    refine wb_gfi 237 rfl (wy_pr rfl) wt_237 wf_15_122 (v := (tl.length : Int)) (h122) (fun r1 => ?_)
    refine wa_icmpge (w_rg0 (by omega) (by omega)) (w_rg0 (by omega) (by omega)) ⟨_, rfl⟩ (fun c2 => ?_) (fun c2 => ?_)
    · skip
      by_cases cv : v = true
      · have hq := hend ⟨(hvt cv).1, fun j hj => (hvt cv).2 j (by rw [cv] at hbv; first | omega | exact absurd (show bI true = 0 by rw [← cv]; omega) (by first | decide | omega))⟩
        rw [cv]
        refine wJ_S (L2 := [(0, (2, 237)), (1, (0, c)), (2, (0, md)), (3, (0, nc)), (4, (0, (k : Int))), (5, (0, (bI true)))]) ?_ ⟨rfl, rfl, rfl, rfl, rfl, rfl, trivial⟩
        have hbt : bI true = 1 := rfl
        refine wa_iload (n := 5) rfl ?_
        refine wa_ifeq (w_rg0 (by omega) (by omega)) ⟨_, rfl⟩ (fun c103 => ?_) (fun c103 => ?_)
        · skip
          exact absurd c103 (by first | decide | omega)
        · skip
          refine wa_aload_n (n := 0) rfl ?_
          refine wb_gf4 237 rfl (wy_pr rfl) wt_237 wf_15_121 (v := 351) wl_237_121 ?_
          refine wa_iload (n := 4) rfl ?_
          refine wb_iald 351 rfl (wy_pr rfl) wt_351 (n := 2000) ((ml_351 hM)) (by omega) (by omega) (v := (rvA T cs ms os (CH.getD k (0, 0, 0, [], [])))) (h51) (fun r104 => ?_)
          refine wa_ireturn rfl ?_
          rw [hq]; exact h1 hq
      · have cf : v = false := Bool.eq_false_iff.mpr cv
        have hq := hvf cf
        rw [cf]
        refine wJ_S (L2 := [(0, (2, 237)), (1, (0, c)), (2, (0, md)), (3, (0, nc)), (4, (0, (k : Int))), (5, (0, (bI false)))]) ?_ ⟨rfl, rfl, rfl, rfl, rfl, rfl, trivial⟩
        have hbt : bI false = 0 := rfl
        refine wa_iload (n := 5) rfl ?_
        refine wa_ifeq (w_rg0 (by omega) (by omega)) ⟨_, rfl⟩ (fun c203 => ?_) (fun c203 => ?_)
        · skip
          refine wa_iinc rfl rfl ?_
          refine wa_goto ⟨_, rfl⟩ ?_
          exact wJ_S (h0 hq) ⟨rfl, rfl, rfl, rfl, rfl, trivial⟩
        · skip
          exact absurd rfl c203
    · skip
      refine wa_iload (n := 5) rfl ?_
      refine wa_ifeq (w_rg0 (by omega) (by omega)) ⟨_, rfl⟩ (fun c3 => ?_) (fun c3 => ?_)
      · skip
        by_cases cv : v = true
        · have hq := hend ⟨(hvt cv).1, fun j hj => (hvt cv).2 j (by rw [cv] at hbv; first | omega | exact absurd (show bI true = 0 by rw [← cv]; omega) (by first | decide | omega))⟩
          rw [cv]
          refine wJ_S (L2 := [(0, (2, 237)), (1, (0, c)), (2, (0, md)), (3, (0, nc)), (4, (0, (k : Int))), (5, (0, (bI true)))]) ?_ ⟨rfl, rfl, rfl, rfl, rfl, rfl, trivial⟩
          have hbt : bI true = 1 := rfl
          refine wa_iload (n := 5) rfl ?_
          refine wa_ifeq (w_rg0 (by omega) (by omega)) ⟨_, rfl⟩ (fun c104 => ?_) (fun c104 => ?_)
          · skip
            exact absurd c104 (by first | decide | omega)
          · skip
            refine wa_aload_n (n := 0) rfl ?_
            refine wb_gf4 237 rfl (wy_pr rfl) wt_237 wf_15_121 (v := 351) wl_237_121 ?_
            refine wa_iload (n := 4) rfl ?_
            refine wb_iald 351 rfl (wy_pr rfl) wt_351 (n := 2000) ((ml_351 hM)) (by omega) (by omega) (v := (rvA T cs ms os (CH.getD k (0, 0, 0, [], [])))) (h51) (fun r105 => ?_)
            refine wa_ireturn rfl ?_
            rw [hq]; exact h1 hq
        · have cf : v = false := Bool.eq_false_iff.mpr cv
          have hq := hvf cf
          rw [cf]
          refine wJ_S (L2 := [(0, (2, 237)), (1, (0, c)), (2, (0, md)), (3, (0, nc)), (4, (0, (k : Int))), (5, (0, (bI false)))]) ?_ ⟨rfl, rfl, rfl, rfl, rfl, rfl, trivial⟩
          have hbt : bI false = 0 := rfl
          refine wa_iload (n := 5) rfl ?_
          refine wa_ifeq (w_rg0 (by omega) (by omega)) ⟨_, rfl⟩ (fun c204 => ?_) (fun c204 => ?_)
          · skip
            refine wa_iinc rfl rfl ?_
            refine wa_goto ⟨_, rfl⟩ ?_
            exact wJ_S (h0 hq) ⟨rfl, rfl, rfl, rfl, rfl, trivial⟩
          · skip
            exact absurd rfl c204
      · skip
        have hv1 := bI_1 (b := v) (by omega)
        have hvt1 := hvt hv1
        have h50 : S 350 ((8 * (k : Int)) + (i : Int)) = (CH.getD k (0, 0, 0, [], [])).2.2.2.2.getD i 0 := hr1.2.1 i (by rw [hvt1.1.2.2.2]; omega)
        have h52 := hT.2.1 i (by omega)
        refine wa_aload_n (n := 0) rfl ?_
        refine wb_gf4 237 rfl (wy_pr rfl) wt_237 wf_15_120 (v := 350) wl_237_120 ?_
        refine wa_bipush (w_rg2 (by omega) (by omega)) ?_
        refine wa_iload (n := 4) rfl ?_
        refine wa_imul ?_
        refine wa_iload (n := 6) rfl ?_
        refine wa_iadd ?_
        refine wb_iald 350 rfl (wy_pr rfl) wt_350 (n := 16000) ((ml_350 hM)) (by omega) (by omega) (v := ((CH.getD k (0, 0, 0, [], [])).2.2.2.2.getD i 0)) (h50) (fun r4 => ?_)
        refine wa_aload_n (n := 0) rfl ?_
        refine wb_gf4 237 rfl (wy_pr rfl) wt_237 wf_15_123 (v := 352) wl_237_123 ?_
        refine wa_iload (n := 6) rfl ?_
        refine wb_iald 352 rfl (wy_pr rfl) wt_352 (n := 8) ((ml_352 hM)) (by omega) (by omega) (v := (tl.getD i 0)) (h52) (fun r5 => ?_)
        refine wa_icmpne (w_rg0 (by omega) (by omega)) (w_rg0 (by omega) (by omega)) ⟨_, rfl⟩ (fun c6 => ?_) (fun c6 => ?_)
        · skip
          refine wa_iconst ?_
          refine wa_fall ⟨_, rfl⟩ ?_
          refine wa_istore (n := 5) rfl ?_
          refine wa_iinc rfl rfl ?_
          refine wa_goto ⟨_, rfl⟩ ?_
          refine wJ_S (ih (i + 1) false (by omega) (by omega) (fun z => absurd z (by first | decide | omega)) (fun _ z => ?_)) ⟨rfl, rfl, rfl, rfl, rfl, rfl, rfl, trivial⟩
          have z2 : (CH.getD k (0, 0, 0, [], [])).2.2.2.2.getD i 0 = tl.getD i 0 := by rw [z]
          omega
        · skip
          refine wa_iconst ?_
          refine wa_goto ⟨_, rfl⟩ ?_
          refine wa_istore (n := 5) rfl ?_
          refine wa_iinc rfl rfl ?_
          refine wa_goto ⟨_, rfl⟩ ?_
          refine wJ_S (ih (i + 1) true (by omega) (by omega) (fun _ => ⟨hvt1.1, fun j hj => ?_⟩) (fun z => absurd z (by first | decide | omega))) ⟨rfl, rfl, rfl, rfl, rfl, rfl, rfl, trivial⟩
          by_cases hji : j = i
          · rw [hji]; omega
          · exact hvt1.2 j (by omega)
theorem rc1_261 {c am fs md nc : Int} {WW tl : List Int} (hM : w_ML S) (hK : KR 261 T n cs ms S) (hw : wHo cs ms os) (hC : rCh T cs ms os N CH wo mo S) (hT : tEs tl S) (hqk : qRk T cs ms os N (c, am, fs, WW, tl)) (hmd : md = (qMd (c, am, fs, WW, tl))) (hnc : nc = (qNc T cs ms os N (c, am, fs, WW, tl))) (hmr : 0 ≤ md ∧ md ≤ 5) (hnr : -1 ≤ nc ∧ nc ≤ 4000) (hcr : 0 ≤ c ∧ c < 60) (h1 : (c, am, fs, WW, tl) ∈ CH → Q (.inl (some (0, rvA T cs ms os (c, am, fs, WW, tl)))) S) (h9 : (c, am, fs, WW, tl) ∉ CH → wJ (pe_GA xs) wY0 M (d + 5) t_M_chosen ((pe_at t_M_chosen.bl 9).getD (0, [])).2 [(0, (2, 237)), (1, (0, c)), (2, (0, md)), (3, (0, nc))] [] S Q) : ∀ (r k : Nat), k + r = CH.length → (∀ i : Nat, i < k → CH.getD i (0, 0, 0, [], []) ≠ (c, am, fs, WW, tl)) → wJ (pe_GA xs) wY0 M (d + 5) t_M_chosen ((pe_at t_M_chosen.bl 1).getD (0, [])).2 [(0, (2, 237)), (1, (0, c)), (2, (0, md)), (3, (0, nc)), (4, (0, (k : Int)))] [] S Q := by
  have h114 : S 237 114 = (CH.length : Int) := hC.1
  have hck := hC.2.2.2.2.1
  have h122 : S 237 122 = (tl.length : Int) := hT.1
  have htl := hT.2.2
  intro r
  induction r with
  | zero =>
    intro k hr hno
    have hni : (c, am, fs, WW, tl) ∉ CH := fun z => by
      obtain ⟨i, hi, e⟩ := List.getElem_of_mem z
      exact hno i (by omega) (by rw [List.getD_eq_getElem?_getD, List.getElem?_eq_getElem hi, e]; rfl)
    refine wa_iload (n := 4) rfl ?_
    refine wa_aload_n (n := 0) rfl ?_
    refine wb_gfi 237 rfl (wy_pr rfl) wt_237 wf_15_114 (v := (CH.length : Int)) (h114) (fun r1 => ?_)
    refine wa_icmpge (w_rg0 (by omega) (by omega)) (w_rg0 (by omega) (by omega)) ⟨_, rfl⟩ (fun c2 => ?_) (fun c2 => ?_)
    · skip
      exact wJ_S (h9 hni) ⟨rfl, rfl, rfl, rfl, trivial⟩
    · skip
      exfalso; omega
  | succ r ih =>
    intro k hr hno
    have hk : k < CH.length := by omega
    have hrow := hC.2.1 k hk
    have hr1 := hrow.1.1
    have hqr := hrow.2
    have e46 : S 346 (k : Int) = (CH.getD k (0, 0, 0, [], [])).1 := hr1.1
    have e47 : S 347 (k : Int) = qMd (CH.getD k (0, 0, 0, [], [])) := hr1.2.1
    have e48 : S 348 (k : Int) = qNc T cs ms os N (CH.getD k (0, 0, 0, [], [])) := hr1.2.2.1
    have e49 : S 349 (k : Int) = ((CH.getD k (0, 0, 0, [], [])).2.2.2.2.length : Int) := hr1.2.2.2
    have hmk : CH.getD k (0, 0, 0, [], []) ∈ CH := by rw [List.getD_eq_getElem?_getD, List.getElem?_eq_getElem hk]; exact List.getElem_mem hk
    refine wa_iload (n := 4) rfl ?_
    refine wa_aload_n (n := 0) rfl ?_
    refine wb_gfi 237 rfl (wy_pr rfl) wt_237 wf_15_114 (v := (CH.length : Int)) (h114) (fun r51 => ?_)
    refine wa_icmpge (w_rg0 (by omega) (by omega)) (w_rg0 (by omega) (by omega)) ⟨_, rfl⟩ (fun c52 => ?_) (fun c52 => ?_)
    · skip
      exfalso; omega
    · skip
      refine wa_aload_n (n := 0) rfl ?_
      refine wb_gf4 237 rfl (wy_pr rfl) wt_237 wf_15_116 (v := 346) wl_237_116 ?_
      refine wa_iload (n := 4) rfl ?_
      refine wb_iald 346 rfl (wy_pr rfl) wt_346 (n := 2000) ((ml_346 hM)) (by omega) (by omega) (v := (CH.getD k (0, 0, 0, [], [])).1) (e46) (fun r53 => ?_)
      refine wa_iload_n (n := 1) rfl ?_
      refine wa_icmpne (w_rg0 (by omega) (by omega)) (w_rg0 (by omega) (by omega)) ⟨_, rfl⟩ (fun c54 => ?_) (fun c54 => ?_)
      · skip
        refine wa_iconst ?_
        refine wa_fall ⟨_, rfl⟩ ?_
        refine wa_istore (n := 5) rfl ?_
        refine wa_iconst ?_
        refine wa_istore (n := 6) rfl ?_
        refine wa_fall ⟨_, rfl⟩ ?_
        have hdf : CH.getD k (0, 0, 0, [], []) ≠ (c, am, fs, WW, tl) := fun z => by
          have z1 : (CH.getD k (0, 0, 0, [], [])).1 = c := by rw [z]
          have z2 : qMd (CH.getD k (0, 0, 0, [], [])) = md := by rw [z, hmd]
          have z3 : qNc T cs ms os N (CH.getD k (0, 0, 0, [], [])) = nc := by rw [z, hnc]
          have z4 : (CH.getD k (0, 0, 0, [], [])).2.2.2.2.length = tl.length := by rw [z]
          omega
        refine wJ_S (rc4_261 hM hK hw hC hT hqk hmd hnc hmr hnr hk (fun e => h1 (by rw [← e]; exact hmk)) (fun e => ih (k + 1) (by omega) (fun i hi => ?_)) (tl.length + 1) 0 false (by omega) (by omega) (fun z => absurd z (by first | decide | omega)) (fun _ => hdf)) ⟨rfl, rfl, rfl, rfl, rfl, rfl, rfl, trivial⟩
        by_cases ci : i = k
        · rw [ci]; exact e
        · exact hno i (by omega)
      · skip
        refine wa_aload_n (n := 0) rfl ?_
        refine wb_gf4 237 rfl (wy_pr rfl) wt_237 wf_15_117 (v := 347) wl_237_117 ?_
        refine wa_iload (n := 4) rfl ?_
        refine wb_iald 347 rfl (wy_pr rfl) wt_347 (n := 2000) ((ml_347 hM)) (by omega) (by omega) (v := (qMd (CH.getD k (0, 0, 0, [], [])))) (e47) (fun r55 => ?_)
        refine wa_iload_n (n := 2) rfl ?_
        refine wa_icmpne (w_rg0 (by omega) (by omega)) (w_rg0 (by omega) (by omega)) ⟨_, rfl⟩ (fun c56 => ?_) (fun c56 => ?_)
        · skip
          refine wa_iconst ?_
          refine wa_fall ⟨_, rfl⟩ ?_
          refine wa_istore (n := 5) rfl ?_
          refine wa_iconst ?_
          refine wa_istore (n := 6) rfl ?_
          refine wa_fall ⟨_, rfl⟩ ?_
          have hdf : CH.getD k (0, 0, 0, [], []) ≠ (c, am, fs, WW, tl) := fun z => by
            have z1 : (CH.getD k (0, 0, 0, [], [])).1 = c := by rw [z]
            have z2 : qMd (CH.getD k (0, 0, 0, [], [])) = md := by rw [z, hmd]
            have z3 : qNc T cs ms os N (CH.getD k (0, 0, 0, [], [])) = nc := by rw [z, hnc]
            have z4 : (CH.getD k (0, 0, 0, [], [])).2.2.2.2.length = tl.length := by rw [z]
            omega
          refine wJ_S (rc4_261 hM hK hw hC hT hqk hmd hnc hmr hnr hk (fun e => h1 (by rw [← e]; exact hmk)) (fun e => ih (k + 1) (by omega) (fun i hi => ?_)) (tl.length + 1) 0 false (by omega) (by omega) (fun z => absurd z (by first | decide | omega)) (fun _ => hdf)) ⟨rfl, rfl, rfl, rfl, rfl, rfl, rfl, trivial⟩
          by_cases ci : i = k
          · rw [ci]; exact e
          · exact hno i (by omega)
        · skip
          refine wa_aload_n (n := 0) rfl ?_
          refine wb_gf4 237 rfl (wy_pr rfl) wt_237 wf_15_118 (v := 348) wl_237_118 ?_
          refine wa_iload (n := 4) rfl ?_
          refine wb_iald 348 rfl (wy_pr rfl) wt_348 (n := 2000) ((ml_348 hM)) (by omega) (by omega) (v := (qNc T cs ms os N (CH.getD k (0, 0, 0, [], [])))) (e48) (fun r57 => ?_)
          refine wa_iload_n (n := 3) rfl ?_
          refine wa_icmpne (w_rg0 (by omega) (by omega)) (w_rg0 (by omega) (by omega)) ⟨_, rfl⟩ (fun c58 => ?_) (fun c58 => ?_)
          · skip
            refine wa_iconst ?_
            refine wa_fall ⟨_, rfl⟩ ?_
            refine wa_istore (n := 5) rfl ?_
            refine wa_iconst ?_
            refine wa_istore (n := 6) rfl ?_
            refine wa_fall ⟨_, rfl⟩ ?_
            have hdf : CH.getD k (0, 0, 0, [], []) ≠ (c, am, fs, WW, tl) := fun z => by
              have z1 : (CH.getD k (0, 0, 0, [], [])).1 = c := by rw [z]
              have z2 : qMd (CH.getD k (0, 0, 0, [], [])) = md := by rw [z, hmd]
              have z3 : qNc T cs ms os N (CH.getD k (0, 0, 0, [], [])) = nc := by rw [z, hnc]
              have z4 : (CH.getD k (0, 0, 0, [], [])).2.2.2.2.length = tl.length := by rw [z]
              omega
            refine wJ_S (rc4_261 hM hK hw hC hT hqk hmd hnc hmr hnr hk (fun e => h1 (by rw [← e]; exact hmk)) (fun e => ih (k + 1) (by omega) (fun i hi => ?_)) (tl.length + 1) 0 false (by omega) (by omega) (fun z => absurd z (by first | decide | omega)) (fun _ => hdf)) ⟨rfl, rfl, rfl, rfl, rfl, rfl, rfl, trivial⟩
            by_cases ci : i = k
            · rw [ci]; exact e
            · exact hno i (by omega)
          · skip
            refine wa_aload_n (n := 0) rfl ?_
            refine wb_gf4 237 rfl (wy_pr rfl) wt_237 wf_15_119 (v := 349) wl_237_119 ?_
            refine wa_iload (n := 4) rfl ?_
            refine wb_iald 349 rfl (wy_pr rfl) wt_349 (n := 2000) ((ml_349 hM)) (by omega) (by omega) (v := ((CH.getD k (0, 0, 0, [], [])).2.2.2.2.length : Int)) (e49) (fun r59 => ?_)
            refine wa_aload_n (n := 0) rfl ?_
            refine wb_gfi 237 rfl (wy_pr rfl) wt_237 wf_15_122 (v := (tl.length : Int)) (h122) (fun r60 => ?_)
            refine wa_icmpne (w_rg0 (by omega) (by omega)) (w_rg0 (by omega) (by omega)) ⟨_, rfl⟩ (fun c61 => ?_) (fun c61 => ?_)
            · skip
              refine wa_iconst ?_
              refine wa_fall ⟨_, rfl⟩ ?_
              refine wa_istore (n := 5) rfl ?_
              refine wa_iconst ?_
              refine wa_istore (n := 6) rfl ?_
              refine wa_fall ⟨_, rfl⟩ ?_
              have hdf : CH.getD k (0, 0, 0, [], []) ≠ (c, am, fs, WW, tl) := fun z => by
                have z1 : (CH.getD k (0, 0, 0, [], [])).1 = c := by rw [z]
                have z2 : qMd (CH.getD k (0, 0, 0, [], [])) = md := by rw [z, hmd]
                have z3 : qNc T cs ms os N (CH.getD k (0, 0, 0, [], [])) = nc := by rw [z, hnc]
                have z4 : (CH.getD k (0, 0, 0, [], [])).2.2.2.2.length = tl.length := by rw [z]
                omega
              refine wJ_S (rc4_261 hM hK hw hC hT hqk hmd hnc hmr hnr hk (fun e => h1 (by rw [← e]; exact hmk)) (fun e => ih (k + 1) (by omega) (fun i hi => ?_)) (tl.length + 1) 0 false (by omega) (by omega) (fun z => absurd z (by first | decide | omega)) (fun _ => hdf)) ⟨rfl, rfl, rfl, rfl, rfl, rfl, rfl, trivial⟩
              by_cases ci : i = k
              · rw [ci]; exact e
              · exact hno i (by omega)
            · skip
              refine wa_iconst ?_
              refine wa_goto ⟨_, rfl⟩ ?_
              refine wa_istore (n := 5) rfl ?_
              refine wa_iconst ?_
              refine wa_istore (n := 6) rfl ?_
              refine wa_fall ⟨_, rfl⟩ ?_
              refine wJ_S (rc4_261 hM hK hw hC hT hqk hmd hnc hmr hnr hk (fun e => h1 (by rw [← e]; exact hmk)) (fun e => ih (k + 1) (by omega) (fun i hi => ?_)) (tl.length + 1) 0 true (by omega) (by omega) (fun _ => ⟨⟨by omega, by omega, by omega, by omega⟩, fun j hj => absurd hj (Nat.not_lt_zero _)⟩) (fun z => absurd z (by first | decide | omega))) ⟨rfl, rfl, rfl, rfl, rfl, rfl, rfl, trivial⟩
              by_cases ci : i = k
              · rw [ci]; exact e
              · exact hno i (by omega)
theorem rc10_261 {c md nc v : Int} {tl : List Int} {S0 : wS} (hM0 : w_ML S0) (hT : tEs tl S0) (hcl : CH.length < 2000) (h114 : S0 237 114 = (CH.length : Int)) (h67 : 0 ≤ S0 237 67 ∧ S0 237 67 < 2000) : ∀ (f i : Nat) (A : wS), tl.length - i < f → i ≤ tl.length → A 237 115 = S0 237 115 + 1 → (A 346 (CH.length : Int) = c ∧ A 347 (CH.length : Int) = md ∧ A 348 (CH.length : Int) = nc ∧ A 349 (CH.length : Int) = (tl.length : Int)) → (∀ j : Nat, j < i → A 350 (8 * (CH.length : Int) + (j : Int)) = tl.getD j 0) → (∀ (j : Nat) (x : Int), ¬ (346 ≤ j ∧ j ≤ 349 ∧ x = (CH.length : Int)) → ¬ (j = 350 ∧ 8 * (CH.length : Int) ≤ x) → ¬ (j = 237 ∧ x = 115) → A j x = S0 j x) → (-2147483648 ≤ v ∧ v ≤ 2147483647) → wJ (pe_GA xs) wY0 M (d + 5) t_M_chosen ((pe_at t_M_chosen.bl 10).getD (0, [])).2 [(0, (2, 237)), (1, (0, c)), (2, (0, md)), (3, (0, nc)), (4, (0, v)), (5, (0, (i : Int)))] [] A (rcQ CH c md nc v tl S0) := by
  have htl := hT.2.2
  intro f
  induction f with
  | zero => intro i A h; exact absurd h (Nat.not_lt_zero _)
  | succ f ih =>
    intro i A hf hi a1 a2 a3 a4 hv
    have hMA : w_ML A := fun q hq => (a4 q.1 (-1) (by omega) (by omega) (by omega)).trans (hM0 q hq)
    have e122 : A 237 122 = (tl.length : Int) := (a4 237 122 (by omega) (by omega) (by omega)).trans hT.1
    have e114 : A 237 114 = (CH.length : Int) := (a4 237 114 (by omega) (by omega) (by omega)).trans h114
    have e67 : A 237 67 = S0 237 67 := a4 237 67 (by omega) (by omega) (by omega)
    refine wa_iload (n := 5) rfl ?_
    refine wa_aload_n (n := 0) rfl ?_
    refine wb_gfi 237 rfl (wy_pr rfl) wt_237 wf_15_122 (v := (tl.length : Int)) (e122) (fun r1 => ?_)
    refine wa_icmpge (w_rg0 (by omega) (by omega)) (w_rg0 (by omega) (by omega)) ⟨_, rfl⟩ (fun c2 => ?_) (fun c2 => ?_)
    · skip
      refine wa_aload_n (n := 0) rfl ?_
      refine wb_gf4 237 rfl (wy_pr rfl) wt_237 wf_15_121 (v := 351) wl_237_121 ?_
      refine wa_aload_n (n := 0) rfl ?_
      refine wb_gfi 237 rfl (wy_pr rfl) wt_237 wf_15_114 (v := (CH.length : Int)) (e114) (fun r3 => ?_)
      refine wa_iload (n := 4) rfl ?_
      refine wb_iast 351 rfl (wy_pr rfl) wt_351 (n := 2000) ((ml_351 hMA)) (by omega) (by omega) ⟨(by omega), (by omega)⟩ ?_
      refine wa_aload_n (n := 0) rfl ?_
      refine wa_dup (by decide) ?_
      refine wb_gfi 237 rfl (wy_pr rfl) wt_237 wf_15_114 (v := (CH.length : Int)) ((w_up_slot (by decide)).trans (e114)) (fun r4 => ?_)
      refine wa_iconst ?_
      refine wa_iadd ?_
      refine wb_pfi 237 rfl (wy_pr rfl) wt_237 wf_15_114 (n := 114) rfl ⟨(by omega), (by omega)⟩ ?_
      refine wa_aload_n (n := 0) rfl ?_
      refine wa_dup (by decide) ?_
      refine wb_gfi 237 rfl (wy_pr rfl) wt_237 wf_15_67 (v := (S0 237 67)) ((w_up_at (by decide)).trans ((w_up_slot (by decide)).trans (e67))) (fun r5 => ?_)
      refine wa_iconst ?_
      refine wa_iadd ?_
      refine wb_pfi 237 rfl (wy_pr rfl) wt_237 wf_15_67 (n := 67) rfl ⟨(by omega), (by omega)⟩ ?_
      refine wa_fall ⟨_, rfl⟩ ?_
      refine wa_iload (n := 4) rfl ?_
      refine wa_ireturn rfl ?_
      refine ⟨rfl, (((w_up_at (by first | decide | omega)).trans ((w_up_at (by first | decide | omega)).trans (w_up_slot (by first | decide | omega)))) : (w_up (w_up (w_up A 351 (CH.length : Int) v) 237 114 ((CH.length : Int) + 1)) 237 67 ((S0 237 67) + 1)) 237 115 = A 237 115).trans a1, fun _ => ⟨⟨((w_up_at (by first | decide | omega)).trans (w_up_same _ _ _ _)), (w_up_same _ _ _ _)⟩, ⟨(((w_up_slot (by first | decide | omega)).trans ((w_up_slot (by first | decide | omega)).trans (w_up_slot (by first | decide | omega)))) : (w_up (w_up (w_up A 351 (CH.length : Int) v) 237 114 ((CH.length : Int) + 1)) 237 67 ((S0 237 67) + 1)) 346 (CH.length : Int) = A 346 (CH.length : Int)).trans a2.1, (((w_up_slot (by first | decide | omega)).trans ((w_up_slot (by first | decide | omega)).trans (w_up_slot (by first | decide | omega)))) : (w_up (w_up (w_up A 351 (CH.length : Int) v) 237 114 ((CH.length : Int) + 1)) 237 67 ((S0 237 67) + 1)) 347 (CH.length : Int) = A 347 (CH.length : Int)).trans a2.2.1, (((w_up_slot (by first | decide | omega)).trans ((w_up_slot (by first | decide | omega)).trans (w_up_slot (by first | decide | omega)))) : (w_up (w_up (w_up A 351 (CH.length : Int) v) 237 114 ((CH.length : Int) + 1)) 237 67 ((S0 237 67) + 1)) 348 (CH.length : Int) = A 348 (CH.length : Int)).trans a2.2.2.1, (((w_up_slot (by first | decide | omega)).trans ((w_up_slot (by first | decide | omega)).trans (w_up_slot (by first | decide | omega)))) : (w_up (w_up (w_up A 351 (CH.length : Int) v) 237 114 ((CH.length : Int) + 1)) 237 67 ((S0 237 67) + 1)) 349 (CH.length : Int) = A 349 (CH.length : Int)).trans a2.2.2.2⟩, fun j hj => ((w_up_slot (by first | decide | omega)).trans ((w_up_slot (by first | decide | omega)).trans ((w_up_slot (by first | decide | omega)).trans (a3 j (by omega))))), ((w_up_slot (by first | decide | omega)).trans ((w_up_slot (by first | decide | omega)).trans (w_up_same _ _ _ _)))⟩, fun z => absurd h67.2 z, fun j x j0 j1 x0 hx => ?_, fun j x hj => ?_⟩
      · exact ((w_up_no (by omega)).trans ((w_up_no (by omega)).trans ((w_up_no (by omega)).trans (a4 j x (by omega) (by omega) (by omega)))))
      · exact ((w_up_no (by unfold chM at hj; omega)).trans ((w_up_no (by unfold chM at hj; omega)).trans ((w_up_no (by unfold chM at hj; omega)).trans (a4 j x (by unfold chM at hj; omega) (by unfold chM at hj; omega) (by unfold chM at hj; omega)))))
    · skip
      have h52 : A 352 (i : Int) = tl.getD i 0 := (a4 352 _ (by omega) (by omega) (by omega)).trans (hT.2.1 i (by omega))
      refine wa_aload_n (n := 0) rfl ?_
      refine wb_gf4 237 rfl (wy_pr rfl) wt_237 wf_15_120 (v := 350) wl_237_120 ?_
      refine wa_bipush (w_rg2 (by omega) (by omega)) ?_
      refine wa_aload_n (n := 0) rfl ?_
      refine wb_gfi 237 rfl (wy_pr rfl) wt_237 wf_15_114 (v := (CH.length : Int)) (e114) (fun r6 => ?_)
      refine wa_imul ?_
      refine wa_iload (n := 5) rfl ?_
      refine wa_iadd ?_
      refine wa_aload_n (n := 0) rfl ?_
      refine wb_gf4 237 rfl (wy_pr rfl) wt_237 wf_15_123 (v := 352) wl_237_123 ?_
      refine wa_iload (n := 5) rfl ?_
      refine wb_iald 352 rfl (wy_pr rfl) wt_352 (n := 8) ((ml_352 hMA)) (by omega) (by omega) (v := (tl.getD i 0)) (h52) (fun r7 => ?_)
      refine wb_iast 350 rfl (wy_pr rfl) wt_350 (n := 16000) ((ml_350 hMA)) (by omega) (by omega) ⟨(by omega), (by omega)⟩ ?_
      refine wa_iinc rfl rfl ?_
      refine wa_goto ⟨_, rfl⟩ ?_
      refine wJ_S (ih (i + 1) _ (by omega) (by omega) ((w_up_slot (by first | decide | omega)).trans a1) ⟨(w_up_slot (by first | decide | omega)).trans a2.1, (w_up_slot (by first | decide | omega)).trans a2.2.1, (w_up_slot (by first | decide | omega)).trans a2.2.2.1, (w_up_slot (by first | decide | omega)).trans a2.2.2.2⟩ (fun j hj => ?_) (fun j x h1 h2 h3 => (w_up_no (by omega)).trans (a4 j x h1 h2 h3)) hv) ⟨rfl, rfl, rfl, rfl, rfl, rfl, trivial⟩
      by_cases cj : j = i
      · rw [cj]; exact w_up_same _ _ _ _
      · exact (w_up_at (by omega)).trans (a3 j (by omega))
theorem rcn_261 {c am fs md nc : Int} {WW tl F : List Int} (hM : w_ML S) (hK : KR 261 T n cs ms S) (hw : wHo cs ms os) (hC : rCh T cs ms os N CH wo mo S) (hT : tEs tl S) (hqk : qRk T cs ms os N (c, am, fs, WW, tl)) (hmd : md = (qMd (c, am, fs, WW, tl))) (hnc : nc = (qNc T cs ms os N (c, am, fs, WW, tl))) (hmr : 0 ≤ md ∧ md ≤ 5) (hnr : -1 ≤ nc ∧ nc ≤ 4000) (hes : esOk tl) (hty : ∀ c ∈ tl, c < 9 + (cs.length : Int)) (hcd : cdI F S) (hFm : ∀ x ∈ F, 0 ≤ x ∧ x < (ms.length : Int)) (hF : F = (FA T cs ms os c am fs WW)) (hwo : wo < 10000000) : wJ (pe_GA xs) wY0 M (d + 5) t_M_chosen ((pe_at t_M_chosen.bl 0).getD (0, [])).2 [(0, (2, 237)), (1, (0, c)), (2, (0, md)), (3, (0, nc))] [] S (fun o Z => o = .inl (some (0, rvA T cs ms os (c, am, fs, WW, tl))) ∧ rCh T cs ms os N (chN CH wo mo (c, am, fs, WW, tl) F).1 (chN CH wo mo (c, am, fs, WW, tl) F).2 mo Z ∧ ∀ (j : Nat) (x : Int), ¬ chM j x → Z j x = S j x) := by
  have hcr : 0 ≤ c ∧ c < 60 := by have z : 0 ≤ c ∧ c < (cs.length : Int) := hqk.1; have z2 := hw.1.1; omega
  have hFn : F ≠ [] := by rw [hF]; exact hqk.2.2.2.2.2.2
  have hrvs : rvA T cs ms os (c, am, fs, WW, tl) = sgA cs ms tl F := by rw [hF]; exact if_neg hqk.2.2.2.2.2.2
  have hrr := rvA_rg (T := T) (q := (c, am, fs, WW, tl)) hw hqk.1
  obtain ⟨v, hv⟩ : ∃ v : Int, v = rvA T cs ms os (c, am, fs, WW, tl) := ⟨_, rfl⟩
  rw [← hv] at hrr
  have h114 : S 237 114 = (CH.length : Int) := hC.1
  have hck := hC.2.2.2.2.1
  have h67e := hC.2.2.2.1
  have h115 := hC.2.2.1
  have hwor := hC.2.2.2.2.2
  have h122 : S 237 122 = (tl.length : Int) := hT.1
  have htl := hT.2.2
  have hnew : (c, am, fs, WW, tl) ∉ CH → ∀ Z : wS, rcQ CH c md nc v tl S (.inl (some (0, v))) Z → rCh T cs ms os N (chN CH wo mo (c, am, fs, WW, tl) F).1 (chN CH wo mo (c, am, fs, WW, tl) F).2 mo Z := by
    intro hni Z hz
    obtain ⟨-, z1, z2, z3, z4, z5⟩ := hz
    have e : chN CH wo mo (c, am, fs, WW, tl) F = (if (CH.length : Int) < mo then CH ++ [(c, am, fs, WW, tl)] else CH, wo + 1) := if_neg (fun y => y.elim hFn hni)
    rw [e]
    have hold : ∀ k : Nat, k < CH.length → rRw T cs ms os N (CH.getD k (0, 0, 0, [], [])) (k : Int) Z ∧ qRk T cs ms os N (CH.getD k (0, 0, 0, [], [])) := fun k hk => by
      obtain ⟨⟨⟨b1, b2, b3, b4⟩, b5, b6⟩, b7⟩ := hC.2.1 k hk
      have b8 := b7.2.2.2.2.2.1
      exact ⟨⟨⟨(z4 346 _ (by omega) (by omega) (by omega) (by omega)).trans b1, (z4 347 _ (by omega) (by omega) (by omega) (by omega)).trans b2, (z4 348 _ (by omega) (by omega) (by omega) (by omega)).trans b3, (z4 349 _ (by omega) (by omega) (by omega) (by omega)).trans b4⟩, fun i hi => (z4 350 _ (by omega) (by omega) (by omega) (by omega)).trans (b5 i hi), (z4 351 _ (by omega) (by omega) (by omega) (by omega)).trans b6⟩, b7⟩
    by_cases cm : (CH.length : Int) < mo
    · have hlt : S 237 67 < 2000 := by omega
      obtain ⟨⟨y1, y2⟩, ⟨y3, y4, y5, y6⟩, y7, y8⟩ := z2 hlt
      show rCh T cs ms os N (if (CH.length : Int) < mo then CH ++ [(c, am, fs, WW, tl)] else CH) (wo + 1) mo Z
      rw [if_pos cm]
      have hll : (CH ++ [(c, am, fs, WW, tl)]).length = CH.length + 1 := by rw [List.length_append]; rfl
      refine ⟨by rw [y1, hll]; omega, fun k hk => ?_, by rw [z1, h115], by rw [y2, h67e, hll]; omega, ⟨by rw [hll]; omega, hck.2⟩, ⟨by omega, by omega⟩⟩
      rw [hll] at hk
      by_cases ck : k = CH.length
      · have eg : (CH ++ [(c, am, fs, WW, tl)]).getD k (0, 0, 0, [], []) = (c, am, fs, WW, tl) := by rw [ck, List.getD_eq_getElem?_getD, List.getElem?_append_right (Nat.le_refl _), Nat.sub_self]; rfl
        rw [eg, ck]
        exact ⟨⟨⟨y3, y4.trans hmd, y5.trans hnc, y6⟩, y7, y8.trans hv⟩, hqk⟩
      · have eg : (CH ++ [(c, am, fs, WW, tl)]).getD k (0, 0, 0, [], []) = CH.getD k (0, 0, 0, [], []) := by rw [List.getD_eq_getElem?_getD, List.getD_eq_getElem?_getD, List.getElem?_append_left (by omega)]
        rw [eg]
        exact hold k (by omega)
    · have hge : ¬ S 237 67 < 2000 := by omega
      obtain ⟨y1, y2⟩ := z3 hge
      show rCh T cs ms os N (if (CH.length : Int) < mo then CH ++ [(c, am, fs, WW, tl)] else CH) (wo + 1) mo Z
      rw [if_neg cm]
      exact ⟨y1.trans h114, hold, by rw [z1, h115], y2.trans h67e, hck, ⟨by omega, by omega⟩⟩
  refine wa_iconst ?_
  refine wa_istore (n := 4) rfl ?_
  refine wa_fall ⟨_, rfl⟩ ?_
  refine wJ_S (rc1_261 hM hK hw hC hT hqk hmd hnc hmr hnr hcr (fun hin => ?_) (fun hni => ?_) CH.length 0 (by omega) (fun i hi => absurd hi (Nat.not_lt_zero _))) ⟨rfl, rfl, rfl, rfl, rfl, trivial⟩
  · have e : chN CH wo mo (c, am, fs, WW, tl) F = (CH, wo) := if_pos (Or.inr hin)
    rw [e]; exact ⟨rfl, hC, fun j x _ => rfl⟩
  · rw [← hv]
    refine wJ_mono (Q := (rcQ CH c md nc v tl S)) ?_ (fun o Z hz => ⟨hz.1, hnew hni Z ⟨rfl, hz.2⟩, hz.2.2.2.2.2⟩)
    refine wa_aload_n (n := 0) rfl ?_
    refine wa_cv 237 rfl (wy_pr rfl) wt_237 (M2 := fun _ => False) rfl at_M_single ⟨_, rfl⟩ rfl rfl ⟨(Or.inr ⟨wy_pr rfl, fun q => q⟩), trivial, trivial, trivial, trivial⟩ trivial (fun _ _ q => False.elim q) (wJ_mono (rsg_261 (S := S) (tl := tl) (F := F) hM hK hw hT hes hty hcd hFm) (fun o Z hz => (⟨hz.1, hz.2.trans (by rw [hv, hrvs])⟩ : S = Z ∧ o = .inl (some (0, v))))) (fun oq301 Sq301 hp302 q301 => ?_)
    rcases q301 with ⟨rfl, rfl⟩
    show wJ _ _ _ _ _ _ _ _ _ _
    refine wa_istore (n := 4) rfl ?_
    refine wa_aload_n (n := 0) rfl ?_
    refine wa_dup (by decide) ?_
    refine wb_gfi 237 rfl (wy_pr rfl) wt_237 wf_15_115 (v := (S 237 115)) rfl (fun r303 => ?_)
    refine wa_iconst ?_
    refine wa_iadd ?_
    refine wb_pfi 237 rfl (wy_pr rfl) wt_237 wf_15_115 (n := 115) rfl ⟨(by omega), (by omega)⟩ ?_
    refine wa_aload_n (n := 0) rfl ?_
    refine wb_gfi 237 rfl (wy_pr rfl) wt_237 wf_15_67 (v := (S 237 67)) (w_up_at (by decide)) (fun r304 => ?_)
    refine wa_sipush (by omega) ?_
    refine wa_icmpge (w_rg0 (by omega) (by omega)) (w_rg0 (by omega) (by omega)) ⟨_, rfl⟩ (fun c305 => ?_) (fun c305 => ?_)
    · skip
      refine wa_iload (n := 4) rfl ?_
      refine wa_ireturn rfl ?_
      exact ⟨rfl, (w_up_same _ _ _ _), fun z => absurd z (by omega), fun _ => ⟨w_up_at (by first | decide | omega), w_up_at (by first | decide | omega)⟩, fun j x j0 j1 x0 hx => (w_up_no (by omega)), fun j x hj => (w_up_no (by unfold chM at hj; omega))⟩
    · skip
      refine wa_aload_n (n := 0) rfl ?_
      refine wb_gf4 237 rfl (wy_pr rfl) wt_237 wf_15_116 (v := 346) wl_237_116 ?_
      refine wa_aload_n (n := 0) rfl ?_
      refine wb_gfi 237 rfl (wy_pr rfl) wt_237 wf_15_114 (v := (CH.length : Int)) ((w_up_at (by decide)).trans (h114)) (fun r306 => ?_)
      refine wa_iload_n (n := 1) rfl ?_
      refine wb_iast 346 rfl (wy_pr rfl) wt_346 (n := 2000) ((w_up_slot (by decide)).trans ((ml_346 hM))) (by omega) (by omega) ⟨(by omega), (by omega)⟩ ?_
      refine wa_aload_n (n := 0) rfl ?_
      refine wb_gf4 237 rfl (wy_pr rfl) wt_237 wf_15_117 (v := 347) wl_237_117 ?_
      refine wa_aload_n (n := 0) rfl ?_
      refine wb_gfi 237 rfl (wy_pr rfl) wt_237 wf_15_114 (v := (CH.length : Int)) ((w_up_slot (by decide)).trans ((w_up_at (by decide)).trans (h114))) (fun r307 => ?_)
      refine wa_iload_n (n := 2) rfl ?_
      refine wb_iast 347 rfl (wy_pr rfl) wt_347 (n := 2000) ((w_up_slot (by decide)).trans ((w_up_slot (by decide)).trans ((ml_347 hM)))) (by omega) (by omega) ⟨(by omega), (by omega)⟩ ?_
      refine wa_aload_n (n := 0) rfl ?_
      refine wb_gf4 237 rfl (wy_pr rfl) wt_237 wf_15_118 (v := 348) wl_237_118 ?_
      refine wa_aload_n (n := 0) rfl ?_
      refine wb_gfi 237 rfl (wy_pr rfl) wt_237 wf_15_114 (v := (CH.length : Int)) ((w_up_slot (by decide)).trans ((w_up_slot (by decide)).trans ((w_up_at (by decide)).trans (h114)))) (fun r308 => ?_)
      refine wa_iload_n (n := 3) rfl ?_
      refine wb_iast 348 rfl (wy_pr rfl) wt_348 (n := 2000) ((w_up_slot (by decide)).trans ((w_up_slot (by decide)).trans ((w_up_slot (by decide)).trans ((ml_348 hM))))) (by omega) (by omega) ⟨(by omega), (by omega)⟩ ?_
      refine wa_aload_n (n := 0) rfl ?_
      refine wb_gf4 237 rfl (wy_pr rfl) wt_237 wf_15_119 (v := 349) wl_237_119 ?_
      refine wa_aload_n (n := 0) rfl ?_
      refine wb_gfi 237 rfl (wy_pr rfl) wt_237 wf_15_114 (v := (CH.length : Int)) ((w_up_slot (by decide)).trans ((w_up_slot (by decide)).trans ((w_up_slot (by decide)).trans ((w_up_at (by decide)).trans (h114))))) (fun r309 => ?_)
      refine wa_aload_n (n := 0) rfl ?_
      refine wb_gfi 237 rfl (wy_pr rfl) wt_237 wf_15_122 (v := (tl.length : Int)) ((w_up_slot (by decide)).trans ((w_up_slot (by decide)).trans ((w_up_slot (by decide)).trans ((w_up_at (by decide)).trans (h122))))) (fun r310 => ?_)
      refine wb_iast 349 rfl (wy_pr rfl) wt_349 (n := 2000) ((w_up_slot (by decide)).trans ((w_up_slot (by decide)).trans ((w_up_slot (by decide)).trans ((w_up_slot (by decide)).trans ((ml_349 hM)))))) (by omega) (by omega) ⟨(by omega), (by omega)⟩ ?_
      refine wa_iconst ?_
      refine wa_istore (n := 5) rfl ?_
      refine wa_fall ⟨_, rfl⟩ ?_
      exact wJ_S (rc10_261 (S0 := S) hM hT (by omega) h114 ⟨by omega, by omega⟩ (tl.length + 1) 0 (w_up (w_up (w_up (w_up (w_up S 237 115 ((S 237 115) + 1)) 346 (CH.length : Int) c) 347 (CH.length : Int) md) 348 (CH.length : Int) nc) 349 (CH.length : Int) (tl.length : Int)) (by omega) (by omega) ((w_up_slot (by first | decide | omega)).trans ((w_up_slot (by first | decide | omega)).trans ((w_up_slot (by first | decide | omega)).trans ((w_up_slot (by first | decide | omega)).trans (w_up_same _ _ _ _))))) ⟨((w_up_slot (by first | decide | omega)).trans ((w_up_slot (by first | decide | omega)).trans ((w_up_slot (by first | decide | omega)).trans (w_up_same _ _ _ _)))), ((w_up_slot (by first | decide | omega)).trans ((w_up_slot (by first | decide | omega)).trans (w_up_same _ _ _ _))), ((w_up_slot (by first | decide | omega)).trans (w_up_same _ _ _ _)), (w_up_same _ _ _ _)⟩ (fun j hj => absurd hj (Nat.not_lt_zero _)) (fun j x h1 h2 h3 => ((w_up_no (by omega)).trans ((w_up_no (by omega)).trans ((w_up_no (by omega)).trans ((w_up_no (by omega)).trans (w_up_no (by omega))))))) ⟨by omega, by omega⟩) ⟨rfl, rfl, rfl, rfl, rfl, rfl, trivial⟩
end Whg
