/-! PART fh: reshaped of the class. -/
section Wfh
variable {xs : List (Nat × List Int32)} {M : Nat → Prop} {d : Nat} {S S0 Z A B : wS} {H : List aH} {T : List aO} {L : List aC} {G : Int → aV} {k n nm p wo sz : Int} {l : List Int} {Q : wO → wS → Prop}
/-- the order of names alone has changed -/
def oF (S0 S : wS) : Prop := (∀ (j : Nat) (x : Int), (j ≠ 156 ∨ x < 0) → S j x = S0 j x) ∧ gI S ∧ rmR S0 S
theorem oF_r (hI : gI S) : oF S S := ⟨fun _ _ _ => rfl, hI, rmR_rfl _⟩
theorem oF_u {i x : Int} (h : oF S0 S) (hi : 0 ≤ i) : oF S0 (w_up S 156 i x) := ⟨fun j y hj => (w_up_no (by omega)).trans (h.1 j y hj), gI_up h.2.1 hi (by omega) (by omega), rmR_up h.2.2 hi (by first | decide | omega)⟩
theorem oF_cl (h : oF S0 S) (hC : w_CL S0) : w_CL S := fun q hq => (h.1 q.1 (-1) (Or.inr (by first | decide | omega))).trans (hC q hq)
/-- what reshaped may change -/
def cMr (p : Int) (j : Nat) (x : Int) : Prop := (144 ≤ j ∧ j ≤ 149) ∨ (j = 72 ∧ x = 8) ∨ (j = 150 ∧ x = 4) ∨ (j = 156 ∧ 0 ≤ x) ∨ ((j = 130 ∨ j = 132) ∧ x = p)
/-- while shapes are made -/
def cIv (p u4 : Int) (T : List aO) (H : List aH) (L : List aC) (G : Int → aV) (S0 S : wS) : Prop := cSw S T H ∧ cWd S T L G ∧ (w_CL S ∧ gI S ∧ rmR S0 S) ∧ S 150 4 = u4 + (H.length : Int) ∧ (∀ (j : Nat) (x : Int), j < 4000000 → j ≠ wG → ¬ cMr p j x → S j x = S0 j x) ∧ ∀ x : Int, S 156 x = S0 156 x
theorem nNb : ∀ (f : Nat) (k : Int), wHs H n → (∀ s : Int, 0 ≤ s → s < (H.length : Int) → qNm H s ≤ 100000) → 0 ≤ k → k < (H.length : Int) → f = (qSz H k).toNat → ∀ x ∈ aNs H k, x ≤ 100000
  | 0, k, hw, _, k0, k1, hf => by
    have hz : 0 ≤ qSz H k := (wHs_c hw k k0 k1).1.1
    rw [aNs_0 (by omega)]
    exact fun x hx => absurd hx List.not_mem_nil
  | f + 1, k, hw, hb, k0, k1, hf => by
    obtain ⟨b0, b1, b2⟩ := (wHs_c hw k k0 k1).2 (by show 0 < qSz H k; omega)
    replace b0 : 0 ≤ qBe H k := b0
    obtain ⟨g1, g2, g3, g4, g5⟩ := aNs_s hw k0 k1 b0
    rw [g5]
    intro x hx
    rcases List.mem_append.mp hx with z | z
    · exact nNb f (qBe H k) hw hb b0 (by omega) (by omega) x z
    · rw [List.mem_singleton.mp z]; exact hb k k0 k1
theorem gI_ap {a : List Int} {y : Int} {r : List Int} : (a ++ y :: r).getD a.length 0 = y := by
  rw [List.getD_eq_getElem?_getD, List.getElem?_append_right (Nat.le_refl _), Nat.sub_self]; rfl
theorem ro_l (h : cSw S0 T H) (hw : wSh T H) (hC : w_CL S0) (hsz : sz = (l.length : Int)) (hsz1 : sz ≤ 64) (h56 : S0 156 (-1) = 65) : ∀ (f : Nat) (s i : Int) (S : wS) (r : List Int), i = (f : Int) - 1 → (0 < f → 0 ≤ s ∧ s < (H.length : Int) ∧ qSz H s = (f : Int) ∧ l = aNs H s ++ r) → (f : Int) ≤ sz → oF S0 S → (∀ j : Nat, f ≤ j → j < l.length → S 156 (j : Int) = l.getD j 0) → (∀ (Z : wS) (fr i2 : Int), oF S0 Z → (∀ j : Nat, j < l.length → Z 156 (j : Int) = l.getD j 0) → wJ (pe_GA xs) wY0 M d t_XH_reshaped ((pe_at t_XH_reshaped.bl 2).getD (0, [])).2 [(0, (2, 72)), (1, (0, k)), (2, (0, p)), (3, (0, wo)), (4, (0, fr)), (5, (0, sz)), (6, (0, i2))] [] Z Q) → wJ (pe_GA xs) wY0 M d t_XH_reshaped ((pe_at t_XH_reshaped.bl 1).getD (0, [])).2 [(0, (2, 72)), (1, (0, k)), (2, (0, p)), (3, (0, wo)), (4, (0, s)), (5, (0, sz)), (6, (0, i))] [] S Q := by
  obtain ⟨h1, ⟨l1, l2, l3, l4⟩, -, -⟩ := h
  intro f
  induction f with
  | zero =>
    intro s i S r hi hs hf ho hj hk
    refine wa_iload (n := 6) rfl ?_
    refine wa_iflt (w_rg0 (by omega) (by omega)) ⟨_, rfl⟩ (fun c1 => ?_) (fun c1 => ?_)
    · skip
      exact wJ_S (hk S _ _ ho (fun j hj2 => hj j (by omega) hj2)) ⟨rfl, rfl, rfl, rfl, rfl, rfl, rfl, trivial⟩
    · skip
      exfalso; omega
  | succ f ih =>
    intro s i S r hi hs hf ho hj hk
    obtain ⟨s0, s1, s2, s3⟩ := hs (by omega)
    have es : ∀ (j : Nat) (x : Int), (j ≠ 156 ∨ x < 0) → S j x = S0 j x := ho.1
    have hCS := oF_cl ho hC
    have e4 := cHs_e h1 s0 s1
    obtain ⟨b0, b1, b2⟩ := (wHs_c hw.1 s s0 s1).2 (by show 0 < qSz H s; omega)
    replace b0 : 0 ≤ qBe H s := b0
    replace b1 : qBe H s < s := b1
    replace b2 : qSz H (qBe H s) = qSz H s - 1 := b2
    obtain ⟨g1, g2, g3, g4, g5⟩ := aNs_s hw.1 s0 s1 b0
    have f6 : S 146 s = qNm H s := (es 146 s (by first | decide | omega)).trans e4.2.2.1
    have f7 : S 147 s = qBe H s := (es 147 s (by first | decide | omega)).trans e4.2.1
    have m1 : ∀ x : Nat, x < 5 → S (144 + x) (-1) = S0 144 (-1) := fun x hx => (es (144 + x) (-1) (by omega)).trans (l1 x hx)
    refine wa_iload (n := 6) rfl ?_
    refine wa_iflt (w_rg0 (by omega) (by omega)) ⟨_, rfl⟩ (fun c101 => ?_) (fun c101 => ?_)
    · skip
      exfalso; omega
    · skip
      refine wa_aload_n (n := 0) rfl ?_
      refine wb_gf4 72 rfl (wy_pr rfl) wt_72 wf_2_17 (v := 156) wl_72_17 ?_
      refine wa_iload (n := 6) rfl ?_
      refine wa_aload_n (n := 0) rfl ?_
      refine wb_gf4 72 rfl (wy_pr rfl) wt_72 wf_2_7 (v := 143) wl_72_7 ?_
      refine wa_iconst ?_
      refine wb_aald5 143 2 rfl rfl (wy_pr rfl) wt_143 (by rw [show _ = _ from ((cl_143 hCS))]; omega) wl_143_2 ?_
      refine wa_iload (n := 4) rfl ?_
      refine wb_iald 146 rfl (wy_pr rfl) wt_146 (n := (S0 144 (-1))) ((m1 2 (by decide))) (by omega) (by omega) (v := (qNm H s)) (f6) (fun r102 => ?_)
      refine wb_iast 156 rfl (wy_pr rfl) wt_156 (n := 65) (((es 156 (-1) (Or.inr (by decide))).trans h56)) (by omega) (by omega) ⟨(by omega), (by omega)⟩ ?_
      refine wa_aload_n (n := 0) rfl ?_
      refine wb_gf4 72 rfl (wy_pr rfl) wt_72 wf_2_7 (v := 143) wl_72_7 ?_
      refine wa_iconst ?_
      refine wb_aald5 143 3 rfl rfl (wy_pr rfl) wt_143 (by rw [show _ = _ from ((w_up_slot (by decide)).trans ((cl_143 hCS)))]; omega) wl_143_3 ?_
      refine wa_iload (n := 4) rfl ?_
      refine wb_iald 147 rfl (wy_pr rfl) wt_147 (n := (S0 144 (-1))) ((w_up_slot (by decide)).trans ((m1 3 (by decide)))) (by omega) (by omega) (v := (qBe H s)) ((w_up_slot (by decide)).trans (f7)) (fun r103 => ?_)
      refine wa_istore (n := 4) rfl ?_
      refine wa_iinc rfl rfl ?_
      refine wa_goto ⟨_, rfl⟩ ?_
      refine wJ_S (ih (qBe H s) (i - 1) _ (qNm H s :: r) (by omega) (fun _ => ⟨b0, by omega, by omega, ?_⟩) (by omega) (oF_u ho (by omega)) (fun j j0 j1 => ?_) hk) ⟨rfl, rfl, rfl, rfl, rfl, rfl, rfl, trivial⟩
      · rw [s3, g5, List.append_assoc]; rfl
      · by_cases c : j = f
        · subst c
          rw [show ((j : Nat) : Int) = i by omega, w_up_same, s3, g5, List.append_assoc]
          have hl2 : (aNs H (qBe H s)).length = j := by rw [aNs_len]; omega
          have := gI_ap (a := aNs H (qBe H s)) (y := qNm H s) (r := r)
          rw [hl2] at this
          exact this.symm
        · rw [w_up_at (by omega)]; exact hj j (by omega) j1
theorem rm_l {fr : Int} (hC : w_CL S) (h : cSw S T H) (hw : wSh T H) (hsz1 : sz ≤ 64) (h56 : S 156 (-1) = 65) (hwo : -1 ≤ wo ∧ wo ≤ 100000) : ∀ (r : List Int) (i kn ms : Int), i + (r.length : Int) = sz → 0 ≤ i → (∀ j : Nat, j < r.length → S 156 (i + (j : Int)) = r.getD j 0) → (∀ x ∈ r, 0 ≤ x ∧ x ≤ 100000) → (kn = -1 ∨ (0 ≤ kn ∧ kn < (H.length : Int) ∧ qPr H kn = p)) → (0 ≤ ms ∧ ms ≤ 1 + i) → (∀ kn2 : Int, wJ (pe_GA xs) wY0 M (d + 2) t_XH_reshaped ((pe_at t_XH_reshaped.bl 13).getD (0, [])).2 [(0, (2, 72)), (1, (0, k)), (2, (0, p)), (3, (0, wo)), (4, (0, fr)), (5, (0, sz)), (6, (0, kn2)), (7, (0, ms + aMs H p kn (fS wo r i))), (8, (0, sz))] [] S Q) → wJ (pe_GA xs) wY0 M (d + 2) t_XH_reshaped ((pe_at t_XH_reshaped.bl 7).getD (0, [])).2 [(0, (2, 72)), (1, (0, k)), (2, (0, p)), (3, (0, wo)), (4, (0, fr)), (5, (0, sz)), (6, (0, kn)), (7, (0, ms)), (8, (0, i))] [] S Q := by
  have hH := hw.1.2.1
  obtain ⟨h1, ⟨l1, l2, l3, l4⟩, -, -⟩ := id h
  intro r
  induction r with
  | nil =>
    intro i kn ms hi i0 hj hx hkn hms hk
    have hi2 : i = sz := by have : (([] : List Int).length : Int) = 0 := rfl; omega
    refine wa_iload (n := 8) rfl ?_
    refine wa_iload (n := 5) rfl ?_
    refine wa_icmpge (w_rg0 (by omega) (by omega)) (w_rg0 (by omega) (by omega)) ⟨_, rfl⟩ (fun c1 => ?_) (fun c1 => ?_)
    · skip
      have e : ms + aMs H p kn (fS wo [] i) = ms := by show ms + 0 = ms; omega
      have hk2 := hk kn
      rw [e] at hk2
      rw [hi2]; exact wJ_S hk2 ⟨rfl, rfl, rfl, rfl, rfl, rfl, rfl, rfl, rfl, trivial⟩
    · skip
      exfalso; omega
  | cons nm r ih =>
    intro i kn ms hi i0 hj hx hkn hms hk
    rw [List.length_cons] at hi
    have hnm := hx nm (List.mem_cons.mpr (Or.inl rfl))
    have ej : S 156 i = nm := by
      have := hj 0 (Nat.zero_lt_succ _)
      rw [show i + ((0 : Nat) : Int) = i by omega] at this
      exact this
    have hx2 : ∀ x ∈ r, 0 ≤ x ∧ x ≤ 100000 := fun x q => hx x (List.mem_cons.mpr (Or.inr q))
    have hj2 : ∀ j : Nat, j < r.length → S 156 (i + 1 + (j : Int)) = r.getD j 0 := fun j q => by
      have := hj (j + 1) (Nat.succ_lt_succ q)
      rw [show i + ((j + 1 : Nat) : Int) = i + 1 + (j : Int) by omega, gD_cs] at this
      exact this
    have hrg := aFs_rg (be := kn) (pr := p) (nm := nm) (H := H)
    have hknr : -1 ≤ kn ∧ kn < (H.length : Int) := by omega
    refine wa_iload (n := 8) rfl ?_
    refine wa_iload (n := 5) rfl ?_
    refine wa_icmpge (w_rg0 (by omega) (by omega)) (w_rg0 (by omega) (by omega)) ⟨_, rfl⟩ (fun c201 => ?_) (fun c201 => ?_)
    · skip
      exfalso; omega
    · skip
      refine wa_iload (n := 8) rfl ?_
      refine wa_iload_n (n := 3) rfl ?_
      refine wa_icmpeq (w_rg0 (by omega) (by omega)) (w_rg0 (by omega) (by omega)) ⟨_, rfl⟩ (fun c202 => ?_) (fun c202 => ?_)
      · skip
        refine wa_iinc rfl rfl ?_
        refine wa_goto ⟨_, rfl⟩ ?_
        have e : fS wo (nm :: r) i = fS wo r (i + 1) := fS_e nm r (by omega)
        rw [e] at hk
        exact wJ_S (ih (i + 1) kn ms (by omega) (by omega) hj2 hx2 hkn ⟨by omega, by omega⟩ hk) ⟨rfl, rfl, rfl, rfl, rfl, rfl, rfl, rfl, rfl, trivial⟩
      · skip
        refine wa_iload (n := 6) rfl ?_
        refine wa_iconst ?_
        refine wa_icmpne (w_rg0 (by omega) (by omega)) (w_rg0 (by omega) (by omega)) ⟨_, rfl⟩ (fun c203 => ?_) (fun c203 => ?_)
        · skip
          refine wa_aload_n (n := 0) rfl ?_
          refine wa_iload (n := 6) rfl ?_
          refine wa_aload_n (n := 0) rfl ?_
          refine wb_gf4 72 rfl (wy_pr rfl) wt_72 wf_2_17 (v := 156) wl_72_17 ?_
          refine wa_iload (n := 8) rfl ?_
          refine wb_iald 156 rfl (wy_pr rfl) wt_156 (n := 65) (h56) (by omega) (by omega) (v := nm) (ej) (fun r204 => ?_)
          obtain ⟨kn0, kn1, knp⟩ := hkn.resolve_left (by omega)
          refine wa_cv 72 rfl (wy_pr rfl) wt_72 (M2 := fun _ => False) rfl at_XH_shapeBehind ⟨_, rfl⟩ rfl rfl ⟨(Or.inr ⟨wy_pr rfl, fun q => q⟩), trivial, trivial, trivial, trivial, trivial, trivial, trivial, trivial, trivial⟩ trivial (fun _ _ q => False.elim q) (wJ_mono (c_sb hC h hw ⟨kn0, kn1⟩ hnm) (fun o Z hz => (⟨hz.1, by rw [← knp]; exact hz.2⟩ : S = Z ∧ o = .inl (some (0, aFs kn p nm H 0))))) (fun oq205 Sq205 hp206 q205 => ?_)
          rcases q205 with ⟨rfl, rfl⟩
          show wJ _ _ _ _ _ _ _ _ _ _
          refine wa_fall ⟨_, rfl⟩ ?_
          refine wa_istore (n := 6) rfl ?_
          refine wa_iload (n := 7) rfl ?_
          refine wa_iload (n := 6) rfl ?_
          refine wa_iconst ?_
          refine wa_icmpne (w_rg0 (by omega) (by omega)) (w_rg0 (by omega) (by omega)) ⟨_, rfl⟩ (fun c207 => ?_) (fun c207 => ?_)
          · skip
            refine wa_iconst ?_
            refine wa_fall ⟨_, rfl⟩ ?_
            refine wa_iadd ?_
            refine wa_istore (n := 7) rfl ?_
            refine wa_fall ⟨_, rfl⟩ ?_
            refine wa_iinc rfl rfl ?_
            refine wa_goto ⟨_, rfl⟩ ?_
            have e : fS wo (nm :: r) i = nm :: fS wo r (i + 1) := fS_n nm r (by omega)
            rw [e] at hk
            have ex : aNx H p kn nm = aFs kn p nm H 0 := if_neg (by omega)
            have em : ms + aMs H p kn (nm :: fS wo r (i + 1)) = (ms + 0) + aMs H p (aFs kn p nm H 0) (fS wo r (i + 1)) := by
              show ms + ((if aNx H p kn nm = -1 then 1 else 0) + aMs H p (aNx H p kn nm) (fS wo r (i + 1))) = _
              rw [ex]; first | rw [if_pos (by omega)] | rw [if_neg (by omega)]
              omega
            rw [em] at hk
            have hk3 : aFs kn p nm H 0 = -1 ∨ (0 ≤ aFs kn p nm H 0 ∧ aFs kn p nm H 0 < (H.length : Int) ∧ qPr H (aFs kn p nm H 0) = p) := by
              by_cases c : aFs kn p nm H 0 = -1
              · exact Or.inl c
              · exact Or.inr ⟨by omega, by omega, (aFs_at (by omega)).1⟩
            exact wJ_S (ih (i + 1) (aFs kn p nm H 0) (ms + 0) (by omega) (by omega) hj2 hx2 hk3 ⟨by omega, by omega⟩ hk) ⟨rfl, rfl, rfl, rfl, rfl, rfl, rfl, rfl, rfl, trivial⟩
          · skip
            refine wa_iconst ?_
            refine wa_goto ⟨_, rfl⟩ ?_
            refine wa_iadd ?_
            refine wa_istore (n := 7) rfl ?_
            refine wa_fall ⟨_, rfl⟩ ?_
            refine wa_iinc rfl rfl ?_
            refine wa_goto ⟨_, rfl⟩ ?_
            have e : fS wo (nm :: r) i = nm :: fS wo r (i + 1) := fS_n nm r (by omega)
            rw [e] at hk
            have ex : aNx H p kn nm = aFs kn p nm H 0 := if_neg (by omega)
            have em : ms + aMs H p kn (nm :: fS wo r (i + 1)) = (ms + 1) + aMs H p (aFs kn p nm H 0) (fS wo r (i + 1)) := by
              show ms + ((if aNx H p kn nm = -1 then 1 else 0) + aMs H p (aNx H p kn nm) (fS wo r (i + 1))) = _
              rw [ex]; first | rw [if_pos (by omega)] | rw [if_neg (by omega)]
              omega
            rw [em] at hk
            have hk3 : aFs kn p nm H 0 = -1 ∨ (0 ≤ aFs kn p nm H 0 ∧ aFs kn p nm H 0 < (H.length : Int) ∧ qPr H (aFs kn p nm H 0) = p) := by
              by_cases c : aFs kn p nm H 0 = -1
              · exact Or.inl c
              · exact Or.inr ⟨by omega, by omega, (aFs_at (by omega)).1⟩
            exact wJ_S (ih (i + 1) (aFs kn p nm H 0) (ms + 1) (by omega) (by omega) hj2 hx2 hk3 ⟨by omega, by omega⟩ hk) ⟨rfl, rfl, rfl, rfl, rfl, rfl, rfl, rfl, rfl, trivial⟩
        · skip
          refine wa_iconst ?_
          refine wa_goto ⟨_, rfl⟩ ?_
          refine wa_istore (n := 6) rfl ?_
          refine wa_iload (n := 7) rfl ?_
          refine wa_iload (n := 6) rfl ?_
          refine wa_iconst ?_
          refine wa_icmpne (w_rg0 (by omega) (by omega)) (w_rg0 (by omega) (by omega)) ⟨_, rfl⟩ (fun c208 => ?_) (fun c208 => ?_)
          · skip
            exact absurd c208 (by omega)
          · skip
            refine wa_iconst ?_
            refine wa_goto ⟨_, rfl⟩ ?_
            refine wa_iadd ?_
            refine wa_istore (n := 7) rfl ?_
            refine wa_fall ⟨_, rfl⟩ ?_
            refine wa_iinc rfl rfl ?_
            refine wa_goto ⟨_, rfl⟩ ?_
            have e : fS wo (nm :: r) i = nm :: fS wo r (i + 1) := fS_n nm r (by omega)
            rw [e] at hk
            have ex : aNx H p kn nm = -1 := if_pos (by omega)
            have em : ms + aMs H p kn (nm :: fS wo r (i + 1)) = (ms + 1) + aMs H p (-1) (fS wo r (i + 1)) := by
              show ms + ((if aNx H p kn nm = -1 then 1 else 0) + aMs H p (aNx H p kn nm) (fS wo r (i + 1))) = _
              rw [ex]; first | rw [if_pos (by omega)] | rw [if_neg (by omega)]
              omega
            rw [em] at hk
            exact wJ_S (ih (i + 1) (-1) (ms + 1) (by omega) (by omega) hj2 hx2 (Or.inl rfl) ⟨by omega, by omega⟩ hk) ⟨rfl, rfl, rfl, rfl, rfl, rfl, rfl, rfl, rfl, trivial⟩
theorem rb_l {fr kn ms u4 : Int} (hx1 : pe_at (pe_GA xs).xs 1 = some (1, tx_1)) (hsz1 : sz ≤ 64) (h56 : S0 156 (-1) = 65) (hwo : -1 ≤ wo ∧ wo ≤ 100000) : ∀ (r : List Int) (i s : Int) (H : List aH) (S : wS), i + (r.length : Int) = sz → 0 ≤ i → (∀ j : Nat, j < r.length → S0 156 (i + (j : Int)) = r.getD j 0) → (∀ x ∈ r, 0 ≤ x ∧ x ≤ 100000) → nDs r → cIv p u4 T H L G S0 S → wSh T H → (0 ≤ s ∧ s < (H.length : Int) ∧ qPr H s = p) → (∀ x ∈ r, x ∉ aNs H s) → (-1 ≤ u4 ∧ u4 + (H.length : Int) + aMs H p s (fS wo r i) ≤ 4000) → (∀ Z : wS, cIv p u4 T (aRb p (fS wo r i) H s).1 L G S0 Z → wJ (pe_GA xs) wY0 (mS [144, 145, 146, 147, 148]) (d + 4) t_XH_reshaped ((pe_at t_XH_reshaped.bl 17).getD (0, [])).2 [(0, (2, 72)), (1, (0, k)), (2, (0, p)), (3, (0, wo)), (4, (0, fr)), (5, (0, sz)), (6, (0, kn)), (7, (0, ms)), (8, (0, (aRb p (fS wo r i) H s).2)), (9, (0, sz))] [] Z Q) → wJ (pe_GA xs) wY0 (mS [144, 145, 146, 147, 148]) (d + 4) t_XH_reshaped ((pe_at t_XH_reshaped.bl 15).getD (0, [])).2 [(0, (2, 72)), (1, (0, k)), (2, (0, p)), (3, (0, wo)), (4, (0, fr)), (5, (0, sz)), (6, (0, kn)), (7, (0, ms)), (8, (0, s)), (9, (0, i))] [] S Q := by
  intro r
  induction r with
  | nil =>
    intro i s H S hi i0 hj hx hd hc hw hs hn hu hk
    have hi2 : i = sz := by have : (([] : List Int).length : Int) = 0 := rfl; omega
    refine wa_iload (n := 9) rfl ?_
    refine wa_iload (n := 5) rfl ?_
    refine wa_icmpge (w_rg0 (by omega) (by omega)) (w_rg0 (by omega) (by omega)) ⟨_, rfl⟩ (fun c1 => ?_) (fun c1 => ?_)
    · skip
      rw [hi2]; exact wJ_S (hk S hc) ⟨rfl, rfl, rfl, rfl, rfl, rfl, rfl, rfl, rfl, rfl, trivial⟩
    · skip
      exfalso; omega
  | cons nm r ih =>
    intro i s H S hi i0 hj hx hd hc hw hs hn hu hk
    have hg : wG = 1000000 := rfl
    rw [List.length_cons] at hi
    have hnm := hx nm (List.mem_cons.mpr (Or.inl rfl))
    obtain ⟨c1, c2, ⟨hC, hI, c5⟩, c6, c7, c8⟩ := id hc
    obtain ⟨h1, ⟨l1, l2, l3, l4⟩, -, -⟩ := id c1
    have ej : S 156 i = nm := by
      have := hj 0 (Nat.zero_lt_succ _)
      rw [show i + ((0 : Nat) : Int) = i by omega] at this
      exact (c8 i).trans this
    have hx2 : ∀ x ∈ r, 0 ≤ x ∧ x ≤ 100000 := fun x q => hx x (List.mem_cons.mpr (Or.inr q))
    have hj2 : ∀ j : Nat, j < r.length → S0 156 (i + 1 + (j : Int)) = r.getD j 0 := fun j q => by
      have := hj (j + 1) (Nat.succ_lt_succ q)
      rw [show i + ((j + 1 : Nat) : Int) = i + 1 + (j : Int) by omega, gD_cs] at this
      exact this
    have hrg := aFs_rg (be := s) (pr := p) (nm := nm) (H := H)
    have hmr := aMs_rg (H := H) (p := p) (fS wo (nm :: r) i) s
    have hHl := hw.1.2.1
    obtain ⟨rr, hrr⟩ : ∃ rr : Int, rr = aFs s p nm H 0 := ⟨_, rfl⟩
    rw [← hrr] at hrg
    refine wa_iload (n := 9) rfl ?_
    refine wa_iload (n := 5) rfl ?_
    refine wa_icmpge (w_rg0 (by omega) (by omega)) (w_rg0 (by omega) (by omega)) ⟨_, rfl⟩ (fun c301 => ?_) (fun c301 => ?_)
    · skip
      exfalso; omega
    · skip
      refine wa_iload (n := 9) rfl ?_
      refine wa_iload_n (n := 3) rfl ?_
      refine wa_icmpeq (w_rg0 (by omega) (by omega)) (w_rg0 (by omega) (by omega)) ⟨_, rfl⟩ (fun c302 => ?_) (fun c302 => ?_)
      · skip
        refine wa_iinc rfl rfl ?_
        refine wa_goto ⟨_, rfl⟩ ?_
        have e : fS wo (nm :: r) i = fS wo r (i + 1) := fS_e nm r (by omega)
        rw [e] at hk hu
        exact wJ_S (ih (i + 1) s H S (by omega) (by omega) hj2 hx2 hd.2 hc hw hs (fun x q => hn x (List.mem_cons.mpr (Or.inr q))) hu hk) ⟨rfl, rfl, rfl, rfl, rfl, rfl, rfl, rfl, rfl, rfl, trivial⟩
      · skip
        refine wa_aload_n (n := 0) rfl ?_
        refine wa_iload (n := 8) rfl ?_
        refine wa_aload_n (n := 0) rfl ?_
        refine wb_gf4 72 rfl (wy_pr rfl) wt_72 wf_2_17 (v := 156) wl_72_17 ?_
        refine wa_iload (n := 9) rfl ?_
        refine wb_iald 156 rfl (wy_pr rfl) wt_156 (n := 65) (((c8 (-1)).trans h56)) (by omega) (by omega) (v := nm) (ej) (fun r303 => ?_)
        refine wa_cv 72 rfl (wy_pr rfl) wt_72 (M2 := mS [144, 145, 146, 147, 148]) rfl at_XH_reachShape ⟨_, rfl⟩ rfl rfl ⟨(Or.inr ⟨wy_pr rfl, mS_no rfl⟩), trivial, trivial, trivial, trivial, trivial, trivial, trivial, trivial, trivial, trivial⟩ trivial (fun _ _ q => q) (c_rs (r := rr) hC hI hx1 c1 hw ⟨hs.1, hs.2.1⟩ hnm ⟨by omega, by omega⟩ (by rw [hs.2.2]; exact hrr)) (fun oq304 Sq304 hp305 q304 => ?_)
        rcases q304 with ⟨hr0, rfl, rfl⟩ | ⟨hr0, hr1, -, -⟩ | ⟨hr0, hr1, hns, rfl⟩
        · skip
          show wJ _ _ _ _ _ _ _ _ _ _
          refine wa_istore (n := 8) rfl ?_
          refine wa_fall ⟨_, rfl⟩ ?_
          refine wa_iinc rfl rfl ?_
          refine wa_goto ⟨_, rfl⟩ ?_
          have e : fS wo (nm :: r) i = nm :: fS wo r (i + 1) := fS_n nm r (by omega)
          rw [e] at hk hu
          have em := aMs_c (H := H) (p := p) (s := s) (nm := nm) (fS wo r (i + 1)) (by omega)
          have hf : aFs s p nm H 0 ≠ -1 := by rw [← hrr]; omega
          rw [aRb_f _ hf, ← hrr] at hk
          rw [if_neg hf, ← hrr] at em
          obtain ⟨f1, f2, f3⟩ := aFs_at (be := s) (pr := p) (nm := nm) (H := H) (by rw [← hrr]; omega)
          rw [← hrr] at f1 f2 f3
          have en : aNs H rr = aNs H s ++ [nm] := by
            have g := aNs_s hw.1 (k := rr) (by omega) (by omega) (by rw [f2]; exact hs.1)
            rw [g.2.2.2.2, f2, f3]
          exact wJ_S (ih (i + 1) rr H S (by omega) (by omega) hj2 hx2 hd.2 hc hw ⟨by omega, by omega, f1⟩ (fun x q z => by
            rw [en] at z
            rcases List.mem_append.mp z with y | y
            · exact hn x (List.mem_cons.mpr (Or.inr q)) y
            · rw [List.mem_singleton.mp y] at q; exact hd.1 q) (by omega) hk) ⟨rfl, rfl, rfl, rfl, rfl, rfl, rfl, rfl, rfl, rfl, trivial⟩
        · skip
          have em0 := aMs_c (H := H) (p := p) (s := s) (nm := nm) (fS wo r (i + 1)) (by omega)
          rw [fS_n nm r (by omega), em0, ← hrr, if_pos hr0, hr0, aMs_n] at hu
          omega
        · skip
          show wJ _ _ _ _ _ _ _ _ _ _
          refine wa_istore (n := 8) rfl ?_
          refine wa_fall ⟨_, rfl⟩ ?_
          refine wa_iinc rfl rfl ?_
          refine wa_goto ⟨_, rfl⟩ ?_
          have e : fS wo (nm :: r) i = nm :: fS wo r (i + 1) := fS_n nm r (by omega)
          rw [e] at hk hu
          have em := aMs_c (H := H) (p := p) (s := s) (nm := nm) (fS wo r (i + 1)) (by omega)
          have hf : aFs s p nm H 0 = -1 := by rw [← hrr]; omega
          have hf2 : aFs s (qPr H s) nm H 0 = -1 := by rw [hs.2.2]; exact hf
          rw [aRb_n _ hf] at hk
          rw [if_pos hf, hf, aMs_n] at em
          have x1 := hn nm (List.mem_cons.mpr (Or.inl rfl))
          have sw2 := cSw_ns c1 hw ⟨hs.1, hs.2.1⟩ hf2 (by omega) hns
          have ws2 := wSh_ns hw ⟨hs.1, hs.2.1⟩ hnm.1 hf2 (by omega) x1
          have wd2 := cWd_ns c2 hns
          have cl2 := CL_ns hC hns
          rw [hs.2.2] at sw2 ws2
          obtain ⟨⟨-, n4⟩, -, -, -, nf, ng, nr⟩ := id hns
          have lt : (H ++ [((p, s, nm, qSz H s + 1) : aH)]).length = H.length + 1 := by rw [List.length_append]; rfl
          have eq : (H ++ [((p, s, nm, qSz H s + 1) : aH)]).getD (H.length : Int).toNat (0, 0, 0, 0) = (p, s, nm, qSz H s + 1) := gH_n
          have en : aNs (H ++ [(p, s, nm, qSz H s + 1)]) (H.length : Int) = aNs H s ++ [nm] := by
            have g := aNs_s ws2.1 (k := (H.length : Int)) (by omega) (by rw [lt]; omega) (by show 0 ≤ ((H ++ [((p, s, nm, qSz H s + 1) : aH)]).getD (H.length : Int).toNat (0, 0, 0, 0)).2.1; rw [eq]; exact hs.1)
            rw [g.2.2.2.2]
            show aNs (H ++ [(p, s, nm, qSz H s + 1)]) ((H ++ [((p, s, nm, qSz H s + 1) : aH)]).getD (H.length : Int).toNat (0, 0, 0, 0)).2.1 ++ [((H ++ [((p, s, nm, qSz H s + 1) : aH)]).getD (H.length : Int).toNat (0, 0, 0, 0)).2.2.1] = _
            rw [eq, aNs_ap hw.1 hs.1 hs.2.1]
          have hc2 : cIv p u4 T (H ++ [(p, s, nm, qSz H s + 1)]) L G S0 Sq304 := ⟨sw2, wd2, ⟨cl2, ng, rmR_tr c5 nr⟩, by rw [n4, c6, lt]; omega, fun j x j0 j1 j2 => (nf j x j0 j1 (by unfold cMr at j2; omega) (by unfold cMr at j2; omega) (by unfold cMr at j2; omega) (by unfold cMr at j2; omega)).trans (c7 j x j0 j1 j2), fun x => (nf 156 x (by first | decide | omega) (by first | decide | omega) (by first | decide | omega) (Or.inl (by first | decide | omega)) (Or.inl (by first | decide | omega)) (Or.inl (by first | decide | omega))).trans (c8 x)⟩
          exact wJ_S (ih (i + 1) (H.length : Int) (H ++ [(p, s, nm, qSz H s + 1)]) Sq304 (by omega) (by omega) hj2 hx2 hd.2 hc2 ws2 ⟨by omega, by rw [lt]; omega, by show ((H ++ [((p, s, nm, qSz H s + 1) : aH)]).getD (H.length : Int).toNat (0, 0, 0, 0)).1 = p; rw [eq]⟩ (fun x q z => by
            rw [en] at z
            rcases List.mem_append.mp z with y | y
            · exact hn x (List.mem_cons.mpr (Or.inr q)) y
            · rw [List.mem_singleton.mp y] at q; exact hd.1 q) (by rw [aMs_new hw.1 (by exact hs.2.1), lt]; omega) hk) ⟨rfl, rfl, rfl, rfl, rfl, rfl, rfl, rfl, rfl, rfl, trivial⟩
end Wfh
