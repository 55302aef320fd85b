/-! PART f5: the world of shapes; what the searches of both find in it. -/
section Wf5
variable {xs : List (Nat × List Int32)} {M : Nat → Prop} {d : Nat} {S Z : wS} {H : List aH} {T : List aO} {k n nm be pr x a m : Int} {sl : Nat → List Int}
abbrev tO (T : List aO) (k : Int) : aO := T.getD k.toNat (0, 0, 0, 0, 0, 0, [])
abbrev pNs (o : aO) : List Int := o.2.2.2.2.2.2.map (fun x => x.1)
/-- an object or fun -/
def isO (T : List aO) (k : Int) : Prop := (0 ≤ k ∧ k < (T.length : Int)) ∧ ((tO T k).1 = 4 ∨ (tO T k).1 = 5)
def aPr (T : List aO) (H : List aH) (k : Int) : Int := qPr H (tO T k).2.1
def aIx (T : List aO) (nm k : Int) : Int := lIx nm (pNs (tO T k)) 0
def aCg (T : List aO) (k : Int) : Int := (tO T k).2.2.2.2.2.1
/-- who has a property -/
def aUp (T : List aO) (H : List aH) (nm k : Int) : Int := hUp (aPr T H) (aIx T nm) (T.length + 1) k
/-- the shapes and the things are as they must be -/
def wSh (T : List aO) (H : List aH) : Prop := wHs H (T.length : Int) ∧ wNd H ∧ (∀ k : Nat, k < T.length → wTh H (T.getD k (0, 0, 0, 0, 0, 0, []))) ∧ (∀ k : Int, isO T k → pNs (tO T k) = aNs H (tO T k).2.1 ∧ (tO T k).2.2.2.2.2.2.length ≤ 64) ∧ (∀ k : Int, 0 ≤ k → k < (T.length : Int) → (tO T k).1 = 6 ∨ (tO T k).1 = 7 → ∀ x ∈ (tO T k).2.2.2.2.2.2, x.1 = -1) ∧ (∀ s : Int, 0 ≤ s → s < (H.length : Int) → qPr H s = -1 ∨ isO T (qPr H s)) ∧ (∀ k : Int, 0 ≤ k → k < (T.length : Int) → ((tO T k).2.2.2.2.1 = -1 ↔ ∀ s : Int, 0 ≤ s → s < (H.length : Int) → qPr H s ≠ k)) ∧ ∃ rk : Int → Nat, ∀ k : Int, isO T k → aPr T H k ≠ -1 → rk (aPr T H k) < rk k
theorem wSh_sh (h : wSh T H) (hk : isO T k) : 0 ≤ (tO T k).2.1 ∧ (tO T k).2.1 < (H.length : Int) := (h.2.2.1 k.toNat (by have := hk.1; omega)).2.1 hk.2
theorem wSh_pr (h : wSh T H) (hk : isO T k) : aPr T H k = -1 ∨ isO T (aPr T H k) := by
  have := wSh_sh h hk
  exact h.2.2.2.2.2.1 _ this.1 this.2
theorem wSh_en (h : wSh T H) {u : Int} (hu : u = -1 ∨ isO T u) : cEn (aPr T H) T.length u := by
  obtain ⟨rk, hr⟩ := h.2.2.2.2.2.2.2
  exact cEn_of T.length (fun k hk => hk.1) (fun k hk => wSh_pr h hk) hr u hu
theorem aUp_rg (h : wSh T H) {u : Int} (hu : isO T u) : aUp T H nm u = -1 ∨ (isO T (aUp T H nm u) ∧ aIx T nm (aUp T H nm u) ≠ -1) := hUp_rg (fun k hk => wSh_pr h hk) _ u (Or.inr hu)
theorem aIx_rg : -1 ≤ aIx T nm k ∧ aIx T nm k < ((tO T k).2.2.2.2.2.2.length : Int) := by
  have := lIx_rg (nm := nm) (pNs (tO T k))
  rw [List.length_map] at this
  exact this
theorem c_th (h : cTh S T) (k0 : 0 ≤ k) (k1 : k < (T.length : Int)) : (S 127 k = (tO T k).1 ∧ S 128 k = (tO T k).2.1 ∧ S 129 k = (tO T k).2.2.1 ∧ S 136 k = (tO T k).2.2.2.1 ∧ S 130 k = (tO T k).2.2.2.2.1 ∧ S 131 k = (tO T k).2.2.2.2.2.1) ∧ (S 134 k = ((tO T k).2.2.2.2.2.2.length : Int) ∧ S 134 k ≤ S 135 k ∧ 0 ≤ S 133 k ∧ S 133 k + S 135 k ≤ S 140 2) ∧ cR1 S 141 142 (S 133 k) ((tO T k).2.2.2.2.2.2.map (fun x => x.2)) := by
  have := h.2 k.toNat (by omega)
  rw [show ((k.toNat : Nat) : Int) = k by omega] at this
  exact this
theorem r_th (h : rTh S sl T) (k0 : 0 ≤ k) (k1 : k < (T.length : Int)) : S 314 k = (tO T k).1 ∧ S 315 k = (tO T k).2.1 ∧ S 319 k = (if (tO T k).1 = 5 then (tO T k).2.2.1 else -1) ∧ S 321 k = (if (tO T k).1 = 7 then (tO T k).2.2.1 else -1) ∧ S 320 k = (tO T k).2.2.2.1 ∧ S 322 k = (if (tO T k).2.2.2.2.1 = -1 then 0 else 1) ∧ ((tO T k).2.2.2.2.1 ≠ -1 → S 323 k = (tO T k).2.2.2.2.1) ∧ S 324 k = (tO T k).2.2.2.2.2.1 := by
  have := (h.2 k.toNat (by omega)).1
  rw [show ((k.toNat : Nat) : Int) = k by omega] at this
  exact this
theorem gN_m1 {l : List (Int × aV)} {i : Nat} (hi : i < l.length) : (l.map (fun x => x.1)).getD i 0 = (l.getD i (0, (0, 0, []))).1 := by
  rw [List.getD_eq_getElem?_getD, List.getD_eq_getElem?_getD, List.getElem?_map, List.getElem?_eq_getElem hi]
  rfl
/-- the slots of a thing of the reference -/
theorem r_sl (h : rTh S sl T) (k0 : 0 ≤ k) (k1 : k < (T.length : Int)) (h82 : S 237 82 ≤ 60000) : slC S k (sl k.toNat) ∧ (sl k.toNat).length = (tO T k).2.2.2.2.2.2.length ∧ ∀ i : Nat, i < (sl k.toNat).length → S 327 ((sl k.toNat).getD i 0) = (pNs (tO T k)).getD i 0 ∧ rVl S (S 325 ((sl k.toNat).getD i 0)) (S 326 ((sl k.toNat).getD i 0)) ((tO T k).2.2.2.2.2.2.getD i (0, (0, 0, []))).2 := by
  obtain ⟨-, ⟨b1, b2⟩, c, dd, -⟩ := h.2 k.toNat (by omega)
  rw [show ((k.toNat : Nat) : Int) = k by omega] at b1 c
  refine ⟨⟨b1.trans (by rw [b2]), fun q => (c q).1, fun i hi => ⟨⟨(dd i hi).1.1, by have := (dd i hi).1.2; omega⟩, (dd i hi).2.2.2⟩⟩, b2, fun i hi => ⟨?_, (dd i hi).2.2.1⟩⟩
  rw [(dd i hi).2.1]
  have hi2 : i < (tO T k).2.2.2.2.2.2.length := by rw [← b2]; exact hi
  exact (gN_m1 hi2).symm
/-- chains of shapes by their heads, the shapes without names: of the class -/
def cHa (S : wS) (m : Int) : Prop := (∀ x : Int, 0 ≤ x → x ≤ 1023 → (0 ≤ S 149 x ∧ S 149 x ≤ m) ∧ (0 < S 149 x → 0 ≤ S 147 (S 149 x - 1))) ∧ (∀ s : Int, 0 ≤ s → s < m → 0 ≤ S 147 s → (0 ≤ S 148 s ∧ S 148 s ≤ s) ∧ (0 < S 148 s → 0 ≤ S 147 (S 148 s - 1))) ∧ ∀ k : Int, 0 ≤ k → k < m → 0 ≤ S 147 k → hBe (S 147) (S 146) (S 148) (S 147 k) (S 146 k) m.toNat (S 149 (hsH (S 147 k) (S 146 k)) - 1) = k
def cSw (S : wS) (T : List aO) (H : List aH) : Prop := cHs S H ∧ ((∀ x : Nat, x < 5 → S (144 + x) (-1) = S 144 (-1)) ∧ (H.length : Int) ≤ S 144 (-1) ∧ 64 ≤ S 144 (-1) ∧ S 144 (-1) ≤ 8191) ∧ cHa S (H.length : Int) ∧ ∀ k : Int, 0 ≤ k → k < (T.length : Int) → S 132 k = aFs (-1) k (-1) H 0
theorem cIx_e (h : cHs S H) (hw : wHs H n) (hd : wNd H) (k0 : 0 ≤ k) (k1 : k < (H.length : Int)) : hIx (S 147) (S 146) nm (S 145 k).toNat k = lIx nm (aNs H k) 0 := by
  have hz : 0 ≤ qSz H k := (wHs_c hw k k0 k1).1.1
  rw [(cHs_e h k0 k1).2.2.2, hIx_cg (B := qBe H) (N := qNm H) (C := qSz H) (wHs_c hw) (fun q q0 q1 => ⟨(cHs_e h q0 q1).2.1, (cHs_e h q0 q1).2.2.1⟩) _ k (fun _ => ⟨k0, k1, by show qSz H k = ((qSz H k).toNat : Int); omega⟩)]
  exact hIx_H hw hd k0 k1
theorem hIx_o (h : cHs S H) (ht : cTh S T) (hw : wSh T H) (hk : isO T k) : hIx (S 147) (S 146) nm (S 145 (S 128 k)).toNat (S 128 k) = aIx T nm k ∧ S 144 (S 128 k) = aPr T H k ∧ (0 ≤ S 128 k ∧ S 128 k < (H.length : Int)) := by
  have hs := wSh_sh hw hk
  have e := (c_th ht hk.1.1 hk.1.2).1.2.1
  rw [e, cIx_e h hw.1 hw.2.1 hs.1 hs.2, (cHs_e h hs.1 hs.2).1, ← (hw.2.2.2.1 k hk).1]
  exact ⟨rfl, rfl, hs⟩
/-- indexIn, holderOf, isStale of the class, in the world -/
theorem c_ix (hC : w_CL S) (h : cSw S T H) (hw : wSh T H) (hk : 0 ≤ k ∧ k < (H.length : Int)) (hnm : -2147483648 ≤ nm ∧ nm ≤ 2147483647) : wJ (pe_GA xs) wY0 M d t_XH_indexIn ((pe_at t_XH_indexIn.bl 0).getD (0, [])).2 [(0, (2, 72)), (1, (0, k)), (2, (0, nm))] [] S (fun o Z => S = Z ∧ o = .inl (some (0, lIx nm (aNs H k) 0))) := by
  obtain ⟨h1, ⟨l1, l2, l3, l4⟩, -, -⟩ := h
  have hc := hc_c h1 hw.1
  rw [h1.1] at hc
  rw [← cIx_e h1 hw.1 hw.2.1 hk.1 hk.2]
  exact ix_ok l1 hC ⟨by omega, l2⟩ (by omega) hc hk hnm
theorem c_hs (h1 : cHs S H) (ht : cTh S T) (hw : wSh T H) : ∀ k : Int, 0 ≤ k → k < (T.length : Int) → isO T k → 0 ≤ S 128 k ∧ S 128 k < (H.length : Int) ∧ (S 144 (S 128 k) = -1 ∨ (0 ≤ S 144 (S 128 k) ∧ S 144 (S 128 k) < (T.length : Int) ∧ isO T (S 144 (S 128 k)))) := fun k _ _ hk => by
  obtain ⟨-, e2, e3⟩ := hIx_o (nm := 0) h1 ht hw hk
  rw [e2]
  exact ⟨e3.1, e3.2, (wSh_pr hw hk).imp id (fun z => ⟨z.1.1, z.1.2, z⟩)⟩
theorem c_ho (hC : w_CL S) (h : cSw S T H) (ht : cTh S T) (hlt : cLt S T) (hw : wSh T H) (hk : isO T k) (hnm : -2147483648 ≤ nm ∧ nm ≤ 2147483647) : wJ (pe_GA xs) wY0 M (d + 1) t_XH_holderOf ((pe_at t_XH_holderOf.bl 0).getD (0, [])).2 [(0, (2, 72)), (1, (0, k)), (2, (0, nm))] [] S (fun o Z => S = Z ∧ o = .inl (some (0, aUp T H nm k))) := by
  obtain ⟨h1, ⟨l1, l2, l3, l4⟩, -, -⟩ := h
  obtain ⟨t1, t2, t3, t4⟩ := hlt
  have hc := hc_c h1 hw.1
  rw [h1.1] at hc
  have e : aUp T H nm k = hUp (fun k => S 144 (S 128 k)) (fun k => hIx (S 147) (S 146) nm (S 145 (S 128 k)).toNat (S 128 k)) ((T.length : Int).toNat + 1) k := (hUp_cg (Pr := aPr T H) (ix := aIx T nm) (fun k hk => wSh_pr hw hk) (fun k hk => ⟨(hIx_o (nm := nm) h1 ht hw hk).2.1, (hIx_o h1 ht hw hk).1⟩) _ k (Or.inr hk)).symm
  rw [e]
  exact ho_ok (pq := isO T) l1 hC ⟨by omega, l2⟩ (by omega) hc t1 ht.1 ⟨by omega, t2⟩ (by omega) (c_hs h1 ht hw) hnm ⟨hk.1.1, hk.1.2, hk⟩
/-- whether a prototype gone through has changed since -/
def aSt (T : List aO) (H : List aH) (sh ho si : Int) : Int := hSt (aPr T H) (aCg T) ho si T.length (qPr H sh)
theorem c_st {sh ho si : Int} (hC : w_CL S) (h : cSw S T H) (ht : cTh S T) (hlt : cLt S T) (hw : wSh T H) (hsh : si ≠ -1 → 0 ≤ sh ∧ sh < (H.length : Int)) (hsr : -2147483648 ≤ sh ∧ sh ≤ 2147483647) (hho : -2147483648 ≤ ho ∧ ho ≤ 2147483647) (hsi : -2147483648 ≤ si ∧ si ≤ 2147483647) (hcg : ∀ k : Int, isO T k → aCg T k ≤ S 72 11) : wJ (pe_GA xs) wY0 M (d + 1) t_XH_isStale ((pe_at t_XH_isStale.bl 0).getD (0, [])).2 [(0, (2, 72)), (1, (0, sh)), (2, (0, ho)), (3, (0, si))] [] S (fun o Z => S = Z ∧ o = .inl (some (0, if si = -1 then 0 else aSt T H sh ho si))) := by
  obtain ⟨h1, ⟨l1, l2, l3, l4⟩, -, -⟩ := h
  obtain ⟨t1, t2, t3, t4⟩ := hlt
  refine wJ_mono (isS_ok (pq := isO T) (n := (T.length : Int)) (m := (H.length : Int)) l1 hC ⟨by omega, l2⟩ (by omega) t1 ht.1 ⟨by omega, t2⟩ (by omega) (c_hs h1 ht hw) hho hsi (fun q _ => ?_) hsr) (fun o Z hz => ⟨hz.1, hz.2.trans ?_⟩)
  · obtain ⟨a1, a2⟩ := hsh q
    rw [(cHs_e h1 a1 a2).1]
    exact ⟨a1, a2, (hw.2.2.2.2.2.1 sh a1 a2).imp id (fun z => ⟨z.1.1, z.1.2, z⟩)⟩
  · by_cases c1 : si = -1
    · rw [if_pos (Or.inl c1), if_pos c1]
    · obtain ⟨a1, a2⟩ := hsh c1
      have hp := hw.2.2.2.2.2.1 sh a1 a2
      rw [if_neg c1]
      by_cases c2 : si = S 72 11
      · rw [if_pos (Or.inr c2)]
        unfold aSt
        rw [hSt_z (pq := isO T) (fun k hk => wSh_pr hw hk) (fun k hk => by rw [c2]; exact hcg k hk) _ _ hp]
      · rw [if_neg (fun z => z.elim c1 c2), (cHs_e h1 a1 a2).1]
        rw [hSt_cg (Pr := aPr T H) (ch := aCg T) (pq := isO T) (fun k hk => wSh_pr hw hk) (fun k hk => ⟨(hIx_o (nm := 0) h1 ht hw hk).2.1, (c_th ht hk.1.1 hk.1.2).1.2.2.2.2.2⟩) _ _ hp]
        rfl
/-- the class's chain of a head finds the shape -/
theorem hBe_r {B N X : Int → Int} {sh : Int} : ∀ (f : Nat) (s : Int), hBe B N X sh nm f s = -1 ∨ (0 ≤ hBe B N X sh nm f s ∧ B (hBe B N X sh nm f s) = sh ∧ N (hBe B N X sh nm f s) = nm)
  | 0, _ => Or.inl rfl
  | f + 1, s => by
    show (if s < 0 then -1 else if B s = sh ∧ N s = nm then s else hBe B N X sh nm f (X s - 1)) = -1 ∨ _
    by_cases c : s < 0
    · exact Or.inl (if_pos c)
    · by_cases c2 : B s = sh ∧ N s = nm
      · have e : hBe B N X sh nm (f + 1) s = s := (if_neg c).trans (if_pos c2)
        rw [e]
        exact Or.inr ⟨by omega, c2⟩
      · have e : hBe B N X sh nm (f + 1) s = hBe B N X sh nm f (X s - 1) := (if_neg c).trans (if_neg c2)
        rw [if_neg c, if_neg c2, e]
        exact hBe_r f (X s - 1)
theorem hBe_lt {B N X : Int → Int} {sh m : Int} (hx : ∀ s : Int, 0 ≤ s → s < m → 0 ≤ B s → (0 ≤ X s ∧ X s ≤ s) ∧ (0 < X s → 0 ≤ B (X s - 1))) : ∀ (f : Nat) (s : Int), (-1 ≤ s ∧ s < m) → (0 ≤ s → 0 ≤ B s) → hBe B N X sh nm f s < m ∨ hBe B N X sh nm f s = -1
  | 0, _, _, _ => Or.inr rfl
  | f + 1, s, hs, hb => by
    by_cases c : s < 0
    · exact Or.inr (if_pos c)
    · by_cases c2 : B s = sh ∧ N s = nm
      · have e : hBe B N X sh nm (f + 1) s = s := (if_neg c).trans (if_pos c2)
        rw [e]
        exact Or.inl hs.2
      · have e : hBe B N X sh nm (f + 1) s = hBe B N X sh nm f (X s - 1) := (if_neg c).trans (if_neg c2)
        obtain ⟨⟨q1, q2⟩, q3⟩ := hx s (by omega) hs.2 (hb (by omega))
        rw [e]
        exact hBe_lt hx f (X s - 1) ⟨by omega, by omega⟩ (fun q => q3 (by omega))
theorem hBe_H {sh : Int} (h : cHs S H) (ha : cHa S (H.length : Int)) (hw : wHs H n) (hs : 0 ≤ sh ∧ sh < (H.length : Int)) (hnm : 0 ≤ nm) : hBe (S 147) (S 146) (S 148) sh nm (H.length : Int).toNat (S 149 (hsH sh nm) - 1) = aFs sh (qPr H sh) nm H 0 := by
  have hr := hsH_rg sh nm
  obtain ⟨a1, a2, a3⟩ := ha
  obtain ⟨⟨b1, b2⟩, b3⟩ := a1 (hsH sh nm) hr.1 hr.2
  have hl := hBe_lt (sh := sh) (nm := nm) (N := S 146) a2 (H.length : Int).toNat (S 149 (hsH sh nm) - 1) ⟨by omega, by omega⟩ (fun q => b3 (by omega))
  rcases hBe_r (B := S 147) (N := S 146) (X := S 148) (sh := sh) (nm := nm) (H.length : Int).toNat (S 149 (hsH sh nm) - 1) with c | ⟨c1, c2, c3⟩
  · rw [c]
    rcases aFs_r (be := sh) (pr := qPr H sh) (nm := nm) H 0 with ⟨q, -⟩ | ⟨i, q1, q2, q3⟩
    · exact q.symm
    · have e := cHs_e h (k := (i : Int)) (by omega) (by omega)
      have g := a3 (i : Int) (by omega) (by omega) (by rw [e.2.1]; show 0 ≤ (H.getD i (0, 0, 0, 0)).2.1; rw [q2.2.1]; exact hs.1)
      rw [e.2.1, e.2.2.1] at g
      replace g : hBe (S 147) (S 146) (S 148) (H.getD i (0, 0, 0, 0)).2.1 (H.getD i (0, 0, 0, 0)).2.2.1 (H.length : Int).toNat (S 149 (hsH (H.getD i (0, 0, 0, 0)).2.1 (H.getD i (0, 0, 0, 0)).2.2.1) - 1) = (i : Int) := g
      rw [q2.2.1, q2.2.2, c] at g
      omega
  · have k1 : hBe (S 147) (S 146) (S 148) sh nm (H.length : Int).toNat (S 149 (hsH sh nm) - 1) < (H.length : Int) := by omega
    have e := cHs_e h c1 k1
    have eb : qBe H (hBe (S 147) (S 146) (S 148) sh nm (H.length : Int).toNat (S 149 (hsH sh nm) - 1)) = sh := e.2.1.symm.trans c2
    have en : qNm H (hBe (S 147) (S 146) (S 148) sh nm (H.length : Int).toNat (S 149 (hsH sh nm) - 1)) = nm := e.2.2.1.symm.trans c3
    have g := aNs_s hw c1 k1 (by rw [eb]; exact hs.1)
    exact (aFs_of hw c1 k1 ⟨by rw [g.2.2.1, eb], eb, en⟩).symm
theorem sb2_l {sh : Int} (hl : ∀ x : Nat, x < 5 → S (144 + x) (-1) = S 144 (-1)) (hC : w_CL S) (hm : 0 ≤ m ∧ m ≤ S 144 (-1)) (hz : S 144 (-1) ≤ 1000000) (h8 : S 72 8 = m) (hx : ∀ k : Int, 0 ≤ k → k < m → 0 ≤ S 147 k → (0 ≤ S 148 k ∧ S 148 k ≤ k) ∧ (0 < S 148 k → 0 ≤ S 147 (S 148 k - 1))) (hsr : -2147483648 ≤ sh ∧ sh ≤ 2147483647) (hnr : -2147483648 ≤ nm ∧ nm ≤ 2147483647) : ∀ (f : Nat) (s i : Int), i + (f : Int) = m → 0 ≤ i → (-1 ≤ s ∧ s < m) → (0 ≤ s → 0 ≤ S 147 s) → wJ (pe_GA xs) wY0 M d t_XH_shapeBehind ((pe_at t_XH_shapeBehind.bl 1).getD (0, [])).2 [(0, (2, 72)), (1, (0, sh)), (2, (0, nm)), (3, (0, s)), (4, (0, i))] [] S (fun o Z => S = Z ∧ o = .inl (some (0, hBe (S 147) (S 146) (S 148) sh nm f s))) := by
  intro f
  induction f with
  | zero =>
    intro s i h1 h2 h3 h4
    refine wa_iload (n := 4) rfl ?_
    refine wa_aload_n (n := 0) rfl ?_
    refine wb_gfi 72 rfl (wy_pr rfl) wt_72 wf_2_8 (v := m) (h8) (fun r101 => ?_)
    refine wa_icmpge (w_rg0 (by omega) (by omega)) (w_rg0 (by omega) (by omega)) ⟨_, rfl⟩ (fun c102 => ?_) (fun c102 => ?_)
    · skip
      refine wa_iconst ?_
      refine wa_ireturn rfl ?_
      exact ⟨rfl, rfl⟩
    · skip
      exfalso; omega
  | succ f ih =>
    intro s i h1 h2 h3 h4
    refine wa_iload (n := 4) rfl ?_
    refine wa_aload_n (n := 0) rfl ?_
    refine wb_gfi 72 rfl (wy_pr rfl) wt_72 wf_2_8 (v := m) (h8) (fun r101 => ?_)
    refine wa_icmpge (w_rg0 (by omega) (by omega)) (w_rg0 (by omega) (by omega)) ⟨_, rfl⟩ (fun c102 => ?_) (fun c102 => ?_)
    · skip
      exfalso; omega
    · skip
      refine wa_iload_n (n := 3) rfl ?_
      refine wa_iflt (w_rg0 (by omega) (by omega)) ⟨_, rfl⟩ (fun c103 => ?_) (fun c103 => ?_)
      · skip
        refine wa_iconst ?_
        refine wa_ireturn rfl ?_
        have e : hBe (S 147) (S 146) (S 148) sh nm (f + 1) s = -1 := if_pos (by omega)
        rw [e]
        exact ⟨rfl, rfl⟩
      · skip
        refine wa_aload_n (n := 0) rfl ?_
        refine wb_gf4 72 rfl (wy_pr rfl) wt_72 wf_2_7 (v := 143) wl_72_7 ?_
        refine wa_iconst ?_
        refine wb_aald5 143 3 rfl rfl (wy_pr rfl) wt_143 (by rw [show _ = _ from ((cl_143 hC))]; omega) wl_143_3 ?_
        refine wa_iload_n (n := 3) rfl ?_
        refine wb_iald 147 rfl (wy_pr rfl) wt_147 (n := (S 144 (-1))) ((hl 3 (by decide))) (by omega) (by omega) (v := (S 147 s)) rfl (fun r104 => ?_)
        refine wa_iload_n (n := 1) rfl ?_
        refine wa_icmpne (w_rg0 (by omega) (by omega)) (w_rg0 (by omega) (by omega)) ⟨_, rfl⟩ (fun c105 => ?_) (fun c105 => ?_)
        · skip
          refine wa_aload_n (n := 0) rfl ?_
          refine wb_gf4 72 rfl (wy_pr rfl) wt_72 wf_2_7 (v := 143) wl_72_7 ?_
          refine wa_iconst ?_
          refine wb_aald5 143 4 rfl rfl (wy_pr rfl) wt_143 (by rw [show _ = _ from ((cl_143 hC))]; omega) wl_143_4 ?_
          refine wa_iload_n (n := 3) rfl ?_
          refine wb_iald 148 rfl (wy_pr rfl) wt_148 (n := (S 144 (-1))) ((hl 4 (by decide))) (by omega) (by omega) (v := (S 148 s)) rfl (fun r106 => ?_)
          refine wa_iconst ?_
          refine wa_isub ?_
          refine wa_istore_n (n := 3) rfl ?_
          refine wa_iinc rfl rfl ?_
          refine wa_goto ⟨_, rfl⟩ ?_
          have hx1 := hx s (by omega) (by omega) (h4 (by omega))
          have e : hBe (S 147) (S 146) (S 148) sh nm (f + 1) s = hBe (S 147) (S 146) (S 148) sh nm f (S 148 s - 1) := (if_neg (by omega)).trans (if_neg (by omega))
          rw [e]
          exact wJ_S (ih (S 148 s - 1) (i + 1) (by omega) (by omega) ⟨by omega, by omega⟩ (fun q => hx1.2 (by omega))) ⟨rfl, rfl, rfl, rfl, rfl, trivial⟩
        · skip
          refine wa_aload_n (n := 0) rfl ?_
          refine wb_gf4 72 rfl (wy_pr rfl) wt_72 wf_2_7 (v := 143) wl_72_7 ?_
          refine wa_iconst ?_
          refine wb_aald5 143 2 rfl rfl (wy_pr rfl) wt_143 (by rw [show _ = _ from ((cl_143 hC))]; omega) wl_143_2 ?_
          refine wa_iload_n (n := 3) rfl ?_
          refine wb_iald 146 rfl (wy_pr rfl) wt_146 (n := (S 144 (-1))) ((hl 2 (by decide))) (by omega) (by omega) (v := (S 146 s)) rfl (fun r107 => ?_)
          refine wa_iload_n (n := 2) rfl ?_
          refine wa_icmpne (w_rg0 (by omega) (by omega)) (w_rg0 (by omega) (by omega)) ⟨_, rfl⟩ (fun c108 => ?_) (fun c108 => ?_)
          · skip
            refine wa_aload_n (n := 0) rfl ?_
            refine wb_gf4 72 rfl (wy_pr rfl) wt_72 wf_2_7 (v := 143) wl_72_7 ?_
            refine wa_iconst ?_
            refine wb_aald5 143 4 rfl rfl (wy_pr rfl) wt_143 (by rw [show _ = _ from ((cl_143 hC))]; omega) wl_143_4 ?_
            refine wa_iload_n (n := 3) rfl ?_
            refine wb_iald 148 rfl (wy_pr rfl) wt_148 (n := (S 144 (-1))) ((hl 4 (by decide))) (by omega) (by omega) (v := (S 148 s)) rfl (fun r109 => ?_)
            refine wa_iconst ?_
            refine wa_isub ?_
            refine wa_istore_n (n := 3) rfl ?_
            refine wa_iinc rfl rfl ?_
            refine wa_goto ⟨_, rfl⟩ ?_
            have hx1 := hx s (by omega) (by omega) (h4 (by omega))
            have e : hBe (S 147) (S 146) (S 148) sh nm (f + 1) s = hBe (S 147) (S 146) (S 148) sh nm f (S 148 s - 1) := (if_neg (by omega)).trans (if_neg (by omega))
            rw [e]
            exact wJ_S (ih (S 148 s - 1) (i + 1) (by omega) (by omega) ⟨by omega, by omega⟩ (fun q => hx1.2 (by omega))) ⟨rfl, rfl, rfl, rfl, rfl, trivial⟩
          · skip
            refine wa_iload_n (n := 3) rfl ?_
            refine wa_ireturn rfl ?_
            have e : hBe (S 147) (S 146) (S 148) sh nm (f + 1) s = s := (if_neg (by omega)).trans (if_pos ⟨by omega, by omega⟩)
            rw [e]
            exact ⟨rfl, rfl⟩
/-- shapeBehind of the class -/
theorem c_sb {sh : Int} (hC : w_CL S) (h : cSw S T H) (hw : wSh T H) (hs : 0 ≤ sh ∧ sh < (H.length : Int)) (hnm : 0 ≤ nm ∧ nm ≤ 100000) : wJ (pe_GA xs) wY0 M (d + 1) t_XH_shapeBehind ((pe_at t_XH_shapeBehind.bl 0).getD (0, [])).2 [(0, (2, 72)), (1, (0, sh)), (2, (0, nm))] [] S (fun o Z => S = Z ∧ o = .inl (some (0, aFs sh (qPr H sh) nm H 0))) := by
  obtain ⟨h1, ⟨hl, l2, l3, l4⟩, ha, -⟩ := h
  rw [← hBe_H h1 ha hw.1 hs hnm.1]
  have hr := hsH_rg sh nm
  have hr2 := ha.1 (hsH sh nm) hr.1 hr.2
  have hH := hw.1.2.1
  refine wa_aload_n (n := 0) rfl ?_
  refine wb_gf4 72 rfl (wy_pr rfl) wt_72 wf_2_9 (v := 149) wl_72_9 ?_
  refine wa_iload_n (n := 1) rfl ?_
  refine wa_iload_n (n := 2) rfl ?_
  refine wa_cs (M2 := fun _ => False) rfl at_XH_shapeHead ⟨_, rfl⟩ rfl rfl ⟨(Or.inr ⟨wy_pr rfl, fun q => q⟩), trivial, trivial, trivial⟩ ⟨(Or.inr ⟨wy_pr rfl, fun q => q⟩), trivial⟩ (fun _ _ q => False.elim q) ?_ (fun _ _ _ q => q)
  refine wa_iload_n (n := 0) rfl ?_
  refine wa_sipush (by omega) ?_
  refine wa_imul ?_
  refine wa_iload_n (n := 1) rfl ?_
  refine wa_iadd ?_
  refine wa_istore_n (n := 2) rfl ?_
  refine wa_iload_n (n := 2) rfl ?_
  refine wa_iload_n (n := 2) rfl ?_
  refine wa_bipush (w_rg2 (by omega) (by omega)) ?_
  refine wa_iushr ?_
  refine wa_ixor ?_
  refine wa_sipush (by omega) ?_
  refine wa_iand ?_
  refine wa_ireturn rfl ?_
  show wJ _ _ _ _ _ _ _ _ _ _
  show wJ _ _ _ _ _ _ _ ((0, hsH sh nm) :: _) _ _
  refine wb_iald 149 rfl (wy_pr rfl) wt_149 (n := 1024) ((cl_149 hC)) (by omega) (by omega) (v := (S 149 (hsH sh nm))) rfl (fun r1 => ?_)
  refine wa_iconst ?_
  refine wa_isub ?_
  refine wa_istore_n (n := 3) rfl ?_
  refine wa_iconst ?_
  refine wa_istore (n := 4) rfl ?_
  refine wa_fall ⟨_, rfl⟩ ?_
  exact wJ_S (sb2_l (m := (H.length : Int)) hl hC ⟨by omega, l2⟩ (by omega) h1.1 ha.2.1 ⟨by omega, by omega⟩ ⟨by omega, by omega⟩ (H.length : Int).toNat (S 149 (hsH sh nm) - 1) 0 (by omega) (by omega) ⟨by omega, by omega⟩ (fun q => hr2.2 (by omega))) ⟨rfl, rfl, rfl, rfl, rfl, trivial⟩
/-- own, findShape of the reference -/
theorem r_ow (hM : w_ML S) (h : rTh S sl T) (hk : 0 ≤ k ∧ k < (T.length : Int)) (hT : (T.length : Int) ≤ 8000) (h82 : S 237 82 ≤ 60000) (hl : (tO T k).2.2.2.2.2.2.length ≤ 60000) (hnm : -2147483648 ≤ nm ∧ nm ≤ 2147483647) : wJ (pe_GA xs) wY0 M d t_M_own ((pe_at t_M_own.bl 0).getD (0, [])).2 [(0, (2, 237)), (1, (0, k)), (2, (0, nm))] [] S (fun o Z => S = Z ∧ o = .inl (some (0, aIx T nm k))) := by
  obtain ⟨h1, h2, h3⟩ := r_sl h hk.1 hk.2 h82
  refine wJ_mono (ow_ok hM ⟨hk.1, by omega⟩ h1 hnm (by omega)) (fun o Z hz => ⟨hz.1, hz.2.trans ?_⟩)
  have e : (pNs (tO T k)).length = (sl k.toNat).length := by rw [List.length_map, h2]
  rw [← e, lFi_e (pNs (tO T k)) 0 (fun i hi => by rw [Nat.zero_add]; exact (h3 i (by omega)).1)]
  rfl
def rSw (S : wS) (H : List aH) : Prop := rHs S H
theorem fsR_e {r : Int} (h : rHs S H) (hw : wHs H n) (hb1 : be = -1 → nm = -1) (hbr : -1 ≤ be ∧ be ≤ 2147483647) (hpr1 : -1 ≤ pr ∧ pr ≤ 2147483647) (hz3 : fsR S be pr nm (H.length : Int) r) : r = aFs be pr nm H 0 := by
  have h0 := hw.1
  have hn0 : 0 < H.length := by
    have : H.length ≠ 0 := fun e => by
      have e2 : H = [] := List.eq_nil_of_length_eq_zero e
      rw [e2] at h0
      exact absurd h0 (by decide)
    omega
  have z0 : qPr H 0 = -1 ∧ qBe H 0 = -1 ∧ qNm H 0 = -1 := by
    show (H.getD 0 (0, 0, 0, 0)).1 = -1 ∧ (H.getD 0 (0, 0, 0, 0)).2.1 = -1 ∧ (H.getD 0 (0, 0, 0, 0)).2.2.1 = -1
    rw [h0]; exact ⟨rfl, rfl, rfl⟩
  rcases hz3 with ⟨⟨c1, c2⟩, c3⟩ | ⟨c0, ⟨c1, c2⟩ | ⟨⟨c1, c2⟩, c3, c4, c5⟩⟩
  · have e1 : be = -1 := by omega
    have e2 : pr = -1 := by omega
    rw [c3, e1, e2, hb1 e1]
    exact (aFs_of hw (by omega) (by omega) z0).symm
  · rcases aFs_r (be := be) (pr := pr) (nm := nm) H 0 with ⟨q, -⟩ | ⟨i, q1, q2, q3⟩
    · rw [c1, q]
    · by_cases i0 : i = 0
      · subst i0
        have a1 := z0.1.symm.trans q2.1
        have a2 := z0.2.1.symm.trans q2.2.1
        exact absurd (show be < 0 ∧ pr < 0 by omega) c0
      · have e := rHs_e h (k := (i : Int)) (by omega) (by omega)
        exact absurd ⟨e.2.1.trans q2.2.1, e.1.trans q2.1, e.2.2.1.trans q2.2.2⟩ (c2 (i : Int) (by omega) (by omega))
  · have e := rHs_e h (k := r) (by omega) c2
    exact (aFs_of hw (by omega) c2 ⟨e.1.symm.trans c4, e.2.1.symm.trans c3, e.2.2.1.symm.trans c5⟩).symm
theorem r_fs (hM : w_ML S) (h : rHs S H) (hw : wHs H n) (hb1 : be = -1 → nm = -1) (hbr : -1 ≤ be ∧ be ≤ 2147483647) (hpr1 : -1 ≤ pr ∧ pr ≤ 2147483647) (hnm : -2147483648 ≤ nm ∧ nm ≤ 2147483647) : wJ (pe_GA xs) wY0 M d t_M_findShape ((pe_at t_M_findShape.bl 0).getD (0, [])).2 [(0, (2, 237)), (1, (0, be)), (2, (0, pr)), (3, (0, nm))] [] S (fun o Z => S = Z ∧ o = .inl (some (0, aFs be pr nm H 0))) := by
  have h0 := hw.1
  have hL := hw.2.1
  refine wJ_mono (fs_ok (m := (H.length : Int)) hM h.1 ⟨?_, by omega⟩ ⟨by omega, by omega⟩ ⟨by omega, by omega⟩ hnm) (fun o Z hz => ?_)
  · have : H.length ≠ 0 := fun e => by
      have e2 : H = [] := List.eq_nil_of_length_eq_zero e
      rw [e2] at h0
      exact absurd h0 (by decide)
    omega
  obtain ⟨hz1, r, hz2, hz3⟩ := hz
  refine ⟨hz1, hz2.trans ?_⟩
  have er : r = aFs be pr nm H 0 := fsR_e h hw hb1 hbr hpr1 hz3
  rw [er]
end Wf5
