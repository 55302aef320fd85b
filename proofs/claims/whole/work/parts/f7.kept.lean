/-! PART f7: shapes come, things change: what must hold still holds. -/
section Wf7
variable {S Z : wS} {H : List aH} {T T2 : List aO} {k n nm be pr x a m sh p e : Int} {h o : aH} {B N X B2 N2 X2 : Int → Int}
theorem hBe_cg (hx : ∀ s : Int, 0 ≤ s → s < m → 0 ≤ B s → (0 ≤ X s ∧ X s ≤ s) ∧ (0 < X s → 0 ≤ B (X s - 1))) (e : ∀ s : Int, 0 ≤ s → s < m → B2 s = B s ∧ N2 s = N s ∧ X2 s = X s) : ∀ (f : Nat) (s : Int), (-1 ≤ s ∧ s < m) → (0 ≤ s → 0 ≤ B s) → hBe B2 N2 X2 sh nm f s = hBe B N X sh nm f s
  | 0, _, _, _ => rfl
  | f + 1, s, hs, hb => by
    show (if s < 0 then -1 else if B2 s = sh ∧ N2 s = nm then s else hBe B2 N2 X2 sh nm f (X2 s - 1)) = (if s < 0 then -1 else if B s = sh ∧ N s = nm then s else hBe B N X sh nm f (X s - 1))
    by_cases c : s < 0
    · rw [if_pos c, if_pos c]
    · obtain ⟨e1, e2, e3⟩ := e s (by omega) hs.2
      obtain ⟨⟨q1, q2⟩, q3⟩ := hx s (by omega) hs.2 (hb (by omega))
      rw [if_neg c, if_neg c, e1, e2, e3, hBe_cg hx e f (X s - 1) ⟨by omega, by omega⟩ (fun q => q3 (by omega))]
theorem hBe_mo : ∀ (f : Nat) (s : Int), 0 ≤ hBe B N X sh nm f s → hBe B N X sh nm (f + 1) s = hBe B N X sh nm f s
  | 0, _, h => absurd h (by show ¬ (0 ≤ (-1 : Int)); decide)
  | f + 1, s, h => by
    have e1 : hBe B N X sh nm (f + 1) s = (if s < 0 then -1 else if B s = sh ∧ N s = nm then s else hBe B N X sh nm f (X s - 1)) := rfl
    have e2 : hBe B N X sh nm (f + 1 + 1) s = (if s < 0 then -1 else if B s = sh ∧ N s = nm then s else hBe B N X sh nm (f + 1) (X s - 1)) := rfl
    rw [e1] at h
    rw [e2, e1]
    by_cases c : s < 0
    · rw [if_pos c, if_pos c]
    · rw [if_neg c] at h
      rw [if_neg c, if_neg c]
      by_cases c2 : B s = sh ∧ N s = nm
      · rw [if_pos c2, if_pos c2]
      · rw [if_neg c2] at h
        rw [if_neg c2, if_neg c2]
        exact hBe_mo f (X s - 1) h
theorem aFs_ap : ∀ (l : List aH) (k : Int), 0 ≤ k → aFs be pr nm (l ++ [h]) k = if aFs be pr nm l k = -1 then (if h.1 = pr ∧ h.2.1 = be ∧ h.2.2.1 = nm then k + (l.length : Int) else -1) else aFs be pr nm l k
  | [], k, _ => by
    show (if h.1 = pr ∧ h.2.1 = be ∧ h.2.2.1 = nm then k else -1) = if (-1 : Int) = -1 then (if h.1 = pr ∧ h.2.1 = be ∧ h.2.2.1 = nm then k + ((0 : Nat) : Int) else -1) else -1
    rw [if_pos rfl, show k + ((0 : Nat) : Int) = k by omega]
  | a :: l, k, hk => by
    by_cases c : a.1 = pr ∧ a.2.1 = be ∧ a.2.2.1 = nm
    · have e1 : aFs be pr nm (a :: l ++ [h]) k = k := if_pos c
      have e2 : aFs be pr nm (a :: l) k = k := if_pos c
      rw [e1, e2, if_neg (by omega)]
    · have e1 : aFs be pr nm (a :: l ++ [h]) k = aFs be pr nm (l ++ [h]) (k + 1) := if_neg c
      have e2 : aFs be pr nm (a :: l) k = aFs be pr nm l (k + 1) := if_neg c
      rw [e1, e2, aFs_ap l (k + 1) (by omega), List.length_cons, show k + 1 + (l.length : Int) = k + ((l.length + 1 : Nat) : Int) by omega]
theorem wHs_0 (hw : wHs H n) : 0 < H.length := by
  have h0 := hw.1
  have : H.length ≠ 0 := fun e => by
    have e2 : H = [] := List.eq_nil_of_length_eq_zero e
    rw [e2] at h0
    exact absurd h0 (by decide)
  omega
theorem wHs_z (hw : wHs H n) : qPr H 0 = -1 ∧ qBe H 0 = -1 ∧ qNm H 0 = -1 ∧ qSz H 0 = 0 := by
  show (H.getD 0 (0, 0, 0, 0)).1 = -1 ∧ (H.getD 0 (0, 0, 0, 0)).2.1 = -1 ∧ (H.getD 0 (0, 0, 0, 0)).2.2.1 = -1 ∧ (H.getD 0 (0, 0, 0, 0)).2.2.2 = 0
  rw [hw.1]; exact ⟨rfl, rfl, rfl, rfl⟩
theorem wHs_n {n2 : Int} (hw : wHs H n) (hn : n ≤ n2) : wHs H n2 := ⟨hw.1, hw.2.1, fun k k0 k1 => (hw.2.2.1 k k0 k1).imp (fun z => ⟨z.1, z.2.1, z.2.2.1, z.2.2.2.1, by have := z.2.2.2.2; omega⟩) id, hw.2.2.2⟩
theorem wHs_ap (hw : wHs H n) (hl : (H.length : Int) ≤ 4000) (hh : (h.2.1 = -1 ∧ h.2.2.1 = -1 ∧ h.2.2.2 = 0 ∧ 0 ≤ h.1 ∧ h.1 < n) ∨ ((0 ≤ h.2.1 ∧ h.2.1 < (H.length : Int)) ∧ 0 ≤ h.2.2.1 ∧ h.1 = qPr H h.2.1 ∧ h.2.2.2 = qSz H h.2.1 + 1)) (hf : aFs h.2.1 h.1 h.2.2.1 H 0 = -1) : wHs (H ++ [h]) n := by
  have l0 := wHs_0 hw
  have lt : (H ++ [h]).length = H.length + 1 := by rw [List.length_append]; rfl
  refine ⟨by rw [gH_l l0]; exact hw.1, by rw [lt]; omega, fun k k0 k1 => ?_, fun k q hk hq e1 e2 e3 => ?_⟩
  · rw [lt] at k1
    by_cases c : k < H.length
    · rw [gH_l c]
      rcases hw.2.2.1 k k0 c with z | ⟨z1, z2, z3, z4, z5⟩
      · exact Or.inl z
      · refine Or.inr ⟨z1, z2, z3, ?_, ?_⟩
        · rw [gH_l (by omega)]; exact z4
        · rw [gH_l (by omega)]; exact z5
    · have ek : k = H.length := by omega
      subst ek
      rw [gH_r]
      rcases hh with z | ⟨⟨z1, z2⟩, z3, z4, z5⟩
      · exact Or.inl z
      · refine Or.inr ⟨z1, z2, z3, ?_, ?_⟩
        · rw [gH_l (by omega)]; exact z4
        · rw [gH_l (by omega)]; exact z5
  · rw [lt] at hk hq
    by_cases c : k < H.length
    · rw [gH_l c] at e1 e2 e3
      by_cases c2 : q < H.length
      · rw [gH_l c2] at e1 e2 e3
        exact hw.2.2.2 k q c c2 e1 e2 e3
      · rw [show q = H.length by omega, gH_r] at e1 e2 e3
        exact absurd ⟨e1, e2, e3⟩ (aFs_no hf (k := (k : Int)) (by omega) (by omega))
    · by_cases c2 : q < H.length
      · rw [gH_l c2, show k = H.length by omega, gH_r] at e1 e2 e3
        exact absurd ⟨e1.symm, e2.symm, e3.symm⟩ (aFs_no hf (k := (q : Int)) (by omega) (by omega))
      · omega
theorem gH_i (k0 : 0 ≤ k) (k1 : k < (H.length : Int)) : (H ++ [h]).getD k.toNat (0, 0, 0, 0) = H.getD k.toNat (0, 0, 0, 0) := gH_l (by omega)
theorem gH_n : (H ++ [h]).getD (H.length : Int).toNat (0, 0, 0, 0) = h := by rw [show (H.length : Int).toNat = H.length by omega]; exact gH_r
theorem wNd_ap (hw : wHs H n) (hd : wNd H) (hb : 0 ≤ h.2.1 → h.2.1 < (H.length : Int) ∧ h.2.2.1 ∉ aNs H h.2.1) : wNd (H ++ [h]) := fun k k0 k1 hk => by
  rw [List.length_append] at k1
  by_cases c : k < (H.length : Int)
  · have e : (H ++ [h]).getD k.toNat (0, 0, 0, 0) = H.getD k.toNat (0, 0, 0, 0) := gH_i k0 c
    have hk2 : 0 ≤ qBe H k := by
      replace hk : 0 ≤ ((H ++ [h]).getD k.toNat (0, 0, 0, 0)).2.1 := hk
      rw [e] at hk; exact hk
    show ((H ++ [h]).getD k.toNat (0, 0, 0, 0)).2.2.1 ∉ aNs (H ++ [h]) ((H ++ [h]).getD k.toNat (0, 0, 0, 0)).2.1
    rw [e]
    have g := aNs_s hw k0 c hk2
    rw [aNs_ap hw hk2 (by have := g.1; omega)]
    exact hd k k0 c hk2
  · have ek : k = (H.length : Int) := by
      have : ([h] : List aH).length = 1 := rfl
      omega
    subst ek
    replace hk : 0 ≤ ((H ++ [h]).getD (H.length : Int).toNat (0, 0, 0, 0)).2.1 := hk
    show ((H ++ [h]).getD (H.length : Int).toNat (0, 0, 0, 0)).2.2.1 ∉ aNs (H ++ [h]) ((H ++ [h]).getD (H.length : Int).toNat (0, 0, 0, 0)).2.1
    rw [gH_n] at hk ⊢
    rw [aNs_ap hw hk (hb hk).1]
    exact (hb hk).2
theorem isO_ag (hl : T2.length = T.length) (e : ∀ k : Int, 0 ≤ k → k < (T.length : Int) → (tO T2 k).1 = (tO T k).1) : isO T2 k ↔ isO T k := by
  refine ⟨fun z => ?_, fun z => ?_⟩
  · obtain ⟨⟨a1, a2⟩, a3⟩ := z
    rw [hl] at a2
    rw [e k a1 a2] at a3
    exact ⟨⟨a1, a2⟩, a3⟩
  · obtain ⟨⟨a1, a2⟩, a3⟩ := z
    rw [← e k a1 a2] at a3
    exact ⟨⟨a1, by rw [hl]; exact a2⟩, a3⟩
/-- things have changed; the shapes are the same -/
theorem wSh_g (h : wSh T H) (hl : T2.length = T.length) (e : ∀ k : Int, 0 ≤ k → k < (T.length : Int) → (tO T2 k).1 = (tO T k).1 ∧ ((tO T2 k).2.2.2.2.1 = -1 ↔ (tO T k).2.2.2.2.1 = -1) ∧ ((tO T2 k).2.2.2.2.1 = -1 ∨ 0 ≤ (tO T2 k).2.2.2.2.1)) (hs : ∀ k : Int, isO T k → (0 ≤ (tO T2 k).2.1 ∧ (tO T2 k).2.1 < (H.length : Int)) ∧ pNs (tO T2 k) = aNs H (tO T2 k).2.1 ∧ (tO T2 k).2.2.2.2.2.2.length ≤ 64) (hn : ∀ k : Int, 0 ≤ k → k < (T.length : Int) → (tO T k).1 = 6 ∨ (tO T k).1 = 7 → (tO T2 k).2.1 = -1 ∧ ∀ x ∈ (tO T2 k).2.2.2.2.2.2, x.1 = -1) (hr : ∃ rk : Int → Nat, ∀ k : Int, isO T k → aPr T2 H k ≠ -1 → rk (aPr T2 H k) < rk k) : wSh T2 H := by
  obtain ⟨h1, h2, h3, h4, h5, h6, h7, -⟩ := h
  have io : ∀ k : Int, isO T2 k ↔ isO T k := fun k => isO_ag hl (fun k k0 k1 => (e k k0 k1).1)
  refine ⟨by rw [hl]; exact h1, h2, fun k hk => ?_, fun k hk => (hs k ((io k).mp hk)).2, fun k k0 k1 hk => ?_, fun s s0 s1 => (h6 s s0 s1).imp id (fun z => (io _).mpr z), fun k k0 k1 => ?_, ?_⟩
  · rw [hl] at hk
    have e1 := e (k : Int) (by omega) (by omega)
    obtain ⟨w1, w2, w3, w4⟩ := h3 k hk
    have ek : (k : Int).toNat = k := by omega
    unfold tO at e1
    rw [ek] at e1
    refine ⟨by rw [e1.1]; exact w1, fun q => ?_, fun q => ?_, e1.2.2⟩
    · have := (hs (k : Int) ⟨⟨by omega, by omega⟩, by unfold tO; rw [ek, ← e1.1]; exact q⟩).1
      unfold tO at this
      rw [ek] at this
      exact this
    · have := (hn (k : Int) (by omega) (by omega) (by unfold tO; rw [ek, ← e1.1]; exact q)).1
      unfold tO at this
      rw [ek] at this
      exact this
  · rw [hl] at k1
    rw [(e k k0 k1).1] at hk
    exact (hn k k0 k1 hk).2
  · rw [hl] at k1
    exact (e k k0 k1).2.1.trans (h7 k k0 k1)
  · obtain ⟨rk, hr⟩ := hr
    exact ⟨rk, fun k hk => hr k ((io k).mp hk)⟩
/-- a thing comes -/
theorem tO_l {o : aO} (k0 : 0 ≤ k) (k1 : k < (T.length : Int)) : tO (T ++ [o]) k = tO T k := gO_l (by omega)
theorem tO_r {o : aO} : tO (T ++ [o]) (T.length : Int) = o := by
  unfold tO
  rw [show (T.length : Int).toNat = T.length by omega]; exact gO_r
theorem wSh_a {o : aO} (h : wSh T H) (ho : wTh H o) (he : o.2.2.2.2.1 = -1) (hs : (o.1 = 4 ∨ o.1 = 5) → pNs o = aNs H o.2.1 ∧ o.2.2.2.2.2.2.length ≤ 64) (hn : o.1 = 6 ∨ o.1 = 7 → ∀ x ∈ o.2.2.2.2.2.2, x.1 = -1) : wSh (T ++ [o]) H := by
  obtain ⟨h1, h2, h3, h4, h5, h6, h7, rk, hr⟩ := id h
  have lt : (T ++ [o]).length = T.length + 1 := by rw [List.length_append]; rfl
  have io : ∀ k : Int, k < (T.length : Int) → (isO (T ++ [o]) k ↔ isO T k) := fun k k1 => by
    refine ⟨fun z => ?_, fun z => ?_⟩
    · obtain ⟨⟨a1, a2⟩, a3⟩ := z
      rw [tO_l a1 k1] at a3
      exact ⟨⟨a1, k1⟩, a3⟩
    · obtain ⟨⟨a1, a2⟩, a3⟩ := z
      exact ⟨⟨a1, by rw [lt]; omega⟩, by rw [tO_l a1 k1]; exact a3⟩
  have hp : ∀ s : Int, 0 ≤ s → s < (H.length : Int) → qPr H s < (T.length : Int) := fun s s0 s1 => (h6 s s0 s1).elim (fun z => by rw [z]; omega) (fun z => z.1.2)
  refine ⟨wHs_n h1 (by rw [lt]; omega), h2, fun k hk => ?_, fun k hk => ?_, fun k k0 k1 hk => ?_, fun s s0 s1 => (h6 s s0 s1).imp id (fun z => (io _ z.1.2).mpr z), fun k k0 k1 => ?_, fun k => if k = (T.length : Int) then rk (qPr H o.2.1) + 1 else rk k, fun k hk hq => ?_⟩
  · rw [lt] at hk
    by_cases c : k < T.length
    · rw [gO_l c]; exact h3 k c
    · rw [show k = T.length by omega, gO_r]; exact ho
  · by_cases c : k < (T.length : Int)
    · rw [tO_l hk.1.1 c]
      exact h4 k ((io k c).mp hk)
    · have ek : k = (T.length : Int) := by have := hk.1.2; rw [lt] at this; omega
      subst ek
      have := hk.2
      rw [tO_r] at this ⊢
      exact hs this
  · rw [lt] at k1
    by_cases c : k < (T.length : Int)
    · rw [tO_l k0 c] at hk ⊢
      exact h5 k k0 c hk
    · have ek : k = (T.length : Int) := by omega
      subst ek
      rw [tO_r] at hk ⊢
      exact hn hk
  · rw [lt] at k1
    by_cases c : k < (T.length : Int)
    · rw [tO_l k0 c]
      exact h7 k k0 c
    · have ek : k = (T.length : Int) := by omega
      subst ek
      rw [tO_r]
      exact ⟨fun _ s s0 s1 => by have := hp s s0 s1; omega, fun _ => he⟩
  · show (if aPr (T ++ [o]) H k = (T.length : Int) then rk (qPr H o.2.1) + 1 else rk (aPr (T ++ [o]) H k)) < (if k = (T.length : Int) then rk (qPr H o.2.1) + 1 else rk k)
    by_cases c : k < (T.length : Int)
    · have hk2 := (io k c).mp hk
      have e1 : aPr (T ++ [o]) H k = aPr T H k := by unfold aPr; rw [tO_l hk.1.1 c]
      rw [e1] at hq ⊢
      have g := (wSh_pr h hk2).elim (fun z => absurd z hq) id
      rw [if_neg (by have := g.1.2; omega), if_neg (by omega)]
      exact hr k hk2 hq
    · have ek : k = (T.length : Int) := by have := hk.1.2; rw [lt] at this; omega
      subst ek
      have e1 : aPr (T ++ [o]) H (T.length : Int) = qPr H o.2.1 := by unfold aPr; rw [tO_r]
      rw [e1] at hq ⊢
      have hk3 := hk.2
      rw [tO_r] at hk3
      obtain ⟨s0, s1⟩ := ho.2.1 hk3
      have g := hp _ s0 s1
      rw [if_neg (by omega), if_pos rfl]
      omega
/-- a shape with a name more comes -/
theorem wSh_ns (h : wSh T H) (hs : 0 ≤ sh ∧ sh < (H.length : Int)) (hnm : 0 ≤ nm) (hf : aFs sh (qPr H sh) nm H 0 = -1) (hl : (H.length : Int) ≤ 4000) (hn : nm ∉ aNs H sh) : wSh T (H ++ [(qPr H sh, sh, nm, qSz H sh + 1)]) := by
  obtain ⟨h1, h2, h3, h4, h5, h6, h7, rk, hr⟩ := id h
  have lt : (H ++ [((qPr H sh, sh, nm, qSz H sh + 1) : aH)]).length = H.length + 1 := by rw [List.length_append]; rfl
  have hP : ∀ s : Int, 0 ≤ s → s < (H.length : Int) → qPr (H ++ [(qPr H sh, sh, nm, qSz H sh + 1)]) s = qPr H s := fun s s0 s1 => by
    show ((H ++ [((qPr H sh, sh, nm, qSz H sh + 1) : aH)]).getD s.toNat (0, 0, 0, 0)).1 = _
    rw [gH_i s0 s1]
  have hQ : qPr (H ++ [(qPr H sh, sh, nm, qSz H sh + 1)]) (H.length : Int) = qPr H sh := by
    show ((H ++ [((qPr H sh, sh, nm, qSz H sh + 1) : aH)]).getD (H.length : Int).toNat (0, 0, 0, 0)).1 = _
    rw [gH_n]
  refine ⟨wHs_ap h1 hl (Or.inr ⟨hs, hnm, rfl, rfl⟩) hf, wNd_ap h1 h2 (fun _ => ⟨hs.2, hn⟩), fun k hk => ?_, fun k hk => ?_, h5, fun s s0 s1 => ?_, fun k k0 k1 => ?_, rk, fun k hk hq => ?_⟩
  · obtain ⟨w1, w2, w3, w4⟩ := h3 k hk
    exact ⟨w1, fun q => ⟨(w2 q).1, by rw [lt]; have := (w2 q).2; omega⟩, w3, w4⟩
  · have g := wSh_sh h hk
    rw [aNs_ap h1 g.1 g.2]
    exact h4 k hk
  · rw [lt] at s1
    by_cases c : s < (H.length : Int)
    · rw [hP s s0 c]; exact h6 s s0 c
    · rw [show s = (H.length : Int) by omega, hQ]; exact h6 sh hs.1 hs.2
  · refine (h7 k k0 k1).trans ⟨fun z s s0 s1 => ?_, fun z s s0 s1 => ?_⟩
    · rw [lt] at s1
      by_cases c : s < (H.length : Int)
      · rw [hP s s0 c]; exact z s s0 c
      · rw [show s = (H.length : Int) by omega, hQ]; exact z sh hs.1 hs.2
    · have := z s s0 (by rw [lt]; omega)
      rw [hP s s0 s1] at this
      exact this
  · have g := wSh_sh h hk
    have e1 : aPr T (H ++ [(qPr H sh, sh, nm, qSz H sh + 1)]) k = aPr T H k := hP _ g.1 g.2
    rw [e1] at hq ⊢
    exact hr k hk hq
/-- no shape has a prototype that has no shape without names -/
theorem noP (hw : wHs H n) (hp : 0 ≤ p) (hf : aFs (-1) p (-1) H 0 = -1) : ∀ (s : Nat), s < H.length → (H.getD s (0, 0, 0, 0)).1 ≠ p := by
  intro s
  induction s using Nat.strongRecOn with
  | ind s ih =>
    intro hs e
    by_cases c : s = 0
    · subst c
      rw [hw.1] at e
      have : (-1 : Int) = p := e
      omega
    · rcases hw.2.2.1 s (by omega) hs with ⟨z1, z2, -⟩ | ⟨z1, z2, z3, z4, z5⟩
      · exact absurd ⟨e, z1, z2⟩ (aFs_no hf (k := (s : Int)) (by omega) (by omega))
      · exact ih (H.getD s (0, 0, 0, 0)).2.1.toNat (by omega) (by omega) (z4.symm.trans e)
/-- a thing's epoch -/
def tEp (T : List aO) (p e : Int) : List aO := T.set p.toNat ((tO T p).1, (tO T p).2.1, (tO T p).2.2.1, (tO T p).2.2.2.1, e, (tO T p).2.2.2.2.2)
theorem tEp_l : (tEp T p e).length = T.length := List.length_set
theorem tEp_o (p0 : 0 ≤ p) (p1 : p < (T.length : Int)) (k0 : 0 ≤ k) : tO (tEp T p e) k = if k = p then ((tO T p).1, (tO T p).2.1, (tO T p).2.2.1, (tO T p).2.2.2.1, e, (tO T p).2.2.2.2.2) else tO T k := by
  unfold tEp
  show (T.set p.toNat _).getD k.toNat (0, 0, 0, 0, 0, 0, []) = _
  rw [gO_set (by omega)]
  by_cases c : k = p
  · rw [if_pos (by omega), if_pos c]
  · rw [if_neg (by omega), if_neg c]
theorem tEp_f (p0 : 0 ≤ p) (p1 : p < (T.length : Int)) (k0 : 0 ≤ k) : (tO (tEp T p e) k).1 = (tO T k).1 ∧ (tO (tEp T p e) k).2.1 = (tO T k).2.1 ∧ (tO (tEp T p e) k).2.2.1 = (tO T k).2.2.1 ∧ (tO (tEp T p e) k).2.2.2.1 = (tO T k).2.2.2.1 ∧ (tO (tEp T p e) k).2.2.2.2.2 = (tO T k).2.2.2.2.2 ∧ (tO (tEp T p e) k).2.2.2.2.1 = if k = p then e else (tO T k).2.2.2.2.1 := by
  rw [tEp_o p0 p1 k0]
  by_cases c : k = p
  · rw [if_pos c, if_pos c, c]; exact ⟨rfl, rfl, rfl, rfl, rfl, rfl⟩
  · rw [if_neg c, if_neg c]; exact ⟨rfl, rfl, rfl, rfl, rfl, rfl⟩
/-- a shape without names comes -/
theorem wSh_bs (h : wSh T H) (hp : isO T p) (hf : aFs (-1) p (-1) H 0 = -1) (hl : (H.length : Int) ≤ 4000) : wSh (tEp T p 0) (H ++ [(p, -1, -1, 0)]) := by
  obtain ⟨h1, h2, h3, h4, h5, h6, h7, rk, hr⟩ := id h
  obtain ⟨⟨p0, p1⟩, p2⟩ := id hp
  have lt : (H ++ [((p, -1, -1, 0) : aH)]).length = H.length + 1 := by rw [List.length_append]; rfl
  have hP : ∀ s : Int, 0 ≤ s → s < (H.length : Int) → qPr (H ++ [(p, -1, -1, 0)]) s = qPr H s := fun s s0 s1 => by
    show ((H ++ [((p, -1, -1, 0) : aH)]).getD s.toNat (0, 0, 0, 0)).1 = _
    rw [gH_i s0 s1]
  have hQ : qPr (H ++ [(p, -1, -1, 0)]) (H.length : Int) = p := by
    show ((H ++ [((p, -1, -1, 0) : aH)]).getD (H.length : Int).toNat (0, 0, 0, 0)).1 = _
    rw [gH_n]
  have io : ∀ k : Int, isO (tEp T p 0) k ↔ isO T k := fun k => isO_ag tEp_l (fun k k0 k1 => (tEp_f p0 p1 k0).1)
  have np := noP h1 p0 hf
  refine ⟨by rw [tEp_l]; exact wHs_ap h1 hl (Or.inl ⟨rfl, rfl, rfl, p0, p1⟩) hf, wNd_ap h1 h2 (fun z => absurd z (by show ¬ (0 ≤ (-1 : Int)); decide)), fun k hk => ?_, fun k hk => ?_, fun k k0 k1 hk => ?_, fun s s0 s1 => ?_, fun k k0 k1 => ?_, rk, fun k hk hq => ?_⟩
  · rw [tEp_l] at hk
    have f := tEp_f (e := 0) p0 p1 (k := (k : Int)) (by omega)
    have ek : (k : Int).toNat = k := by omega
    unfold tO at f
    rw [ek] at f
    obtain ⟨w1, w2, w3, w4⟩ := h3 k hk
    refine ⟨by rw [f.1]; exact w1, fun q => ?_, fun q => ?_, ?_⟩
    · rw [f.1] at q
      rw [f.2.1, lt]
      exact ⟨(w2 q).1, by have := (w2 q).2; omega⟩
    · rw [f.1] at q
      rw [f.2.1]; exact w3 q
    · rw [f.2.2.2.2.2]
      by_cases c : (k : Int) = p
      · rw [if_pos c]; exact Or.inr (Int.le_refl _)
      · rw [if_neg c]; exact w4
  · have hk2 := (io k).mp hk
    have f := tEp_f (e := 0) p0 p1 (k := k) hk2.1.1
    have g := wSh_sh h hk2
    unfold pNs
    rw [f.2.1, f.2.2.2.2.1, aNs_ap h1 g.1 g.2]
    exact h4 k hk2
  · rw [tEp_l] at k1
    have f := tEp_f (e := 0) p0 p1 (k := k) k0
    rw [f.1] at hk
    rw [f.2.2.2.2.1]
    exact h5 k k0 k1 hk
  · rw [lt] at s1
    by_cases c : s < (H.length : Int)
    · rw [hP s s0 c]; exact (h6 s s0 c).imp id (fun z => (io _).mpr z)
    · rw [show s = (H.length : Int) by omega, hQ]; exact Or.inr ((io p).mpr hp)
  · rw [tEp_l] at k1
    rw [(tEp_f (e := 0) p0 p1 (k := k) k0).2.2.2.2.2]
    by_cases c : k = p
    · rw [if_pos c]
      refine ⟨fun z => absurd z (by decide), fun z => ?_⟩
      have := z (H.length : Int) (by omega) (by rw [lt]; omega)
      rw [hQ, c] at this
      exact absurd rfl this
    · rw [if_neg c]
      refine (h7 k k0 k1).trans ⟨fun z s s0 s1 => ?_, fun z s s0 s1 => ?_⟩
      · rw [lt] at s1
        by_cases c2 : s < (H.length : Int)
        · rw [hP s s0 c2]; exact z s s0 c2
        · rw [show s = (H.length : Int) by omega, hQ]; exact fun q => c q.symm
      · have := z s s0 (by rw [lt]; omega)
        rw [hP s s0 s1] at this
        exact this
  · have hk2 := (io k).mp hk
    have g := wSh_sh h hk2
    have e1 : aPr (tEp T p 0) (H ++ [(p, -1, -1, 0)]) k = aPr T H k := by
      unfold aPr
      rw [(tEp_f (e := 0) p0 p1 (k := k) hk2.1.1).2.1]
      exact hP _ g.1 g.2
    rw [e1] at hq ⊢
    exact hr k hk2 hq
end Wf7
