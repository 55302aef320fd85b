/-! PART fg: a thing's names upon another prototype: shapes found and made. -/
section Wfg
variable {H : List aH} {T : List aO} {k n nm p s i wo : Int}
/-- a list without the one at a place -/
def fS (wo : Int) : List Int → Int → List Int
  | [], _ => []
  | a :: l, i => if i = wo then fS wo l (i + 1) else a :: fS wo l (i + 1)
theorem fS_e (a : Int) (l : List Int) (h : i = wo) : fS wo (a :: l) i = fS wo l (i + 1) := if_pos h
theorem fS_n (a : Int) (l : List Int) (h : i ≠ wo) : fS wo (a :: l) i = a :: fS wo l (i + 1) := if_neg h
theorem fS_m : ∀ (l : List Int) (i : Int) (x : Int), x ∈ fS wo l i → x ∈ l
  | [], _, _, h => h
  | a :: l, i, x, h => by
    by_cases c : i = wo
    · rw [fS_e a l c] at h
      exact List.mem_cons.mpr (Or.inr (fS_m l (i + 1) x h))
    · rw [fS_n a l c] at h
      rcases List.mem_cons.mp h with z | z
      · exact List.mem_cons.mpr (Or.inl z)
      · exact List.mem_cons.mpr (Or.inr (fS_m l (i + 1) x z))
theorem fS_id : ∀ (l : List Int) (i : Int), wo < i → fS wo l i = l
  | [], _, _ => rfl
  | a :: l, i, h => by rw [fS_n a l (by omega), fS_id l (i + 1) (by omega)]
theorem fS_len : ∀ (l : List Int) (i : Int), i ≤ wo → wo < i + (l.length : Int) → (fS wo l i).length + 1 = l.length
  | [], i, h1, h2 => by
    have : (([] : List Int).length : Int) = 0 := rfl
    omega
  | a :: l, i, h1, h2 => by
    rw [List.length_cons] at h2
    by_cases c : i = wo
    · rw [fS_e a l c, fS_id l (i + 1) (by omega), List.length_cons]
    · rw [fS_n a l c, List.length_cons, List.length_cons]
      have := fS_len l (i + 1) (by omega) (by omega)
      omega
/-- names that are told once -/
def nDs : List Int → Prop
  | [] => True
  | a :: l => a ∉ l ∧ nDs l
theorem nDs_f : ∀ (l : List Int) (i : Int), nDs l → nDs (fS wo l i)
  | [], _, _ => trivial
  | a :: l, i, h => by
    by_cases c : i = wo
    · rw [fS_e a l c]; exact nDs_f l (i + 1) h.2
    · rw [fS_n a l c]; exact ⟨fun z => h.1 (fS_m l (i + 1) a z), nDs_f l (i + 1) h.2⟩
theorem nDs_ap : ∀ (l : List Int) (a : Int), nDs l → a ∉ l → nDs (l ++ [a])
  | [], _, _, _ => ⟨List.not_mem_nil, trivial⟩
  | b :: l, a, h, ha => ⟨fun z => by
      rcases List.mem_append.mp z with y | y
      · exact h.1 y
      · exact ha (List.mem_cons.mpr (Or.inl (List.mem_singleton.mp y).symm)), nDs_ap l a h.2 (fun z => ha (List.mem_cons.mpr (Or.inr z)))⟩
theorem nDs_H (hw : wHs H n) (hd : wNd H) : ∀ (f : Nat) (k : Int), 0 ≤ k → k < (H.length : Int) → f = (qSz H k).toNat → nDs (aNs H k) ∧ ∀ x ∈ aNs H k, 0 ≤ x
  | 0, k, k0, k1, hf => by
    have hz := (wHs_c hw k k0 k1).1.1
    replace hz : 0 ≤ qSz H k := hz
    rw [aNs_0 (by omega)]
    exact ⟨trivial, fun x hx => absurd hx List.not_mem_nil⟩
  | f + 1, k, k0, k1, hf => by
    obtain ⟨b0, b1, b2⟩ := (wHs_c hw k k0 k1).2 (by show 0 < qSz H k; omega)
    replace b0 : 0 ≤ qBe H k := b0
    obtain ⟨g1, g2, g3, g4, g5⟩ := aNs_s hw k0 k1 b0
    have ih := nDs_H hw hd f (qBe H k) b0 (by omega) (by omega)
    rw [g5]
    refine ⟨nDs_ap _ _ ih.1 (hd k k0 k1 b0), fun x hx => ?_⟩
    rcases List.mem_append.mp hx with z | z
    · exact ih.2 x z
    · rw [List.mem_singleton.mp z]; exact g4
/-- the next one, if there is one -/
def aNx (H : List aH) (p k nm : Int) : Int := if k = -1 then -1 else aFs k p nm H 0
/-- how many shapes are missing -/
def aMs (H : List aH) (p : Int) : Int → List Int → Int
  | _, [] => 0
  | k, nm :: l => (if aNx H p k nm = -1 then 1 else 0) + aMs H p (aNx H p k nm) l
theorem aMs_n : ∀ l : List Int, aMs H p (-1) l = (l.length : Int)
  | [] => rfl
  | nm :: l => by
    show (if aNx H p (-1) nm = -1 then 1 else 0) + aMs H p (aNx H p (-1) nm) l = _
    have e : aNx H p (-1) nm = -1 := if_pos rfl
    rw [e, if_pos rfl, aMs_n l, List.length_cons]; omega
theorem aMs_rg : ∀ (l : List Int) (k : Int), 0 ≤ aMs H p k l ∧ aMs H p k l ≤ (l.length : Int)
  | [], _ => ⟨Int.le_refl _, Int.le_refl _⟩
  | nm :: l, k => by
    have := aMs_rg l (aNx H p k nm)
    show 0 ≤ (if aNx H p k nm = -1 then 1 else 0) + aMs H p (aNx H p k nm) l ∧ (if aNx H p k nm = -1 then 1 else 0) + aMs H p (aNx H p k nm) l ≤ ((nm :: l).length : Int)
    rw [List.length_cons]
    split <;> omega
/-- behind the newest shape there is none -/
theorem aFs_new {h : aH} {pr : Int} (hw : wHs H n) (hh : h.2.1 < (H.length : Int)) : aFs (H.length : Int) pr nm (H ++ [h]) 0 = -1 := by
  rcases aFs_r (be := (H.length : Int)) (pr := pr) (nm := nm) (H ++ [h]) 0 with ⟨a1, -⟩ | ⟨i, a1, a2, -⟩
  · exact a1
  · rw [List.length_append] at a1
    exfalso
    by_cases c : i < H.length
    · rw [gH_l c] at a2
      by_cases i0 : i = 0
      · subst i0
        rw [hw.1] at a2
        have : (-1 : Int) = (H.length : Int) := a2.2.1
        omega
      · rcases hw.2.2.1 i (by omega) c with ⟨z, -⟩ | ⟨z1, z2, -⟩
        · omega
        · omega
    · have ei : i = H.length := by
        have : ([h] : List aH).length = 1 := rfl
        omega
      rw [ei, gH_r] at a2
      omega
theorem aMs_new {h : aH} (hw : wHs H n) (hh : h.2.1 < (H.length : Int)) : ∀ l : List Int, aMs (H ++ [h]) p (H.length : Int) l = (l.length : Int)
  | [] => rfl
  | nm :: l => by
    show (if aNx (H ++ [h]) p (H.length : Int) nm = -1 then 1 else 0) + aMs (H ++ [h]) p (aNx (H ++ [h]) p (H.length : Int) nm) l = _
    have e : aNx (H ++ [h]) p (H.length : Int) nm = -1 := (if_neg (by omega)).trans (aFs_new hw hh)
    rw [e, if_pos rfl, aMs_n l, List.length_cons]; omega
/-- the shapes are made -/
def aRb (p : Int) : List Int → List aH → Int → List aH × Int
  | [], H, s => (H, s)
  | nm :: l, H, s => if aFs s p nm H 0 = -1 then aRb p l (H ++ [(p, s, nm, qSz H s + 1)]) (H.length : Int) else aRb p l H (aFs s p nm H 0)
theorem aRb_n (l : List Int) (h : aFs s p nm H 0 = -1) : aRb p (nm :: l) H s = aRb p l (H ++ [(p, s, nm, qSz H s + 1)]) (H.length : Int) := if_pos h
theorem aRb_f (l : List Int) (h : aFs s p nm H 0 ≠ -1) : aRb p (nm :: l) H s = aRb p l H (aFs s p nm H 0) := if_neg h
theorem aMs_c (l : List Int) (hs : s ≠ -1) : aMs H p s (nm :: l) = (if aFs s p nm H 0 = -1 then 1 else 0) + aMs H p (aFs s p nm H 0) l := by
  have e : aNx H p s nm = aFs s p nm H 0 := if_neg hs
  show (if aNx H p s nm = -1 then 1 else 0) + aMs H p (aNx H p s nm) l = _
  rw [e]
/-- what holds of the shapes when they are made -/
theorem aRb_ok : ∀ (l : List Int) (H : List aH) (s : Int), wSh T H → 0 ≤ s → s < (H.length : Int) → qPr H s = p → nDs l → (∀ x ∈ l, 0 ≤ x ∧ x ∉ aNs H s) → (H.length : Int) + aMs H p s l ≤ 4001 → wSh T (aRb p l H s).1 ∧ (0 ≤ (aRb p l H s).2 ∧ (aRb p l H s).2 < ((aRb p l H s).1.length : Int)) ∧ aNs (aRb p l H s).1 (aRb p l H s).2 = aNs H s ++ l ∧ qPr (aRb p l H s).1 (aRb p l H s).2 = p ∧ ((aRb p l H s).1.length : Int) = (H.length : Int) + aMs H p s l ∧ ∀ k : Nat, k < H.length → (aRb p l H s).1.getD k (0, 0, 0, 0) = H.getD k (0, 0, 0, 0)
  | [], H, s, hw, s0, s1, hp, _, _, _ => ⟨hw, ⟨s0, s1⟩, (List.append_nil _).symm, hp, by show (H.length : Int) = (H.length : Int) + 0; omega, fun _ _ => rfl⟩
  | nm :: l, H, s, hw, s0, s1, hp, hd, hx, hm => by
    obtain ⟨x0, x1⟩ := hx nm (List.mem_cons.mpr (Or.inl rfl))
    rw [aMs_c l (by omega)] at hm
    by_cases c : aFs s p nm H 0 = -1
    · rw [if_pos c, c, aMs_n l] at hm
      have hf : aFs s (qPr H s) nm H 0 = -1 := by rw [hp]; exact c
      have hw2 := wSh_ns hw ⟨s0, s1⟩ x0 hf (by omega) x1
      rw [hp] at hw2
      have lt : (H ++ [((p, s, nm, qSz H s + 1) : aH)]).length = H.length + 1 := by rw [List.length_append]; rfl
      have eq : (H ++ [((p, s, nm, qSz H s + 1) : aH)]).getD (H.length : Int).toNat (0, 0, 0, 0) = (p, s, nm, qSz H s + 1) := gH_n
      have en : aNs (H ++ [(p, s, nm, qSz H s + 1)]) (H.length : Int) = aNs H s ++ [nm] := by
        have g := aNs_s hw2.1 (k := (H.length : Int)) (by omega) (by rw [lt]; omega) (by show 0 ≤ ((H ++ [((p, s, nm, qSz H s + 1) : aH)]).getD (H.length : Int).toNat (0, 0, 0, 0)).2.1; rw [eq]; exact s0)
        rw [g.2.2.2.2]
        show aNs (H ++ [(p, s, nm, qSz H s + 1)]) ((H ++ [((p, s, nm, qSz H s + 1) : aH)]).getD (H.length : Int).toNat (0, 0, 0, 0)).2.1 ++ [((H ++ [((p, s, nm, qSz H s + 1) : aH)]).getD (H.length : Int).toNat (0, 0, 0, 0)).2.2.1] = _
        rw [eq, aNs_ap hw.1 s0 s1]
      have ih := aRb_ok l (H ++ [(p, s, nm, qSz H s + 1)]) (H.length : Int) hw2 (by omega) (by rw [lt]; omega) (by show ((H ++ [((p, s, nm, qSz H s + 1) : aH)]).getD (H.length : Int).toNat (0, 0, 0, 0)).1 = p; rw [eq]) hd.2 (fun x hx2 => ⟨(hx x (List.mem_cons.mpr (Or.inr hx2))).1, by
        rw [en]
        intro z
        rcases List.mem_append.mp z with y | y
        · exact (hx x (List.mem_cons.mpr (Or.inr hx2))).2 y
        · rw [List.mem_singleton.mp y] at hx2; exact hd.1 hx2⟩) (by rw [aMs_new hw.1 (by exact s1), lt]; omega)
      rw [aRb_n l c]
      obtain ⟨i1, i2, i3, i4, i5, i6⟩ := ih
      refine ⟨i1, i2, ?_, i4, ?_, fun k hk => ?_⟩
      · rw [i3, en, List.append_assoc]; rfl
      · rw [i5, aMs_new hw.1 (by exact s1), lt, aMs_c l (by omega), if_pos c, c, aMs_n l]; omega
      · rw [i6 k (by rw [lt]; omega), gH_l hk]
    · have r0 : 0 ≤ aFs s p nm H 0 := by have := aFs_rg (be := s) (pr := p) (nm := nm) (H := H); omega
      have r1 := (aFs_rg (be := s) (pr := p) (nm := nm) (H := H)).2
      obtain ⟨f1, f2, f3⟩ := aFs_at r0
      have en : aNs H (aFs s p nm H 0) = aNs H s ++ [nm] := by
        have g := aNs_s hw.1 r0 r1 (by rw [f2]; exact s0)
        rw [g.2.2.2.2, f2, f3]
      rw [if_neg c] at hm
      have ih := aRb_ok l H (aFs s p nm H 0) hw r0 r1 f1 hd.2 (fun x hx2 => ⟨(hx x (List.mem_cons.mpr (Or.inr hx2))).1, by
        rw [en]
        intro z
        rcases List.mem_append.mp z with y | y
        · exact (hx x (List.mem_cons.mpr (Or.inr hx2))).2 y
        · rw [List.mem_singleton.mp y] at hx2; exact hd.1 hx2⟩) (by omega)
      rw [aRb_f l c]
      obtain ⟨i1, i2, i3, i4, i5, i6⟩ := ih
      refine ⟨i1, i2, ?_, i4, ?_, i6⟩
      · rw [i3, en, List.append_assoc]; rfl
      · rw [i5, aMs_c l (by omega), if_neg c]; omega
/-- the shape without names of a prototype: things, shapes, which one -/
def aBr (T : List aO) (H : List aH) (p : Int) : List aO × List aH × Int := if p = -1 then (T, H, 0) else if aFs (-1) p (-1) H 0 = -1 then (tEp T p 0, H ++ [(p, -1, -1, 0)], (H.length : Int)) else (T, H, aFs (-1) p (-1) H 0)
/-- how many shapes are missing, that one counted -/
def aMb (H : List aH) (p : Int) (l : List Int) : Int := if p = -1 then aMs H p 0 l else (if aFs (-1) p (-1) H 0 = -1 then 1 else 0) + aMs H p (aFs (-1) p (-1) H 0) l
theorem aBr_ok (hw : wSh T H) (hp : p = -1 ∨ isO T p) {l : List Int} (hm : (H.length : Int) + aMb H p l ≤ 4001) : wSh (aBr T H p).1 (aBr T H p).2.1 ∧ (0 ≤ (aBr T H p).2.2 ∧ (aBr T H p).2.2 < ((aBr T H p).2.1.length : Int)) ∧ qPr (aBr T H p).2.1 (aBr T H p).2.2 = p ∧ aNs (aBr T H p).2.1 (aBr T H p).2.2 = [] ∧ ((aBr T H p).2.1.length : Int) + aMs (aBr T H p).2.1 p (aBr T H p).2.2 l = (H.length : Int) + aMb H p l ∧ (H.length : Int) ≤ ((aBr T H p).2.1.length : Int) ∧ (∀ k : Nat, k < H.length → (aBr T H p).2.1.getD k (0, 0, 0, 0) = H.getD k (0, 0, 0, 0)) ∧ (aBr T H p).1.length = T.length := by
  have h0 := wHs_0 hw.1
  obtain ⟨z1, z2, z3, z4⟩ := wHs_z hw.1
  by_cases c : p = -1
  · have e : aBr T H p = (T, H, 0) := if_pos c
    have em : aMb H p l = aMs H p 0 l := if_pos c
    rw [e, em]
    exact ⟨hw, ⟨Int.le_refl _, by show (0 : Int) < (H.length : Int); omega⟩, z1.trans c.symm, aNs_0 z4, rfl, Int.le_refl _, fun _ _ => rfl, rfl⟩
  · have hp1 := hp.elim (fun z => absurd z c) id
    by_cases c2 : aFs (-1) p (-1) H 0 = -1
    · have e : aBr T H p = (tEp T p 0, H ++ [(p, -1, -1, 0)], (H.length : Int)) := (if_neg c).trans (if_pos c2)
      have em : aMb H p l = 1 + (l.length : Int) := by
        have e2 : aMb H p l = (if aFs (-1) p (-1) H 0 = -1 then 1 else 0) + aMs H p (aFs (-1) p (-1) H 0) l := if_neg c
        rw [e2, if_pos c2, c2, aMs_n l]
      rw [em] at hm
      rw [e, em]
      have lt : (H ++ [((p, -1, -1, 0) : aH)]).length = H.length + 1 := by rw [List.length_append]; rfl
      have eq : (H ++ [((p, -1, -1, 0) : aH)]).getD (H.length : Int).toNat (0, 0, 0, 0) = (p, -1, -1, 0) := gH_n
      refine ⟨wSh_bs hw hp1 c2 (by omega), ⟨by show 0 ≤ (H.length : Int); omega, by show (H.length : Int) < ((H ++ [((p, -1, -1, 0) : aH)]).length : Int); rw [lt]; omega⟩, ?_, ?_, ?_, ?_, fun k hk => gH_l hk, tEp_l⟩
      · show ((H ++ [((p, -1, -1, 0) : aH)]).getD (H.length : Int).toNat (0, 0, 0, 0)).1 = p
        rw [eq]
      · exact aNs_0 (by show ((H ++ [((p, -1, -1, 0) : aH)]).getD (H.length : Int).toNat (0, 0, 0, 0)).2.2.2 = 0; rw [eq])
      · show ((H ++ [((p, -1, -1, 0) : aH)]).length : Int) + aMs (H ++ [(p, -1, -1, 0)]) p (H.length : Int) l = _
        rw [aMs_new hw.1 (by show (-1 : Int) < (H.length : Int); omega), lt]; omega
      · show (H.length : Int) ≤ ((H ++ [((p, -1, -1, 0) : aH)]).length : Int)
        rw [lt]; omega
    · have e : aBr T H p = (T, H, aFs (-1) p (-1) H 0) := (if_neg c).trans (if_neg c2)
      have r1 := aFs_rg (be := -1) (pr := p) (nm := -1) (H := H)
      obtain ⟨f1, f2, f3⟩ := aFs_at (be := -1) (pr := p) (nm := -1) (H := H) (by omega)
      have em : aMb H p l = aMs H p (aFs (-1) p (-1) H 0) l := by
        have e2 : aMb H p l = (if aFs (-1) p (-1) H 0 = -1 then 1 else 0) + aMs H p (aFs (-1) p (-1) H 0) l := if_neg c
        rw [e2, if_neg c2]; omega
      rw [e, em]
      refine ⟨hw, ⟨by show 0 ≤ aFs (-1) p (-1) H 0; omega, r1.2⟩, f1, ?_, rfl, Int.le_refl _, fun _ _ => rfl, rfl⟩
      have hz := wHs_c hw.1 (aFs (-1) p (-1) H 0) (by omega) r1.2
      refine aNs_0 ?_
      have h1 : 0 ≤ qSz H (aFs (-1) p (-1) H 0) := hz.1.1
      have h2 : 0 < qSz H (aFs (-1) p (-1) H 0) → 0 ≤ qBe H (aFs (-1) p (-1) H 0) := fun q => (hz.2 q).1
      by_cases q : 0 < qSz H (aFs (-1) p (-1) H 0)
      · have := h2 q; omega
      · show qSz H (aFs (-1) p (-1) H 0) = 0
        omega
end Wfg
