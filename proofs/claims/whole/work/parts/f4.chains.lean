/-! PART f4: names along shapes, shapes found, chains of prototypes. -/
section Wf4
variable {H : List aH} {T : List aO} {k n nm be pr x a : Int} {B N Pr ix ch : Int → Int}
theorem gD_cs {α : Type} {a d : α} {l : List α} {i : Nat} : (a :: l).getD (i + 1) d = l.getD i d := rfl
/-- the first place of a name in a list -/
def lIx (nm : Int) : List Int → Int → Int
  | [], _ => -1
  | a :: l, k => if a = nm then k else lIx nm l (k + 1)
theorem lIx_n : ∀ (l : List Int) (k : Int), nm ∉ l → lIx nm l k = -1
  | [], _, _ => rfl
  | a :: l, k, h => by
    show (if a = nm then k else lIx nm l (k + 1)) = -1
    rw [if_neg (fun e => h (List.mem_cons.mpr (Or.inl e.symm)))]
    exact lIx_n l (k + 1) (fun e => h (List.mem_cons.mpr (Or.inr e)))
theorem lIx_m : ∀ (l : List Int) (k : Int), nm ∈ l → k ≤ lIx nm l k ∧ lIx nm l k < k + (l.length : Int) ∧ l.getD (lIx nm l k - k).toNat 0 = nm
  | [], _, h => absurd h List.not_mem_nil
  | a :: l, k, h => by
    show k ≤ (if a = nm then k else lIx nm l (k + 1)) ∧ (if a = nm then k else lIx nm l (k + 1)) < k + ((a :: l).length : Int) ∧ (a :: l).getD ((if a = nm then k else lIx nm l (k + 1)) - k).toNat 0 = nm
    by_cases e : a = nm
    · rw [if_pos e, Int.sub_self]
      exact ⟨Int.le_refl _, by rw [List.length_cons]; omega, e⟩
    · have h2 : nm ∈ l := by
        rcases List.mem_cons.mp h with q | q
        · exact absurd q.symm e
        · exact q
      obtain ⟨a1, a2, a3⟩ := lIx_m l (k + 1) h2
      rw [if_neg e]
      refine ⟨by omega, by rw [List.length_cons]; omega, ?_⟩
      rw [show (lIx nm l (k + 1) - k).toNat = (lIx nm l (k + 1) - (k + 1)).toNat + 1 by omega, gD_cs]
      exact a3
theorem lIx_rg (l : List Int) : -1 ≤ lIx nm l 0 ∧ lIx nm l 0 < (l.length : Int) := by
  by_cases h : nm ∈ l
  · have := lIx_m l 0 h
    omega
  · rw [lIx_n l 0 h]; omega
theorem lIx_ne (l : List Int) : lIx nm l 0 = -1 ↔ nm ∉ l := by
  by_cases h : nm ∈ l
  · have := lIx_m l 0 h
    exact ⟨fun e => by omega, fun e => absurd h e⟩
  · exact ⟨fun _ => h, fun _ => lIx_n l 0 h⟩
theorem lIx_at {l : List Int} (h : 0 ≤ lIx nm l 0) : (lIx nm l 0).toNat < l.length ∧ l.getD (lIx nm l 0).toNat 0 = nm := by
  have hm : nm ∈ l := Classical.byContradiction (fun q => by rw [lIx_n l 0 q] at h; omega)
  obtain ⟨a1, a2, a3⟩ := lIx_m l 0 hm
  rw [Int.sub_zero] at a3
  exact ⟨by omega, a3⟩
theorem lIx_ap : ∀ (l : List Int) (k : Int), lIx nm (l ++ [a]) k = if nm ∈ l then lIx nm l k else if a = nm then k + (l.length : Int) else -1
  | [], k => by
    show (if a = nm then k else -1) = _
    rw [if_neg List.not_mem_nil]
    by_cases e : a = nm
    · rw [if_pos e, if_pos e]; show k = k + ((0 : Nat) : Int); omega
    · rw [if_neg e, if_neg e]
  | b :: l, k => by
    show (if b = nm then k else lIx nm (l ++ [a]) (k + 1)) = if nm ∈ b :: l then (if b = nm then k else lIx nm l (k + 1)) else _
    by_cases e : b = nm
    · rw [if_pos e, if_pos (List.mem_cons.mpr (Or.inl e.symm)), if_pos e]
    · rw [if_neg e, if_neg e, lIx_ap l (k + 1)]
      by_cases q : nm ∈ l
      · rw [if_pos q, if_pos (List.mem_cons.mpr (Or.inr q))]
      · rw [if_neg q, if_neg (fun z => (List.mem_cons.mp z).elim (fun y => e y.symm) q), List.length_cons]
        rw [show k + 1 + (l.length : Int) = k + ((l.length + 1 : Nat) : Int) by omega]
/-- the reference's search is the same -/
theorem lFi_e {g : Nat → Int} : ∀ (l : List Int) (k : Nat), (∀ i : Nat, i < l.length → g (k + i) = l.getD i 0) → lFi g nm l.length k = lIx nm l (k : Int)
  | [], _, _ => rfl
  | a :: l, k, h => by
    have h0 := h 0 (Nat.zero_lt_succ _)
    show (if g k = nm then (k : Int) else lFi g nm l.length (k + 1)) = if a = nm then (k : Int) else lIx nm l ((k : Int) + 1)
    rw [show g k = a from h0, lFi_e l (k + 1) (fun i hi => by
      have := h (i + 1) (Nat.succ_lt_succ hi)
      rw [gD_cs] at this
      rw [show k + 1 + i = k + (i + 1) by omega]
      exact this)]
    rfl
/-- the names along a chain of shapes -/
def hNl (B N : Int → Int) : Nat → Int → List Int
  | 0, _ => []
  | f + 1, s => hNl B N f (B s) ++ [N s]
theorem hNl_l : ∀ (f : Nat) (s : Int), (hNl B N f s).length = f
  | 0, _ => rfl
  | f + 1, s => by
    show (hNl B N f (B s) ++ [N s]).length = f + 1
    rw [List.length_append, hNl_l f (B s)]; rfl
def hNd (B N : Int → Int) : Nat → Int → Prop
  | 0, _ => True
  | f + 1, s => N s ∉ hNl B N f (B s) ∧ hNd B N f (B s)
theorem hIx_l : ∀ (f : Nat) (s : Int), hNd B N f s → hIx B N nm f s = lIx nm (hNl B N f s) 0
  | 0, _, _ => rfl
  | f + 1, s, h => by
    show (if N s = nm then (f : Int) else hIx B N nm f (B s)) = lIx nm (hNl B N f (B s) ++ [N s]) 0
    rw [lIx_ap, hNl_l]
    by_cases e : N s = nm
    · rw [if_pos e, if_neg (by rw [← e]; exact h.1), if_pos e]; omega
    · rw [if_neg e, hIx_l f (B s) h.2]
      by_cases q : nm ∈ hNl B N f (B s)
      · rw [if_pos q]
      · rw [if_neg q, if_neg e, lIx_n _ _ q]
/-- columns of the shapes -/
abbrev qPr (H : List aH) (k : Int) : Int := (H.getD k.toNat (0, 0, 0, 0)).1
abbrev qBe (H : List aH) (k : Int) : Int := (H.getD k.toNat (0, 0, 0, 0)).2.1
abbrev qNm (H : List aH) (k : Int) : Int := (H.getD k.toNat (0, 0, 0, 0)).2.2.1
abbrev qSz (H : List aH) (k : Int) : Int := (H.getD k.toNat (0, 0, 0, 0)).2.2.2
/-- the names of a shape -/
def aNs (H : List aH) (k : Int) : List Int := hNl (qBe H) (qNm H) (qSz H k).toNat k
theorem gH_l {h : aH} {i : Nat} (hi : i < H.length) : (H ++ [h]).getD i (0, 0, 0, 0) = H.getD i (0, 0, 0, 0) := by
  rw [List.getD_eq_getElem?_getD, List.getElem?_append_left hi, ← List.getD_eq_getElem?_getD]
theorem gH_r {h : aH} : (H ++ [h]).getD H.length (0, 0, 0, 0) = h := by
  rw [List.getD_eq_getElem?_getD, List.getElem?_append_right (Nat.le_refl _), Nat.sub_self]; rfl
theorem aNs_len : (aNs H k).length = (qSz H k).toNat := hNl_l _ _
theorem aNs_0 (h : qSz H k = 0) : aNs H k = [] := by
  unfold aNs; rw [h]; rfl
theorem aNs_s (hw : wHs H n) (k0 : 0 ≤ k) (k1 : k < (H.length : Int)) (hb : 0 ≤ qBe H k) : qBe H k < k ∧ qSz H k = qSz H (qBe H k) + 1 ∧ qPr H k = qPr H (qBe H k) ∧ 0 ≤ qNm H k ∧ aNs H k = aNs H (qBe H k) ++ [qNm H k] := by
  have hc := wHs_c hw k k0 k1
  obtain ⟨h0, -, h2, -⟩ := id hw
  have kn : k.toNat ≠ 0 := fun e => by
    have : qBe H k = -1 := by show (H.getD k.toNat (0, 0, 0, 0)).2.1 = -1; rw [e, h0]
    omega
  rcases h2 k.toNat (by omega) (by omega) with ⟨a1, -⟩ | ⟨a1, a2, a3, a4, a5⟩
  · exact absurd (show qBe H k = -1 from a1) (by omega)
  · have z : 0 ≤ qSz H (qBe H k) := (wHs_c hw (qBe H k) hb (by show (H.getD k.toNat (0, 0, 0, 0)).2.1 < (H.length : Int); omega)).1.1
    refine ⟨by show (H.getD k.toNat (0, 0, 0, 0)).2.1 < k; omega, a5, a4, a3, ?_⟩
    have e : (qSz H k).toNat = (qSz H (qBe H k)).toNat + 1 := by
      have : qSz H k = qSz H (qBe H k) + 1 := a5
      omega
    unfold aNs
    rw [e]
    rfl
/-- a shape's names are told once -/
def wNd (H : List aH) : Prop := ∀ k : Int, 0 ≤ k → k < (H.length : Int) → 0 ≤ qBe H k → qNm H k ∉ aNs H (qBe H k)
theorem hNd_H (hw : wHs H n) (hd : wNd H) : ∀ (f : Nat) (k : Int), 0 ≤ k → k < (H.length : Int) → f = (qSz H k).toNat → hNd (qBe H) (qNm H) f k
  | 0, _, _, _, _ => trivial
  | f + 1, k, k0, k1, hf => by
    have hc := wHs_c hw k k0 k1
    have z1 : 0 < qSz H k := by omega
    obtain ⟨b0, b1, b2⟩ := hc.2 z1
    replace b0 : 0 ≤ qBe H k := b0
    replace b2 : qSz H (qBe H k) = qSz H k - 1 := b2
    have hf2 : f = (qSz H (qBe H k)).toNat := by omega
    refine ⟨?_, hNd_H hw hd f (qBe H k) b0 (by show (H.getD k.toNat (0, 0, 0, 0)).2.1 < (H.length : Int); have : (H.getD k.toNat (0, 0, 0, 0)).2.1 < k := b1; omega) hf2⟩
    have := hd k k0 k1 b0
    unfold aNs at this
    rw [← hf2] at this
    exact this
theorem hIx_H (hw : wHs H n) (hd : wNd H) (k0 : 0 ≤ k) (k1 : k < (H.length : Int)) : hIx (qBe H) (qNm H) nm (qSz H k).toNat k = lIx nm (aNs H k) 0 := hIx_l _ _ (hNd_H hw hd _ k k0 k1 rfl)
/-- along a chain within the first m shapes two readings are the same -/
theorem hIx_cg {C B2 N2 : Int → Int} {m : Int} (h : hcF B C m) (e : ∀ k : Int, 0 ≤ k → k < m → B2 k = B k ∧ N2 k = N k) : ∀ (f : Nat) (s : Int), (0 < f → 0 ≤ s ∧ s < m ∧ C s = (f : Int)) → hIx B2 N2 nm f s = hIx B N nm f s
  | 0, _, _ => rfl
  | f + 1, s, hs => by
    obtain ⟨s0, s1, s2⟩ := hs (Nat.zero_lt_succ _)
    obtain ⟨e1, e2⟩ := e s s0 s1
    obtain ⟨a1, a2, a3⟩ := (h s s0 s1).2 (by omega)
    show (if N2 s = nm then (f : Int) else hIx B2 N2 nm f (B2 s)) = (if N s = nm then (f : Int) else hIx B N nm f (B s))
    rw [e1, e2, hIx_cg h e f (B s) (fun _ => ⟨a1, by omega, by omega⟩)]
theorem hNl_cg {C B2 N2 : Int → Int} {m : Int} (h : hcF B C m) (e : ∀ k : Int, 0 ≤ k → k < m → B2 k = B k ∧ N2 k = N k) : ∀ (f : Nat) (s : Int), (0 < f → 0 ≤ s ∧ s < m ∧ C s = (f : Int)) → hNl B2 N2 f s = hNl B N f s
  | 0, _, _ => rfl
  | f + 1, s, hs => by
    obtain ⟨s0, s1, s2⟩ := hs (Nat.zero_lt_succ _)
    obtain ⟨e1, e2⟩ := e s s0 s1
    obtain ⟨a1, a2, a3⟩ := (h s s0 s1).2 (by omega)
    show hNl B2 N2 f (B2 s) ++ [N2 s] = hNl B N f (B s) ++ [N s]
    rw [e1, e2, hNl_cg h e f (B s) (fun _ => ⟨a1, by omega, by omega⟩)]
theorem aNs_ap {h : aH} (hw : wHs H n) (k0 : 0 ≤ k) (k1 : k < (H.length : Int)) : aNs (H ++ [h]) k = aNs H k := by
  have hc := wHs_c hw
  have e : ∀ k : Int, 0 ≤ k → k < (H.length : Int) → (H ++ [h]).getD k.toNat (0, 0, 0, 0) = H.getD k.toNat (0, 0, 0, 0) := fun k k0 k1 => gH_l (by omega)
  have hz := (hc k k0 k1).1.1
  replace hz : 0 ≤ qSz H k := hz
  unfold aNs
  rw [show qSz (H ++ [h]) k = qSz H k by show ((H ++ [h]).getD k.toNat (0, 0, 0, 0)).2.2.2 = _; rw [e k k0 k1]]
  exact hNl_cg (C := qSz H) hc (fun k k0 k1 => ⟨by show ((H ++ [h]).getD k.toNat (0, 0, 0, 0)).2.1 = _; rw [e k k0 k1], by show ((H ++ [h]).getD k.toNat (0, 0, 0, 0)).2.2.1 = _; rw [e k k0 k1]⟩) _ k (fun q => ⟨k0, k1, by omega⟩)
/-- the first shape of these three -/
def aFs (be pr nm : Int) : List aH → Int → Int
  | [], _ => -1
  | h :: l, k => if h.1 = pr ∧ h.2.1 = be ∧ h.2.2.1 = nm then k else aFs be pr nm l (k + 1)
theorem aFs_r : ∀ (l : List aH) (k : Int), (aFs be pr nm l k = -1 ∧ ∀ i : Nat, i < l.length → ¬ ((l.getD i (0, 0, 0, 0)).1 = pr ∧ (l.getD i (0, 0, 0, 0)).2.1 = be ∧ (l.getD i (0, 0, 0, 0)).2.2.1 = nm)) ∨ ∃ i : Nat, i < l.length ∧ ((l.getD i (0, 0, 0, 0)).1 = pr ∧ (l.getD i (0, 0, 0, 0)).2.1 = be ∧ (l.getD i (0, 0, 0, 0)).2.2.1 = nm) ∧ aFs be pr nm l k = k + (i : Int)
  | [], k => Or.inl ⟨rfl, fun i hi => absurd hi (Nat.not_lt_zero _)⟩
  | h :: l, k => by
    by_cases c : h.1 = pr ∧ h.2.1 = be ∧ h.2.2.1 = nm
    · exact Or.inr ⟨0, Nat.zero_lt_succ _, c, (if_pos c).trans (by omega)⟩
    · have e : aFs be pr nm (h :: l) k = aFs be pr nm l (k + 1) := if_neg c
      rcases aFs_r l (k + 1) with ⟨a1, a2⟩ | ⟨i, a1, a2, a3⟩
      · refine Or.inl ⟨e.trans a1, fun i hi => ?_⟩
        cases i with
        | zero => exact c
        | succ i => rw [gD_cs]; exact a2 i (Nat.lt_of_succ_lt_succ hi)
      · refine Or.inr ⟨i + 1, Nat.succ_lt_succ a1, ?_, e.trans (a3.trans (by omega))⟩
        rw [gD_cs]; exact a2
theorem aFs_rg : -1 ≤ aFs be pr nm H 0 ∧ aFs be pr nm H 0 < (H.length : Int) := by
  rcases aFs_r (be := be) (pr := pr) (nm := nm) H 0 with ⟨a1, -⟩ | ⟨i, a1, -, a3⟩
  · omega
  · omega
theorem aFs_at (h : 0 ≤ aFs be pr nm H 0) : qPr H (aFs be pr nm H 0) = pr ∧ qBe H (aFs be pr nm H 0) = be ∧ qNm H (aFs be pr nm H 0) = nm := by
  rcases aFs_r (be := be) (pr := pr) (nm := nm) H 0 with ⟨a1, -⟩ | ⟨i, a1, a2, a3⟩
  · omega
  · rw [a3, show (0 : Int) + (i : Int) = (i : Int) by omega]
    exact a2
theorem aFs_no (h : aFs be pr nm H 0 = -1) {k : Int} (k0 : 0 ≤ k) (k1 : k < (H.length : Int)) : ¬ (qPr H k = pr ∧ qBe H k = be ∧ qNm H k = nm) := by
  rcases aFs_r (be := be) (pr := pr) (nm := nm) H 0 with ⟨-, a2⟩ | ⟨i, a1, -, a3⟩
  · exact a2 k.toNat (by omega)
  · omega
theorem aFs_of (hw : wHs H n) (k0 : 0 ≤ k) (k1 : k < (H.length : Int)) (h : qPr H k = pr ∧ qBe H k = be ∧ qNm H k = nm) : aFs be pr nm H 0 = k := by
  rcases aFs_r (be := be) (pr := pr) (nm := nm) H 0 with ⟨-, a2⟩ | ⟨i, a1, a2, a3⟩
  · exact absurd h (a2 k.toNat (by omega))
  · have := hw.2.2.2 k.toNat i (by omega) a1 (h.1.trans a2.1.symm) (h.2.1.trans a2.2.1.symm) (h.2.2.trans a2.2.2.symm)
    omega
/-- a chain of prototypes ends -/
def cEn (Pr : Int → Int) : Nat → Int → Prop
  | 0, u => u = -1
  | f + 1, u => u = -1 ∨ cEn Pr f (Pr u)
def itP (Pr : Int → Int) : Nat → Int → Int
  | 0, u => u
  | i + 1, u => itP Pr i (Pr u)
theorem itP_s : ∀ (i : Nat) (u : Int), itP Pr (i + 1) u = Pr (itP Pr i u)
  | 0, _ => rfl
  | i + 1, u => itP_s i (Pr u)
theorem cEn_it : ∀ (i f : Nat) (u : Int), i ≤ f → itP Pr i u = -1 → cEn Pr f u
  | 0, 0, _, _, h => h
  | 0, _ + 1, _, _, h => Or.inl h
  | i + 1, 0, _, hi, _ => absurd hi (by omega)
  | i + 1, f + 1, u, hi, h => Or.inr (cEn_it i f (Pr u) (by omega) h)
theorem cEn_m : ∀ (f g : Nat) (u : Int), f ≤ g → cEn Pr f u → cEn Pr g u
  | 0, 0, _, _, h => h
  | 0, _ + 1, _, _, h => Or.inl h
  | f + 1, 0, _, hi, _ => absurd hi (by omega)
  | f + 1, g + 1, u, hi, h => h.imp id (fun z => cEn_m f g (Pr u) (by omega) z)
theorem pig : ∀ (n : Nat) (f : Nat → Nat), (∀ i : Nat, i ≤ n → f i < n) → ∃ i j : Nat, i < j ∧ j ≤ n ∧ f i = f j
  | 0, f, h => absurd (h 0 (Nat.le_refl _)) (Nat.not_lt_zero _)
  | n + 1, f, h => by
    by_cases c : ∃ i : Nat, i ≤ n ∧ f i = f (n + 1)
    · obtain ⟨i, h1, h2⟩ := c
      exact ⟨i, n + 1, by omega, Nat.le_refl _, h2⟩
    · have c2 : ∀ i : Nat, i ≤ n → f i ≠ f (n + 1) := fun i hi e => c ⟨i, hi, e⟩
      obtain ⟨i, j, h1, h2, h3⟩ := pig n (fun i => if f i = n then f (n + 1) else f i) (fun i hi => by
        have a1 := h i (by omega)
        have a2 := h (n + 1) (Nat.le_refl _)
        have a3 := c2 i hi
        show (if f i = n then f (n + 1) else f i) < n
        split <;> omega)
      refine ⟨i, j, h1, by omega, ?_⟩
      have a1 := c2 i (by omega)
      have a2 := c2 j h2
      replace h3 : (if f i = n then f (n + 1) else f i) = (if f j = n then f (n + 1) else f j) := h3
      by_cases e1 : f i = n
      · by_cases e2 : f j = n
        · omega
        · rw [if_pos e1, if_neg e2] at h3
          exact absurd h3.symm a2
      · by_cases e2 : f j = n
        · rw [if_neg e1, if_pos e2] at h3
          exact absurd h3 a1
        · rw [if_neg e1, if_neg e2] at h3
          exact h3
theorem cEn_of {pq : Int → Prop} {rk : Int → Nat} (m : Nat) (h : ∀ k : Int, pq k → 0 ≤ k ∧ k < (m : Int)) (hp : ∀ k : Int, pq k → Pr k = -1 ∨ pq (Pr k)) (hr : ∀ k : Int, pq k → Pr k ≠ -1 → rk (Pr k) < rk k) (u : Int) (hu : u = -1 ∨ pq u) : cEn Pr m u := Classical.byContradiction (fun ne => by
  have n1 : ∀ i : Nat, i ≤ m → itP Pr i u ≠ -1 := fun i hi e => ne (cEn_it i m u hi e)
  have n2 : ∀ i : Nat, i ≤ m → pq (itP Pr i u) := by
    intro i
    induction i with
    | zero => intro _; exact hu.elim (fun e => absurd e (n1 0 (Nat.zero_le _))) id
    | succ i ih =>
      intro hi
      have e := n1 (i + 1) hi
      rw [itP_s] at e ⊢
      exact (hp _ (ih (by omega))).elim (fun z => absurd z e) id
  have n3 : ∀ j : Nat, j ≤ m → ∀ i : Nat, i < j → rk (itP Pr j u) < rk (itP Pr i u) := by
    intro j
    induction j with
    | zero => intro _ i hi; exact absurd hi (Nat.not_lt_zero _)
    | succ j ih =>
      intro hj i hi
      have e := n1 (j + 1) hj
      rw [itP_s] at e ⊢
      have s1 := hr _ (n2 j (by omega)) e
      by_cases c : i = j
      · rw [c]; exact s1
      · exact Nat.lt_trans s1 (ih (by omega) i (by omega))
  obtain ⟨i, j, h1, h2, h3⟩ := pig m (fun i => (itP Pr i u).toNat) (fun i hi => by
    have := h _ (n2 i hi)
    show (itP Pr i u).toNat < m
    omega)
  have g1 := h _ (n2 i (by omega))
  have g2 := h _ (n2 j h2)
  have g3 := n3 j h2 i h1
  replace h3 : (itP Pr i u).toNat = (itP Pr j u).toNat := h3
  rw [show itP Pr i u = itP Pr j u by omega] at g3
  exact absurd g3 (Nat.lt_irrefl _))
/-- whether one is met going up -/
def hMe (Pr : Int → Int) (o : Int) : Nat → Int → Int
  | 0, _ => 0
  | f + 1, u => if u = -1 then 0 else if u = o then 1 else hMe Pr o f (Pr u)
theorem hMe_f {o : Int} : ∀ (f g : Nat) (u : Int), f ≤ g → cEn Pr f u → hMe Pr o g u = hMe Pr o f u
  | 0, 0, _, _, _ => rfl
  | 0, _ + 1, _, _, h => if_pos h
  | f + 1, 0, _, hi, _ => absurd hi (by omega)
  | f + 1, g + 1, u, hi, h => by
    show (if u = -1 then 0 else if u = o then 1 else hMe Pr o g (Pr u)) = (if u = -1 then 0 else if u = o then 1 else hMe Pr o f (Pr u))
    by_cases c : u = -1
    · rw [if_pos c, if_pos c]
    · rw [if_neg c, if_neg c, hMe_f f g (Pr u) (by omega) (h.elim (fun z => absurd z c) id)]
theorem hMe_s {o : Int} (ho : Pr o ≠ -1) : ∀ (f : Nat) (u : Int), cEn Pr f u → hMe Pr o f u = 1 → hMe Pr (Pr o) f u = 1
  | 0, _, _, h => absurd h (by show ¬ ((0 : Int) = 1); decide)
  | f + 1, u, hc, h => by
    replace h : (if u = -1 then 0 else if u = o then 1 else hMe Pr o f (Pr u)) = (1 : Int) := h
    show (if u = -1 then 0 else if u = Pr o then 1 else hMe Pr (Pr o) f (Pr u)) = (1 : Int)
    by_cases c : u = -1
    · rw [if_pos c] at h; exact absurd h (by decide)
    · rw [if_neg c] at h ⊢
      have hc2 : cEn Pr f (Pr u) := hc.elim (fun z => absurd z c) id
      by_cases c1 : u = Pr o
      · rw [if_pos c1]
      · rw [if_neg c1]
        by_cases c2 : u = o
        · subst c2
          cases f with
          | zero => exact absurd hc2 ho
          | succ f => exact (if_neg ho).trans (if_pos rfl)
        · rw [if_neg c2] at h
          exact hMe_s ho f (Pr u) hc2 h
theorem hMe_p {p : Int} (hp : p ≠ -1) : ∀ f : Nat, cEn Pr f p → hMe Pr p f p = 1
  | 0, h => absurd h hp
  | _ + 1, _ => (if_neg hp).trans (if_pos rfl)
/-- another prototype that makes no ring: chains still end -/
theorem rk_tu {Pr2 : Int → Int} {pq : Int → Prop} {rk : Int → Nat} {o p : Int} {f : Nat} (hr : ∀ k : Int, pq k → Pr k ≠ -1 → rk (Pr k) < rk k) (h2 : ∀ k : Int, k ≠ o → Pr2 k = Pr k) (ho : Pr2 o = p) (hc : cEn Pr f p) (hm : hMe Pr o f p ≠ 1) : ∃ rk2 : Int → Nat, ∀ k : Int, pq k → Pr2 k ≠ -1 → rk2 (Pr2 k) < rk2 k := by
  refine ⟨fun x => if hMe Pr x f p = 1 then rk x else rk x + rk p + 1, fun k hk hn => ?_⟩
  show (if hMe Pr (Pr2 k) f p = 1 then rk (Pr2 k) else rk (Pr2 k) + rk p + 1) < (if hMe Pr k f p = 1 then rk k else rk k + rk p + 1)
  by_cases c : k = o
  · subst c
    rw [ho] at hn ⊢
    rw [if_pos (hMe_p hn f hc), if_neg hm]
    omega
  · rw [h2 k c] at hn ⊢
    have s1 := hr k hk hn
    by_cases c1 : hMe Pr k f p = 1
    · rw [if_pos c1, if_pos (hMe_s hn f p hc c1)]
      exact s1
    · rw [if_neg c1]
      split <;> omega
/-- with more fuel than the chain is long the search up is the same -/
theorem hUp_f : ∀ (f g : Nat) (u : Int), f ≤ g → cEn Pr f u → hUp Pr ix g u = hUp Pr ix f u
  | 0, 0, _, _, _ => rfl
  | 0, _ + 1, _, _, h => if_pos h
  | f + 1, 0, _, hi, _ => absurd hi (by omega)
  | f + 1, g + 1, u, hi, h => by
    show (if u = -1 then -1 else if ix u ≠ -1 then u else hUp Pr ix g (Pr u)) = (if u = -1 then -1 else if ix u ≠ -1 then u else hUp Pr ix f (Pr u))
    by_cases c : u = -1
    · rw [if_pos c, if_pos c]
    · rw [if_neg c, if_neg c, hUp_f f g (Pr u) (by omega) (h.elim (fun z => absurd z c) id)]
theorem hUp_cg {Pr2 ix2 : Int → Int} {pq : Int → Prop} (hp : ∀ k : Int, pq k → Pr k = -1 ∨ pq (Pr k)) (e : ∀ k : Int, pq k → Pr2 k = Pr k ∧ ix2 k = ix k) : ∀ (f : Nat) (u : Int), (u = -1 ∨ pq u) → hUp Pr2 ix2 f u = hUp Pr ix f u
  | 0, _, _ => rfl
  | f + 1, u, hu => by
    show (if u = -1 then -1 else if ix2 u ≠ -1 then u else hUp Pr2 ix2 f (Pr2 u)) = (if u = -1 then -1 else if ix u ≠ -1 then u else hUp Pr ix f (Pr u))
    by_cases c : u = -1
    · rw [if_pos c, if_pos c]
    · have hq : pq u := hu.elim (fun z => absurd z c) id
      obtain ⟨e1, e2⟩ := e u hq
      rw [if_neg c, if_neg c, e1, e2, hUp_cg hp e f (Pr u) (hp u hq)]
theorem hUp_rg {pq : Int → Prop} (hp : ∀ k : Int, pq k → Pr k = -1 ∨ pq (Pr k)) : ∀ (f : Nat) (u : Int), (u = -1 ∨ pq u) → hUp Pr ix f u = -1 ∨ (pq (hUp Pr ix f u) ∧ ix (hUp Pr ix f u) ≠ -1)
  | 0, _, _ => Or.inl rfl
  | f + 1, u, hu => by
    show (if u = -1 then -1 else if ix u ≠ -1 then u else hUp Pr ix f (Pr u)) = -1 ∨ (pq (if u = -1 then -1 else if ix u ≠ -1 then u else hUp Pr ix f (Pr u)) ∧ ix (if u = -1 then -1 else if ix u ≠ -1 then u else hUp Pr ix f (Pr u)) ≠ -1)
    by_cases c : u = -1
    · exact Or.inl (if_pos c)
    · have hq : pq u := hu.elim (fun z => absurd z c) id
      rw [if_neg c]
      by_cases c2 : ix u ≠ -1
      · rw [if_pos c2]; exact Or.inr ⟨hq, c2⟩
      · rw [if_neg c2]; exact hUp_rg hp f (Pr u) (hp u hq)
theorem hSt_cg {Pr2 ch2 : Int → Int} {ho si : Int} {pq : Int → Prop} (hp : ∀ k : Int, pq k → Pr k = -1 ∨ pq (Pr k)) (e : ∀ k : Int, pq k → Pr2 k = Pr k ∧ ch2 k = ch k) : ∀ (f : Nat) (u : Int), (u = -1 ∨ pq u) → hSt Pr2 ch2 ho si f u = hSt Pr ch ho si f u
  | 0, _, _ => rfl
  | f + 1, u, hu => by
    show (if u = -1 then 0 else if si < ch2 u then 1 else if u = ho then 0 else hSt Pr2 ch2 ho si f (Pr2 u)) = (if u = -1 then 0 else if si < ch u then 1 else if u = ho then 0 else hSt Pr ch ho si f (Pr u))
    by_cases c : u = -1
    · rw [if_pos c, if_pos c]
    · have hq : pq u := hu.elim (fun z => absurd z c) id
      obtain ⟨e1, e2⟩ := e u hq
      rw [if_neg c, if_neg c, e1, e2, hSt_cg hp e f (Pr u) (hp u hq)]
theorem hSt_z {ho si : Int} {pq : Int → Prop} (hp : ∀ k : Int, pq k → Pr k = -1 ∨ pq (Pr k)) (h : ∀ k : Int, pq k → ch k ≤ si) : ∀ (f : Nat) (u : Int), (u = -1 ∨ pq u) → hSt Pr ch ho si f u = 0
  | 0, _, _ => rfl
  | f + 1, u, hu => by
    show (if u = -1 then 0 else if si < ch u then 1 else if u = ho then 0 else hSt Pr ch ho si f (Pr u)) = 0
    by_cases c : u = -1
    · rw [if_pos c]
    · have hq : pq u := hu.elim (fun z => absurd z c) id
      have := h u hq
      rw [if_neg c, if_neg (by omega)]
      split
      · rfl
      · exact hSt_z hp h f (Pr u) (hp u hq)
theorem hMe_cg {Pr2 : Int → Int} {o : Int} {pq : Int → Prop} (hp : ∀ k : Int, pq k → Pr k = -1 ∨ pq (Pr k)) (e : ∀ k : Int, pq k → Pr2 k = Pr k) : ∀ (f : Nat) (u : Int), (u = -1 ∨ pq u) → hMe Pr2 o f u = hMe Pr o f u
  | 0, _, _ => rfl
  | f + 1, u, hu => by
    show (if u = -1 then 0 else if u = o then 1 else hMe Pr2 o f (Pr2 u)) = (if u = -1 then 0 else if u = o then 1 else hMe Pr o f (Pr u))
    by_cases c : u = -1
    · rw [if_pos c, if_pos c]
    · have hq : pq u := hu.elim (fun z => absurd z c) id
      rw [if_neg c, if_neg c, e u hq, hMe_cg hp e f (Pr u) (hp u hq)]
end Wf4
