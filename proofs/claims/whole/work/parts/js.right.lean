/-! PART js: entries say what a lookup would find. -/
section Wjs
variable {T T2 : List aO} {H H2 : List aH} {kd nms nm gb k : Int} {e : aE} {Pr Pr2 ix ix2 ch ch2 : Int → Int} {ho si : Int} {pq : Int → Prop}
theorem hSt_m : ∀ (f g : Nat) (u : Int), f ≤ g → hSt Pr ch ho si g u = 0 → hSt Pr ch ho si f u = 0
  | 0, _, _, _, _ => rfl
  | f + 1, 0, _, h, _ => absurd h (by omega)
  | f + 1, g + 1, u, h, z => by
    have z2 : (if u = -1 then 0 else if si < ch u then 1 else if u = ho then 0 else hSt Pr ch ho si g (Pr u)) = (0 : Int) := z
    show (if u = -1 then 0 else if si < ch u then 1 else if u = ho then 0 else hSt Pr ch ho si f (Pr u)) = (0 : Int)
    by_cases c1 : u = -1
    · rw [if_pos c1]
    · rw [if_neg c1] at z2 ⊢
      by_cases c2 : si < ch u
      · rw [if_pos c2] at z2; exact absurd z2 (by first | decide | omega)
      · rw [if_neg c2] at z2 ⊢
        by_cases c3 : u = ho
        · rw [if_pos c3]
        · rw [if_neg c3] at z2 ⊢
          exact hSt_m f g (Pr u) (by omega) z2
theorem hUp_gg : ∀ (f g : Nat) (u : Int), f ≤ g → hUp Pr ix f u ≠ -1 → hUp Pr ix g u = hUp Pr ix f u
  | 0, _, _, _, h => absurd rfl h
  | f + 1, 0, _, h, _ => absurd h (by omega)
  | f + 1, g + 1, u, h, z => by
    have z2 : (if u = -1 then -1 else if ix u ≠ -1 then u else hUp Pr ix f (Pr u)) ≠ (-1 : Int) := z
    show (if u = -1 then -1 else if ix u ≠ -1 then u else hUp Pr ix g (Pr u)) = (if u = -1 then -1 else if ix u ≠ -1 then u else hUp Pr ix f (Pr u))
    by_cases c1 : u = -1
    · rw [if_pos c1] at z2; exact absurd rfl z2
    · rw [if_neg c1] at z2
      rw [if_neg c1, if_neg c1]
      by_cases c2 : ix u ≠ -1
      · rw [if_pos c2, if_pos c2]
      · rw [if_neg c2] at z2
        rw [if_neg c2, if_neg c2]
        exact hUp_gg f g (Pr u) (by omega) z2
/-- what is not stale behind a change at one thing was not stale ahead of it, and finds the same -/
theorem hUS (hp : ∀ q : Int, pq q → Pr q = -1 ∨ pq (Pr q)) (he : ∀ q : Int, pq q → q ≠ k → Pr2 q = Pr q ∧ ix2 q = ix q ∧ ch2 q = ch q) (hk : pq k → si < ch2 k) : ∀ (f : Nat) (u : Int), (u = -1 ∨ pq u) → cEn Pr f u → hSt Pr2 ch2 ho si f u = 0 → hSt Pr ch ho si f u = 0 ∧ (hUp Pr ix f u = ho → (hUp Pr2 ix2 f u = ho ∧ (ho ≠ -1 → ix2 ho = ix ho)) ∧ (ho = -1 → cEn Pr2 f u))
  | 0, u, _, hc, _ => ⟨rfl, fun h => ⟨⟨h, fun z => absurd h.symm z⟩, fun _ => hc⟩⟩
  | f + 1, u, hu, hc, hz => by
    have z2 : (if u = -1 then 0 else if si < ch2 u then 1 else if u = ho then 0 else hSt Pr2 ch2 ho si f (Pr2 u)) = (0 : Int) := hz
    show (if u = -1 then 0 else if si < ch u then 1 else if u = ho then 0 else hSt Pr ch ho si f (Pr u)) = (0 : Int) ∧ ((if u = -1 then -1 else if ix u ≠ -1 then u else hUp Pr ix f (Pr u)) = ho → ((if u = -1 then -1 else if ix2 u ≠ -1 then u else hUp Pr2 ix2 f (Pr2 u)) = ho ∧ (ho ≠ -1 → ix2 ho = ix ho)) ∧ (ho = -1 → (u = -1 ∨ cEn Pr2 f (Pr2 u))))
    by_cases c1 : u = -1
    · rw [if_pos c1, if_pos c1, if_pos c1]
      exact ⟨rfl, fun h => ⟨⟨h, fun z => absurd h.symm z⟩, fun _ => Or.inl c1⟩⟩
    · rw [if_neg c1] at z2
      rw [if_neg c1, if_neg c1, if_neg c1]
      have hpu : pq u := hu.resolve_left c1
      have hcu : cEn Pr f (Pr u) := hc.resolve_left c1
      by_cases c2 : si < ch2 u
      · rw [if_pos c2] at z2; exact absurd z2 (by first | decide | omega)
      · rw [if_neg c2] at z2
        have nk : u ≠ k := fun z => c2 (z ▸ hk (z ▸ hpu))
        obtain ⟨e1, e2, e3⟩ := he u hpu nk
        rw [e3] at c2
        rw [e1] at z2
        rw [if_neg c2, e1, e2]
        by_cases c3 : u = ho
        · rw [if_pos c3]
          refine ⟨rfl, fun h => ?_⟩
          by_cases c4 : ix u ≠ -1
          · rw [if_pos c4]
            exact ⟨⟨c3, fun _ => by rw [← c3]; exact e2⟩, fun z => absurd (c3.trans z) c1⟩
          · rw [if_neg c4] at h
            rcases hUp_rg (ix := ix) hp f (Pr u) (hp u hpu) with z | ⟨-, z⟩
            · exact absurd (c3.trans (h.symm.trans z)) c1
            · rw [h, ← c3] at z
              exact absurd z c4
        · rw [if_neg c3] at z2 ⊢
          obtain ⟨i1, i2⟩ := hUS hp he hk f (Pr u) (hp u hpu) hcu z2
          refine ⟨i1, fun h => ?_⟩
          by_cases c4 : ix u ≠ -1
          · rw [if_pos c4] at h
            exact absurd h c3
          · rw [if_neg c4] at h ⊢
            obtain ⟨i3, i4⟩ := i2 h
            exact ⟨i3, fun z => Or.inr (i4 z)⟩
/-- going up from a shape's prototype -/
def shH (T : List aO) (H : List aH) (nm g : Int) : Int := hUp (aPr T H) (aIx T nm) T.length (qPr H g)
def ownX (H : List aH) (nm g : Int) : Int := lIx nm (aNs H g) 0
/-- an entry of a read says what a lookup at its shape finds -/
def eRd (T : List aO) (H : List aH) (nm : Int) (e : aE) : Prop := (ownX H nm e.2.1 ≠ -1 ∧ e.2.2.2.1 = -1 ∧ e.2.2.2.2.1 = ownX H nm e.2.1) ∨ (ownX H nm e.2.1 = -1 ∧ e.2.2.2.1 = shH T H nm e.2.1 ∧ e.2.2.2.2.1 = (if shH T H nm e.2.1 = -1 then -1 else aIx T nm (shH T H nm e.2.1)))
/-- what an entry of things says is right -/
def eRt (T : List aO) (H : List aH) (kd nms : Int) (e : aE) : Prop := e.1 = 0 → ((kd = 0 ∨ kd = 2 ∨ kd = 5) → (0 ≤ e.2.1 ∧ e.2.1 < (H.length : Int)) ∧ e.2.2.2.2.2.1 = -1 ∧ (eSt T H kd e = 0 → eRd T H (cNm kd nms e) e)) ∧ ((kd = 1 ∨ kd = 3) → (0 ≤ e.2.1 ∧ e.2.1 < (H.length : Int)) ∧ e.2.2.2.1 = -1 ∧ e.2.2.2.2.1 = ownX H (cNm kd nms e) e.2.1 ∧ ((e.2.2.2.2.1 ≠ -1 ∧ e.2.2.2.2.2.1 = -1) ∨ (e.2.2.2.2.1 = -1 ∧ e.2.2.2.2.2.1 ≠ -1 ∧ e.2.2.2.2.2.1 = aFs e.2.1 (qPr H e.2.1) (cNm kd nms e) H 0))) ∧ ((kd = 4 ∨ kd = 6) → e.2.2.2.1 = -1 ∧ e.2.2.2.2.1 = -1 ∧ e.2.2.2.2.2.1 = -1)
theorem aUp_sh (hw : wSh T H) (hg : isO T gb) : aIx T nm gb = ownX H nm (tO T gb).2.1 ∧ aUp T H nm gb = (if ownX H nm (tO T gb).2.1 ≠ -1 then gb else shH T H nm (tO T gb).2.1) := by
  have e1 : aIx T nm gb = ownX H nm (tO T gb).2.1 := by
    unfold aIx ownX
    rw [(hw.2.2.2.1 gb hg).1]
  refine ⟨e1, ?_⟩
  have g1 : gb ≠ -1 := by have := hg.1.1; omega
  show (if gb = -1 then -1 else if aIx T nm gb ≠ -1 then gb else hUp (aPr T H) (aIx T nm) T.length (aPr T H gb)) = _
  rw [if_neg g1, e1]
  rfl
/-- what holds is right: the class's own question -/
theorem eRd_ir (hw : wSh T H) (hg : isO T gb) (hs : (tO T gb).2.1 = e.2.1) (h : eRd T H nm e) : (aUp T H nm gb = -1 ∧ e.2.2.2.2.1 = -1) ∨ (aUp T H nm gb ≠ -1 ∧ aIx T nm (aUp T H nm gb) = e.2.2.2.2.1 ∧ ((aUp T H nm gb = gb ∧ e.2.2.2.1 = -1) ∨ (aUp T H nm gb ≠ gb ∧ e.2.2.2.1 = aUp T H nm gb))) := by
  obtain ⟨e1, e2⟩ := aUp_sh (nm := nm) hw hg
  rw [hs] at e1 e2
  have g1 : gb ≠ -1 := by have := hg.1.1; omega
  rcases h with ⟨h1, h2, h3⟩ | ⟨h1, h2, h3⟩
  · rw [if_pos h1] at e2
    rw [e2]
    exact Or.inr ⟨g1, e1.trans h3.symm, Or.inl ⟨rfl, h2⟩⟩
  · rw [if_neg (fun z => z h1)] at e2
    by_cases c : shH T H nm e.2.1 = -1
    · rw [if_pos c] at h3
      exact Or.inl ⟨e2.trans c, h3⟩
    · rw [if_neg c] at h3
      refine Or.inr ⟨by rw [e2]; exact c, by rw [e2]; exact h3.symm, Or.inr ⟨fun z => ?_, by rw [e2]; exact h2⟩⟩
      rcases aUp_rg (nm := nm) hw hg with z1 | ⟨-, z1⟩
      · exact c (e2.symm.trans z1)
      · rw [z] at z1
        exact z1 (e1.trans h1)
/-- what is linked is right -/
theorem eRd_gt {c : Int} (hw : wSh T H) (hg : isO T gb) : eRd T H nm (gtE T H kd nm gb c) := by
  obtain ⟨e1, e2⟩ := aUp_sh (nm := nm) hw hg
  have g1 : gb ≠ -1 := by have := hg.1.1; omega
  by_cases c : ownX H nm (tO T gb).2.1 ≠ -1
  · rw [if_pos c] at e2
    refine Or.inl ⟨c, ?_, ?_⟩
    · show (if aUp T H nm gb = gb then -1 else aUp T H nm gb) = -1
      rw [if_pos e2]
    · show (if aUp T H nm gb = -1 then -1 else aIx T nm (aUp T H nm gb)) = ownX H nm (tO T gb).2.1
      rw [e2, if_neg g1, e1]
  · have c0 : ownX H nm (tO T gb).2.1 = -1 := Classical.not_not.mp c
    rw [if_neg c] at e2
    refine Or.inr ⟨c0, ?_, ?_⟩
    · show (if aUp T H nm gb = gb then -1 else aUp T H nm gb) = shH T H nm (tO T gb).2.1
      have ne : aUp T H nm gb ≠ gb := fun z => by
        rcases aUp_rg (nm := nm) hw hg with z1 | ⟨-, z1⟩
        · exact g1 (z.symm.trans z1)
        · rw [z] at z1
          exact z1 (e1.trans c0)
      rw [if_neg ne, e2]
    · show (if aUp T H nm gb = -1 then -1 else aIx T nm (aUp T H nm gb)) = (if shH T H nm (tO T gb).2.1 = -1 then -1 else aIx T nm (shH T H nm (tO T gb).2.1))
      rw [e2]
/-- a thing that is a shape's prototype -/
def isPt (T : List aO) (H : List aH) (q : Int) : Prop := isO T q ∧ ∃ s : Int, (0 ≤ s ∧ s < (H.length : Int)) ∧ qPr H s = q
/-- the world changes at one thing at most, as far as lookups see it -/
def eCh (T : List aO) (H : List aH) (T2 : List aO) (H2 : List aH) (k c : Int) : Prop := (T.length ≤ T2.length ∧ H.length ≤ H2.length) ∧ (∀ g : Int, 0 ≤ g → g < (H.length : Int) → qPr H2 g = qPr H g ∧ aNs H2 g = aNs H g ∧ ∀ nm : Int, aFs g (qPr H g) nm H 0 ≠ -1 → aFs g (qPr H g) nm H2 0 = aFs g (qPr H g) nm H 0) ∧ (∀ q : Int, isPt T H q → q ≠ k → aPr T2 H2 q = aPr T H q ∧ (∀ nm : Int, aIx T2 nm q = aIx T nm q) ∧ aCg T2 q = aCg T q) ∧ (isPt T H k → c ≤ aCg T2 k)
theorem isPt_p (hw : wSh T H) {q : Int} (h : isPt T H q) : aPr T H q = -1 ∨ isPt T H (aPr T H q) := by
  rcases wSh_pr hw h.1 with z | z
  · exact Or.inl z
  · refine Or.inr ⟨z, (tO T q).2.1, ?_, rfl⟩
    obtain ⟨h1, h2⟩ := h.1
    have := (hw.2.2.1 q.toNat (by omega)).2.1 h2
    exact this
theorem eRt_ch {c : Int} (hw : wSh T H) (h : eCh T H T2 H2 k c) (hl : 0 ≤ e.2.2.2.2.2.2.1 ∧ e.2.2.2.2.2.2.1 < c) (hr : eRt T H kd nms e) : eRt T2 H2 kd nms e := by
  obtain ⟨⟨l1, l2⟩, hh, hq, hk⟩ := h
  intro e0
  obtain ⟨r1, r2, r3⟩ := hr e0
  refine ⟨fun c1 => ?_, fun c1 => ?_, r3⟩
  · obtain ⟨g1, g2, g3⟩ := r1 c1
    obtain ⟨h1, h2, -⟩ := hh e.2.1 g1.1 g1.2
    have eo : ownX H2 (cNm kd nms e) e.2.1 = ownX H (cNm kd nms e) e.2.1 := by unfold ownX; rw [h2]
    refine ⟨⟨g1.1, by omega⟩, g2, fun hz => ?_⟩
    by_cases cs : eSn kd e = -1
    · have z0 : eSt T H kd e = 0 := by unfold eSt; rw [if_pos cs]
      rcases g3 z0 with ⟨q1, q2, q3⟩ | ⟨q1, q2, q3⟩
      · exact Or.inl ⟨by rw [eo]; exact q1, q2, by rw [eo]; exact q3⟩
      · exfalso
        have nn : ¬ (0 ≤ e.2.2.2.2.1 ∧ e.2.2.2.1 = -1) := fun z => by
          rw [z.2] at q2
          rw [← q2, if_pos rfl] at q3
          omega
        unfold eSn at cs
        rw [if_pos ⟨e0, c1, nn⟩] at cs
        omega
    · have esn : eSn kd e = e.2.2.2.2.2.2.1 := by
        unfold eSn at cs ⊢
        split
        · rfl
        · rename_i z; rw [if_neg z] at cs; exact absurd rfl cs
      have hz2 : hSt (aPr T2 H2) (aCg T2) e.2.2.2.1 (eSn kd e) T2.length (qPr H2 e.2.1) = 0 := by
        unfold eSt at hz
        rw [if_neg cs] at hz
        exact hz
      have hz3 := hSt_m T.length T2.length _ l1 hz2
      rw [h1] at hz3
      have hu : qPr H e.2.1 = -1 ∨ isPt T H (qPr H e.2.1) := by
        rcases hw.2.2.2.2.2.1 e.2.1 g1.1 g1.2 with z | z
        · exact Or.inl z
        · exact Or.inr ⟨z, e.2.1, g1, rfl⟩
      obtain ⟨u1, u2⟩ := hUS (pq := isPt T H) (Pr := aPr T H) (Pr2 := aPr T2 H2) (ix := aIx T (cNm kd nms e)) (ix2 := aIx T2 (cNm kd nms e)) (ch := aCg T) (ch2 := aCg T2) (k := k) (ho := e.2.2.2.1) (si := eSn kd e) (fun q z => isPt_p hw z) (fun q z z1 => by obtain ⟨y1, y2, y3⟩ := hq q z z1; exact ⟨y1, y2 _, y3⟩) (fun z => by have := hk z; rw [esn]; omega) T.length (qPr H e.2.1) hu (wSh_en hw (hu.imp id (fun z => z.1))) hz3
      have z0 : eSt T H kd e = 0 := by unfold eSt; rw [if_neg cs]; exact u1
      rcases g3 z0 with ⟨q1, q2, q3⟩ | ⟨q1, q2, q3⟩
      · exact Or.inl ⟨by rw [eo]; exact q1, q2, by rw [eo]; exact q3⟩
      · obtain ⟨⟨v1, v2⟩, v3⟩ := u2 q2.symm
        have eh : shH T2 H2 (cNm kd nms e) e.2.1 = e.2.2.2.1 := by
          unfold shH
          rw [h1]
          by_cases cn : e.2.2.2.1 = -1
          · rw [hUp_f T.length T2.length _ l1 (v3 cn)]
            exact v1
          · rw [hUp_gg T.length T2.length _ l1 (by rw [v1]; exact cn)]
            exact v1
        refine Or.inr ⟨by rw [eo]; exact q1, eh.symm, ?_⟩
        rw [eh]
        rw [← q2] at q3
        by_cases cn : e.2.2.2.1 = -1
        · rw [if_pos cn] at q3 ⊢; exact q3
        · rw [if_neg cn] at q3 ⊢
          rw [v2 cn]
          exact q3
  · obtain ⟨g1, g2, g3, g4⟩ := r2 c1
    obtain ⟨h1, h2, h3⟩ := hh e.2.1 g1.1 g1.2
    refine ⟨⟨g1.1, by omega⟩, g2, by rw [g3]; unfold ownX; rw [h2], ?_⟩
    rcases g4 with z | ⟨z1, z2, z3⟩
    · exact Or.inl z
    · refine Or.inr ⟨z1, z2, ?_⟩
      rw [h1, h3 _ (by rw [← z3]; exact z2)]
      exact z3
end Wjs
