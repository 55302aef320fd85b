/-! PART nq: raw facts of each class that a host's text brings. -/
section Wnq0
variable {S Z : wS} {m0 t0 w a9 b9 : Nat} {m hd x nd N K f n0 : Int} {rs : List hMR} {T : Int → Int}
theorem nf_m_cg {SO WD STA SO2 WD2 STA2 : Int → Int} {word st e : Int} (hN : e ≤ N) (h : ∀ m : Int, 0 ≤ m → m < N → SO2 m = SO m ∧ WD2 m = WD m ∧ STA2 m = STA m) : ∀ (f : Nat) (m : Int), 0 ≤ m → nf_m SO2 WD2 STA2 word st e f m = nf_m SO WD STA word st e f m := by
  intro f
  induction f with
  | zero => intro m _; rfl
  | succ f ih =>
    intro m m0
    rw [nf_m_s, nf_m_s]
    by_cases c : m < e
    · obtain ⟨h1, h2, h3⟩ := h m m0 (by omega)
      rw [if_pos c, if_pos c, h1, h2, h3, ih (m + 1) (by omega)]
    · rw [if_neg c, if_neg c]
theorem nf_f_cg {SO WD STA FI MA AB SO2 WD2 STA2 FI2 MA2 AB2 : Int → Int} {word st : Int} (h : ∀ m : Int, 0 ≤ m → m < N → SO2 m = SO m ∧ WD2 m = WD m ∧ STA2 m = STA m) (hc : ∀ q : Int, 0 ≤ q → q < K → FI2 q = FI q ∧ MA2 q = MA q ∧ AB2 q = AB q) (hb : ∀ q : Int, 0 ≤ q → q < K → (-1 ≤ AB q ∧ AB q < q) ∧ 0 ≤ FI q ∧ FI q + MA q ≤ N) : ∀ (f : Nat) (up : Int), -1 ≤ up → up < K → nf_f SO2 WD2 STA2 FI2 MA2 AB2 word st f up = nf_f SO WD STA FI MA AB word st f up := by
  intro f
  induction f with
  | zero => intro up _ _; rfl
  | succ f ih =>
    intro up u0 u1
    rw [nf_f_s, nf_f_s]
    by_cases c : up = -1
    · rw [if_pos c, if_pos c]
    · obtain ⟨c1, c2, c3⟩ := hc up (by omega) u1
      obtain ⟨⟨b1, b2⟩, b3, b4⟩ := hb up (by omega) u1
      rw [if_neg c, if_neg c, c1, c2, c3, nf_m_cg b4 h _ _ b3, ih (AB up) b1 (by omega)]
/-- classes lie above each other, members ahead of N -/
def cbP (t0 : Nat) (K N : Int) (S : wS) : Prop := ∀ q : Int, 0 ≤ q → q < K → (-1 ≤ S (t0 + 1) q ∧ S (t0 + 1) q < q) ∧ 0 ≤ S (t0 + 4) q ∧ 0 ≤ S (t0 + 3) q ∧ S (t0 + 4) q + S (t0 + 3) q ≤ N
/-- rows of classes below K and of members below N are as they were -/
def rwP9 (t0 m0 w : Nat) (K N : Int) (S Z : wS) : Prop := (∀ (j : Nat) (i : Int), t0 ≤ j → j ≤ t0 + 8 → 0 ≤ i → i < K → Z j i = S j i) ∧ (∀ (j : Nat) (i : Int), m0 ≤ j → j ≤ m0 + 16 → 0 ≤ i → i < N → Z j i = S j i) ∧ ∀ j : Nat, w ≤ j → j ≤ w + 3 → Z j = S j
theorem fo_h_pt (e : rwP9 t0 m0 w K N S Z) (hm : 0 ≤ m ∧ m < N) (h : fo_h S m0 w m hd) : fo_h Z m0 w m hd := by
  unfold fo_h at h ⊢
  rw [e.2.1 (m0 + 3) m (by omega) (by omega) hm.1 hm.2, e.2.1 (m0 + 4) m (by omega) (by omega) hm.1 hm.2, e.2.1 (m0 + 5) m (by omega) (by omega) hm.1 hm.2, e.2.1 (m0 + 14) m (by omega) (by omega) hm.1 hm.2, e.2.2 (w + 1) (by omega) (by omega), e.2.2 (w + 2) (by omega) (by omega), e.2.2 (w + 3) (by omega) (by omega)]
  exact h
theorem fo_2_pt (e : rwP9 t0 m0 w K N S Z) (hb : cbP t0 K N S) (hm : 0 ≤ m ∧ m < N) (hk : 0 ≤ S m0 m ∧ S m0 m < K) : fo_2 Z m0 t0 m nd = fo_2 S m0 t0 m nd := by
  have em : ∀ j : Nat, m0 ≤ j → j ≤ m0 + 16 → Z j m = S j m := fun j j0 j1 => e.2.1 j m j0 j1 hm.1 hm.2
  have hb2 : ∀ q : Int, 0 ≤ q → q < K → (-1 ≤ S (t0 + 1) q ∧ S (t0 + 1) q < q) ∧ 0 ≤ S (t0 + 4) q ∧ S (t0 + 4) q + S (t0 + 3) q ≤ N := fun q q0 q1 => ⟨(hb q q0 q1).1, (hb q q0 q1).2.1, (hb q q0 q1).2.2.2⟩
  have nf := nf_f_cg (SO := S (m0 + 1)) (WD := S (m0 + 14)) (STA := S (m0 + 2)) (FI := S (t0 + 4)) (MA := S (t0 + 3)) (AB := S (t0 + 1)) (SO2 := Z (m0 + 1)) (WD2 := Z (m0 + 14)) (STA2 := Z (m0 + 2)) (FI2 := Z (t0 + 4)) (MA2 := Z (t0 + 3)) (AB2 := Z (t0 + 1)) (word := nd) (st := -1) (N := N) (K := K) (fun q q0 q1 => ⟨e.2.1 _ q (by omega) (by omega) q0 q1, e.2.1 _ q (by omega) (by omega) q0 q1, e.2.1 _ q (by omega) (by omega) q0 q1⟩) (fun q q0 q1 => ⟨e.1 _ q (by omega) (by omega) q0 q1, e.1 _ q (by omega) (by omega) q0 q1, e.1 _ q (by omega) (by omega) q0 q1⟩) hb2 ((S m0 m).toNat + 2) (S m0 m) (by omega) hk.2
  have rg := nf_f_rg (S (m0 + 1)) (S (m0 + 14)) (S (m0 + 2)) (S (t0 + 4)) (S (t0 + 3)) (S (t0 + 1)) nd (-1) N K hb2 ((S m0 m).toNat + 2) (S m0 m) (by omega) hk.2
  unfold fo_2
  rw [em m0 (by omega) (by omega), nf, em (m0 + 2) (by omega) (by omega), em (m0 + 3) (by omega) (by omega), em (m0 + 4) (by omega) (by omega), em (m0 + 6) (by omega) (by omega)]
  by_cases c : nd = -1
  · rw [if_pos c, if_pos c]
  · rw [if_neg c, if_neg c]
    rcases rg with z | z
    · rw [if_pos z, if_pos z]
    · rw [e.2.1 (m0 + 2) _ (by omega) (by omega) z.1 z.2, e.2.1 (m0 + 3) _ (by omega) (by omega) z.1 z.2]
theorem fo_r_pt (e : rwP9 t0 m0 w K N S Z) (hb : cbP t0 K N S) (hm : 0 ≤ m ∧ m < N) (hk : 0 ≤ S m0 m ∧ S m0 m < K) (h : fo_r S m0 t0 w m hd x) : fo_r Z m0 t0 w m hd x := by
  unfold fo_r at h ⊢
  rw [e.2.1 (m0 + 14) m (by omega) (by omega) hm.1 hm.2, e.2.2 (w + 1) (by omega) (by omega), e.2.2 (w + 2) (by omega) (by omega), e.2.2 (w + 3) (by omega) (by omega), show Z w 7 = S w 7 from congrFun (e.2.2 w (by omega) (by omega)) 7]
  rcases h with h | ⟨h1, nd, h2, h3⟩
  · exact Or.inl h
  · exact Or.inr ⟨h1, nd, h2, h3.trans (fo_2_pt e hb hm hk).symm⟩
/-- raw facts of the class k, of which f is the first member, rs all of them; n0 static fields lie ahead -/
def jC (t0 m0 w a9 b9 : Nat) (S : wS) (k a f n0 : Int) (rs : List hMR) : Prop := (S (t0 + 7) k = (if a = -1 then 0 else S (t0 + 7) a) + cI rs ∧ S (t0 + 8) k = cla (if a = -1 then -1 else S (t0 + 8) a) f rs) ∧ (∀ (q : Nat) (r : hMR), rs[q]? = some r → lf_at m0 a9 b9 f n0 (if a = -1 then 0 else S (t0 + 7) a) (if a = -1 then -1 else S (t0 + 8) a) rs S q r) ∧ ∀ (q : Nat) (r : hMR), rs[q]? = some r → r.2.1 = 1 → ∃ hd x : Int, fo_h S m0 w (f + (q : Int)) hd ∧ fo_r S m0 t0 w (f + (q : Int)) hd x ∧ S (m0 + 15) (f + (q : Int)) = x
theorem cS_tk : ∀ (l : List hMR) (q : Nat) (r : hMR), l[q]? = some r → r.2.1 = 0 → r.2.2.1 = 1 → cS (l.take q) < cS l := by
  intro l
  induction l with
  | nil => intro q r h; cases h
  | cons g l ih =>
    intro q r h r0 r1
    cases q with
    | zero =>
      cases h
      have := (cS_rg l).1
      show (0 : Int) < (if g.2.1 = 0 ∧ g.2.2.1 = 1 then 1 else 0) + cS l
      rw [if_pos ⟨r0, r1⟩]
      omega
    | succ q =>
      have z := ih q r h r0 r1
      show (if g.2.1 = 0 ∧ g.2.2.1 = 1 then (1 : Int) else 0) + cS (l.take q) < (if g.2.1 = 0 ∧ g.2.2.1 = 1 then 1 else 0) + cS l
      omega
theorem jC_pt {k a : Int} {n9 : Int} (h : jC t0 m0 w a9 b9 S k a f n0 rs) (e : rwP9 t0 m0 w K N S Z) (es : ∀ i : Int, 0 ≤ i → i < n9 → Z a9 i = S a9 i ∧ Z b9 i = S b9 i) (hb : cbP t0 K N S) (hk : 0 ≤ k ∧ k < K) (ha : -1 ≤ a ∧ a < k) (hf : 0 ≤ f ∧ f + (rs.length : Int) ≤ N) (hn : 0 ≤ n0 ∧ n0 + cS rs ≤ n9) (hm : ∀ q : Nat, q < rs.length → S m0 (f + (q : Int)) = k) : jC t0 m0 w a9 b9 Z k a f n0 rs := by
  obtain ⟨⟨h1, h2⟩, h3, h4⟩ := h
  have ea : (if a = -1 then 0 else Z (t0 + 7) a) = (if a = -1 then 0 else S (t0 + 7) a) ∧ (if a = -1 then -1 else Z (t0 + 8) a) = (if a = -1 then -1 else S (t0 + 8) a) := by
    by_cases c : a = -1
    · rw [if_pos c, if_pos c, if_pos c, if_pos c]; exact ⟨rfl, rfl⟩
    · rw [if_neg c, if_neg c, if_neg c, if_neg c]
      exact ⟨e.1 _ a (by omega) (by omega) (by omega) (by omega), e.1 _ a (by omega) (by omega) (by omega) (by omega)⟩
  refine ⟨⟨?_, ?_⟩, fun q r hq => ?_, fun q r hq r1 => ?_⟩
  · rw [e.1 _ k (by omega) (by omega) hk.1 hk.2, ea.1]; exact h1
  · rw [e.1 _ k (by omega) (by omega) hk.1 hk.2, ea.2]; exact h2
  · have ql := (List.getElem?_eq_some_iff.mp hq).1
    rw [ea.1, ea.2]
    obtain ⟨l1, l2⟩ := h3 q r hq
    refine ⟨fun r0 s1 => ?_, fun r0 s1 => ?_⟩
    · obtain ⟨u1, u2, u3⟩ := l1 r0 s1
      have t := cS_tk rs q r hq r0 s1
      have t0 := (cS_rg (rs.take q)).1
      rw [e.2.1 _ _ (by omega) (by omega) (by omega) (by omega), (es _ (by omega) (by omega)).1, (es _ (by omega) (by omega)).2]
      exact ⟨u1, u2, u3⟩
    · obtain ⟨u1, u2⟩ := l2 r0 s1
      rw [e.2.1 (m0 + 15) _ (by omega) (by omega) (by omega) (by omega), e.2.1 (m0 + 16) _ (by omega) (by omega) (by omega) (by omega)]
      exact ⟨u1, u2⟩
  · have ql := (List.getElem?_eq_some_iff.mp hq).1
    obtain ⟨hd, x, u1, u2, u3⟩ := h4 q r hq r1
    have hq2 : 0 ≤ f + (q : Int) ∧ f + (q : Int) < N := ⟨by omega, by omega⟩
    exact ⟨hd, x, fo_h_pt e hq2 u1, fo_r_pt e hb hq2 (by rw [hm q ql]; exact hk) u2, by rw [e.2.1 (m0 + 15) _ (by omega) (by omega) hq2.1 hq2.2]; exact u3⟩
/-- the members of a class -/
def slM (ms : List hMR) (r : hCR) : List hMR := (ms.drop r.2.2.2.2.2.2.1.toNat).take r.2.2.2.2.2.2.2.toNat
/-- all classes -/
def JX (t0 m0 w a9 b9 : Nat) (T : Int → Int) (cs : List hCR) (ms : List hMR) (S : wS) : Prop := ∀ (k : Nat) (r : hCR), cs[k]? = some r → ((-1 ≤ r.2.2.2.1 ∧ r.2.2.2.1 < (k : Int)) ∧ (0 ≤ r.2.2.2.2.2.2.1 ∧ 0 ≤ r.2.2.2.2.2.2.2 ∧ r.2.2.2.2.2.2.1 + r.2.2.2.2.2.2.2 ≤ (ms.length : Int)) ∧ (r.1 = 0 ∨ r.1 = 1)) ∧ (∀ (i : Nat) (g : hMR), (slM ms r)[i]? = some g → mG T (k : Int) r.1 ((k : Int) + 1) ((slM ms r).take i) g) ∧ jC t0 m0 w a9 b9 S (k : Int) r.2.2.2.1 r.2.2.2.2.2.2.1 (cS (ms.take r.2.2.2.2.2.2.1.toNat)) (slM ms r)
end Wnq0
