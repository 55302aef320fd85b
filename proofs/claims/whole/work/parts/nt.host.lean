/-! PART nt: what is true of a host that was read (pure). -/
section Wnt0
variable {cs : List hCR} {ms : List hMR} {os : Int → List Int} {I : Int → Int} {T : Int → Int} {S : wS} {t0 m0 w a9 b9 : Nat}
theorem adl_p : ∀ (a l : List Int), ∃ t : List Int, a.foldl ad_l l = l ++ t
  | [], l => ⟨[], (List.append_nil l).symm⟩
  | x :: a, l => by
    obtain ⟨t, ht⟩ := adl_p a (ad_l l x)
    rw [List.foldl_cons, ht]
    unfold ad_l
    split
    · exact ⟨t, rfl⟩
    · exact ⟨[x] ++ t, List.append_assoc _ _ _⟩
theorem adl_nd : ∀ (a l : List Int), l.Nodup → (a.foldl ad_l l).Nodup
  | [], l, h => h
  | x :: a, l, h => by
    rw [List.foldl_cons]
    refine adl_nd a _ ?_
    unfold ad_l
    split
    · exact h
    · next c =>
      rw [List.nodup_append]
      refine ⟨h, List.nodup_cons.mpr ⟨List.not_mem_nil, List.nodup_nil⟩, fun x2 h2 y2 h3 e => ?_⟩
      rw [List.mem_singleton] at h3
      rw [e, h3] at h2
      exact c h2
theorem so2_p : ∀ (sl l : List Int), l.Nodup → (so_2 I os l sl).Nodup ∧ ∃ t : List Int, so_2 I os l sl = l ++ t
  | [], l, h => ⟨h, [], (List.append_nil l).symm⟩
  | s :: sl, l, h => by
    rw [so2_c]
    by_cases c : I s = 1
    · rw [if_pos c]
      obtain ⟨a1, t, a2⟩ := so2_p sl ((os s).foldl ad_l l) (adl_nd _ _ h)
      obtain ⟨t2, b⟩ := adl_p (os s) l
      exact ⟨a1, t2 ++ t, by rw [a2, b, List.append_assoc]⟩
    · rw [if_neg c]
      exact so2_p sl l h
theorem os_nd (h : wOs cs os) : ∀ (n : Nat) (k : Int), k.toNat < n → 0 ≤ k → k < (cs.length : Int) → (∃ t : List Int, os k = k :: t) ∧ (os k).Nodup ∧ ∀ x ∈ os k, 0 ≤ x ∧ x ≤ k := by
  intro n
  induction n with
  | zero => intro k hk; omega
  | succ n ih =>
    intro k hk k0 k1
    obtain ⟨-, hs, -, ha, -⟩ := h k k0 k1
    have hc := cnL_lt h (k.toNat + 1) k (by omega) k1
    have hc2 := cnL_c h k0 k1
    obtain ⟨p1, t, p2⟩ := so2_p (I := Ib cs) (os := os) (sup cs k) (cnL cs k) hc.1
    have m2 : ∀ x ∈ so_2 (Ib cs) os (cnL cs k) (sup cs k), 0 ≤ x ∧ x ≤ k := fun x hx => by
      rcases (so2_mem _ _ _).mp hx with z | ⟨s, s1, s2, s3⟩
      · exact hc.2 x z
      · have hs2 := hs s s1
        have := (ih s (by omega) hs2.1 (by omega)).2.2 x s3
        omega
    rw [os_e h k0 k1]
    by_cases c : Ab cs k = -1
    · rw [if_pos c]
      exact ⟨⟨_, by rw [p2, hc2]; rfl⟩, p1, m2⟩
    · rw [if_neg c]
      obtain ⟨t2, q⟩ := adl_p (os (Ab cs k)) (so_2 (Ib cs) os (cnL cs k) (sup cs k))
      refine ⟨⟨_, by rw [q, p2, hc2]; rfl⟩, adl_nd _ _ p1, fun x hx => ?_⟩
      rcases (mg_mem _ _ _).mp hx with z | z
      · exact m2 x z
      · have := (ih (Ab cs k) (by omega) (by omega) (by omega)).2.2 x z
        omega
/-- every member belongs to a class -/
def JV (cs : List hCR) (ms : List hMR) : Prop := ∀ m : Nat, m < ms.length → ∃ (k : Nat) (r : hCR), cs[k]? = some r ∧ r.2.2.2.2.2.2.1 ≤ (m : Int) ∧ (m : Int) < r.2.2.2.2.2.2.1 + r.2.2.2.2.2.2.2
theorem slM_q {r : hCR} {m : Int} (h : 0 ≤ r.2.2.2.2.2.2.1 ∧ 0 ≤ r.2.2.2.2.2.2.2 ∧ r.2.2.2.2.2.2.1 + r.2.2.2.2.2.2.2 ≤ (ms.length : Int)) (hm : r.2.2.2.2.2.2.1 ≤ m ∧ m < r.2.2.2.2.2.2.1 + r.2.2.2.2.2.2.2) : (slM ms r)[(m - r.2.2.2.2.2.2.1).toNat]? = some (hmR ms m) := by
  unfold slM
  rw [List.getElem?_take_of_lt (by omega), List.getElem?_drop, show r.2.2.2.2.2.2.1.toNat + (m - r.2.2.2.2.2.2.1).toNat = m.toNat by omega]
  exact hmR_i (by omega) (by omega)
/-- a member, its class and what is true of it -/
theorem mG_of (h : JX t0 m0 w a9 b9 T cs ms S) (hv : JV cs ms) {m : Int} (hm : 0 ≤ m ∧ m < (ms.length : Int)) : ∃ k : Int, (0 ≤ k ∧ k < (cs.length : Int)) ∧ m ∈ mIx cs k ∧ mG T k (hcR cs k).1 (k + 1) ((slM ms (hcR cs k)).take (m - (hcR cs k).2.2.2.2.2.2.1).toNat) (hmR ms m) := by
  obtain ⟨k, r, h1, h2, h3⟩ := hv m.toNat (by omega)
  have hk := (List.getElem?_eq_some_iff.mp h1).1
  have er : hcR cs (k : Int) = r := by
    unfold hcR
    rw [List.getD_eq_getElem?_getD, Int.toNat_natCast, h1]
    rfl
  obtain ⟨⟨-, b1, -⟩, b2, -⟩ := h k r h1
  refine ⟨(k : Int), ⟨by omega, by omega⟩, ?_, ?_⟩
  · unfold mIx
    rw [er, ivl_m]
    omega
  · rw [er]
    exact b2 _ _ (slM_q b1 (by omega))
theorem mG_in (h : JX t0 m0 w a9 b9 T cs ms S) {k m : Int} (hk : 0 ≤ k ∧ k < (cs.length : Int)) (hm : m ∈ mIx cs k) : (0 ≤ m ∧ m < (ms.length : Int)) ∧ ((hcR cs k).2.2.2.2.2.2.1 ≤ m ∧ m < (hcR cs k).2.2.2.2.2.2.1 + (hcR cs k).2.2.2.2.2.2.2) ∧ mG T k (hcR cs k).1 (k + 1) ((slM ms (hcR cs k)).take (m - (hcR cs k).2.2.2.2.2.2.1).toNat) (hmR ms m) := by
  obtain ⟨⟨-, b1, -⟩, b2, -⟩ := h k.toNat _ (hcR_i hk.1 hk.2)
  unfold mIx at hm
  rw [ivl_m] at hm
  have hm2 : (hcR cs k).2.2.2.2.2.2.1 ≤ m ∧ m < (hcR cs k).2.2.2.2.2.2.1 + (hcR cs k).2.2.2.2.2.2.2 := by omega
  refine ⟨by omega, hm2, ?_⟩
  have z := b2 _ _ (slM_q b1 hm2)
  rw [show ((k.toNat : Nat) : Int) = k by omega] at z
  exact z
theorem wHo_of (h : JX t0 m0 w a9 b9 T cs ms S) (hv : JV cs ms) (ho : wOs cs os) (h6 : cs.length ≤ 60 ∧ ms.length ≤ 400) : wHo cs ms os := by
  refine ⟨h6, fun k k0 k1 => ?_, fun k k0 k1 => ?_, fun m m0 m1 => ?_⟩
  · obtain ⟨⟨b0, b1, b2⟩, -⟩ := h k.toNat _ (hcR_i k0 k1)
    rw [show ((k.toNat : Nat) : Int) = k by omega] at b0
    exact ⟨b0, b1, b2⟩
  · obtain ⟨o1, o2, o3⟩ := os_nd ho (k.toNat + 1) k (by omega) k0 k1
    exact ⟨o1, o2, fun x hx => by have := o3 x hx; omega⟩
  · obtain ⟨k, hk, hm, g⟩ := mG_of h hv ⟨m0, m1⟩
    obtain ⟨g1, g2, g3, g4, g5, g6, g7⟩ := g
    refine ⟨⟨by omega, ?_, ?_, by omega⟩, ?_, g6, fun p hp => by have := g7 p hp; omega, ?_⟩
    · rcases g2 with z | z | z <;> omega
    · rcases g3 with z | z <;> omega
    · rcases g5 with z | z
      · exact Or.inl z
      · exact Or.inr z
    · intro z
      rcases g2 with y | y | y
      · omega
      · omega
      · exact ⟨y.2.2.1, y.2.2.2.1⟩
/-- no two constructors of a class with the same types -/
theorem hND_of (h : JX t0 m0 w a9 b9 T cs ms S) {c : Int} (hc : 0 ≤ c ∧ c < (cs.length : Int)) : ∀ m q : Int, m ∈ mIx cs c → q ∈ mIx cs c → (hmR ms m).2.1 = 2 → (hmR ms q).2.1 = 2 → (hmR ms m).2.2.2.2.1 = (hmR ms q).2.2.2.2.1 → m = q := by
  have key : ∀ m q : Int, m < q → m ∈ mIx cs c → q ∈ mIx cs c → (hmR ms m).2.1 = 2 → (hmR ms q).2.1 = 2 → (hmR ms m).2.2.2.2.1 = (hmR ms q).2.2.2.2.1 → False := fun m q hl hm hq m2 q2 e => by
    obtain ⟨a1, a2, a3⟩ := mG_in h hc hm
    obtain ⟨b1, b2, b3⟩ := mG_in h hc hq
    obtain ⟨⟨-, d1, -⟩, -⟩ := h c.toNat _ (hcR_i hc.1 hc.2)
    have fm : (hmR ms m).2.2.2.2.2.2.1 = (hmR ms m).2.2.2.2.2.2.2 := by
      rcases a3.2.1 with y | y | y
      · omega
      · omega
      · exact y.2.2.2.1
    have dq : (hmR ms q).2.2.2.2.2.2.1 = (hmR ms q).2.2.2.2.2.2.2 ∧ dp_L T 2 (hmR ms q).2.2.2.2.2.2.1 (hmR ms q).2.2.2.2.2.2.2 (hmR ms q).2.2.2.2.1 ((slM ms (hcR cs c)).take (q - (hcR cs c).2.2.2.2.2.2.1).toNat) = false := by
      rcases b3.2.1 with y | y | y
      · omega
      · omega
      · exact ⟨y.2.2.2.1, y.2.2.2.2.2⟩
    have mem : hmR ms m ∈ (slM ms (hcR cs c)).take (q - (hcR cs c).2.2.2.2.2.2.1).toNat := by
      refine List.mem_of_getElem? (i := (m - (hcR cs c).2.2.2.2.2.2.1).toNat) ?_
      rw [List.getElem?_take_of_lt (by omega)]
      exact slM_q d1 a2
    have nf : dp_L T 2 (hmR ms q).2.2.2.2.2.2.1 (hmR ms q).2.2.2.2.2.2.2 (hmR ms q).2.2.2.2.1 ((slM ms (hcR cs c)).take (q - (hcR cs c).2.2.2.2.2.2.1).toNat) = true := by
      unfold dp_L
      rw [List.any_eq_true]
      refine ⟨hmR ms m, mem, ?_⟩
      rw [Bool.and_eq_true, Bool.and_eq_true]
      refine ⟨decide_eq_true ⟨m2, by decide⟩, ?_, decide_eq_true e⟩
      unfold tp_q
      refine decide_eq_true ⟨by omega, fun i hi => ?_⟩
      omega
    rw [dq.2] at nf
    cases nf
  intro m q hm hq m2 q2 e
  rcases Int.lt_trichotomy m q with z | z | z
  · exact (key m q z hm hq m2 q2 e).elim
  · exact z
  · exact (key q m z hq hm q2 m2 e.symm).elim
end Wnt0
section Wnt
variable {A S : wS} {T : Int → Int} {n : Int} {c : Nat}
theorem JV_73 : JE_73 A T n c (fun cs ms _ _ => JV cs ms) := by
  refine ⟨fun Z _ m hm => absurd hm (Nat.not_lt_zero _), fun cs ms os S x h => h, ?_⟩
  intro cs ms os S i itf S3 a al l Zo i2 ms2 Zm Z1 Zf hj h hP hit y1 y2 y3 y4 y5 y6 y7 y8 y9 y10 y11 y12 y13 y14 y15 y16 y17
  obtain ⟨rs, e1, -⟩ := rcn_g_73 (T := T) hj.1.1.1 (by omega) y1
  subst e1
  intro m hm
  by_cases c : m < ms.length
  · obtain ⟨k, r, h1, h2, h3⟩ := h m c
    exact ⟨k, r, by rw [List.getElem?_append_left (List.getElem?_eq_some_iff.mp h1).1]; exact h1, h2, h3⟩
  · refine ⟨cs.length, _, by rw [List.getElem?_append_right (Nat.le_refl _), Nat.sub_self]; rfl, ?_, ?_⟩
    · show (ms.length : Int) ≤ (m : Int)
      omega
    · show (m : Int) < (ms.length : Int) + (((ms ++ rs).length : Int) - (ms.length : Int))
      omega
theorem JE_and_73 {J K : List hCR → List hMR → (Int → List Int) → wS → Prop} (h1 : JE_73 A T n c J) (h2 : JE_73 A T n c K) : JE_73 A T n c (fun cs ms os S => J cs ms os S ∧ K cs ms os S) := by
  refine ⟨fun Z h => ⟨h1.1 Z h, h2.1 Z h⟩, fun cs ms os S x h => ⟨h1.2.1 cs ms os S x h.1, h2.2.1 cs ms os S x h.2⟩, ?_⟩
  intro cs ms os S i itf S3 a al l Zo i2 ms2 Zm Z1 Zf hj h hP hit y1 y2 y3 y4 y5 y6 y7 y8 y9 y10 y11 y12 y13 y14 y15 y16 y17
  exact ⟨h1.2.2 cs ms os S i itf S3 a al l Zo i2 ms2 Zm Z1 Zf hj h.1 hP hit y1 y2 y3 y4 y5 y6 y7 y8 y9 y10 y11 y12 y13 y14 y15 y16 y17, h2.2.2 cs ms os S i itf S3 a al l Zo i2 ms2 Zm Z1 Zf hj h.2 hP hit y1 y2 y3 y4 y5 y6 y7 y8 y9 y10 y11 y12 y13 y14 y15 y16 y17⟩
theorem JV_162 : JE_162 A T n c (fun cs ms _ _ => JV cs ms) := by
  refine ⟨fun Z _ m hm => absurd hm (Nat.not_lt_zero _), fun cs ms os S x h => h, ?_⟩
  intro cs ms os S i itf S3 a al l Zo i2 ms2 Zm Z1 Zf hj h hP hit y1 y2 y3 y4 y5 y6 y7 y8 y9 y10 y11 y12 y13 y14 y15 y16 y17
  obtain ⟨rs, e1, -⟩ := rcn_g_162 (T := T) hj.1.1.1 (by omega) y1
  subst e1
  intro m hm
  by_cases c : m < ms.length
  · obtain ⟨k, r, h1, h2, h3⟩ := h m c
    exact ⟨k, r, by rw [List.getElem?_append_left (List.getElem?_eq_some_iff.mp h1).1]; exact h1, h2, h3⟩
  · refine ⟨cs.length, _, by rw [List.getElem?_append_right (Nat.le_refl _), Nat.sub_self]; rfl, ?_, ?_⟩
    · show (ms.length : Int) ≤ (m : Int)
      omega
    · show (m : Int) < (ms.length : Int) + (((ms ++ rs).length : Int) - (ms.length : Int))
      omega
theorem JE_and_162 {J K : List hCR → List hMR → (Int → List Int) → wS → Prop} (h1 : JE_162 A T n c J) (h2 : JE_162 A T n c K) : JE_162 A T n c (fun cs ms os S => J cs ms os S ∧ K cs ms os S) := by
  refine ⟨fun Z h => ⟨h1.1 Z h, h2.1 Z h⟩, fun cs ms os S x h => ⟨h1.2.1 cs ms os S x h.1, h2.2.1 cs ms os S x h.2⟩, ?_⟩
  intro cs ms os S i itf S3 a al l Zo i2 ms2 Zm Z1 Zf hj h hP hit y1 y2 y3 y4 y5 y6 y7 y8 y9 y10 y11 y12 y13 y14 y15 y16 y17
  exact ⟨h1.2.2 cs ms os S i itf S3 a al l Zo i2 ms2 Zm Z1 Zf hj h.1 hP hit y1 y2 y3 y4 y5 y6 y7 y8 y9 y10 y11 y12 y13 y14 y15 y16 y17, h2.2.2 cs ms os S i itf S3 a al l Zo i2 ms2 Zm Z1 Zf hj h.2 hP hit y1 y2 y3 y4 y5 y6 y7 y8 y9 y10 y11 y12 y13 y14 y15 y16 y17⟩
end Wnt
