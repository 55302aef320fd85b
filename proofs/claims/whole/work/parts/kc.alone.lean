/-! PART kc: a step of a task, on both sides: constants, jumps, tries, answers, variables. -/
section Wkc
variable {Sb : wS} {xs : List (Nat × List Int32)} {d : Nat} {S0 S Z : wS} {p w m : Nat} {HT : Int → Int} {cs : List hCR} {ms : List hMR} {os : Int → List Int} {X : List (List Int)} {mo t n B B2 oq : Int} {fa : Int → Int} {WE : aA → Prop} {A A2 : aA} {K2 : aK} {ml : List Nat}
/-- what is known of the instruction that comes next -/
theorem opS {K : aK} (hx : stX S0 fa X) (hk : wTk fa S0 K) (hr : K.2.2.2.1 = 1) : mcS fa S0 (K.2.1.getD (K.2.1.length - 1) (0, 0, 0, (0, 0, []), 0, 0, 0)).1 (opI S0 K) (opA S0 K) (opB S0 K) := by
  obtain ⟨a1, H, D, n, a2, a3, a4, a5⟩ := topT hx hk hr
  exact a5.2.2.2.2.2
theorem vG_c {T : List aO} {a b : Int} (ha : 0 ≤ a ∧ a ≤ 3) : vG T n (if a = 0 then 0 else if a = 3 then 2 else 1, if a = 2 then 1 else if a = 3 then b else 0, []) := by
  rcases (show a = 0 ∨ a = 1 ∨ a = 2 ∨ a = 3 by omega) with rfl | rfl | rfl | rfl
  · exact vG_0
  · exact vG_b (Or.inl rfl)
  · exact vG_b (Or.inr rfl)
  · exact vG_n
theorem cR_n (h : cRel S0 p HT cs ms os X mo A S) : (wd_at S 2 1024 ∧ wd_L S 2 1024 ∧ wv_L S 2) ∧ cL 9 10 (a_N A) S ∧ cL 10 12 X S ∧ r2_I S ∧ 33 ≤ S 2 7 := by
  obtain ⟨⟨⟨⟨a1, a2, a3, a4, a5, a6⟩, b1, b2, b3⟩, -⟩, -⟩ := h.2.2.2.1
  exact ⟨⟨a1, a2, a3⟩, b2, b3, b1, a5.1⟩
theorem xg_v {T : List aO} {b : Int} (hx : stX S0 fa X) (hb : 0 ≤ b ∧ b < (X.length : Int)) : vG T n (3, 0, X.getD b.toNat []) := by
  have z : X.getD b.toNat [] ∈ X := by
    rw [List.getD_eq_getElem?_getD, List.getElem?_eq_getElem (by omega)]
    exact List.getElem_mem _
  have y := hx.2.2.2.2.1 _ z
  exact vG_x ⟨y.1, by have := y.2; omega⟩
/-- a jump with nothing dropped -/
theorem tyt_j {K : aK} (hk : wTk fa S0 K) (hr : K.2.2.2.1 = 1) (ho : 20 ≤ opI S0 K ∧ opI S0 K ≤ 23) (hd : tdj (opI S0 K) = 0) : wTk fa S0 (kNx K (opA S0 K)) := by
  refine tyt_n (lp := K.1) hk hr hk.1.1 (fun H D n a1 a2 a3 a4 a5 => ?_)
  obtain ⟨b1, b2, b3, b4, b5, b6⟩ := a4
  obtain ⟨c1, c2, c3, c4⟩ := b4 (Or.inl ho)
  exact ⟨⟨c1, c2⟩, by omega, c4⟩
/-- a try begins -/
theorem tyt_31 {K : aK} (hk : wTk fa S0 K) (hr : K.2.2.2.1 = 1) (ho : opI S0 K = 31) : wTk fa S0 (kNx (kTy K (opA S0 K)) ((K.2.1.getD (K.2.1.length - 1) (0, 0, 0, (0, 0, []), 0, 0, 0)).2.1 + 1)) ∧ K.2.2.1.length < 10000 := by
  obtain ⟨k1, k2, k3⟩ := hk
  obtain ⟨h1, h2⟩ := k2 hr
  refine ⟨⟨⟨k1.1, ?_⟩, fun _ => ⟨wKt_31 h1 h2 (fun H D n a1 a2 a3 a4 => ?_), ?_⟩, bs_le (K := K) k3 (fLe_n (K := kTy K _))⟩, ?_⟩
  · show (K.2.1.set _ _).length ≤ 200
    rw [List.length_set]
    exact k1.2
  · have z := a1.2.2.2.2.1 (K.2.1.getD (K.2.1.length - 1) (0, 0, 0, (0, 0, []), 0, 0, 0)).2.1.toNat (by omega)
    rw [show (((K.2.1.getD (K.2.1.length - 1) (0, 0, 0, (0, 0, []), 0, 0, 0)).2.1.toNat : Nat) : Int) = (K.2.1.getD (K.2.1.length - 1) (0, 0, 0, (0, 0, []), 0, 0, 0)).2.1 by omega] at z
    have e : S0 301 (S0 297 (K.2.1.getD (K.2.1.length - 1) (0, 0, 0, (0, 0, []), 0, 0, 0)).1 + (K.2.1.getD (K.2.1.length - 1) (0, 0, 0, (0, 0, []), 0, 0, 0)).2.1) = 31 := ho
    rw [e] at z
    obtain ⟨b1, b2, b3, b4, b5, b6⟩ := z
    have b2 := b2 (by first | decide | omega)
    have b4 := b4 (Or.inr rfl)
    have b5 := b5.2 rfl
    rw [show mde 31 (S0 302 (S0 297 (K.2.1.getD (K.2.1.length - 1) (0, 0, 0, (0, 0, []), 0, 0, 0)).1 + (K.2.1.getD (K.2.1.length - 1) (0, 0, 0, (0, 0, []), 0, 0, 0)).2.1)) (mes (S0 304 (S0 302 (S0 297 (K.2.1.getD (K.2.1.length - 1) (0, 0, 0, (0, 0, []), 0, 0, 0)).1 + (K.2.1.getD (K.2.1.length - 1) (0, 0, 0, (0, 0, []), 0, 0, 0)).2.1))) (S0 306 (S0 302 (S0 297 (K.2.1.getD (K.2.1.length - 1) (0, 0, 0, (0, 0, []), 0, 0, 0)).1 + (K.2.1.getD (K.2.1.length - 1) (0, 0, 0, (0, 0, []), 0, 0, 0)).2.1)))) = 0 from rfl] at b2
    rw [show tdd 31 = 1 from rfl] at b3
    rw [show tdj 31 = 1 from rfl] at b4
    rw [show ((K.2.1.getD (K.2.1.length - 1) (0, 0, 0, (0, 0, []), 0, 0, 0)).2.1 + 1).toNat = (K.2.1.getD (K.2.1.length - 1) (0, 0, 0, (0, 0, []), 0, 0, 0)).2.1.toNat + 1 by omega]
    have q : (K.2.1.getD (K.2.1.length - 1) (0, 0, 0, (0, 0, []), 0, 0, 0)).2.1 + 1 < (n : Int) := by
      by_cases c : (K.2.1.getD (K.2.1.length - 1) (0, 0, 0, (0, 0, []), 0, 0, 0)).2.1 + 1 < (n : Int)
      · exact c
      · have y := a1.2.2.2.2.2
        rw [show ((n - 1 : Nat) : Int) = (K.2.1.getD (K.2.1.length - 1) (0, 0, 0, (0, 0, []), 0, 0, 0)).2.1 by omega, e] at y
        exact absurd y (by first | decide | omega)
    exact ⟨⟨by omega, q⟩, by omega, b5, b3, ⟨b4.1, b4.2.1⟩, (b4.2.2.1).trans (by omega), b4.2.2.2⟩
  · show 0 < (K.2.1.set _ _).length
    rw [List.length_set]
    exact h2
  · have l := wKt_ln h1 h2
    obtain ⟨-, H, D, n, a1, a2, a3, a4, -⟩ := h1.1 (K.2.1.length - 1) (by omega)
    have z := a1.2.2.2.2.1 (K.2.1.getD (K.2.1.length - 1) (0, 0, 0, (0, 0, []), 0, 0, 0)).2.1.toNat (by omega)
    rw [show (((K.2.1.getD (K.2.1.length - 1) (0, 0, 0, (0, 0, []), 0, 0, 0)).2.1.toNat : Nat) : Int) = (K.2.1.getD (K.2.1.length - 1) (0, 0, 0, (0, 0, []), 0, 0, 0)).2.1 by omega] at z
    have e : S0 301 (S0 297 (K.2.1.getD (K.2.1.length - 1) (0, 0, 0, (0, 0, []), 0, 0, 0)).1 + (K.2.1.getD (K.2.1.length - 1) (0, 0, 0, (0, 0, []), 0, 0, 0)).2.1) = 31 := ho
    rw [e] at z
    have b3 := z.2.2.1
    rw [show tdd 31 = 1 from rfl] at b3
    have b4 := a1.2.2.2.1 ((K.2.1.getD (K.2.1.length - 1) (0, 0, 0, (0, 0, []), 0, 0, 0)).2.1.toNat + 1) (by omega)
    have := k1.2
    omega
/-- a try ends -/
theorem tyt_32 {K : aK} (hk : wTk fa S0 K) (hr : K.2.2.2.1 = 1) (ho : opI S0 K = 32) : 0 < K.2.2.1.length ∧ wTk fa S0 (kNx (K.1, K.2.1, K.2.2.1.take (K.2.2.1.length - 1), K.2.2.2) ((K.2.1.getD (K.2.1.length - 1) (0, 0, 0, (0, 0, []), 0, 0, 0)).2.1 + 1)) := by
  obtain ⟨k1, k2, k3⟩ := hk
  obtain ⟨h1, h2⟩ := k2 hr
  have y := wKt_32 (q := (K.2.1.getD (K.2.1.length - 1) (0, 0, 0, (0, 0, []), 0, 0, 0)).2.1 + 1) h1 h2 (fun H D n a1 a2 a3 a4 => by
    have z := a1.2.2.2.2.1 (K.2.1.getD (K.2.1.length - 1) (0, 0, 0, (0, 0, []), 0, 0, 0)).2.1.toNat (by omega)
    rw [show (((K.2.1.getD (K.2.1.length - 1) (0, 0, 0, (0, 0, []), 0, 0, 0)).2.1.toNat : Nat) : Int) = (K.2.1.getD (K.2.1.length - 1) (0, 0, 0, (0, 0, []), 0, 0, 0)).2.1 by omega] at z
    have e : S0 301 (S0 297 (K.2.1.getD (K.2.1.length - 1) (0, 0, 0, (0, 0, []), 0, 0, 0)).1 + (K.2.1.getD (K.2.1.length - 1) (0, 0, 0, (0, 0, []), 0, 0, 0)).2.1) = 32 := ho
    rw [e] at z
    obtain ⟨b1, b2, b3, b4, b5, b6⟩ := z
    have b2 := b2 (by first | decide | omega)
    rw [show mde 32 (S0 302 (S0 297 (K.2.1.getD (K.2.1.length - 1) (0, 0, 0, (0, 0, []), 0, 0, 0)).1 + (K.2.1.getD (K.2.1.length - 1) (0, 0, 0, (0, 0, []), 0, 0, 0)).2.1)) (mes (S0 304 (S0 302 (S0 297 (K.2.1.getD (K.2.1.length - 1) (0, 0, 0, (0, 0, []), 0, 0, 0)).1 + (K.2.1.getD (K.2.1.length - 1) (0, 0, 0, (0, 0, []), 0, 0, 0)).2.1))) (S0 306 (S0 302 (S0 297 (K.2.1.getD (K.2.1.length - 1) (0, 0, 0, (0, 0, []), 0, 0, 0)).1 + (K.2.1.getD (K.2.1.length - 1) (0, 0, 0, (0, 0, []), 0, 0, 0)).2.1)))) = 0 from rfl] at b2
    rw [show tdd 32 = -1 from rfl] at b3
    rw [show ((K.2.1.getD (K.2.1.length - 1) (0, 0, 0, (0, 0, []), 0, 0, 0)).2.1 + 1).toNat = (K.2.1.getD (K.2.1.length - 1) (0, 0, 0, (0, 0, []), 0, 0, 0)).2.1.toNat + 1 by omega]
    have b7 := a1.2.2.2.1 ((K.2.1.getD (K.2.1.length - 1) (0, 0, 0, (0, 0, []), 0, 0, 0)).2.1.toNat + 1) (by omega)
    have q : (K.2.1.getD (K.2.1.length - 1) (0, 0, 0, (0, 0, []), 0, 0, 0)).2.1 + 1 < (n : Int) := by
      by_cases c : (K.2.1.getD (K.2.1.length - 1) (0, 0, 0, (0, 0, []), 0, 0, 0)).2.1 + 1 < (n : Int)
      · exact c
      · have y := a1.2.2.2.2.2
        rw [show ((n - 1 : Nat) : Int) = (K.2.1.getD (K.2.1.length - 1) (0, 0, 0, (0, 0, []), 0, 0, 0)).2.1 by omega, e] at y
        exact absurd y (by first | decide | omega)
    exact ⟨⟨by omega, q⟩, by omega, by omega, by omega⟩)
  refine ⟨y.1, ⟨k1.1, ?_⟩, fun _ => ⟨y.2, ?_⟩, bs_le (K := K) k3 (fLe_n (K := (_, K.2.1, _)))⟩
  · show (K.2.1.set _ _).length ≤ 200
    rw [List.length_set]
    exact k1.2
  · show 0 < (K.2.1.set _ _).length
    rw [List.length_set]
    exact h2
/-- a call answers -/
theorem tyt_29 {K : aK} {u : aV} (hx : stX S0 fa X) (hk : wTk fa S0 K) (hr : K.2.2.2.1 = 1) (ho : opI S0 K = 29) : wTk fa S0 (kRe K u) ∧ wRe K := by
  obtain ⟨a1, H, D, n, a2, a3, a4, a5⟩ := topT hx hk hr
  obtain ⟨k1, k2, k3⟩ := hk
  obtain ⟨h1, h2⟩ := k2 hr
  have b := a5.2.2.2.2.1.1 ho
  refine ⟨⟨?_, fun hs => ?_, bs_le k3 fLe_re⟩, wKt_re h1 h2 (by omega)⟩
  · unfold kRe
    by_cases c : K.2.1.length = 1
    · rw [if_pos c]
      exact ⟨Nat.zero_le _, Nat.zero_le _⟩
    · rw [if_neg c]
      refine ⟨?_, ?_⟩
      · show (K.1.take _ ++ [u]).length ≤ 2001
        rw [List.length_append, List.length_take]
        simp only [List.length_cons, List.length_nil]
        have := k1.1
        omega
      · show (K.2.1.take _).length ≤ 200
        rw [List.length_take]
        have := k1.2
        omega
  · unfold kRe at hs ⊢
    by_cases c : K.2.1.length = 1
    · rw [if_pos c] at hs
      replace hs : (2 : Int) = 1 := hs
      omega
    · rw [if_neg c]
      refine ⟨wKt_r h1 (by omega) ?_, ?_⟩
      · rw [List.length_append, List.length_take]
        simp only [List.length_cons, List.length_nil]
        omega
      · show 0 < (K.2.1.take _).length
        rw [List.length_take]
        omega
theorem kv_re {T : List aO} {K : aK} {u : aV} (h : wKv T n K) (hr : K.2.2.2.1 = 1) (hu : vG T n u) : wKv T n (kRe K u) := by
  refine kv_le h fLe_re (fun v hv => ?_) (fun hs => ?_)
  · unfold kRe at hv
    by_cases c : K.2.1.length = 1
    · rw [if_pos c] at hv
      exact absurd hv (List.not_mem_nil)
    · rw [if_neg c] at hv
      rcases List.mem_append.mp hv with z | z
      · exact h.1 v (List.mem_of_mem_take z)
      · rw [List.mem_singleton.mp z]
        exact hu
  · unfold kRe at hs ⊢
    by_cases c : K.2.1.length = 1
    · rw [if_pos c]
      exact hu
    · rw [if_neg c] at hs
      replace hs : K.2.2.2.1 = 2 ∨ K.2.2.2.1 = 3 := hs
      omega
/-- calls around a call -/
theorem ch_cO {T : List aO} {L : List aC} {cf : Int → Int} (hC : wCl S0 fa T L cf) : ∀ (j : Nat) (c g : Int), (0 ≤ c ∧ c < (L.length : Int)) → cf c = g → (∀ i : Nat, i ≤ j → 0 ≤ fup fa i g) → (0 ≤ cO (aAr L) j c ∧ cO (aAr L) j c < (L.length : Int)) ∧ cf (cO (aAr L) j c) = fup fa j g
  | 0, c, g, h1, h2, _ => ⟨h1, h2⟩
  | j + 1, c, g, h1, h2, h3 => by
    have z := (hC.1 c.toNat (by omega)).2.2
    rw [show ((c.toNat : Nat) : Int) = c by omega, h2] at z
    have y : 0 ≤ fa g := h3 1 (by omega)
    rcases z with z | z
    · omega
    · have x := ch_cO hC j (aAr L c) (fa g) ⟨z.1.1, by have := z.1.2; show (L.getD c.toNat (0, [])).1 < _; omega⟩ z.2 (fun i hi => by rw [fup_s]; exact h3 (i + 1) (by omega))
      rw [fup_s] at x
      exact x
theorem fup_le (hx : stX S0 fa X) {g : Int} : ∀ j : Nat, (∀ i : Nat, i ≤ j → 0 ≤ fup fa i g ∧ fup fa i g < S0 237 34) → fup fa j g ≤ g - (j : Int)
  | 0, _ => by show g ≤ g - 0; omega
  | j + 1, h => by
    have z := fup_le hx j (fun i hi => h i (by omega))
    have y := h (j + 1) (Nat.le_refl _)
    have y2 : fup fa (j + 1) g = fa (fup fa j g) := rfl
    have x := (hx.2.1 (fup fa j g) (h j (by omega)).1 (h j (by omega)).2).2.1
    rw [y2] at y ⊢
    omega
/-- the variable that instructions 1 and 2 speak of -/
theorem op_v {K : aK} {T : List aO} {L : List aC} {cf : Int → Int} (hx : stX S0 fa X) (hk : wTk fa S0 K) (hr : K.2.2.2.1 = 1) (ho : opI S0 K = 1 ∨ opI S0 K = 2) (hC : wCl S0 fa T L cf) (hc : wKc T L cf K) : (0 ≤ opA S0 K ∧ opA S0 K ≤ 100000) ∧ (0 ≤ opB S0 K ∧ opB S0 K ≤ 100000) ∧ (∀ j : Nat, j ≤ (opA S0 K).toNat → 0 ≤ cO (aAr L) j (K.2.1.getD (K.2.1.length - 1) (0, 0, 0, (0, 0, []), 0, 0, 0)).2.2.1 ∧ cO (aAr L) j (K.2.1.getD (K.2.1.length - 1) (0, 0, 0, (0, 0, []), 0, 0, 0)).2.2.1 < (L.length : Int)) ∧ (opB S0 K).toNat < (L.getD (cO (aAr L) (opA S0 K).toNat (K.2.1.getD (K.2.1.length - 1) (0, 0, 0, (0, 0, []), 0, 0, 0)).2.2.1).toNat (0, [])).2.length := by
  have z := (opS hx hk hr).2.2.1 ho
  have y := hc (K.2.1.getD (K.2.1.length - 1) (0, 0, 0, (0, 0, []), 0, 0, 0)) (fr_m (hk.2.1 hr).2)
  have ch := fun (j : Nat) (hj : j ≤ (opA S0 K).toNat) => ch_cO hC j (K.2.1.getD (K.2.1.length - 1) (0, 0, 0, (0, 0, []), 0, 0, 0)).2.2.1 (K.2.1.getD (K.2.1.length - 1) (0, 0, 0, (0, 0, []), 0, 0, 0)).1 y.1 y.2.1 (fun i hi => (z.2.1 i (by omega)).1)
  have u := fup_le hx (opA S0 K).toNat z.2.1
  have u2 := z.2.1 (opA S0 K).toNat (Nat.le_refl _)
  have u3 := (topC hx hk hr).1
  have v := ch (opA S0 K).toNat (Nat.le_refl _)
  have s := hx.2.1 _ u2.1 u2.2
  have q := (hC.1 (cO (aAr L) (opA S0 K).toNat (K.2.1.getD (K.2.1.length - 1) (0, 0, 0, (0, 0, []), 0, 0, 0)).2.2.1).toNat (by omega)).2.1
  rw [show (((cO (aAr L) (opA S0 K).toNat (K.2.1.getD (K.2.1.length - 1) (0, 0, 0, (0, 0, []), 0, 0, 0)).2.2.1).toNat : Nat) : Int) = cO (aAr L) (opA S0 K).toNat (K.2.1.getD (K.2.1.length - 1) (0, 0, 0, (0, 0, []), 0, 0, 0)).2.2.1 by omega, v.2] at q
  obtain ⟨z1, z2, z3, z4⟩ := z
  exact ⟨⟨z1, by omega⟩, ⟨z3, by have := s.2.2.2; omega⟩, fun j hj => (ch j hj).1, by omega⟩
theorem wC_of (hA : wfA S0 fa ms n WE B A) (hw : isWt w t) : ∃ cf : Int → Int, wCl S0 fa (a_T A) (a_L A) cf ∧ wKc (a_T A) (a_L A) cf (a_K A t) := by
  obtain ⟨cf, c1, c2, c3⟩ := hA.2.2.2.1
  rcases hw with ⟨-, rfl⟩ | ⟨-, rfl⟩
  · exact ⟨cf, c1, c2⟩
  · exact ⟨cf, c1, c3⟩
theorem ca_v {T : List aO} {L : List aC} (h : ∀ c ∈ L, ∀ v ∈ c.2, vG T n v) {k i : Nat} (hk : k < L.length) (hi : i < (L.getD k (0, [])).2.length) : vG T n ((L.getD k (0, [])).2.getD i (0, 0, [])) := by
  refine h (L.getD k (0, [])) ?_ _ ?_
  · rw [List.getD_eq_getElem?_getD, List.getElem?_eq_getElem hk]
    exact List.getElem_mem _
  · rw [List.getD_eq_getElem?_getD (l := (L.getD k (0, [])).2), List.getElem?_eq_getElem hi]
    exact List.getElem_mem _

theorem so_0 (h : hyS S0 p X fa ms n WE B B2 w t A) (ho : opI S0 (a_K A t) = 0) (ha : (opA S0 (a_K A t)) ≤ 3) (hl : (a_K A t).1.length < 2000) : stO xs d S0 p HT cs ms os X mo fa n WE B2 w t A := by
  obtain ⟨hp, hw, hx, hA, hE, hB, hr⟩ := h
  have hk := wT_of hA hw
  have hv := wV_of hA hw
  have hab := hab_x hx hk hr
  have hc := fun (S : wS) (hS : cRel S0 p HT cs ms os X mo A S) => hco_c hx hk hr hw ho hS
  have hq := fun {Sb : wS} (S : wS) (hS : rRun S0 Sb HT cs ms os X mo t A S) => hqo_r hx hk hr hw ho hS
  have hh := tyt_h hx hk hr
  rw [ho] at hh
  have hz := opS hx hk hr
  rw [ho] at hz
  have ha4 : 0 ≤ (opA S0 (a_K A t)) ∧ (opA S0 (a_K A t)) ≤ 3 := ⟨(hz.2.1 rfl).1, ha⟩
  rcases hw with ⟨rfl, rfl⟩ | ⟨rfl, rfl⟩
  · exact stO_K (ml := [217, 218]) hp (Or.inl ⟨rfl, rfl⟩) (by first | decide | omega) hA hE hB (fun S hS => z0_215 (hc S hS).1 (hc S hS).2 hab ha4 hl) (fun S hS => rn0 (hq S hS).1 (hq S hS).2.2 (hq S hS).2.1 hab ha4 hl) (tyt_P (m := 0) hx hk hr (by rw [ho]; decide) (by rw [ho]; rfl) (by omega) (fun _ => hl)) (fun v => kv_P v (vG_c ha4)) (fLe_P)
  · exact stO_K (ml := [228, 229]) hp (Or.inr ⟨rfl, rfl⟩) (by first | decide | omega) hA hE hB (fun S hS => z0_226 (hc S hS).1 (hc S hS).2 hab ha4 hl) (fun S hS => rn0 (hq S hS).1 (hq S hS).2.2 (hq S hS).2.1 hab ha4 hl) (tyt_P (m := 0) hx hk hr (by rw [ho]; decide) (by rw [ho]; rfl) (by omega) (fun _ => hl)) (fun v => kv_P v (vG_c ha4)) (fLe_P)

theorem so_0t (h : hyS S0 p X fa ms n WE B B2 w t A) (ho : opI S0 (a_K A t) = 0) (ha : (opA S0 (a_K A t)) = 4) (hl : (a_K A t).1.length < 2000) : stO xs d S0 p HT cs ms os X mo fa n WE B2 w t A := by
  obtain ⟨hp, hw, hx, hA, hE, hB, hr⟩ := h
  have hk := wT_of hA hw
  have hv := wV_of hA hw
  have hab := hab_x hx hk hr
  have hc := fun (S : wS) (hS : cRel S0 p HT cs ms os X mo A S) => hco_c hx hk hr hw ho hS
  have hq := fun {Sb : wS} (S : wS) (hS : rRun S0 Sb HT cs ms os X mo t A S) => hqo_r hx hk hr hw ho hS
  have hh := tyt_h hx hk hr
  rw [ho] at hh
  have hz := opS hx hk hr
  rw [ho] at hz
  have hb : 0 ≤ (opB S0 (a_K A t)) ∧ (opB S0 (a_K A t)) < (X.length : Int) := by have := (hz.2.1 rfl).2.2 ha; have := hx.2.2.2.2.2.1; omega
  rcases hw with ⟨rfl, rfl⟩ | ⟨rfl, rfl⟩
  · exact stO_K (ml := [217, 218]) hp (Or.inl ⟨rfl, rfl⟩) (by first | decide | omega) hA hE hB (fun S hS => z0t_215 (hc S hS).1 (hc S hS).2 hab ha (cR_n hS).2.2.1 (cR_n hS).1.1 (cR_n hS).1.2.1 (cR_n hS).1.2.2 hb hl) (fun S hS => rn0t (hq S hS).1 (hq S hS).2.2 (hq S hS).2.1 hab ha hS.1.2.2.2.1.2.1 hb hl) (tyt_P (m := 0) hx hk hr (by rw [ho]; decide) (by rw [ho]; rfl) (by omega) (fun _ => hl)) (fun v => kv_P v (xg_v hx hb)) (fLe_P)
  · exact stO_K (ml := [228, 229]) hp (Or.inr ⟨rfl, rfl⟩) (by first | decide | omega) hA hE hB (fun S hS => z0t_226 (hc S hS).1 (hc S hS).2 hab ha (cR_n hS).2.2.1 (cR_n hS).1.1 (cR_n hS).1.2.1 (cR_n hS).1.2.2 hb hl) (fun S hS => rn0t (hq S hS).1 (hq S hS).2.2 (hq S hS).2.1 hab ha hS.1.2.2.2.1.2.1 hb hl) (tyt_P (m := 0) hx hk hr (by rw [ho]; decide) (by rw [ho]; rfl) (by omega) (fun _ => hl)) (fun v => kv_P v (xg_v hx hb)) (fLe_P)

theorem so_0v (h : hyS S0 p X fa ms n WE B B2 w t A) (ho : opI S0 (a_K A t) = 0) (hl : 2000 ≤ (a_K A t).1.length) : stO xs d S0 p HT cs ms os X mo fa n WE B2 w t A := by
  obtain ⟨hp, hw, hx, hA, hE, hB, hr⟩ := h
  have hk := wT_of hA hw
  have hv := wV_of hA hw
  have hab := hab_x hx hk hr
  have hc := fun (S : wS) (hS : cRel S0 p HT cs ms os X mo A S) => hco_c hx hk hr hw ho hS
  have hq := fun {Sb : wS} (S : wS) (hS : rRun S0 Sb HT cs ms os X mo t A S) => hqo_r hx hk hr hw ho hS
  have hh := tyt_h hx hk hr
  rw [ho] at hh
  have hz := opS hx hk hr
  rw [ho] at hz
  have ha4 : 0 ≤ (opA S0 (a_K A t)) ∧ (opA S0 (a_K A t)) ≤ 4 := ⟨(hz.2.1 rfl).1, (hz.2.1 rfl).2.1⟩
  rcases hw with ⟨rfl, rfl⟩ | ⟨rfl, rfl⟩
  · exact stO_K (ml := [217, 218]) hp (Or.inl ⟨rfl, rfl⟩) (by first | decide | omega) hA hE hB (fun S hS => zov_215 (hc S hS).1 (hc S hS).2 (Or.inl rfl) hl) (fun S hS => rn0w (hq S hS).1 (hq S hS).2.2 (hq S hS).2.1 hab ha4 hl) (tyt_T hk hr) (fun v => kv_T v hr vG_n) (fLe_th)
  · exact stO_K (ml := [228, 229]) hp (Or.inr ⟨rfl, rfl⟩) (by first | decide | omega) hA hE hB (fun S hS => zov_226 (hc S hS).1 (hc S hS).2 (Or.inl rfl) hl) (fun S hS => rn0w (hq S hS).1 (hq S hS).2.2 (hq S hS).2.1 hab ha4 hl) (tyt_T hk hr) (fun v => kv_T v hr vG_n) (fLe_th)

theorem so_6 (h : hyS S0 p X fa ms n WE B B2 w t A) (ho : opI S0 (a_K A t) = 6) (hl : (a_K A t).1.length < 2000) : stO xs d S0 p HT cs ms os X mo fa n WE B2 w t A := by
  obtain ⟨hp, hw, hx, hA, hE, hB, hr⟩ := h
  have hk := wT_of hA hw
  have hv := wV_of hA hw
  have hab := hab_x hx hk hr
  have hc := fun (S : wS) (hS : cRel S0 p HT cs ms os X mo A S) => hco_c hx hk hr hw ho hS
  have hq := fun {Sb : wS} (S : wS) (hS : rRun S0 Sb HT cs ms os X mo t A S) => hqo_r hx hk hr hw ho hS
  have hh := tyt_h hx hk hr
  rw [ho] at hh
  replace hh : 1 ≤ (a_K A t).1.length := by have z : (1 : Int) ≤ ((a_K A t).1.length : Int) := hh; omega
  rcases hw with ⟨rfl, rfl⟩ | ⟨rfl, rfl⟩
  · exact stO_K (ml := [217, 218]) hp (Or.inl ⟨rfl, rfl⟩) (by first | decide | omega) hA hE hB (fun S hS => z6_215 (hc S hS).1 (hc S hS).2 hab hh hl) (fun S hS => rn6 (hq S hS).1 (hq S hS).2.2 (hq S hS).2.1 hh hl) (tyt_P (m := 0) hx hk hr (by rw [ho]; decide) (by rw [ho]; rfl) (by omega) (fun _ => hl)) (fun v => kv_P v (v.1 _ (tp_m (by omega)))) (fLe_P)
  · exact stO_K (ml := [228, 229]) hp (Or.inr ⟨rfl, rfl⟩) (by first | decide | omega) hA hE hB (fun S hS => z6_226 (hc S hS).1 (hc S hS).2 hab hh hl) (fun S hS => rn6 (hq S hS).1 (hq S hS).2.2 (hq S hS).2.1 hh hl) (tyt_P (m := 0) hx hk hr (by rw [ho]; decide) (by rw [ho]; rfl) (by omega) (fun _ => hl)) (fun v => kv_P v (v.1 _ (tp_m (by omega)))) (fLe_P)

theorem so_6v (h : hyS S0 p X fa ms n WE B B2 w t A) (ho : opI S0 (a_K A t) = 6) (hl : 2000 ≤ (a_K A t).1.length) : stO xs d S0 p HT cs ms os X mo fa n WE B2 w t A := by
  obtain ⟨hp, hw, hx, hA, hE, hB, hr⟩ := h
  have hk := wT_of hA hw
  have hv := wV_of hA hw
  have hab := hab_x hx hk hr
  have hc := fun (S : wS) (hS : cRel S0 p HT cs ms os X mo A S) => hco_c hx hk hr hw ho hS
  have hq := fun {Sb : wS} (S : wS) (hS : rRun S0 Sb HT cs ms os X mo t A S) => hqo_r hx hk hr hw ho hS
  have hh := tyt_h hx hk hr
  rw [ho] at hh
  replace hh : 1 ≤ (a_K A t).1.length := by have z : (1 : Int) ≤ ((a_K A t).1.length : Int) := hh; omega
  rcases hw with ⟨rfl, rfl⟩ | ⟨rfl, rfl⟩
  · exact stO_K (ml := [217, 218]) hp (Or.inl ⟨rfl, rfl⟩) (by first | decide | omega) hA hE hB (fun S hS => zov_215 (hc S hS).1 (hc S hS).2 (by omega) hl) (fun S hS => rn6v (hq S hS).1 (hq S hS).2.2 (hq S hS).2.1 (by omega) hl) (tyt_T hk hr) (fun v => kv_T v hr vG_n) (fLe_th)
  · exact stO_K (ml := [228, 229]) hp (Or.inr ⟨rfl, rfl⟩) (by first | decide | omega) hA hE hB (fun S hS => zov_226 (hc S hS).1 (hc S hS).2 (by omega) hl) (fun S hS => rn6v (hq S hS).1 (hq S hS).2.2 (hq S hS).2.1 (by omega) hl) (tyt_T hk hr) (fun v => kv_T v hr vG_n) (fLe_th)

theorem so_33 (h : hyS S0 p X fa ms n WE B B2 w t A) (ho : opI S0 (a_K A t) = 33) (hl : (a_K A t).1.length < 2000) : stO xs d S0 p HT cs ms os X mo fa n WE B2 w t A := by
  obtain ⟨hp, hw, hx, hA, hE, hB, hr⟩ := h
  have hk := wT_of hA hw
  have hv := wV_of hA hw
  have hab := hab_x hx hk hr
  have hc := fun (S : wS) (hS : cRel S0 p HT cs ms os X mo A S) => hco_c hx hk hr hw ho hS
  have hq := fun {Sb : wS} (S : wS) (hS : rRun S0 Sb HT cs ms os X mo t A S) => hqo_r hx hk hr hw ho hS
  have hh := tyt_h hx hk hr
  rw [ho] at hh
  rcases hw with ⟨rfl, rfl⟩ | ⟨rfl, rfl⟩
  · exact stO_K (ml := [217, 218]) hp (Or.inl ⟨rfl, rfl⟩) (by first | decide | omega) hA hE hB (fun S hS => z33_215 (hc S hS).1 (hc S hS).2 hab hl) (fun S hS => rn33 (hq S hS).1 (hq S hS).2.2 (hq S hS).2.1 hab hl) (tyt_P (m := 0) hx hk hr (by rw [ho]; decide) (by rw [ho]; rfl) (by omega) (fun _ => hl)) (fun v => kv_P v (v.2.1 _ (fr_m (hk.2.1 hr).2))) (fLe_P)
  · exact stO_K (ml := [228, 229]) hp (Or.inr ⟨rfl, rfl⟩) (by first | decide | omega) hA hE hB (fun S hS => z33_226 (hc S hS).1 (hc S hS).2 hab hl) (fun S hS => rn33 (hq S hS).1 (hq S hS).2.2 (hq S hS).2.1 hab hl) (tyt_P (m := 0) hx hk hr (by rw [ho]; decide) (by rw [ho]; rfl) (by omega) (fun _ => hl)) (fun v => kv_P v (v.2.1 _ (fr_m (hk.2.1 hr).2))) (fLe_P)

theorem so_33v (h : hyS S0 p X fa ms n WE B B2 w t A) (ho : opI S0 (a_K A t) = 33) (hl : 2000 ≤ (a_K A t).1.length) : stO xs d S0 p HT cs ms os X mo fa n WE B2 w t A := by
  obtain ⟨hp, hw, hx, hA, hE, hB, hr⟩ := h
  have hk := wT_of hA hw
  have hv := wV_of hA hw
  have hab := hab_x hx hk hr
  have hc := fun (S : wS) (hS : cRel S0 p HT cs ms os X mo A S) => hco_c hx hk hr hw ho hS
  have hq := fun {Sb : wS} (S : wS) (hS : rRun S0 Sb HT cs ms os X mo t A S) => hqo_r hx hk hr hw ho hS
  have hh := tyt_h hx hk hr
  rw [ho] at hh
  rcases hw with ⟨rfl, rfl⟩ | ⟨rfl, rfl⟩
  · exact stO_K (ml := [217, 218]) hp (Or.inl ⟨rfl, rfl⟩) (by first | decide | omega) hA hE hB (fun S hS => zov_215 (hc S hS).1 (hc S hS).2 (by omega) hl) (fun S hS => rn33v (hq S hS).1 (hq S hS).2.2 (hq S hS).2.1 hab hl) (tyt_T hk hr) (fun v => kv_T v hr vG_n) (fLe_th)
  · exact stO_K (ml := [228, 229]) hp (Or.inr ⟨rfl, rfl⟩) (by first | decide | omega) hA hE hB (fun S hS => zov_226 (hc S hS).1 (hc S hS).2 (by omega) hl) (fun S hS => rn33v (hq S hS).1 (hq S hS).2.2 (hq S hS).2.1 hab hl) (tyt_T hk hr) (fun v => kv_T v hr vG_n) (fLe_th)

theorem so_5 (h : hyS S0 p X fa ms n WE B B2 w t A) (ho : opI S0 (a_K A t) = 5)  : stO xs d S0 p HT cs ms os X mo fa n WE B2 w t A := by
  obtain ⟨hp, hw, hx, hA, hE, hB, hr⟩ := h
  have hk := wT_of hA hw
  have hv := wV_of hA hw
  have hab := hab_x hx hk hr
  have hc := fun (S : wS) (hS : cRel S0 p HT cs ms os X mo A S) => hco_c hx hk hr hw ho hS
  have hq := fun {Sb : wS} (S : wS) (hS : rRun S0 Sb HT cs ms os X mo t A S) => hqo_r hx hk hr hw ho hS
  have hh := tyt_h hx hk hr
  rw [ho] at hh
  replace hh : 1 ≤ (a_K A t).1.length := by have z : (1 : Int) ≤ ((a_K A t).1.length : Int) := hh; omega
  rcases hw with ⟨rfl, rfl⟩ | ⟨rfl, rfl⟩
  · exact stO_K (ml := [217, 218]) hp (Or.inl ⟨rfl, rfl⟩) (by first | decide | omega) hA hE hB (fun S hS => z5_215 (hc S hS).1 (hc S hS).2 hab hh) (fun S hS => rn5 (hq S hS).1 (hq S hS).2.2 (hq S hS).2.1 hh) (tyt_D (m := 1) hk hr (by rw [ho]; decide) (by rw [ho]; rfl) hh) (fun v => kv_D v) (fLe_D)
  · exact stO_K (ml := [228, 229]) hp (Or.inr ⟨rfl, rfl⟩) (by first | decide | omega) hA hE hB (fun S hS => z5_226 (hc S hS).1 (hc S hS).2 hab hh) (fun S hS => rn5 (hq S hS).1 (hq S hS).2.2 (hq S hS).2.1 hh) (tyt_D (m := 1) hk hr (by rw [ho]; decide) (by rw [ho]; rfl) hh) (fun v => kv_D v) (fLe_D)

theorem so_20 (h : hyS S0 p X fa ms n WE B B2 w t A) (ho : opI S0 (a_K A t) = 20)  : stO xs d S0 p HT cs ms os X mo fa n WE B2 w t A := by
  obtain ⟨hp, hw, hx, hA, hE, hB, hr⟩ := h
  have hk := wT_of hA hw
  have hv := wV_of hA hw
  have hab := hab_x hx hk hr
  have hc := fun (S : wS) (hS : cRel S0 p HT cs ms os X mo A S) => hco_c hx hk hr hw ho hS
  have hq := fun {Sb : wS} (S : wS) (hS : rRun S0 Sb HT cs ms os X mo t A S) => hqo_r hx hk hr hw ho hS
  have hh := tyt_h hx hk hr
  rw [ho] at hh
  rcases hw with ⟨rfl, rfl⟩ | ⟨rfl, rfl⟩
  · exact stO_K (ml := [217, 218]) hp (Or.inl ⟨rfl, rfl⟩) (by first | decide | omega) hA hE hB (fun S hS => z20_215 (hc S hS).1 (hc S hS).2 hab) (fun S hS => rn20 (hq S hS).1 (hq S hS).2.2 (hq S hS).2.1 hab) (tyt_j hk hr (by rw [ho]; decide) (by rw [ho]; rfl)) (fun v => kv_N v) (fLe_n)
  · exact stO_K (ml := [228, 229]) hp (Or.inr ⟨rfl, rfl⟩) (by first | decide | omega) hA hE hB (fun S hS => z20_226 (hc S hS).1 (hc S hS).2 hab) (fun S hS => rn20 (hq S hS).1 (hq S hS).2.2 (hq S hS).2.1 hab) (tyt_j hk hr (by rw [ho]; decide) (by rw [ho]; rfl)) (fun v => kv_N v) (fLe_n)

theorem so_21 (h : hyS S0 p X fa ms n WE B B2 w t A) (ho : opI S0 (a_K A t) = 21)  : stO xs d S0 p HT cs ms os X mo fa n WE B2 w t A := by
  obtain ⟨hp, hw, hx, hA, hE, hB, hr⟩ := h
  have hk := wT_of hA hw
  have hv := wV_of hA hw
  have hab := hab_x hx hk hr
  have hc := fun (S : wS) (hS : cRel S0 p HT cs ms os X mo A S) => hco_c hx hk hr hw ho hS
  have hq := fun {Sb : wS} (S : wS) (hS : rRun S0 Sb HT cs ms os X mo t A S) => hqo_r hx hk hr hw ho hS
  have hh := tyt_h hx hk hr
  rw [ho] at hh
  replace hh : 1 ≤ (a_K A t).1.length := by have z : (1 : Int) ≤ ((a_K A t).1.length : Int) := hh; omega
  rcases hw with ⟨rfl, rfl⟩ | ⟨rfl, rfl⟩
  · exact stO_K (ml := [217, 218]) hp (Or.inl ⟨rfl, rfl⟩) (by first | decide | omega) hA hE hB (fun S hS => z21_215 (hc S hS).1 (hc S hS).2 hab hh) (fun S hS => rn21 (hq S hS).1 (hq S hS).2.2 (hq S hS).2.1 hab hh) (by
      by_cases c : aNo ((a_K A 0).1.getD ((a_K A 0).1.length - 1) (0, 0, []))
      · rw [if_pos c]; exact tyt_J (m := 1) hk hr (by rw [ho]; decide) (by rw [ho]; rfl) hh
      · rw [if_neg c]; exact tyt_D (m := 1) hk hr (by rw [ho]; decide) (by rw [ho]; rfl) hh) (fun v => kv_D v) (fLe_D)
  · exact stO_K (ml := [228, 229]) hp (Or.inr ⟨rfl, rfl⟩) (by first | decide | omega) hA hE hB (fun S hS => z21_226 (hc S hS).1 (hc S hS).2 hab hh) (fun S hS => rn21 (hq S hS).1 (hq S hS).2.2 (hq S hS).2.1 hab hh) (by
      by_cases c : aNo ((a_K A 1).1.getD ((a_K A 1).1.length - 1) (0, 0, []))
      · rw [if_pos c]; exact tyt_J (m := 1) hk hr (by rw [ho]; decide) (by rw [ho]; rfl) hh
      · rw [if_neg c]; exact tyt_D (m := 1) hk hr (by rw [ho]; decide) (by rw [ho]; rfl) hh) (fun v => kv_D v) (fLe_D)

theorem so_22 (h : hyS S0 p X fa ms n WE B B2 w t A) (ho : opI S0 (a_K A t) = 22)  : stO xs d S0 p HT cs ms os X mo fa n WE B2 w t A := by
  obtain ⟨hp, hw, hx, hA, hE, hB, hr⟩ := h
  have hk := wT_of hA hw
  have hv := wV_of hA hw
  have hab := hab_x hx hk hr
  have hc := fun (S : wS) (hS : cRel S0 p HT cs ms os X mo A S) => hco_c hx hk hr hw ho hS
  have hq := fun {Sb : wS} (S : wS) (hS : rRun S0 Sb HT cs ms os X mo t A S) => hqo_r hx hk hr hw ho hS
  have hh := tyt_h hx hk hr
  rw [ho] at hh
  replace hh : 1 ≤ (a_K A t).1.length := by have z : (1 : Int) ≤ ((a_K A t).1.length : Int) := hh; omega
  rcases hw with ⟨rfl, rfl⟩ | ⟨rfl, rfl⟩
  · exact stO_K (ml := [217, 218]) hp (Or.inl ⟨rfl, rfl⟩) (by first | decide | omega) hA hE hB (fun S hS => z22_215 (hc S hS).1 (hc S hS).2 hab hh) (fun S hS => rn22 (hq S hS).1 (hq S hS).2.2 (hq S hS).2.1 hab hh) (by
      by_cases c : ¬ aNo ((a_K A 0).1.getD ((a_K A 0).1.length - 1) (0, 0, []))
      · rw [if_pos c]; exact tyt_j hk hr (by rw [ho]; decide) (by rw [ho]; rfl)
      · rw [if_neg c]; exact tyt_D (m := 1) hk hr (by rw [ho]; decide) (by rw [ho]; rfl) hh) (fun v => by
      by_cases c : ¬ aNo ((a_K A 0).1.getD ((a_K A 0).1.length - 1) (0, 0, []))
      · rw [if_pos c]; exact kv_N v
      · rw [if_neg c]; exact kv_D v) (by
      by_cases c : ¬ aNo ((a_K A 0).1.getD ((a_K A 0).1.length - 1) (0, 0, []))
      · rw [if_pos c]; exact fLe_n
      · rw [if_neg c]; exact fLe_D)
  · exact stO_K (ml := [228, 229]) hp (Or.inr ⟨rfl, rfl⟩) (by first | decide | omega) hA hE hB (fun S hS => z22_226 (hc S hS).1 (hc S hS).2 hab hh) (fun S hS => rn22 (hq S hS).1 (hq S hS).2.2 (hq S hS).2.1 hab hh) (by
      by_cases c : ¬ aNo ((a_K A 1).1.getD ((a_K A 1).1.length - 1) (0, 0, []))
      · rw [if_pos c]; exact tyt_j hk hr (by rw [ho]; decide) (by rw [ho]; rfl)
      · rw [if_neg c]; exact tyt_D (m := 1) hk hr (by rw [ho]; decide) (by rw [ho]; rfl) hh) (fun v => by
      by_cases c : ¬ aNo ((a_K A 1).1.getD ((a_K A 1).1.length - 1) (0, 0, []))
      · rw [if_pos c]; exact kv_N v
      · rw [if_neg c]; exact kv_D v) (by
      by_cases c : ¬ aNo ((a_K A 1).1.getD ((a_K A 1).1.length - 1) (0, 0, []))
      · rw [if_pos c]; exact fLe_n
      · rw [if_neg c]; exact fLe_D)

theorem so_23 (h : hyS S0 p X fa ms n WE B B2 w t A) (ho : opI S0 (a_K A t) = 23)  : stO xs d S0 p HT cs ms os X mo fa n WE B2 w t A := by
  obtain ⟨hp, hw, hx, hA, hE, hB, hr⟩ := h
  have hk := wT_of hA hw
  have hv := wV_of hA hw
  have hab := hab_x hx hk hr
  have hc := fun (S : wS) (hS : cRel S0 p HT cs ms os X mo A S) => hco_c hx hk hr hw ho hS
  have hq := fun {Sb : wS} (S : wS) (hS : rRun S0 Sb HT cs ms os X mo t A S) => hqo_r hx hk hr hw ho hS
  have hh := tyt_h hx hk hr
  rw [ho] at hh
  replace hh : 1 ≤ (a_K A t).1.length := by have z : (1 : Int) ≤ ((a_K A t).1.length : Int) := hh; omega
  rcases hw with ⟨rfl, rfl⟩ | ⟨rfl, rfl⟩
  · exact stO_K (ml := [217, 218]) hp (Or.inl ⟨rfl, rfl⟩) (by first | decide | omega) hA hE hB (fun S hS => z23_215 (hc S hS).1 (hc S hS).2 hab hh) (fun S hS => rn23 (hq S hS).1 (hq S hS).2.2 (hq S hS).2.1 hab hh) (by
      by_cases c : aNo ((a_K A 0).1.getD ((a_K A 0).1.length - 1) (0, 0, []))
      · rw [if_pos c]; exact tyt_j hk hr (by rw [ho]; decide) (by rw [ho]; rfl)
      · rw [if_neg c]; exact tyt_D (m := 1) hk hr (by rw [ho]; decide) (by rw [ho]; rfl) hh) (fun v => by
      by_cases c : aNo ((a_K A 0).1.getD ((a_K A 0).1.length - 1) (0, 0, []))
      · rw [if_pos c]; exact kv_N v
      · rw [if_neg c]; exact kv_D v) (by
      by_cases c : aNo ((a_K A 0).1.getD ((a_K A 0).1.length - 1) (0, 0, []))
      · rw [if_pos c]; exact fLe_n
      · rw [if_neg c]; exact fLe_D)
  · exact stO_K (ml := [228, 229]) hp (Or.inr ⟨rfl, rfl⟩) (by first | decide | omega) hA hE hB (fun S hS => z23_226 (hc S hS).1 (hc S hS).2 hab hh) (fun S hS => rn23 (hq S hS).1 (hq S hS).2.2 (hq S hS).2.1 hab hh) (by
      by_cases c : aNo ((a_K A 1).1.getD ((a_K A 1).1.length - 1) (0, 0, []))
      · rw [if_pos c]; exact tyt_j hk hr (by rw [ho]; decide) (by rw [ho]; rfl)
      · rw [if_neg c]; exact tyt_D (m := 1) hk hr (by rw [ho]; decide) (by rw [ho]; rfl) hh) (fun v => by
      by_cases c : aNo ((a_K A 1).1.getD ((a_K A 1).1.length - 1) (0, 0, []))
      · rw [if_pos c]; exact kv_N v
      · rw [if_neg c]; exact kv_D v) (by
      by_cases c : aNo ((a_K A 1).1.getD ((a_K A 1).1.length - 1) (0, 0, []))
      · rw [if_pos c]; exact fLe_n
      · rw [if_neg c]; exact fLe_D)

theorem so_30 (h : hyS S0 p X fa ms n WE B B2 w t A) (ho : opI S0 (a_K A t) = 30)  : stO xs d S0 p HT cs ms os X mo fa n WE B2 w t A := by
  obtain ⟨hp, hw, hx, hA, hE, hB, hr⟩ := h
  have hk := wT_of hA hw
  have hv := wV_of hA hw
  have hab := hab_x hx hk hr
  have hc := fun (S : wS) (hS : cRel S0 p HT cs ms os X mo A S) => hco_c hx hk hr hw ho hS
  have hq := fun {Sb : wS} (S : wS) (hS : rRun S0 Sb HT cs ms os X mo t A S) => hqo_r hx hk hr hw ho hS
  have hh := tyt_h hx hk hr
  rw [ho] at hh
  replace hh : 1 ≤ (a_K A t).1.length := by have z : (1 : Int) ≤ ((a_K A t).1.length : Int) := hh; omega
  have hb : wTr ((a_K A t).1.take ((a_K A t).1.length - 1), (a_K A t).2) := by
    obtain ⟨a1, H, D, n, a2, a3, a4, a5⟩ := topT hx hk hr
    have a6 := a5.1
    rw [ho] at a6
    replace a6 : (1 : Int) ≤ H ((a_K A t).2.1.getD ((a_K A t).2.1.length - 1) (0, 0, 0, (0, 0, []), 0, 0, 0)).2.1.toNat := a6
    exact wKt_hp (hk.2.1 hr).1 (by omega)
  rcases hw with ⟨rfl, rfl⟩ | ⟨rfl, rfl⟩
  · exact stO_K (ml := [217, 218]) hp (Or.inl ⟨rfl, rfl⟩) (by first | decide | omega) hA hE hB (fun S hS => z30_215 (hc S hS).1 (hc S hS).2 hab hh) (fun S hS => rn30 (hq S hS).1 (hq S hS).2.2 (hq S hS).2.1 hh hb) (tyt_T hk hr) (fun v => kv_T v hr (v.1 _ (tp_m (by omega)))) (fLe_th)
  · exact stO_K (ml := [228, 229]) hp (Or.inr ⟨rfl, rfl⟩) (by first | decide | omega) hA hE hB (fun S hS => z30_226 (hc S hS).1 (hc S hS).2 hab hh) (fun S hS => rn30 (hq S hS).1 (hq S hS).2.2 (hq S hS).2.1 hh hb) (tyt_T hk hr) (fun v => kv_T v hr (v.1 _ (tp_m (by omega)))) (fLe_th)

theorem so_31 (h : hyS S0 p X fa ms n WE B B2 w t A) (ho : opI S0 (a_K A t) = 31)  : stO xs d S0 p HT cs ms os X mo fa n WE B2 w t A := by
  obtain ⟨hp, hw, hx, hA, hE, hB, hr⟩ := h
  have hk := wT_of hA hw
  have hv := wV_of hA hw
  have hab := hab_x hx hk hr
  have hc := fun (S : wS) (hS : cRel S0 p HT cs ms os X mo A S) => hco_c hx hk hr hw ho hS
  have hq := fun {Sb : wS} (S : wS) (hS : rRun S0 Sb HT cs ms os X mo t A S) => hqo_r hx hk hr hw ho hS
  have hh := tyt_h hx hk hr
  rw [ho] at hh
  rcases hw with ⟨rfl, rfl⟩ | ⟨rfl, rfl⟩
  · exact stO_K (ml := [217, 218, 225]) hp (Or.inl ⟨rfl, rfl⟩) (by first | decide | omega) hA hE hB (fun S hS => z31_215 (hc S hS).1 (hc S hS).2 hab (tyt_31 hk hr ho).2) (fun S hS => rn31 (hq S hS).1 (hq S hS).2.2 (hq S hS).2.1 hab (tyt_31 hk hr ho).2) ((tyt_31 hk hr ho).1) (fun v => kv_le v (fLe_n (K := kTy _ _)) v.1 v.2.2) (fLe_n (K := kTy _ _))
  · exact stO_K (ml := [228, 229, 236]) hp (Or.inr ⟨rfl, rfl⟩) (by first | decide | omega) hA hE hB (fun S hS => z31_226 (hc S hS).1 (hc S hS).2 hab (tyt_31 hk hr ho).2) (fun S hS => rn31 (hq S hS).1 (hq S hS).2.2 (hq S hS).2.1 hab (tyt_31 hk hr ho).2) ((tyt_31 hk hr ho).1) (fun v => kv_le v (fLe_n (K := kTy _ _)) v.1 v.2.2) (fLe_n (K := kTy _ _))

theorem so_32 (h : hyS S0 p X fa ms n WE B B2 w t A) (ho : opI S0 (a_K A t) = 32)  : stO xs d S0 p HT cs ms os X mo fa n WE B2 w t A := by
  obtain ⟨hp, hw, hx, hA, hE, hB, hr⟩ := h
  have hk := wT_of hA hw
  have hv := wV_of hA hw
  have hab := hab_x hx hk hr
  have hc := fun (S : wS) (hS : cRel S0 p HT cs ms os X mo A S) => hco_c hx hk hr hw ho hS
  have hq := fun {Sb : wS} (S : wS) (hS : rRun S0 Sb HT cs ms os X mo t A S) => hqo_r hx hk hr hw ho hS
  have hh := tyt_h hx hk hr
  rw [ho] at hh
  rcases hw with ⟨rfl, rfl⟩ | ⟨rfl, rfl⟩
  · exact stO_K (ml := [217, 218]) hp (Or.inl ⟨rfl, rfl⟩) (by first | decide | omega) hA hE hB (fun S hS => z32_215 (hc S hS).1 (hc S hS).2 hab (tyt_32 hk hr ho).1) (fun S hS => rn32 (hq S hS).1 (hq S hS).2.2 (hq S hS).2.1 hab (tyt_32 hk hr ho).1) ((tyt_32 hk hr ho).2) (fun v => kv_le v (fLe_n (K := (_, _, _))) v.1 v.2.2) (fLe_n (K := (_, _, _)))
  · exact stO_K (ml := [228, 229]) hp (Or.inr ⟨rfl, rfl⟩) (by first | decide | omega) hA hE hB (fun S hS => z32_226 (hc S hS).1 (hc S hS).2 hab (tyt_32 hk hr ho).1) (fun S hS => rn32 (hq S hS).1 (hq S hS).2.2 (hq S hS).2.1 hab (tyt_32 hk hr ho).1) ((tyt_32 hk hr ho).2) (fun v => kv_le v (fLe_n (K := (_, _, _))) v.1 v.2.2) (fLe_n (K := (_, _, _)))

theorem so_29 (h : hyS S0 p X fa ms n WE B B2 w t A) (ho : opI S0 (a_K A t) = 29)  : stO xs d S0 p HT cs ms os X mo fa n WE B2 w t A := by
  obtain ⟨hp, hw, hx, hA, hE, hB, hr⟩ := h
  have hk := wT_of hA hw
  have hv := wV_of hA hw
  have hab := hab_x hx hk hr
  have hc := fun (S : wS) (hS : cRel S0 p HT cs ms os X mo A S) => hco_c hx hk hr hw ho hS
  have hq := fun {Sb : wS} (S : wS) (hS : rRun S0 Sb HT cs ms os X mo t A S) => hqo_r hx hk hr hw ho hS
  have hh := tyt_h hx hk hr
  rw [ho] at hh
  replace hh : 1 ≤ (a_K A t).1.length := by have z : (1 : Int) ≤ ((a_K A t).1.length : Int) := hh; omega
  obtain ⟨cf, c1, c2⟩ := wC_of hA hw
  have hm := (c2 ((a_K A t).2.1.getD ((a_K A t).2.1.length - 1) (0, 0, 0, (0, 0, []), 0, 0, 0)) (fr_m (hk.2.1 hr).2)).2.2
  have hT := hA.2.2.2.2.1.1
  have hvr : vG (a_T A) n (reV (a_K A t)) := by
    unfold reV
    by_cases c : 0 ≤ ((a_K A t).2.1.getD ((a_K A t).2.1.length - 1) (0, 0, 0, (0, 0, []), 0, 0, 0)).2.2.2.2.1 ∧ ((a_K A t).1.getD ((a_K A t).1.length - 1) (0, 0, [])).1 ≠ 4
    · rw [if_pos c]
      rcases hm with hm | hm
      · omega
      · have z := vG_t (n := n) hm.1 (Or.inl hm.2)
        rw [hm.2] at z
        exact z
    · rw [if_neg c]
      exact hv.1 _ (tp_m (by omega))
  rcases hw with ⟨rfl, rfl⟩ | ⟨rfl, rfl⟩
  · exact stO_K (ml := [217, 218]) hp (Or.inl ⟨rfl, rfl⟩) (by first | decide | omega) hA hE hB (fun S hS => z29_215 (hc S hS).1 (hc S hS).2 hab hh (tyt_29 (u := (0, 0, [])) hx hk hr ho).2) (fun S hS => rn29 (hq S hS).1 (hq S hS).2.2 (hq S hS).2.1 hh (tyt_29 (u := (0, 0, [])) hx hk hr ho).2 ⟨by omega, by omega⟩) ((tyt_29 hx hk hr ho).1) (fun v => kv_re v hr hvr) (fLe_re)
  · exact stO_K (ml := [228, 229]) hp (Or.inr ⟨rfl, rfl⟩) (by first | decide | omega) hA hE hB (fun S hS => z29_226 (hc S hS).1 (hc S hS).2 hab hh (tyt_29 (u := (0, 0, [])) hx hk hr ho).2) (fun S hS => rn29 (hq S hS).1 (hq S hS).2.2 (hq S hS).2.1 hh (tyt_29 (u := (0, 0, [])) hx hk hr ho).2 ⟨by omega, by omega⟩) ((tyt_29 hx hk hr ho).1) (fun v => kv_re v hr hvr) (fLe_re)

theorem rR_w (h : rRun S0 Sb HT cs ms os X mo t A S) : rCa S (a_L A) ∧ (((a_L A).length : Int) ≤ 8000 ∧ S 237 94 ≤ 60000) ∧ rGl S (a_G A) := by
  obtain ⟨sl, h1, h2, h3, h4, h5⟩ := h.1.2.2.1.1
  exact ⟨h2, h4, h5⟩

theorem so_1 (h : hyS S0 p X fa ms n WE B B2 w t A) (ho : opI S0 (a_K A t) = 1) (hl : (a_K A t).1.length < 2000) : stO xs d S0 p HT cs ms os X mo fa n WE B2 w t A := by
  obtain ⟨hp, hw, hx, hA, hE, hB, hr⟩ := h
  have hk := wT_of hA hw
  have hv := wV_of hA hw
  have hab := hab_x hx hk hr
  have hc := fun (S : wS) (hS : cRel S0 p HT cs ms os X mo A S) => hco_c hx hk hr hw ho hS
  have hq := fun {Sb : wS} (S : wS) (hS : rRun S0 Sb HT cs ms os X mo t A S) => hqo_r hx hk hr hw ho hS
  have hh := tyt_h hx hk hr
  rw [ho] at hh
  obtain ⟨cf, c1, c2⟩ := wC_of hA hw
  obtain ⟨v1, v2, v3, v4⟩ := op_v hx hk hr (Or.inl ho) c1 c2
  rcases hw with ⟨rfl, rfl⟩ | ⟨rfl, rfl⟩
  · exact stO_K (ml := [217, 218]) hp (Or.inl ⟨rfl, rfl⟩) (by first | decide | omega) hA hE hB (fun S hS => z1_215 (hc S hS).1 (hc S hS).2 hab hS.2.2.1.1.2.1 hS.2.2.1.1.2.2.2.1 v1 v2 v3 v4 hl) (fun S hS => rn1 (hq S hS).1 (hq S hS).2.2 (hq S hS).2.1 hab (rR_w hS).1 (rR_w hS).2.1 v1 v2 v3 v4 hl) (tyt_P (m := 0) hx hk hr (by rw [ho]; decide) (by rw [ho]; rfl) (by omega) (fun _ => hl)) (fun v => kv_P v (ca_v hA.2.2.1.2.2.1 (by have := v3 (opA S0 (a_K A 0)).toNat (Nat.le_refl _); omega) v4)) (fLe_P)
  · exact stO_K (ml := [228, 229]) hp (Or.inr ⟨rfl, rfl⟩) (by first | decide | omega) hA hE hB (fun S hS => z1_226 (hc S hS).1 (hc S hS).2 hab hS.2.2.1.1.2.1 hS.2.2.1.1.2.2.2.1 v1 v2 v3 v4 hl) (fun S hS => rn1 (hq S hS).1 (hq S hS).2.2 (hq S hS).2.1 hab (rR_w hS).1 (rR_w hS).2.1 v1 v2 v3 v4 hl) (tyt_P (m := 0) hx hk hr (by rw [ho]; decide) (by rw [ho]; rfl) (by omega) (fun _ => hl)) (fun v => kv_P v (ca_v hA.2.2.1.2.2.1 (by have := v3 (opA S0 (a_K A 1)).toNat (Nat.le_refl _); omega) v4)) (fLe_P)

theorem so_1v (h : hyS S0 p X fa ms n WE B B2 w t A) (ho : opI S0 (a_K A t) = 1) (hl : 2000 ≤ (a_K A t).1.length) : stO xs d S0 p HT cs ms os X mo fa n WE B2 w t A := by
  obtain ⟨hp, hw, hx, hA, hE, hB, hr⟩ := h
  have hk := wT_of hA hw
  have hv := wV_of hA hw
  have hab := hab_x hx hk hr
  have hc := fun (S : wS) (hS : cRel S0 p HT cs ms os X mo A S) => hco_c hx hk hr hw ho hS
  have hq := fun {Sb : wS} (S : wS) (hS : rRun S0 Sb HT cs ms os X mo t A S) => hqo_r hx hk hr hw ho hS
  have hh := tyt_h hx hk hr
  rw [ho] at hh
  obtain ⟨cf, c1, c2⟩ := wC_of hA hw
  obtain ⟨v1, v2, v3, v4⟩ := op_v hx hk hr (Or.inl ho) c1 c2
  rcases hw with ⟨rfl, rfl⟩ | ⟨rfl, rfl⟩
  · exact stO_K (ml := [217, 218]) hp (Or.inl ⟨rfl, rfl⟩) (by first | decide | omega) hA hE hB (fun S hS => zov_215 (hc S hS).1 (hc S hS).2 (by omega) hl) (fun S hS => rn1v (hq S hS).1 (hq S hS).2.2 (hq S hS).2.1 hab (rR_w hS).1 (rR_w hS).2.1 v1 v2 v3 v4 hl) (tyt_T hk hr) (fun v => kv_T v hr vG_n) (fLe_th)
  · exact stO_K (ml := [228, 229]) hp (Or.inr ⟨rfl, rfl⟩) (by first | decide | omega) hA hE hB (fun S hS => zov_226 (hc S hS).1 (hc S hS).2 (by omega) hl) (fun S hS => rn1v (hq S hS).1 (hq S hS).2.2 (hq S hS).2.1 hab (rR_w hS).1 (rR_w hS).2.1 v1 v2 v3 v4 hl) (tyt_T hk hr) (fun v => kv_T v hr vG_n) (fLe_th)

theorem so_3 (h : hyS S0 p X fa ms n WE B B2 w t A) (ho : opI S0 (a_K A t) = 3) (hg : (a_G A (opA S0 (a_K A t))).1 ≠ -1) (hl : (a_K A t).1.length < 2000) : stO xs d S0 p HT cs ms os X mo fa n WE B2 w t A := by
  obtain ⟨hp, hw, hx, hA, hE, hB, hr⟩ := h
  have hk := wT_of hA hw
  have hv := wV_of hA hw
  have hab := hab_x hx hk hr
  have hc := fun (S : wS) (hS : cRel S0 p HT cs ms os X mo A S) => hco_c hx hk hr hw ho hS
  have hq := fun {Sb : wS} (S : wS) (hS : rRun S0 Sb HT cs ms os X mo t A S) => hqo_r hx hk hr hw ho hS
  have hh := tyt_h hx hk hr
  rw [ho] at hh
  have hz := opS hx hk hr
  rw [ho] at hz
  have ha : 0 ≤ (opA S0 (a_K A t)) ∧ (opA S0 (a_K A t)) < 4000 := by have := hz.2.2.2.1 (Or.inl rfl); have := hx.2.2.2.2.2.2; omega
  rcases hw with ⟨rfl, rfl⟩ | ⟨rfl, rfl⟩
  · exact stO_K (ml := [217, 218]) hp (Or.inl ⟨rfl, rfl⟩) (by first | decide | omega) hA hE hB (fun S hS => z3_215 (hc S hS).1 (hc S hS).2 hab hS.2.2.1.1.2.2.2.2.2 ha.1 hg hl) (fun S hS => rn3 (hq S hS).1 (hq S hS).2.2 (hq S hS).2.1 hab (rR_w hS).2.2 ha hg hl) (tyt_P (m := 0) hx hk hr (by rw [ho]; decide) (by rw [ho]; rfl) (by omega) (fun _ => hl)) (fun v => kv_P v (hA.2.2.1.2.2.2.1 _ hg)) (fLe_P)
  · exact stO_K (ml := [228, 229]) hp (Or.inr ⟨rfl, rfl⟩) (by first | decide | omega) hA hE hB (fun S hS => z3_226 (hc S hS).1 (hc S hS).2 hab hS.2.2.1.1.2.2.2.2.2 ha.1 hg hl) (fun S hS => rn3 (hq S hS).1 (hq S hS).2.2 (hq S hS).2.1 hab (rR_w hS).2.2 ha hg hl) (tyt_P (m := 0) hx hk hr (by rw [ho]; decide) (by rw [ho]; rfl) (by omega) (fun _ => hl)) (fun v => kv_P v (hA.2.2.1.2.2.2.1 _ hg)) (fLe_P)

theorem so_3e (h : hyS S0 p X fa ms n WE B B2 w t A) (ho : opI S0 (a_K A t) = 3) (hg : (a_G A (opA S0 (a_K A t))).1 = -1) (hl : (a_K A t).1.length < 2000) : stO xs d S0 p HT cs ms os X mo fa n WE B2 w t A := by
  obtain ⟨hp, hw, hx, hA, hE, hB, hr⟩ := h
  have hk := wT_of hA hw
  have hv := wV_of hA hw
  have hab := hab_x hx hk hr
  have hc := fun (S : wS) (hS : cRel S0 p HT cs ms os X mo A S) => hco_c hx hk hr hw ho hS
  have hq := fun {Sb : wS} (S : wS) (hS : rRun S0 Sb HT cs ms os X mo t A S) => hqo_r hx hk hr hw ho hS
  have hh := tyt_h hx hk hr
  rw [ho] at hh
  have hz := opS hx hk hr
  rw [ho] at hz
  have ha : 0 ≤ (opA S0 (a_K A t)) ∧ (opA S0 (a_K A t)) < 4000 := by have := hz.2.2.2.1 (Or.inl rfl); have := hx.2.2.2.2.2.2; omega
  rcases hw with ⟨rfl, rfl⟩ | ⟨rfl, rfl⟩
  · exact stO_K (ml := [217, 218]) hp (Or.inl ⟨rfl, rfl⟩) (by first | decide | omega) hA hE hB (fun S hS => z3e_215 (hc S hS).1 (hc S hS).2 hab hS.2.2.1.1.2.2.2.2.2 ha.1 hg hl) (fun S hS => rn3e (hq S hS).1 (hq S hS).2.2 (hq S hS).2.1 hab (rR_w hS).2.2 ha hg hl) (tyt_T hk hr) (fun v => kv_T v hr vG_n) (fLe_th)
  · exact stO_K (ml := [228, 229]) hp (Or.inr ⟨rfl, rfl⟩) (by first | decide | omega) hA hE hB (fun S hS => z3e_226 (hc S hS).1 (hc S hS).2 hab hS.2.2.1.1.2.2.2.2.2 ha.1 hg hl) (fun S hS => rn3e (hq S hS).1 (hq S hS).2.2 (hq S hS).2.1 hab (rR_w hS).2.2 ha hg hl) (tyt_T hk hr) (fun v => kv_T v hr vG_n) (fLe_th)

theorem so_3v (h : hyS S0 p X fa ms n WE B B2 w t A) (ho : opI S0 (a_K A t) = 3) (hl : 2000 ≤ (a_K A t).1.length) : stO xs d S0 p HT cs ms os X mo fa n WE B2 w t A := by
  obtain ⟨hp, hw, hx, hA, hE, hB, hr⟩ := h
  have hk := wT_of hA hw
  have hv := wV_of hA hw
  have hab := hab_x hx hk hr
  have hc := fun (S : wS) (hS : cRel S0 p HT cs ms os X mo A S) => hco_c hx hk hr hw ho hS
  have hq := fun {Sb : wS} (S : wS) (hS : rRun S0 Sb HT cs ms os X mo t A S) => hqo_r hx hk hr hw ho hS
  have hh := tyt_h hx hk hr
  rw [ho] at hh
  have hz := opS hx hk hr
  rw [ho] at hz
  have ha : 0 ≤ (opA S0 (a_K A t)) ∧ (opA S0 (a_K A t)) < 4000 := by have := hz.2.2.2.1 (Or.inl rfl); have := hx.2.2.2.2.2.2; omega
  rcases hw with ⟨rfl, rfl⟩ | ⟨rfl, rfl⟩
  · exact stO_K (ml := [217, 218]) hp (Or.inl ⟨rfl, rfl⟩) (by first | decide | omega) hA hE hB (fun S hS => zov_215 (hc S hS).1 (hc S hS).2 (by omega) hl) (fun S hS => rn3v (hq S hS).1 (hq S hS).2.2 (hq S hS).2.1 hab ha hl) (tyt_T hk hr) (fun v => kv_T v hr vG_n) (fLe_th)
  · exact stO_K (ml := [228, 229]) hp (Or.inr ⟨rfl, rfl⟩) (by first | decide | omega) hA hE hB (fun S hS => zov_226 (hc S hS).1 (hc S hS).2 (by omega) hl) (fun S hS => rn3v (hq S hS).1 (hq S hS).2.2 (hq S hS).2.1 hab ha hl) (tyt_T hk hr) (fun v => kv_T v hr vG_n) (fLe_th)

end Wkc
