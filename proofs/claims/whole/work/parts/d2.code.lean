/-! PART d2: compile of both: the same code. -/
section Wd2
variable {xs : List (Nat × List Int32)} {M : Nat → Prop} {d : Nat} {A B C S Z : wS} {Q : wO → wS → Prop}
variable {f0 u a b op : Int} {I : List pz_I} {F : List pz_F} {x : pz_I} {k r : Nat}
variable {n p sb un : Int} {T : Int → Int} {N X : List (List Int)} {c m pm i2 : Nat} {Z1 S1 Z2 : wS} {F2 : List pz_F} {I2 : List pz_I} {K Y E D K2 Y2 E2 D2 : Int → Int} {c1 c2 m0 : Int}
/-- the same descriptors -/
theorem dsc_eq (h1 : dN K Y E D m0 c1) (he : ∀ a b : Int, 0 ≤ a → a < m0 → 0 ≤ b → b < m0 → dk K Y E a b → D a = D b) (h2 : rDn K2 Y2 E2 D2 m0 c2) (e : ∀ i : Int, 0 ≤ i → i < m0 → K2 i = K i ∧ Y2 i = Y i ∧ E2 i = E i) : c1 = c2 ∧ ∀ s : Int, 0 ≤ s → s < m0 → D s = D2 s := by
  have hc : ∀ s : Nat, (s : Int) ≤ m0 → dcn K2 Y2 E2 s = dcn K Y E s := fun s hs => dcn_cg s (fun i i0 i1 => e i i0 (by omega))
  have hk : ∀ a b : Int, 0 ≤ a → a < m0 → 0 ≤ b → b < m0 → (dk K2 Y2 E2 a b ↔ dk K Y E a b) := fun a b a0 a1 b0 b1 => dk_cg (e a a0 a1) (e b b0 b1)
  obtain ⟨⟨g1, g2⟩, g3, g4, g5, g6⟩ := h2
  have hs : ∀ s : Nat, ∀ q : Nat, q ≤ s → (q : Int) < m0 → D (q : Int) = D2 (q : Int) := by
    intro s
    induction s with
    | zero =>
      intro q hq hm
      obtain rfl : q = 0 := by omega
      rw [h1.2 0 hm (fun o ho => absurd ho (Nat.not_lt_zero _)), g2 0 hm (fun o ho => absurd ho (Nat.not_lt_zero _)), hc 0 (by omega)]
    | succ s ih =>
      intro q hq hm
      by_cases eq : q ≤ s
      · exact ih q eq hm
      · by_cases hx : ∃ o : Nat, o < q ∧ dk K Y E (o : Int) (q : Int)
        · obtain ⟨o, o1, o2⟩ := hx
          rw [← he o q (by omega) (by omega) (by omega) hm o2, ih o (by omega) (by omega)]
          exact g3 o q (by omega) (by omega) (by omega) hm ((hk o q (by omega) (by omega) (by omega) hm).2 o2)
        · rw [h1.2 q hm (fun o ho z => hx ⟨o, ho, z⟩), g2 q hm (fun o ho z => hx ⟨o, ho, (hk o q (by omega) (by omega) (by omega) hm).1 z⟩), hc q (by omega)]
  refine ⟨?_, fun s s0 s1 => ?_⟩
  · rw [h1.1, g1, hc m0.toNat (by omega)]
  · have := hs s.toNat s.toNat (Nat.le_refl _) (by omega)
    rw [show ((s.toNat : Nat) : Int) = s by omega] at this
    exact this
/-- the same code in both -/
def mK (S : wS) : Prop := (S 19 1 = S 237 34 ∧ 0 ≤ S 237 34 ∧ S 237 34 ≤ 400) ∧ (S 19 3 = S 237 33 ∧ 0 ≤ S 237 33 ∧ S 237 33 ≤ 16) ∧ (S 19 7 = S 237 43 ∧ 0 ≤ S 237 43 ∧ S 237 43 ≤ 20000) ∧ (S 19 9 = S 237 47 ∧ 0 ≤ S 237 47 ∧ S 237 47 ≤ 4000) ∧ (∀ k : Int, 0 ≤ k → k < S 237 34 → (S 21 k = S 293 k ∧ S 22 k = S 295 k ∧ S 23 k = S 296 k ∧ S 27 k = S 297 k ∧ S 24 k = S 298 k ∧ S 25 k = S 299 k ∧ S 26 k = S 300 k) ∧ 0 ≤ S 297 k ∧ 0 ≤ S 298 k ∧ S 297 k + S 298 k ≤ S 237 43) ∧ (∀ k : Int, 0 ≤ k → k < S 237 33 → S 30 k = S 294 k ∧ 0 ≤ S 294 k ∧ S 294 k < S 237 34) ∧ (∀ x : Int, 0 ≤ x → x < S 237 43 → S 31 x = S 301 x ∧ S 32 x = S 302 x ∧ S 33 x = S 303 x) ∧ ∀ s : Int, 0 ≤ s → s < S 237 47 → (S 35 s = S 304 s ∧ S 36 s = S 305 s ∧ S 37 s = S 306 s ∧ S 38 s = S 307 s ∧ S 39 s = S 308 s ∧ S 41 s = S 310 s ∧ S 42 s = S 311 s ∧ S 43 s = S 312 s ∧ S 44 s = S 376 s ∧ S 45 s = S 313 s)
/-- nothing of it has changed -/
theorem mK_ag (h : mK S) (e19 : ∀ x : Int, Z 19 x = S 19 x) (e237 : ∀ x : Int, (x = 33 ∨ x = 34 ∨ x = 43 ∨ x = 47) → Z 237 x = S 237 x) (eF : ∀ (j : Nat) (x : Int), ((21 ≤ j ∧ j ≤ 29) ∨ (293 ≤ j ∧ j ≤ 300)) → 0 ≤ x → x < S 237 34 → Z j x = S j x) (eU : ∀ (j : Nat) (x : Int), (j = 30 ∨ j = 294) → 0 ≤ x → x < S 237 33 → Z j x = S j x) (eI : ∀ (j : Nat) (x : Int), ((31 ≤ j ∧ j ≤ 33) ∨ (301 ≤ j ∧ j ≤ 303)) → 0 ≤ x → x < S 237 43 → Z j x = S j x) (eS : ∀ (j : Nat) (x : Int), ((35 ≤ j ∧ j ≤ 46) ∨ (304 ≤ j ∧ j ≤ 313) ∨ j = 376) → 0 ≤ x → x < S 237 47 → Z j x = S j x) : mK Z := by
  obtain ⟨h1, h2, h3, h4, h5, h6, h7, h8⟩ := h
  unfold mK
  rw [e237 33 (by omega), e237 34 (by omega), e237 43 (by omega), e237 47 (by omega), e19, e19, e19, e19]
  refine ⟨h1, h2, h3, h4, fun k k0 k1 => ?_, fun k k0 k1 => ?_, fun x x0 x1 => ?_, fun s s0 s1 => ?_⟩
  · obtain ⟨⟨a1, a2, a3, a4, a5, a6, a7⟩, a8⟩ := h5 k k0 k1
    have r : ∀ j : Nat, ((21 ≤ j ∧ j ≤ 29) ∨ (293 ≤ j ∧ j ≤ 300 ∧ j ≠ 294)) → Z j k = S j k := fun j hj => eF j k (by omega) k0 k1
    rw [r 21 (by omega), r 22 (by omega), r 23 (by omega), r 24 (by omega), r 25 (by omega), r 26 (by omega), r 27 (by omega), r 293 (by omega), r 295 (by omega), r 296 (by omega), r 297 (by omega), r 298 (by omega), r 299 (by omega), r 300 (by omega)]
    exact ⟨⟨a1, a2, a3, a4, a5, a6, a7⟩, a8⟩
  · rw [eU 30 k (Or.inl rfl) k0 k1, eU 294 k (Or.inr rfl) k0 k1]; exact h6 k k0 k1
  · rw [eI 31 x (by omega) x0 x1, eI 32 x (by omega) x0 x1, eI 33 x (by omega) x0 x1, eI 301 x (by omega) x0 x1, eI 302 x (by omega) x0 x1, eI 303 x (by omega) x0 x1]; exact h7 x x0 x1
  · have r : ∀ j : Nat, ((35 ≤ j ∧ j ≤ 46) ∨ (304 ≤ j ∧ j ≤ 313) ∨ j = 376) → Z j s = S j s := fun j hj => eS j s hj s0 s1
    rw [r 35 (by omega), r 36 (by omega), r 37 (by omega), r 38 (by omega), r 39 (by omega), r 41 (by omega), r 42 (by omega), r 43 (by omega), r 44 (by omega), r 45 (by omega), r 304 (by omega), r 305 (by omega), r 306 (by omega), r 307 (by omega), r 308 (by omega), r 310 (by omega), r 311 (by omega), r 312 (by omega), r 313 (by omega), r 376 (by omega)]
    exact h8 s s0 s1
/-- an instruction's place belongs to a function -/
theorem PS_fi (f0 : Int) (I : List pz_I) : ∀ (m : Nat) (y : Int), 0 ≤ y → y < (psm (fun u => pz_h I u) f0 m) → ∃ k t : Nat, k < m ∧ t < (on (f0 + (k : Int)) I).length ∧ y = (psm (fun u => pz_h I u) f0 k) + (t : Int) := by
  intro m
  induction m with
  | zero =>
    intro y y0 y1
    have : (psm (fun u => pz_h I u) f0 0) = 0 := rfl
    omega
  | succ m ih =>
    intro y y0 y1
    by_cases h : y < (psm (fun u => pz_h I u) f0 m)
    · obtain ⟨k, t, h1, h2, h3⟩ := ih y y0 h
      exact ⟨k, t, by omega, h2, h3⟩
    · have h1 := PS_s f0 I m
      have h2 := on_len (f0 + (m : Int)) I
      exact ⟨m, (y - (psm (fun u => pz_h I u) f0 m)).toNat, by omega, by omega, by omega⟩
theorem os_fi (u : Int) (I : List pz_I) : ∀ (r : Nat), r ≤ (on u I).length → ∀ y : Int, 0 ≤ y → y < os u I r → ∃ t : Nat, t < r ∧ (ox u I t).1 = 27 ∧ os u I t = y := by
  intro r
  induction r with
  | zero =>
    intro _ y y0 y1
    have : os u I 0 = 0 := by unfold os; rw [List.take_zero]; rfl
    omega
  | succ r ih =>
    intro hr y y0 y1
    have h1 := os_s (u := u) (I := I) (r := r) (by omega)
    by_cases h : y < os u I r
    · obtain ⟨t, t1, t2, t3⟩ := ih (by omega) y y0 h
      exact ⟨t, by omega, t2, t3⟩
    · by_cases e : (ox u I r).1 = 27
      · rw [if_pos e] at h1
        exact ⟨r, by omega, e, by omega⟩
      · rw [if_neg e] at h1
        omega
theorem SS_fi (f0 : Int) (I : List pz_I) : ∀ (m : Nat) (y : Int), 0 ≤ y → y < (psm (fun u => pz_s (on u I)) f0 m) → ∃ k t : Nat, k < m ∧ t < (on (f0 + (k : Int)) I).length ∧ (ox (f0 + (k : Int)) I t).1 = 27 ∧ y = (psm (fun u => pz_s (on u I)) f0 k) + os (f0 + (k : Int)) I t := by
  intro m
  induction m with
  | zero =>
    intro y y0 y1
    have : (psm (fun u => pz_s (on u I)) f0 0) = 0 := rfl
    omega
  | succ m ih =>
    intro y y0 y1
    by_cases h : y < (psm (fun u => pz_s (on u I)) f0 m)
    · obtain ⟨k, t, h1, h2, h3⟩ := ih y y0 h
      exact ⟨k, t, by omega, h2, h3⟩
    · have h1 := SS_s f0 I m
      have h2 := os_all (f0 + (m : Int)) I
      obtain ⟨t, t1, t2, t3⟩ := os_fi (f0 + (m : Int)) I _ (Nat.le_refl _) (y - (psm (fun u => pz_s (on u I)) f0 m)) (by omega) (by omega)
      exact ⟨m, t, by omega, t1, t2, by omega⟩
/-- a unit has come to both -/
theorem mK_s (h : mK S) (hf : S 237 34 = f0) (hu : S 237 33 = un) (hp : S 237 43 = p) (hs : S 237 47 = sb) (hF : f0 + (F.length : Int) ≤ 400 ∧ 0 < F.length) (hun : un < 16) (hfit : p + (I.length : Int) ≤ 20000 ∧ sb + pz_s I ≤ 4000) (hown : ∀ x ∈ I, f0 ≤ x.2.2.2 ∧ x.2.2.2 < f0 + (F.length : Int))
    (a0 : Z 19 3 = un + 1 ∧ Z 19 1 = f0 + (F.length : Int) ∧ Z 19 7 = p + (I.length : Int) ∧ Z 19 9 = sb + pz_s I ∧ Z 30 un = f0) (a1 : ∀ k : Nat, k < F.length → cRf f0 I F un p sb k Z) (b0 : Z 237 33 = un + 1 ∧ Z 237 34 = f0 + (F.length : Int) ∧ Z 237 43 = p + (I.length : Int) ∧ Z 237 47 = sb + pz_s I ∧ Z 294 un = f0) (b1 : ∀ k : Nat, k < F.length → kR f0 I F un p sb k Z)
    (eF : ∀ (j : Nat) (x : Int), ((21 ≤ j ∧ j ≤ 29) ∨ (293 ≤ j ∧ j ≤ 300 ∧ j ≠ 294)) → 0 ≤ x → x < f0 → Z j x = S j x) (eU : ∀ (j : Nat) (x : Int), (j = 30 ∨ j = 294) → 0 ≤ x → x < un → Z j x = S j x) (eI : ∀ (j : Nat) (x : Int), ((31 ≤ j ∧ j ≤ 33) ∨ (301 ≤ j ∧ j ≤ 303)) → 0 ≤ x → x < p → Z j x = S j x) (eS : ∀ (j : Nat) (x : Int), ((35 ≤ j ∧ j ≤ 46) ∨ (304 ≤ j ∧ j ≤ 313) ∨ j = 376) → 0 ≤ x → x < sb → Z j x = S j x) : mK Z := by
  obtain ⟨h1, h2, h3, h4, h5, h6, h7, h8⟩ := h
  rw [hf] at h1 h5 h6
  rw [hu] at h2 h6
  rw [hp] at h3 h5 h7
  rw [hs] at h4 h8
  obtain ⟨a2, a3, a4, a5, a6⟩ := a0
  obtain ⟨b2, b3, b4, b5, b6⟩ := b0
  have hall := psm_h f0 F.length I hown
  have hsal := psm_so f0 F.length I hown
  have hsn := pz_s_nn I
  unfold mK
  rw [b2, b3, b4, b5, a2, a3, a4, a5]
  refine ⟨⟨rfl, by omega, by omega⟩, ⟨rfl, by omega, by omega⟩, ⟨rfl, by omega, by omega⟩, ⟨rfl, by omega, by omega⟩, fun k k0 k1 => ?_, fun k k0 k1 => ?_, fun x x0 x1 => ?_, fun s s0 s1 => ?_⟩
  · by_cases e : k < f0
    · obtain ⟨⟨c1, c2, c3, c4, c5, c6, c7⟩, c8⟩ := h5 k k0 e
      have r : ∀ j : Nat, ((21 ≤ j ∧ j ≤ 29) ∨ (293 ≤ j ∧ j ≤ 300 ∧ j ≠ 294)) → Z j k = S j k := fun j hj => eF j k (by omega) k0 e
      rw [r 21 (by omega), r 22 (by omega), r 23 (by omega), r 24 (by omega), r 25 (by omega), r 26 (by omega), r 27 (by omega), r 293 (by omega), r 295 (by omega), r 296 (by omega), r 297 (by omega), r 298 (by omega), r 299 (by omega), r 300 (by omega)]
      exact ⟨⟨c1, c2, c3, c4, c5, c6, c7⟩, by omega, by omega, by omega⟩
    · obtain ⟨q, rfl⟩ : ∃ q : Nat, k = f0 + (q : Int) := ⟨(k - f0).toNat, by omega⟩
      obtain ⟨⟨c1, c2, c3, c4, c5, c6, c7⟩, -⟩ := a1 q (by omega)
      obtain ⟨⟨d1, d2, d3, d4, d5, d6, d7⟩, -⟩ := b1 q (by omega)
      have m1 := PS_le f0 I (show q + 1 ≤ F.length by omega)
      have m2 := PS_le f0 I (Nat.le_refl q)
      have m3 := PS_s f0 I q
      have m4 := (pz_h_rg I (f0 + (q : Int))).1
      refine ⟨⟨c1.trans d1.symm, c2.trans d2.symm, c3.trans d3.symm, c4.trans d4.symm, c5.trans d5.symm, c6.trans d6.symm, c7.trans d7.symm⟩, by rw [d4]; omega, by rw [d5]; omega, by rw [d4, d5]; omega⟩
  · by_cases e : k < un
    · obtain ⟨c1, c2, c3⟩ := h6 k k0 e
      rw [eU 30 k (Or.inl rfl) k0 e, eU 294 k (Or.inr rfl) k0 e]
      exact ⟨c1, c2, by omega⟩
    · obtain rfl : k = un := by omega
      rw [a6, b6]
      exact ⟨rfl, by omega, by omega⟩
  · by_cases e : x < p
    · rw [eI 31 x (by omega) x0 e, eI 32 x (by omega) x0 e, eI 33 x (by omega) x0 e, eI 301 x (by omega) x0 e, eI 302 x (by omega) x0 e, eI 303 x (by omega) x0 e]
      exact h7 x x0 e
    · obtain ⟨k, t, k1, k2, k3⟩ := PS_fi f0 I F.length (x - p) (by omega) (by omega)
      obtain rfl : x = p + (psm (fun u => pz_h I u) f0 k) + (t : Int) := by omega
      obtain ⟨c1, c2, c3⟩ := ((a1 k k1).2 t k2).1
      obtain ⟨d1, d2, d3⟩ := ((b1 k k1).2 t k2).1
      exact ⟨c1.trans d1.symm, c2.trans d2.symm, c3.trans d3.symm⟩
  · by_cases e : s < sb
    · have r : ∀ j : Nat, ((35 ≤ j ∧ j ≤ 46) ∨ (304 ≤ j ∧ j ≤ 313) ∨ j = 376) → Z j s = S j s := fun j hj => eS j s hj s0 e
      rw [r 35 (by omega), r 36 (by omega), r 37 (by omega), r 38 (by omega), r 39 (by omega), r 41 (by omega), r 42 (by omega), r 43 (by omega), r 44 (by omega), r 45 (by omega), r 304 (by omega), r 305 (by omega), r 306 (by omega), r 307 (by omega), r 308 (by omega), r 310 (by omega), r 311 (by omega), r 312 (by omega), r 313 (by omega), r 376 (by omega)]
      exact h8 s s0 e
    · obtain ⟨k, t, k1, k2, k3, k4⟩ := SS_fi f0 I F.length (s - sb) (by omega) (by omega)
      obtain rfl : s = sb + (psm (fun u => pz_s (on u I)) f0 k) + os (f0 + (k : Int)) I t := by omega
      obtain ⟨c1, c2, c3, c4, c5, c6, c7⟩ := ((a1 k k1).2 t k2).2 k3
      obtain ⟨d1, d2, d3, d4, d5, d6, d7, d8, d9, d10⟩ := ((b1 k k1).2 t k2).2 k3
      exact ⟨c1.trans d1.symm, c2.trans d2.symm, c3.trans d3.symm, c4.trans d4.symm, c5.trans d5.symm, (c6 41 (by decide) (by decide)).trans d6.symm, (c6 42 (by decide) (by decide)).trans d7.symm, (c6 43 (by decide) (by decide)).trans d8.symm, (c6 44 (by decide) (by decide)).trans d10.symm, (c6 45 (by decide) (by decide)).trans d9.symm⟩
/-- descriptors of both -/
theorem mK_d (h : mK S) (h1 : si_L S) (h2 : dN (S 35) (S 36) (S 37) (S 40) (S 19 9) (S 19 16)) (h3 : rD S) : S 19 16 = S 237 48 ∧ ∀ s : Int, 0 ≤ s → s < S 237 47 → S 40 s = S 309 s := by
  obtain ⟨-, -, -, k4, -, -, -, k8⟩ := h
  have hI := h1.2.2.2.2.2.2.2
  rw [k4.1] at h2 hI
  exact dsc_eq h2 (fun a b a0 a1 b0 b1 q => dI_eq hI ⟨a0, a1⟩ ⟨b0, b1⟩ q) h3 (fun i i0 i1 => by
    obtain ⟨a1, a2, a3, -⟩ := k8 i i0 i1
    exact ⟨a1.symm, a2.symm, a3.symm⟩)
end Wd2
