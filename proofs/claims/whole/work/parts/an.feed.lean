/-! PART an: feed of both: the same answer, the same tape. -/
section Wan
variable {xs : List (Nat × List Int32)} {M : Nat → Prop} {d c : Nat} {A B C S Z : wS} {Q : wO → wS → Prop} {T : Int → Int} {n : Int}
theorem tyS_p {v : Int} (h0 : 0 ≤ S 237 3) : ∀ t : Nat, ty_S v S t 237 3 = S 237 3 + (fd_n (fun q => sb v (56 - 8 * (q : Int))) t : Nat) ∧ (∀ q : Nat, q < t → sb v (56 - 8 * (q : Int)) ≠ 0 → ty_S v S t 239 (S 237 3 + (fd_n (fun q => sb v (56 - 8 * (q : Int))) q : Nat)) = sb v (56 - 8 * (q : Int))) ∧ (∀ i : Int, i < S 237 3 → ty_S v S t 239 i = S 239 i) ∧ ∀ (j : Nat) (i : Int), j ≠ 239 → (j ≠ 237 ∨ i ≠ 3) → ty_S v S t j i = S j i := by
  intro t
  induction t with
  | zero => exact ⟨by show S 237 3 = S 237 3 + ((0 : Nat) : Int); omega, fun q hq => absurd hq (Nat.not_lt_zero _), fun _ _ => rfl, fun _ _ _ _ => rfl⟩
  | succ t ih =>
    obtain ⟨i1, i2, i3, i4⟩ := ih
    by_cases hb : sb v (56 - 8 * (t : Int)) = 0
    · have e : ty_S v S (t + 1) = ty_S v S t := if_pos hb
      have en : fd_n (fun q => sb v (56 - 8 * (q : Int))) (t + 1) = fd_n (fun q => sb v (56 - 8 * (q : Int))) t := fd_n_0 hb
      rw [e, en]
      refine ⟨i1, fun q hq hq0 => ?_, i3, i4⟩
      by_cases hqt : q = t
      · subst hqt; exact absurd hb hq0
      · exact i2 q (by omega) hq0
    · have e : ty_S v S (t + 1) = w_up (w_up (ty_S v S t) 239 (ty_S v S t 237 3) (sb v (56 - 8 * (t : Int)))) 237 3 (ty_S v S t 237 3 + 1) := if_neg hb
      have en : fd_n (fun q => sb v (56 - 8 * (q : Int))) (t + 1) = fd_n (fun q => sb v (56 - 8 * (q : Int))) t + 1 := fd_n_1 hb
      rw [e, en]
      refine ⟨by rw [w_up_same, i1]; omega, fun q hq hq0 => ?_, fun i hi => ?_, fun j i h1 h2 => ?_⟩
      · rw [w_up_slot (by decide)]
        by_cases hqt : q = t
        · subst hqt; rw [i1, w_up_same]
        · have hm : fd_n (fun q => sb v (56 - 8 * (q : Int))) (q + 1) ≤ fd_n (fun q => sb v (56 - 8 * (q : Int))) t := fd_n_mono _ _ _ (by omega)
          have hm2 : fd_n (fun q => sb v (56 - 8 * (q : Int))) (q + 1) = fd_n (fun q => sb v (56 - 8 * (q : Int))) q + 1 := fd_n_1 hq0
          rw [w_up_at (by rw [i1]; omega)]
          exact i2 q (by omega) hq0
      · rw [w_up_slot (by decide), w_up_at (by rw [i1]; omega)]; exact i3 i hi
      · rw [w_up_no (by omega), w_up_slot h1]; exact i4 j i h1 h2
theorem sl_fd (v : Int) : sl_n v 8 = ((fd_n (fun q => sb v (56 - 8 * (q : Int))) 8 : Nat) : Int) := by
  have key : ∀ c : Int, (((if sb v c = 0 then (0 : Nat) else 1) : Nat) : Int) = if sb v c = 0 then (0 : Int) else 1 := fun c => by split <;> rfl
  have h1 : sl_n v 8 = 0 + (if sb v 0 = 0 then (0 : Int) else 1) + (if sb v 8 = 0 then (0 : Int) else 1) + (if sb v 16 = 0 then (0 : Int) else 1) + (if sb v 24 = 0 then (0 : Int) else 1) + (if sb v 32 = 0 then (0 : Int) else 1) + (if sb v 40 = 0 then (0 : Int) else 1) + (if sb v 48 = 0 then (0 : Int) else 1) + (if sb v 56 = 0 then (0 : Int) else 1) := rfl
  have h2 : fd_n (fun q => sb v (56 - 8 * (q : Int))) 8 = 0 + (if sb v 56 = 0 then (0 : Nat) else 1) + (if sb v 48 = 0 then (0 : Nat) else 1) + (if sb v 40 = 0 then (0 : Nat) else 1) + (if sb v 32 = 0 then (0 : Nat) else 1) + (if sb v 24 = 0 then (0 : Nat) else 1) + (if sb v 16 = 0 then (0 : Nat) else 1) + (if sb v 8 = 0 then (0 : Nat) else 1) + (if sb v 0 = 0 then (0 : Nat) else 1) := rfl
  have k0 := key 0
  have k8 := key 8
  have k16 := key 16
  have k24 := key 24
  have k32 := key 32
  have k40 := key 40
  have k48 := key 48
  have k56 := key 56
  rw [h1, h2]
  generalize (if sb v 0 = 0 then (0 : Nat) else 1) = x0 at *
  generalize (if sb v 0 = 0 then (0 : Int) else 1) = y0 at *
  generalize (if sb v 8 = 0 then (0 : Nat) else 1) = x8 at *
  generalize (if sb v 8 = 0 then (0 : Int) else 1) = y8 at *
  generalize (if sb v 16 = 0 then (0 : Nat) else 1) = x16 at *
  generalize (if sb v 16 = 0 then (0 : Int) else 1) = y16 at *
  generalize (if sb v 24 = 0 then (0 : Nat) else 1) = x24 at *
  generalize (if sb v 24 = 0 then (0 : Int) else 1) = y24 at *
  generalize (if sb v 32 = 0 then (0 : Nat) else 1) = x32 at *
  generalize (if sb v 32 = 0 then (0 : Int) else 1) = y32 at *
  generalize (if sb v 40 = 0 then (0 : Nat) else 1) = x40 at *
  generalize (if sb v 40 = 0 then (0 : Int) else 1) = y40 at *
  generalize (if sb v 48 = 0 then (0 : Nat) else 1) = x48 at *
  generalize (if sb v 48 = 0 then (0 : Int) else 1) = y48 at *
  generalize (if sb v 56 = 0 then (0 : Nat) else 1) = x56 at *
  generalize (if sb v 56 = 0 then (0 : Int) else 1) = y56 at *
  omega
theorem fd_8 (g : Nat → Int) (t : Nat) : fd_n g (8 + t) = fd_n g 8 + fd_n (fun q => g (8 + q)) t := by
  induction t with
  | zero => rfl
  | succ t ih =>
    show fd_n g (8 + t) + (if g (8 + t) = 0 then 0 else 1) = fd_n g 8 + (fd_n (fun q => g (8 + q)) t + (if g (8 + t) = 0 then 0 else 1))
    rw [ih]; omega
theorem fd_cg {g h : Nat → Int} : ∀ t : Nat, (∀ q : Nat, q < t → g q = h q) → fd_n g t = fd_n h t := by
  intro t
  induction t with
  | zero => intro _; rfl
  | succ t ih =>
    intro e
    show fd_n g t + (if g t = 0 then 0 else 1) = fd_n h t + (if h t = 0 then 0 else 1)
    rw [ih (fun q hq => e q (by omega)), e t (by omega)]
theorem fb_lo {a b : Int} {q : Nat} (h : q < 8) : fb a b q = sb a (56 - 8 * (q : Int)) := if_pos h
theorem fb_hi {a b : Int} (q : Nat) : fb a b (8 + q) = sb b (56 - 8 * (q : Int)) := by
  unfold fb
  rw [if_neg (by omega)]
  congr 1
  omega
theorem fb_ok {a b : Int} : (∀ q : Nat, q < 16 → sg_ok (fb a b q)) ↔ ((∀ t : Nat, t < 8 → sg_ok (sb a (8 * (t : Int)))) ∧ ∀ t : Nat, t < 8 → sg_ok (sb b (8 * (t : Int)))) := by
  constructor
  · intro h
    refine ⟨fun t ht => ?_, fun t ht => ?_⟩
    · have := h (7 - t) (by omega)
      rw [fb_lo (by omega), show 56 - 8 * (((7 - t : Nat)) : Int) = 8 * (t : Int) by omega] at this
      exact this
    · have := h (8 + (7 - t)) (by omega)
      rw [fb_hi, show 56 - 8 * (((7 - t : Nat)) : Int) = 8 * (t : Int) by omega] at this
      exact this
  · rintro ⟨h1, h2⟩ q hq
    by_cases h8 : q < 8
    · rw [fb_lo h8, show 56 - 8 * (q : Int) = 8 * ((7 - q : Nat) : Int) by omega]
      exact h1 _ (by omega)
    · rw [show q = 8 + (q - 8) by omega, fb_hi, show 56 - 8 * ((q - 8 : Nat) : Int) = 8 * ((7 - (q - 8) : Nat) : Int) by omega]
      exact h2 _ (by omega)
theorem fb_n (a b : Int) : ((fd_n (fb a b) 16 : Nat) : Int) = sl_n a 8 + sl_n b 8 := by
  rw [sl_fd, sl_fd, show (16 : Nat) = 8 + 8 from rfl, fd_8, fd_cg (g := fb a b) (h := fun q => sb a (56 - 8 * (q : Int))) 8 (fun q hq => fb_lo hq), fd_cg (g := fun q => fb a b (8 + q)) (h := fun q => sb b (56 - 8 * (q : Int))) 8 (fun q hq => fb_hi q)]
  omega
theorem mfS_p {a b : Int} (h0 : 0 ≤ S 237 3) : mf_S S a b 237 3 = S 237 3 + (fd_n (fb a b) 16 : Nat) ∧ (∀ q : Nat, q < 16 → fb a b q ≠ 0 → mf_S S a b 239 (S 237 3 + (fd_n (fb a b) q : Nat)) = fb a b q) ∧ (∀ i : Int, i < S 237 3 → mf_S S a b 239 i = S 239 i) ∧ ∀ (j : Nat) (i : Int), j ≠ 239 → (j ≠ 237 ∨ (i ≠ 0 ∧ i ≠ 3)) → mf_S S a b j i = S j i := by
  have z0 : (w_up S 237 0 0) 237 3 = S 237 3 := w_up_at (by decide)
  obtain ⟨i1, i2, i3, i4⟩ := tyS_p (v := a) (S := w_up S 237 0 0) (by rw [z0]; exact h0) 8
  rw [z0] at i1 i2 i3
  have g8 : fd_n (fb a b) 8 = fd_n (fun q => sb a (56 - 8 * (q : Int))) 8 := fd_cg 8 (fun q hq => fb_lo hq)
  obtain ⟨j1, j2, j3, j4⟩ := tyS_p (v := b) (S := ty_S a (w_up S 237 0 0) 8) (by rw [i1]; omega) 8
  rw [i1, ← g8] at j1 j2 j3
  have g16 : fd_n (fb a b) 16 = fd_n (fb a b) 8 + fd_n (fun q => sb b (56 - 8 * (q : Int))) 8 := by
    rw [show (16 : Nat) = 8 + 8 from rfl, fd_8, fd_cg (g := fun q => fb a b (8 + q)) (h := fun q => sb b (56 - 8 * (q : Int))) 8 (fun q hq => fb_hi q)]
  refine ⟨by rw [g16]; show ty_S b (ty_S a (w_up S 237 0 0) 8) 8 237 3 = _; rw [j1]; omega, fun q hq hq0 => ?_, fun i hi => ?_, fun j i h1 h2 => ?_⟩
  · by_cases h8 : q < 8
    · have e1 : fd_n (fb a b) q = fd_n (fun q => sb a (56 - 8 * (q : Int))) q := fd_cg q (fun r hr => fb_lo (by omega))
      have e2 : fd_n (fb a b) (q + 1) = fd_n (fb a b) q + 1 := fd_n_1 hq0
      have e3 := fd_n_mono (fb a b) 8 (q + 1) (by omega)
      have e4 := i2 q h8 (by rw [← fb_lo h8 (b := b)]; exact hq0)
      show ty_S b (ty_S a (w_up S 237 0 0) 8) 8 239 _ = _
      rw [j3 _ (by omega), e1, e4, fb_lo h8]
    · have e1 : fd_n (fb a b) q = fd_n (fb a b) 8 + fd_n (fun q => sb b (56 - 8 * (q : Int))) (q - 8) := by
        have := fd_8 (fb a b) (q - 8)
        rw [show 8 + (q - 8) = q by omega] at this
        rw [this, fd_cg (g := fun q => fb a b (8 + q)) (h := fun q => sb b (56 - 8 * (q : Int))) (q - 8) (fun r hr => fb_hi r)]
      have e5 : fb a b q = sb b (56 - 8 * ((q - 8 : Nat) : Int)) := by
        have := fb_hi (a := a) (b := b) (q - 8)
        rw [show 8 + (q - 8) = q by omega] at this
        exact this
      have e4 := j2 (q - 8) (by omega) (by rw [← e5]; exact hq0)
      show ty_S b (ty_S a (w_up S 237 0 0) 8) 8 239 _ = _
      rw [e5, ← e4, e1]
      congr 1
      omega
  · show ty_S b (ty_S a (w_up S 237 0 0) 8) 8 239 i = _
    rw [j3 i (by omega), i3 i hi]
    exact w_up_slot (by decide)
  · show ty_S b (ty_S a (w_up S 237 0 0) 8) 8 j i = _
    rw [j4 j i h1 (by omega), i4 j i h1 (by omega)]
    exact w_up_no (by omega)
/-- feed -/
theorem bf {t0 m0 ob p q b b2 : Nat} {a e : Int} {o1 o2 : wO} {S2 : wS} (hp : 18 < p ∧ p < 237 ∧ 18 < q) (hb : 239 < b ∧ b + 19 < 400 ∧ 18 < t0 ∧ t0 + 4 < 237 ∧ 18 < m0 ∧ m0 + 14 < 237 ∧ 18 < ob ∧ ob < 237) (hR : RA t0 m0 ob p q b b2 S) (h1 : (¬ ((∀ q : Nat, q < 16 → sg_ok (fb a e q)) ∧ S 0 1 + (fd_n (fb a e) 16 : Nat) ≤ 65536) ∧ Z = S ∧ o1 = .inl (some (0, -1))) ∨ (((∀ q : Nat, q < 16 → sg_ok (fb a e q)) ∧ S 0 1 + (fd_n (fb a e) 16 : Nat) ≤ 65536) ∧ xfed (fb a e) S Z ∧ o1 = .inl (some (0, S 0 1 + (fd_n (fb a e) 16 : Nat))))) (h2 : (¬ mf_ok Z a e ∧ w_up Z 237 0 0 = S2 ∧ o2 = .inl (some (0, -1))) ∨ (mf_ok Z a e ∧ mf_S Z a e = S2 ∧ o2 = .inl (some (0, mf_S Z a e 237 3)))) : (∃ v : Int, o1 = .inl (some (0, v)) ∧ o2 = .inl (some (0, v))) ∧ RA t0 m0 ob p q b b2 S2 := by
  obtain ⟨r1, r2, r3, ⟨r4, r5⟩, r6, r7, r8⟩ := hR
  have hw := r1.2.2.2.2.2.2.2.1
  have key : Z 237 3 = S 237 3 → (mf_ok Z a e ↔ ((∀ q : Nat, q < 16 → sg_ok (fb a e q)) ∧ S 0 1 + (fd_n (fb a e) 16 : Nat) ≤ 65536)) := fun hz => by
    unfold mf_ok
    rw [fb_ok, hz, ← r6, fb_n]
    constructor
    · rintro ⟨x1, x2, x3⟩; exact ⟨⟨x1, x2⟩, by omega⟩
    · rintro ⟨⟨x1, x2⟩, x3⟩; exact ⟨x1, x2, by omega⟩
  rcases h1 with ⟨n1, rfl, e1⟩ | ⟨n1, x1, e1⟩
  · rcases h2 with ⟨n2, rfl, e2⟩ | ⟨n2, -⟩
    · refine ⟨⟨-1, e1, e2⟩, ?_⟩
      have es : ∀ j : Nat, j ≠ 237 → w_up Z 237 0 0 j = Z j := fun j hj => w_up_row hj
      refine ⟨cW_ag r1 (gI_up r1.2.1 (by decide) (Or.inl (by decide)) (Or.inl (Or.inl (by decide)))) (fun j hj => es j (by omega)), cH_ag r2 hp.2.1 (fun j hj => es j (by omega)), fun y hy => (w_up_at (by decide)).trans (r3 y hy), ⟨(w_up_at (by decide)).trans r4, (w_up_at (by decide)).trans r5⟩, ?_, ?_, ?_⟩
      · rw [es 0 (by decide), w_up_at (by decide)]; exact r6
      · rw [es 0 (by decide), es 1 (by decide), es 239 (by decide)]; exact r7
      · exact KQ_ag (lo := 18) (hi := 236) r8 (fun j j0 j1 => es j (by omega)) (fun j j0 j1 => es j (by omega)) (by omega)
    · exact absurd ((key rfl).mp n2) n1
  · obtain ⟨x1, x2, x3, x4, x5, x6, x7⟩ := x1
    have hG : ∀ j : Nat, j < 400 → j ≠ wG := fun j hj => by unfold wG; omega
    have zj : ∀ j : Nat, j < 400 → j ≠ 0 → j ≠ 1 → j ≠ 14 → Z j = S j := fun j h h0 h1 h14 => funext fun i => x6 j i (by omega) (hG j h) h1 (by omega) (by omega)
    have z237 : Z 237 = S 237 := zj 237 (by decide) (by decide) (by decide) (by decide)
    have z239 : Z 239 = S 239 := zj 239 (by decide) (by decide) (by decide) (by decide)
    have hk := key (congrFun z237 3)
    rcases h2 with ⟨n2, -⟩ | ⟨n2, rfl, e2⟩
    · exact absurd (hk.mpr n1) n2
    · have h3 : Z 237 3 = S 0 1 := (congrFun z237 3).trans r6.symm
      obtain ⟨m1, m2, m3, m4⟩ := mfS_p (S := Z) (a := a) (b := e) (by rw [h3]; exact hw.1)
      rw [h3] at m1 m2 m3
      refine ⟨⟨_, e1, by rw [e2, m1]⟩, ?_⟩
      have es : ∀ j : Nat, j ≠ 237 → j ≠ 239 → mf_S Z a e j = Z j := fun j h h9 => funext fun i => m4 j i h9 (by omega)
      have hl : ∀ j : Nat, mf_S Z a e j (-1) = Z j (-1) := fun j => by
        by_cases h9 : j = 239
        · subst h9; exact m3 (-1) (by have := hw.1; omega)
        · exact m4 j (-1) h9 (by omega)
      have gz : gI (mf_S Z a e) := gI_ag2 x5 (fun j j0 => hl j) (fun y hy => m4 238 (y : Int) (by decide) (by omega)) (m4 14 5 (by decide) (by omega))
      have zl : ∀ j : Nat, j < 400 → j ≠ 1 → Z j (-1) = S j (-1) := fun j h h1 => x6 j (-1) (by omega) (hG j h) h1 (by omega) (by omega)
      obtain ⟨k1, k2, k3, k4, k5, k6, k7, k8, k9, k10, k11⟩ := r1
      have cz : cW Z := by
        refine ⟨fun y hy => (zl y.1 (by have := wz_lt y hy; omega) (wz_lt y hy).2.2).trans (k1 y hy), x5, w2_ag k3 (fun x hx => zj (2 + x) (by omega) (by omega) (by omega) (by omega)), hi_ag k4 (fun x hx => zj (74 + x) (by omega) (by omega) (by omega) (by omega)) (zl 117 (by decide) (by decide)) (zl 118 (by decide) (by decide)), hi_ag k5 (fun x hx => zj (163 + x) (by omega) (by omega) (by omega) (by omega)) (zl 206 (by decide) (by decide)) (zl 207 (by decide) (by decide)), ?_, ?_, ?_, ?_, ?_, ?_⟩
        · unfold hs_R; rw [zl 15 (by decide) (by decide), zl 16 (by decide) (by decide), zl 17 (by decide) (by decide)]; exact k6
        · rw [zj 161 (by decide) (by decide) (by decide) (by decide)]; exact k7
        · rw [x1]; have := n1.2; have := x4.1; rw [x1] at this; exact ⟨by omega, by omega, by omega, x4.2⟩
        · intro i i0 i1
          rw [x1] at i1
          by_cases hi : i < S 0 1
          · rw [x3 i i0 hi]; exact k9 i i0 hi
          · obtain ⟨q1, q2, q3, q4⟩ := fd_sur (fb a e) 16 (i - S 0 1).toNat (by omega)
            have := x2 q1 q2 q4
            rw [q3, show S 0 1 + (((i - S 0 1).toNat : Nat) : Int) = i by omega] at this
            rw [this]
            have hs := n1.1 q1 q2
            unfold sg_ok at hs
            omega
        · rw [zl 48 (by decide) (by decide)]; exact k10
        · rw [zl 144 (by decide) (by decide), zl 145 (by decide) (by decide), zl 146 (by decide) (by decide), zl 147 (by decide) (by decide), zl 148 (by decide) (by decide)]; exact k11
      have ch : cH p q Z := by
        unfold cH at r2 ⊢
        rw [zj 72 (by decide) (by decide) (by decide) (by decide), zj 150 (by decide) (by decide) (by decide) (by decide), zj p (by omega) (by omega) (by omega) (by omega), x6 0 10 (by decide) (by decide) (by decide) (by decide) (by decide)]
        exact r2
      refine ⟨cW_ag cz gz (fun j hj => es j (by omega) (by omega)), cH_ag ch hp.2.1 (fun j hj => es j (by omega) (by omega)), fun y hy => (hl y.1).trans ((zl y.1 (by have := wy_lt y hy; omega) (by have := wy_lt y hy; omega)).trans (r3 y hy)), ⟨(m4 237 13 (by decide) (by decide)).trans ((congrFun z237 13).trans r4), (m4 237 14 (by decide) (by decide)).trans ((congrFun z237 14).trans r5)⟩, ?_, fun i i0 i1 => ?_, ?_⟩
      · rw [es 0 (by decide) (by decide), x1, m1]
      · rw [es 0 (by decide) (by decide), x1] at i1
        rw [es 1 (by decide) (by decide)]
        by_cases hi : i < S 0 1
        · rw [x3 i i0 hi, m3 i hi, z239]; exact r7 i i0 hi
        · obtain ⟨q1, q2, q3, q4⟩ := fd_sur (fb a e) 16 (i - S 0 1).toNat (by omega)
          have y1 := x2 q1 q2 q4
          have y2 := m2 q1 q2 q4
          rw [q3, show S 0 1 + (((i - S 0 1).toNat : Nat) : Int) = i by omega] at y1 y2
          rw [y1, y2]
      · exact KQ_ag (lo := 18) (hi := 236) r8 (fun j j0 j1 => (es j (by omega) (by omega)).trans (zj j (by omega) (by omega) (by omega) (by omega))) (fun j j0 j1 => (es j (by omega) (by omega)).trans (zj j (by omega) (by omega) (by omega) (by omega))) (by omega)
end Wan
