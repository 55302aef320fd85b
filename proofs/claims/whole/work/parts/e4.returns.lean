/-! PART e4: tasks: RETURN, TRY, END. -/
section We4
variable {S Z A : wS} {K : aK} {k v q t how h c p z x : Int} {a : aV} {w m m1 m2 tb : Nat}
theorem td_e {B : Int → Int} (h0 : tb = 0 ∨ B (3 * (tb : Int) - 3) ≠ c) : ∀ (f q : Nat), tb ≤ q → q ≤ f → (∀ i : Nat, tb ≤ i → i < q → B (3 * (i : Int)) = c) → td B c f (3 * (q : Int)) = 3 * (tb : Int)
  | 0, q, h1, h2, _ => by
    have : q = tb := by omega
    subst this
    rfl
  | f + 1, q, h1, h2, h3 => by
    show (if 0 < 3 * (q : Int) ∧ B (3 * (q : Int) - 3) = c then td B c f (3 * (q : Int) - 3) else 3 * (q : Int)) = _
    by_cases e : q = tb
    · subst e
      rw [if_neg (by rcases h0 with h0 | h0 <;> omega)]
    · have h4 := h3 (q - 1) (by omega) (by omega)
      rw [show 3 * ((q - 1 : Nat) : Int) = 3 * (q : Int) - 3 by omega] at h4
      rw [if_pos ⟨by omega, h4⟩, show 3 * (q : Int) - 3 = 3 * ((q - 1 : Nat) : Int) by omega]
      exact td_e h0 f (q - 1) (by omega) (by omega) (fun i i0 i1 => h3 i i0 (by omega))
/-- what RETURN gives -/
def reV (K : aK) : aV := if 0 ≤ (K.2.1.getD (K.2.1.length - 1) (0, 0, 0, (0, 0, []), 0, 0, 0)).2.2.2.2.1 ∧ (K.1.getD (K.1.length - 1) (0, 0, [])).1 ≠ 4 then (4, (K.2.1.getD (K.2.1.length - 1) (0, 0, 0, (0, 0, []), 0, 0, 0)).2.2.2.2.1, []) else (K.1.getD (K.1.length - 1) (0, 0, []))
def kRe (K : aK) (a : aV) : aK := if K.2.1.length = 1 then ([], [], [], 2, a) else (K.1.take (K.1.length - 1) ++ [a], K.2.1.take (K.2.1.length - 1), K.2.2.1.take (K.2.1.getD (K.2.1.length - 1) (0, 0, 0, (0, 0, []), 0, 0, 0)).2.2.2.2.2.2, K.2.2.2)
/-- tries of the latest call stand behind the others; one value lies on its pile -/
def wRe (K : aK) : Prop := (0 < K.2.1.length ∧ (K.2.1.getD (K.2.1.length - 1) (0, 0, 0, (0, 0, []), 0, 0, 0)).2.2.2.2.2.2 ≤ K.2.2.1.length) ∧ (∀ i : Nat, i < K.2.2.1.length → ((K.2.2.1.getD i (0, 0, 0)).1 = K.2.1.length - 1 ↔ (K.2.1.getD (K.2.1.length - 1) (0, 0, 0, (0, 0, []), 0, 0, 0)).2.2.2.2.2.2 ≤ i)) ∧ (K.2.1.getD (K.2.1.length - 1) (0, 0, 0, (0, 0, []), 0, 0, 0)).2.2.2.2.2.1 + 1 = K.1.length
theorem cTk_re {ky vy nw tk tv : Int} (hK : cTk w S K) (hw : w = 215 ∨ w = 226) (hR : wRe K) (hl : K.1.length ≤ 2047) (hky : S (w + 2) ((K.1.length : Int) - 1) = ky) (hvy : S (w + 3) ((K.1.length : Int) - 1) = vy) (hnw : S (w + 9) ((K.2.1.length : Int) - 1) = nw) (htk : S (w + 7) ((K.2.1.length : Int) - 1) = tk) (htv : S (w + 8) ((K.2.1.length : Int) - 1) = tv)
    (hx : ∃ k1 v1 : Int, (((nw ≠ 0 ∧ ky ≠ 4) ∧ k1 = tk ∧ v1 = tv) ∨ (¬ (nw ≠ 0 ∧ ky ≠ 4) ∧ k1 = ky ∧ v1 = vy)) ∧ (((K.2.1.length : Int) = 1 ∧ w_up (w_up (w_up (w_up (w_up (w_up (w_up (w_up (w_up (w_up S (w + 1) 2 ((K.1.length : Int) - 1)) w 12 (td (S (w + 10)) (K.2.1.length : Int) K.2.2.1.length (3 * (K.2.2.1.length : Int)))) w 4 ((K.2.1.length : Int) - 1)) w 13 0) w 4 0) (w + 1) 2 0) w 12 0) w 13 2) w 14 k1) w 15 v1 = Z) ∨ ((K.2.1.length : Int) ≠ 1 ∧ ra_ag (w + 1) (w + 2) (w + 3) (w_up (w_up (w_up S (w + 1) 2 ((K.1.length : Int) - 1)) w 12 (td (S (w + 10)) (K.2.1.length : Int) K.2.2.1.length (3 * (K.2.2.1.length : Int)))) w 4 ((K.2.1.length : Int) - 1)) Z k1 v1))) : cTk w Z (kRe K (reV K)) := by
  obtain ⟨⟨r1, r2⟩, r3, r4⟩ := hR
  obtain ⟨⟨p1, p2, -⟩, ⟨b1, b2, b3⟩, ⟨c1, c2, c3, c4, c5⟩, -, -⟩ := id hK
  obtain ⟨k1, v1, hc, hx⟩ := hx
  have htop := p2 (K.1.length - 1) (by omega)
  rw [show (0 : Int) + ((K.1.length - 1 : Nat) : Int) = (K.1.length : Int) - 1 by omega, hky, hvy] at htop
  obtain ⟨-, f2, f3⟩ := b3 (K.2.1.length - 1) (by omega)
  rw [show ((K.2.1.length - 1 : Nat) : Int) = (K.2.1.length : Int) - 1 by omega] at f2 f3
  rw [htk, htv] at f2
  rw [hnw] at f3
  have hv : cVl S k1 v1 (reV K) := by
    unfold reV
    have h4 : ky = (K.1.getD (K.1.length - 1) (0, 0, [])).1 := htop.1
    rcases hc with ⟨⟨n1, n2⟩, rfl, rfl⟩ | ⟨n1, rfl, rfl⟩
    · rcases f3 with ⟨m1, m2⟩ | ⟨m1, m2, m3⟩
      · exact absurd m2 n1
      · rw [if_pos ⟨m1, by rw [← h4]; exact n2⟩, ← m3]; exact f2
    · rcases f3 with ⟨m1, m2⟩ | ⟨m1, m2, m3⟩
      · rw [if_neg (by omega)]; exact htop
      · rw [if_neg (by omega)]; exact htop
  unfold kRe
  rcases hx with ⟨hn, rfl⟩ | ⟨hn, ra⟩
  · rw [if_pos (by omega)]
    have es : ∀ (j : Nat) (x : Int), (j ≠ w ∨ (x ≠ 4 ∧ x ≠ 12)) → (j ≠ w + 1 ∨ x ≠ 2) → (w_up (w_up (w_up S (w + 1) 2 ((K.1.length : Int) - 1)) w 12 (td (S (w + 10)) (K.2.1.length : Int) K.2.2.1.length (3 * (K.2.2.1.length : Int)))) w 4 ((K.2.1.length : Int) - 1)) j x = S j x := fun j x h1 h2 => (w_up_no (by omega)).trans ((w_up_no (by omega)).trans (w_up_no (by omega)))
    exact cTk_fi2 hK hw (fun j x j0 j1 => es j x (by omega) (by omega)) (cVl_mo hv (cTx_of (es 2 1 (by omega) (by omega)) (fun x => es 3 x (by omega) (by omega))))
  · rw [if_neg (by omega)]
    have htd : td (S (w + 10)) (K.2.1.length : Int) K.2.2.1.length (3 * (K.2.2.1.length : Int)) = 3 * ((K.2.1.getD (K.2.1.length - 1) (0, 0, 0, (0, 0, []), 0, 0, 0)).2.2.2.2.2.2 : Int) := by
      refine td_e ?_ _ _ r2 (Nat.le_refl _) (fun i i0 i1 => ?_)
      · by_cases e : (K.2.1.getD (K.2.1.length - 1) (0, 0, 0, (0, 0, []), 0, 0, 0)).2.2.2.2.2.2 = 0
        · exact Or.inl e
        · right
          have g1 := (c5 ((K.2.1.getD (K.2.1.length - 1) (0, 0, 0, (0, 0, []), 0, 0, 0)).2.2.2.2.2.2 - 1) (by omega)).1
          have g2 := r3 ((K.2.1.getD (K.2.1.length - 1) (0, 0, 0, (0, 0, []), 0, 0, 0)).2.2.2.2.2.2 - 1) (by omega)
          rw [show 3 * (((K.2.1.getD (K.2.1.length - 1) (0, 0, 0, (0, 0, []), 0, 0, 0)).2.2.2.2.2.2 - 1 : Nat) : Int) = 3 * ((K.2.1.getD (K.2.1.length - 1) (0, 0, 0, (0, 0, []), 0, 0, 0)).2.2.2.2.2.2 : Int) - 3 by omega] at g1
          rw [g1]
          intro q
          have : (K.2.2.1.getD ((K.2.1.getD (K.2.1.length - 1) (0, 0, 0, (0, 0, []), 0, 0, 0)).2.2.2.2.2.2 - 1) (0, 0, 0)).1 = K.2.1.length - 1 := by omega
          have := g2.mp this
          omega
      · have g1 := (c5 i i1).1
        have g2 := (r3 i i1).mpr i0
        rw [g1, g2]
        omega
    rw [htd] at ra
    have s1 : cTk w (w_up S (w + 1) 2 ((K.1.length - 1 : Nat) : Int)) (K.1.take (K.1.length - 1), K.2) := cTk_tk hK hw (by omega)
    have s2 : cTk w (w_up (w_up (w_up S (w + 1) 2 ((K.1.length - 1 : Nat) : Int)) w 12 (3 * ((K.2.1.getD (K.2.1.length - 1) (0, 0, 0, (0, 0, []), 0, 0, 0)).2.2.2.2.2.2 : Int))) w 4 ((K.2.1.length : Int) - 1)) (kCu (K.1.take (K.1.length - 1), K.2) (K.2.1.length - 1) (K.2.1.getD (K.2.1.length - 1) (0, 0, 0, (0, 0, []), 0, 0, 0)).2.2.2.2.2.2) := cTk_cu s1 hw (by show K.2.1.length - 1 ≤ K.2.1.length; omega) r2 (fun j x hj => (w_up_no (by omega)).trans (w_up_no (by omega))) (by rw [w_up_same]; omega) (by rw [w_up_at (by decide), w_up_same])
    rw [show (K.1.length : Int) - 1 = ((K.1.length - 1 : Nat) : Int) by omega] at ra
    have e : ∀ (j : Nat) (x : Int), j < w → (w_up (w_up (w_up S (w + 1) 2 ((K.1.length - 1 : Nat) : Int)) w 12 (3 * ((K.2.1.getD (K.2.1.length - 1) (0, 0, 0, (0, 0, []), 0, 0, 0)).2.2.2.2.2.2 : Int))) w 4 ((K.2.1.length : Int) - 1)) j x = S j x := fun j x hj => (w_up_slot (by omega)).trans ((w_up_slot (by omega)).trans (w_up_slot (by omega)))
    have s3 := cTk_pu s2 hw ra (cVl_mo hv (cTx_of (e 2 1 (by omega)) (fun x => e 3 x (by omega)))) (by show (K.1.take (K.1.length - 1)).length ≤ 2047; rw [List.length_take]; omega)
    exact s3
theorem rTk_re {ky vy md bs tr : Int} (hK : rTk t S K) (ht : 0 ≤ t ∧ t ≤ 1) (hR : wRe K) (hky : S 363 (2100 * t + (K.1.length : Int) - 1) = ky) (hvy : S 364 (2100 * t + (K.1.length : Int) - 1) = vy) (hmd : S 370 (200 * t + (K.2.1.length : Int) - 1) = md) (hbs : S 371 (200 * t + (K.2.1.length : Int) - 1) = bs) (htr : S 372 (200 * t + (K.2.1.length : Int) - 1) = tr)
    (hx : ∃ (k1 v1 : Int) (T : wS), ((0 ≤ md ∧ ky ≠ 4 ∧ k1 = 4 ∧ v1 = md) ∨ (¬ (0 ≤ md ∧ ky ≠ 4) ∧ k1 = ky ∧ v1 = vy)) ∧ (∀ (j : Nat) (x : Int), (j ≠ 237 ∨ (x ≠ 110 ∧ x ≠ 111)) → ((j ≠ 358 ∧ j ≠ 359 ∧ j ≠ 360) ∨ x ≠ t) → T j x = S j x) ∧ (T 359 t = bs ∧ T 360 t = tr ∧ T 358 t = (K.2.1.length : Int) - 1) ∧ (((K.2.1.length : Int) = 1 ∧ fiZ t 2 k1 v1 T = Z) ∨ ((K.2.1.length : Int) ≠ 1 ∧ pUZ t bs k1 v1 (w_up T 237 154 (200 * t + ((K.2.1.length : Int) - 1) - 1)) = Z))) : rTk t Z (kRe K (reV K)) := by
  obtain ⟨⟨r1, r2⟩, r3, r4⟩ := hR
  obtain ⟨⟨p1, p2⟩, ⟨b1, b3⟩, ⟨c1, c2, c3⟩, -, -⟩ := id hK
  obtain ⟨k1, v1, T, hc, hT, ⟨t1, t2, t3⟩, hx⟩ := hx
  have htop := p2 (K.1.length - 1) (by omega)
  rw [show 2100 * t + ((K.1.length - 1 : Nat) : Int) = 2100 * t + (K.1.length : Int) - 1 by omega, hky, hvy] at htop
  obtain ⟨-, f2, f3, f4, f5⟩ := b3 (K.2.1.length - 1) (by omega)
  rw [show 200 * t + ((K.2.1.length - 1 : Nat) : Int) = 200 * t + (K.2.1.length : Int) - 1 by omega] at f3 f4 f5
  rw [hmd] at f3
  rw [hbs] at f4
  rw [htr] at f5
  have eT : rTx S T := rTx_of (hT 237 19 (by omega) (by omega)) (hT 237 102 (by omega) (by omega)) (fun j x j0 j1 => hT j x (by omega) (by omega))
  have hv : rVl S k1 v1 (reV K) := by
    unfold reV
    have h4 : ky = (K.1.getD (K.1.length - 1) (0, 0, [])).1 := htop.1
    rcases hc with ⟨n1, n2, rfl, rfl⟩ | ⟨n1, rfl, rfl⟩
    · rw [if_pos ⟨by rw [← f3]; exact n1, by rw [← h4]; exact n2⟩, ← f3]
      exact ⟨rfl, fun _ => ⟨rfl, rfl⟩, fun q => absurd (show (4 : Int) = 3 from q) (by decide)⟩
    · rw [if_neg (by rw [← f3, ← h4]; exact n1)]; exact htop
  unfold kRe
  rcases hx with ⟨hn, rfl⟩ | ⟨hn, rfl⟩
  · rw [if_pos (by omega)]
    exact rTk_fi ht (rVl_mo hv eT)
  · rw [if_neg (by omega)]
    have s1 : rTk t (w_up (w_up S 360 t tr) 358 t ((K.2.1.length : Int) - 1)) (kCu K (K.2.1.length - 1) (K.2.1.getD (K.2.1.length - 1) (0, 0, 0, (0, 0, []), 0, 0, 0)).2.2.2.2.2.2) := rTk_cu hK (by omega) r2 (fun j x h1 h2 => (w_up_no (by omega)).trans (w_up_no (by omega))) (by rw [w_up_same]; omega) (by rw [w_up_slot (by decide), w_up_same]; exact f5)
    have eZ : ∀ (j : Nat) (x : Int), j ≠ 237 → j ≠ 359 → (j ≠ 363 ∨ x ≠ 2100 * t + bs) → (j ≠ 364 ∨ x ≠ 2100 * t + bs) → (pUZ t bs k1 v1 (w_up T 237 154 (200 * t + ((K.2.1.length : Int) - 1) - 1))) j x = (w_up (w_up S 360 t tr) 358 t ((K.2.1.length : Int) - 1)) j x := fun j x h1 h2 h3 h4 => by
      have e1 : (pUZ t bs k1 v1 (w_up T 237 154 (200 * t + ((K.2.1.length : Int) - 1) - 1))) j x = T j x := (w_up_no (by omega)).trans ((w_up_no (by omega)).trans ((w_up_no (by omega)).trans (w_up_no (by omega))))
      rw [e1]
      by_cases q1 : j = 358 ∧ x = t
      · rw [q1.1, q1.2, t3, w_up_same]
      · rw [w_up_no (by omega)]
        by_cases q2 : j = 360 ∧ x = t
        · rw [q2.1, q2.2, t2, w_up_same]
        · rw [w_up_no (by omega)]
          exact hT j x (by omega) (by omega)
    have e37 : ∀ x : Int, x ≠ 110 → x ≠ 111 → x ≠ 154 → (pUZ t bs k1 v1 (w_up T 237 154 (200 * t + ((K.2.1.length : Int) - 1) - 1))) 237 x = S 237 x := fun x h1 h2 h3 => (w_up_no (by omega)).trans ((w_up_no (by omega)).trans ((w_up_no (by omega)).trans ((w_up_no (by omega)).trans (hT 237 x (by omega) (by omega)))))
    have eX : rTx (w_up (w_up S 360 t tr) 358 t ((K.2.1.length : Int) - 1)) (pUZ t bs k1 v1 (w_up T 237 154 (200 * t + ((K.2.1.length : Int) - 1) - 1))) := rTx_of ((e37 19 (by decide) (by decide) (by decide)).trans ((w_up_slot (by decide)).trans (w_up_slot (by decide))).symm) ((e37 102 (by decide) (by decide) (by decide)).trans ((w_up_slot (by decide)).trans (w_up_slot (by decide))).symm) (fun j x j0 j1 => eZ j x (by omega) (by omega) (by omega) (by omega))
    have s2 := rTk_l1 (m := K.1.length - 1) (a := reV K) s1 eX ⟨fun j hj => eZ j t (by omega) (by omega) (by omega) (by omega), fun j x j0 j1 _ _ => eZ j x (by omega) (by omega) (by omega) (by omega), fun j x j0 j1 _ _ => eZ j x (by omega) (by omega) (by omega) (by omega)⟩ (by show K.1.length - 1 ≤ K.1.length; omega) (by show w_up _ 359 t (bs + 1) 359 t = _; rw [w_up_same]; omega) (fun x x0 x1 => ⟨eZ 363 x (by omega) (by omega) (by omega) (by omega), eZ 364 x (by omega) (by omega) (by omega) (by omega)⟩) (by
      have g1 : 2100 * t + ((K.1.length - 1 : Nat) : Int) = 2100 * t + bs := by omega
      rw [g1]
      have g2 : (pUZ t bs k1 v1 (w_up T 237 154 (200 * t + ((K.2.1.length : Int) - 1) - 1))) 363 (2100 * t + bs) = k1 := (w_up_slot (by decide)).trans ((w_up_slot (by decide)).trans (w_up_same _ _ _ _))
      have g3 : (pUZ t bs k1 v1 (w_up T 237 154 (200 * t + ((K.2.1.length : Int) - 1) - 1))) 364 (2100 * t + bs) = v1 := (w_up_slot (by decide)).trans (w_up_same _ _ _ _)
      rw [g2, g3]
      exact rVl_mo hv (rTx_tr (rTx_of ((w_up_slot (by decide)).trans (w_up_slot (by decide))) ((w_up_slot (by decide)).trans (w_up_slot (by decide))) (fun j x j0 j1 => (w_up_slot (by omega)).trans (w_up_slot (by omega)))) eX))
    exact s2
/-- other tries -/
theorem cTk_ty {l : List aY} (hK : cTk w S K) (hw : w = 215 ∨ w = 226) (es : ∀ (j : Nat) (x : Int), j < 4000000 → j ≠ wG → (j ≠ w ∨ x ≠ 12) → j ≠ w + 10 → Z j x = S j x) (hz : Z w 12 = 3 * (l.length : Int)) (hl : 3 * (l.length : Int) ≤ Z (w + 10) (-1) ∧ 48 ≤ Z (w + 10) (-1) ∧ Z (w + 10) (-1) ≤ 60000) (hi : ∀ i : Nat, i < l.length → Z (w + 10) (3 * (i : Int)) = ((l.getD i (0, 0, 0)).1 : Int) + 1 ∧ Z (w + 10) (3 * (i : Int) + 1) = (l.getD i (0, 0, 0)).2.1 ∧ Z (w + 10) (3 * (i : Int) + 2) = ((l.getD i (0, 0, 0)).2.2 : Int)) : cTk w Z (K.1, K.2.1, l, K.2.2.2) := by
  obtain ⟨⟨p1, p2, p3, p4, p5, p6⟩, ⟨b1, b2, b3⟩, -, d1, d2⟩ := hK
  have hg : wG = 1000000 := rfl
  have es2 : ∀ (j : Nat) (x : Int), j < 300 → (j ≠ w ∨ x ≠ 12) → j ≠ w + 10 → Z j x = S j x := fun j x h1 h2 h3 => es j x (by omega) (by omega) h2 h3
  have e : cTx S Z := cTx_of (es2 2 1 (by omega) (by omega) (by omega)) (fun x => es2 3 x (by omega) (by omega) (by omega))
  refine ⟨⟨(es2 (w + 1) 2 (by omega) (by omega) (by omega)).trans p1, cR1_mo p2 e (fun i _ _ => ⟨es2 (w + 2) i (by omega) (by omega) (by omega), es2 (w + 3) i (by omega) (by omega) (by omega)⟩), by rw [es2 (w + 2) _ (by omega) (by omega) (by omega)]; exact p3, by rw [es2 (w + 2) _ (by omega) (by omega) (by omega), es2 (w + 3) _ (by omega) (by omega) (by omega)]; exact p4, by rw [es2 (w + 2) _ (by omega) (by omega) (by omega)]; exact p5, by rw [es2 (w + 2) _ (by omega) (by omega) (by omega)]; exact p6⟩, ⟨(es2 w 4 (by omega) (by omega) (by omega)).trans b1, b2, fun i hi2 => ?_⟩, ⟨hz, hl.1, hl.2.1, hl.2.2, hi⟩, (es2 w 13 (by omega) (by omega) (by omega)).trans d1, fun z => by rw [es2 w 14 (by omega) (by omega) (by omega), es2 w 15 (by omega) (by omega) (by omega)]; exact cVl_mo (d2 z) e⟩
  obtain ⟨g1, g2, g3⟩ := b3 i hi2
  rw [es2 (w + 4) _ (by omega) (by omega) (by omega), es2 (w + 5) _ (by omega) (by omega) (by omega), es2 (w + 6) _ (by omega) (by omega) (by omega), es2 (w + 7) _ (by omega) (by omega) (by omega), es2 (w + 8) _ (by omega) (by omega) (by omega), es2 (w + 9) _ (by omega) (by omega) (by omega)]
  exact ⟨g1, cVl_mo g2 e, g3⟩
theorem gY_l {l : List aY} {y : aY} {i : Nat} (hi : i < l.length) : (l ++ [y]).getD i (0, 0, 0) = l.getD i (0, 0, 0) := by
  rw [List.getD_eq_getElem?_getD, List.getElem?_append_left hi, ← List.getD_eq_getElem?_getD]
theorem gY_r {l : List aY} {y : aY} : (l ++ [y]).getD l.length (0, 0, 0) = y := by
  rw [List.getD_eq_getElem?_getD, List.getElem?_append_right (Nat.le_refl _), Nat.sub_self]; rfl
/-- TRY -/
def kTy (K : aK) (x : Int) : aK := (K.1, K.2.1, K.2.2.1 ++ [(K.2.1.length - 1, x, K.1.length)], K.2.2.2)
theorem cTk_31 (hK : cTk w S K) (hw : w = 215 ∨ w = 226) (h0 : 0 < K.2.1.length) (hx : ∃ A : wS, tr_ag w (3 * (K.2.2.1.length : Int)) S A ∧ w_up (w_up (w_up (w_up (w_up A (w + 10) (3 * (K.2.2.1.length : Int)) (K.2.1.length : Int)) (w + 10) (3 * (K.2.2.1.length : Int) + 1) x) (w + 10) (3 * (K.2.2.1.length : Int) + 2) (K.1.length : Int)) w 12 (3 * (K.2.2.1.length : Int) + 3)) (w + 5) ((K.2.1.length : Int) - 1) q = Z) : cTk w Z (kNx (kTy K x) q) := by
  obtain ⟨A, ⟨a1, a2, ⟨a3, a4, a5⟩, -, -⟩, rfl⟩ := hx
  obtain ⟨-, -, ⟨c1, c2, c3, c4, c5⟩, -, -⟩ := id hK
  have hl : (K.2.2.1 ++ [(K.2.1.length - 1, x, K.1.length)]).length = K.2.2.1.length + 1 := by rw [List.length_append]; rfl
  have ht : ∀ i : Int, (w_up (w_up (w_up (w_up A (w + 10) (3 * (K.2.2.1.length : Int)) (K.2.1.length : Int)) (w + 10) (3 * (K.2.2.1.length : Int) + 1) x) (w + 10) (3 * (K.2.2.1.length : Int) + 2) (K.1.length : Int)) w 12 (3 * (K.2.2.1.length : Int) + 3)) (w + 10) i = if i = 3 * (K.2.2.1.length : Int) + 2 then (K.1.length : Int) else if i = 3 * (K.2.2.1.length : Int) + 1 then x else if i = 3 * (K.2.2.1.length : Int) then (K.2.1.length : Int) else A (w + 10) i := fun i => by
    rw [w_up_slot (by omega)]
    by_cases q1 : i = 3 * (K.2.2.1.length : Int) + 2
    · rw [if_pos q1, q1, w_up_same]
    rw [if_neg q1, w_up_at q1]
    by_cases q2 : i = 3 * (K.2.2.1.length : Int) + 1
    · rw [if_pos q2, q2, w_up_same]
    rw [if_neg q2, w_up_at q2]
    by_cases q3 : i = 3 * (K.2.2.1.length : Int)
    · rw [if_pos q3, q3, w_up_same]
    rw [if_neg q3, w_up_at q3]
  have s1 := cTk_ty (l := K.2.2.1 ++ [(K.2.1.length - 1, x, K.1.length)]) (Z := (w_up (w_up (w_up (w_up A (w + 10) (3 * (K.2.2.1.length : Int)) (K.2.1.length : Int)) (w + 10) (3 * (K.2.2.1.length : Int) + 1) x) (w + 10) (3 * (K.2.2.1.length : Int) + 2) (K.1.length : Int)) w 12 (3 * (K.2.2.1.length : Int) + 3))) hK hw (fun j y j0 j1 j2 j3 => (w_up_no (by omega)).trans ((w_up_no (by omega)).trans ((w_up_no (by omega)).trans ((w_up_no (by omega)).trans (a2 j y j0 j1 j3))))) (by rw [w_up_same, hl]; omega) (by rw [ht, if_neg (by omega), if_neg (by omega), if_neg (by omega), hl]; omega) (fun i hi => by
    rw [hl] at hi
    rw [ht, ht, ht]
    by_cases e : i = K.2.2.1.length
    · subst e
      rw [gY_r, if_neg (by omega), if_neg (by omega), if_pos rfl, if_neg (by omega), if_pos rfl, if_pos rfl]
      exact ⟨by show (K.2.1.length : Int) = ((K.2.1.length - 1 : Nat) : Int) + 1; omega, rfl, rfl⟩
    · rw [gY_l (by omega), if_neg (by omega), if_neg (by omega), if_neg (by omega), if_neg (by omega), if_neg (by omega), if_neg (by omega), if_neg (by omega), if_neg (by omega), if_neg (by omega), a1 _ (by omega) (by omega), a1 _ (by omega) (by omega), a1 _ (by omega) (by omega)]
      exact c5 i (by omega))
  exact cTk_nx (K := kTy K x) s1 hw h0
theorem rTk_31 (hK : rTk t S K) (ht : 0 ≤ t ∧ t ≤ 1) (hl0 : K.2.2.1.length < 10000) (h0 : 0 < K.2.1.length) : rTk t (w_up (w_up (w_up (w_up S 373 (10000 * t + (K.2.2.1.length : Int)) x) 374 (10000 * t + (K.2.2.1.length : Int)) (K.1.length : Int)) 375 (10000 * t + (K.2.2.1.length : Int)) ((K.2.1.length : Int) - 1)) 360 t ((K.2.2.1.length : Int) + 1)) (kTy K x) := by
  obtain ⟨⟨p1, p2⟩, ⟨b1, b3⟩, ⟨c1, c2, c3⟩, d1, d2⟩ := hK
  have es : ∀ (j : Nat) (y : Int), j ≠ 373 → j ≠ 374 → j ≠ 375 → j ≠ 360 → (w_up (w_up (w_up (w_up S 373 (10000 * t + (K.2.2.1.length : Int)) x) 374 (10000 * t + (K.2.2.1.length : Int)) (K.1.length : Int)) 375 (10000 * t + (K.2.2.1.length : Int)) ((K.2.1.length : Int) - 1)) 360 t ((K.2.2.1.length : Int) + 1)) j y = S j y := fun j y h1 h2 h3 h4 => (w_up_slot h4).trans ((w_up_slot h3).trans ((w_up_slot h2).trans (w_up_slot h1)))
  have e := rTx_of (es 237 19 (by decide) (by decide) (by decide) (by decide)) (es 237 102 (by decide) (by decide) (by decide) (by decide)) (fun j x j0 j1 => es j x (by omega) (by omega) (by omega) (by omega))
  have hl : (K.2.2.1 ++ [(K.2.1.length - 1, x, K.1.length)]).length = K.2.2.1.length + 1 := by rw [List.length_append]; rfl
  refine ⟨⟨(es 359 t (by decide) (by decide) (by decide) (by decide)).trans p1, rR1_mo p2 e (fun i _ _ => ⟨es 363 i (by decide) (by decide) (by decide) (by decide), es 364 i (by decide) (by decide) (by decide) (by decide)⟩)⟩, ⟨(es 358 t (by decide) (by decide) (by decide) (by decide)).trans b1, fun i hi => ?_⟩, ⟨?_, ?_, fun i hi => ?_⟩, (es 357 t (by decide) (by decide) (by decide) (by decide)).trans d1, fun z => by rw [es 361 t (by decide) (by decide) (by decide) (by decide), es 362 t (by decide) (by decide) (by decide) (by decide)]; exact rVl_mo (d2 z) e⟩
  · obtain ⟨g1, g2, g3⟩ := b3 i hi
    rw [es 365 _ (by decide) (by decide) (by decide) (by decide), es 366 _ (by decide) (by decide) (by decide) (by decide), es 367 _ (by decide) (by decide) (by decide) (by decide), es 368 _ (by decide) (by decide) (by decide) (by decide), es 369 _ (by decide) (by decide) (by decide) (by decide), es 370 _ (by decide) (by decide) (by decide) (by decide), es 371 _ (by decide) (by decide) (by decide) (by decide), es 372 _ (by decide) (by decide) (by decide) (by decide)]
    exact ⟨g1, rVl_mo g2 e, g3⟩
  · rw [w_up_same]; show _ = ((K.2.2.1 ++ [(K.2.1.length - 1, x, K.1.length)]).length : Int); rw [hl]; rfl
  · show (K.2.2.1 ++ [(K.2.1.length - 1, x, K.1.length)]).length ≤ 10000; omega
  · have hi2 : i < K.2.2.1.length + 1 := by rw [← hl]; exact hi
    show _ = ((K.2.2.1 ++ [(K.2.1.length - 1, x, K.1.length)]).getD i (0, 0, 0)).2.1 ∧ _ = (((K.2.2.1 ++ [(K.2.1.length - 1, x, K.1.length)]).getD i (0, 0, 0)).2.2 : Int) ∧ _ = (((K.2.2.1 ++ [(K.2.1.length - 1, x, K.1.length)]).getD i (0, 0, 0)).1 : Int)
    by_cases q : i = K.2.2.1.length
    · subst q
      rw [gY_r, w_up_slot (by decide), w_up_slot (by decide), w_up_slot (by decide), w_up_same, w_up_slot (by decide), w_up_slot (by decide), w_up_same, w_up_slot (by decide), w_up_same]
      exact ⟨rfl, rfl, by show (K.2.1.length : Int) - 1 = ((K.2.1.length - 1 : Nat) : Int); omega⟩
    · rw [gY_l (by omega), w_up_slot (by decide), w_up_slot (by decide), w_up_slot (by decide), w_up_at (by omega), w_up_slot (by decide), w_up_slot (by decide), w_up_at (by omega), w_up_slot (by decide), w_up_slot (by decide), w_up_at (by omega), w_up_slot (by decide), w_up_slot (by decide)]
      exact c3 i (by omega)
end We4
