/-! PART nr: the raw facts are kept by the reading of each class. -/
section Wnr0
variable {A B B1 S Z : wS} {T : Int → Int} {n : Int} {m0 t0 w a9 b9 : Nat} {k a f n0 : Int} {rs ms : List hMR} {cs : List hCR}
theorem rcb_g {b : Nat} {k0 itf p1 p2 : Int} {ms ms2 : List hMR} {cr : hCR} (hB1 : B1 239 = T) (hb : b ≠ 237) (hb9 : b ≠ 239) (hk : 0 ≤ k0 ∧ k0 < 60) (h : rc_body B B1 b k0 ms itf p1 = .inr (p2, cr, ms2)) : ∃ rs : List hMR, ms2 = ms ++ rs ∧ ∀ (i : Nat) (r : hMR), rs[i]? = some r → mG T k0 itf (k0 + 1) (rs.take i) r := by
  cases hs : rc_su B B1 b k0 p1 with
  | inl e => rw [rcb_1 hs] at h; cases h
  | inr x =>
    obtain ⟨q, l, a, al⟩ := x
    by_cases h123 : lx_is (zq B q) 123 = true
    · cases hm : mb_f (w_up B1 b 1 (k0 + 1)) b k0 itf ms.length ((B 237 4 - lx_ne (zq B q) q).toNat + 1) (lx_ne (zq B q) q) ms with
      | inl e => rw [rcb_3 hs h123 hm] at h; cases h
      | inr y =>
        obtain ⟨z, ms3⟩ := y
        rw [rcb_4 hs h123 hm] at h
        have e239 : w_up B1 b 1 (k0 + 1) 239 = T := by rw [w_up_row (fun e => hb9 e.symm)]; exact hB1
        obtain ⟨rs, r1, r2⟩ := mb_g (B := w_up B1 b 1 (k0 + 1)) hb (by rw [w_up_same]; omega) (by rw [w_up_same]; omega) _ _ _ z ms3 hm
        cases h
        refine ⟨rs, r1, fun i r hi => ?_⟩
        have g := r2 i r hi
        rw [e239, w_up_same, List.drop_left] at g
        exact g
    · rw [rcb_2 hs h123] at h; cases h
/-- rows as they were -/
theorem jC_fn (h : jC t0 m0 w a9 b9 S k a f n0 rs) (e : ∀ j : Nat, (t0 ≤ j ∧ j ≤ t0 + 8) ∨ (m0 ≤ j ∧ j ≤ m0 + 16) ∨ (w ≤ j ∧ j ≤ w + 3) ∨ j = a9 ∨ j = b9 → Z j = S j) : jC t0 m0 w a9 b9 Z k a f n0 rs := by
  obtain ⟨⟨h1, h2⟩, h3, h4⟩ := h
  unfold jC
  rw [e (t0 + 7) (by omega), e (t0 + 8) (by omega)]
  refine ⟨⟨h1, h2⟩, fun q r hq => ?_, fun q r hq r1 => ?_⟩
  · have z := h3 q r hq
    unfold lf_at at z ⊢
    rw [e (m0 + 15) (by omega), e (m0 + 16) (by omega), e a9 (by omega), e b9 (by omega)]
    exact z
  · obtain ⟨hd, x, u1, u2, u3⟩ := h4 q r hq r1
    exact ⟨hd, x, fo_h_cg (fun j hj => (e j (by omega)).symm) u1, fo_r_cg (fun j hj => (e j (by omega)).symm) u2, by rw [e (m0 + 15) (by omega)]; exact u3⟩
theorem slM_ap {r : hCR} (h : 0 ≤ r.2.2.2.2.2.2.1 ∧ 0 ≤ r.2.2.2.2.2.2.2 ∧ r.2.2.2.2.2.2.1 + r.2.2.2.2.2.2.2 ≤ (ms.length : Int)) : slM (ms ++ rs) r = slM ms r := by
  unfold slM
  rw [List.drop_append_of_le_length (by omega), List.take_append_of_le_length (by rw [List.length_drop]; omega)]
theorem cS_ap : ∀ (l l2 : List hMR), cS (l ++ l2) = cS l + cS l2
  | [], l2 => by show cS l2 = 0 + cS l2; omega
  | g :: l, l2 => by
    show (if g.2.1 = 0 ∧ g.2.2.1 = 1 then (1 : Int) else 0) + cS (l ++ l2) = ((if g.2.1 = 0 ∧ g.2.2.1 = 1 then (1 : Int) else 0) + cS l) + cS l2
    rw [cS_ap l l2]
    omega
theorem cS_sl {r : hCR} : 0 ≤ cS (ms.take r.2.2.2.2.2.2.1.toNat) ∧ cS (ms.take r.2.2.2.2.2.2.1.toNat) + cS (slM ms r) ≤ cS ms := by
  refine ⟨(cS_rg _).1, ?_⟩
  have h1 : cS ms = cS (ms.take r.2.2.2.2.2.2.1.toNat) + cS (ms.drop r.2.2.2.2.2.2.1.toNat) := by rw [← cS_ap, List.take_append_drop]
  have h2 : cS (ms.drop r.2.2.2.2.2.2.1.toNat) = cS (slM ms r) + cS ((ms.drop r.2.2.2.2.2.2.1.toNat).drop r.2.2.2.2.2.2.2.toNat) := by unfold slM; rw [← cS_ap, List.take_append_drop]
  have h3 := (cS_rg ((ms.drop r.2.2.2.2.2.2.1.toNat).drop r.2.2.2.2.2.2.2.toNat)).1
  omega
theorem slM_g {r : hCR} {q : Nat} {g : hMR} (h0 : 0 ≤ r.2.2.2.2.2.2.1) (h : (slM ms r)[q]? = some g) : ms[(r.2.2.2.2.2.2.1 + (q : Int)).toNat]? = some g := by
  unfold slM at h
  have hq : q < r.2.2.2.2.2.2.2.toNat := by
    have := (List.getElem?_eq_some_iff.mp h).1
    rw [List.length_take] at this
    omega
  rw [List.getElem?_take_of_lt hq, List.getElem?_drop] at h
  rw [show (r.2.2.2.2.2.2.1 + (q : Int)).toNat = r.2.2.2.2.2.2.1.toNat + q by omega]
  exact h
theorem slM_l {r : hCR} : ((slM ms r).length : Int) ≤ max r.2.2.2.2.2.2.2 0 := by
  unfold slM
  rw [List.length_take]
  omega
end Wnr0
section Wnr
variable {A S : wS} {T : Int → Int} {n : Int} {c : Nat}
theorem rcn_g_73 {B : wS} {k0 itf p1 p2 : Int} {ms ms2 : List hMR} {cr : hCR} (hB : B 239 = T) (hk0 : 0 ≤ k0) (h : rc_n_241 B k0 ms itf p1 = .inr (p2, cr, ms2)) : ∃ rs : List hMR, ms2 = ms ++ rs ∧ ∀ (i : Nat) (r : hMR), rs[i]? = some r → mG T k0 itf (k0 + 1) (rs.take i) r := by
  unfold rc_n_241 at h
  by_cases h1 : zq B p1 237 6 = 1
  · rw [if_pos h1] at h
    by_cases h2 : ch_of (zq B p1) 241 < 0 ∧ lx_oo (zq B p1) tx_21 = false
    · rw [if_pos h2] at h
      by_cases h3 : k0 < 60
      · rw [if_pos h3] at h
        exact rcb_g (T := T) (by rw [w_up_row (by first | decide | omega), w_up_row (by first | decide | omega), w_up_row (by first | decide | omega), w_up_row (by first | decide | omega), w_up_row (by first | decide | omega), w_up_row (by first | decide | omega), w_up_row (by first | decide | omega), w_up_row (by first | decide | omega)]; exact hB) (by first | decide | omega) (by first | decide | omega) ⟨hk0, h3⟩ h
      · rw [if_neg h3] at h; cases h
    · rw [if_neg h2] at h; cases h
  · rw [if_neg h1] at h; cases h
theorem JX_73 : JE_73 A T n c (fun cs ms _ S => JX 87 97 74 117 118 T cs ms S) := by
  refine ⟨fun Z _ k r h => (by cases h), fun cs ms os S x h k r hk => ?_, ?_⟩
  · obtain ⟨h1, h2, h3⟩ := h k r hk
    exact ⟨h1, h2, jC_fn h3 (fun j hj => w_up_row (by omega))⟩
  intro cs ms os S i itf S3 a al l Zo i2 ms2 Zm Z1 Zf hj h hP hit y1 y2 y3 y4 y5 y6 y7 y8 y9 y10 y11 y12 y13 y14 y15 y16 y17
  obtain ⟨rs, e1, e3⟩ := rcn_g_73 (T := T) hj.1.1.1 (by omega) y1
  subst e1
  have hd : (ms ++ rs).drop ms.length = rs := List.drop_left
  rw [hd] at y16 y17
  have hlen : ((ms ++ rs).length : Int) = (ms.length : Int) + (rs.length : Int) := by rw [List.length_append]; omega
  have hw : wG = 1000000 := rfl
  have f1 : ∀ (j : Nat) (y : Int), (j ≠ 119 ∨ y < 0) → (j ≠ 112 ∨ y < (ms.length : Int)) → Zf j y = Z1 j y := y17.1
  have f2 : ∀ (j : Nat) (y : Int), 87 ≤ j ∧ j ≤ 113 → ((j ≠ 112 ∧ j ≠ 113) ∨ y < (ms.length : Int)) → ((j ≠ 94 ∧ j ≠ 95) ∨ y ≠ (cs.length : Int)) → Z1 j y = Zm j y := fun j y e0 e1 e2 => (y16.1.1 j y (by omega) (by omega) (by omega) (by omega) (by omega) (by omega) (by omega) (by omega)).trans ((w_up_no (by omega)).trans ((w_up_no (by omega)).trans (w_up_no (by omega))))
  have f3 : ∀ (j : Nat) (y : Int), 87 ≤ j ∧ j ≤ 113 → (j < 97 ∨ y < (ms.length : Int)) → (j ≠ 90 ∨ y ≠ (cs.length : Int)) → Zm j y = Zo j y := fun j y e0 e1 e2 => y9 j y (by omega) (by omega) (by omega) (by omega)
  have f4 : ∀ (j : Nat) (y : Int), 87 ≤ j ∧ j ≤ 113 → (93 < j ∨ y ≠ (cs.length : Int)) → Zo j y = S j y := fun j y e0 e1 => (y6 j y (by omega) (by omega) (by omega)).trans ((w_up_no (by omega)).trans ((w_up_no (by omega)).trans ((w_up_no (by omega)).trans ((w_up_no (by omega)).trans ((w_up_no (by omega)).trans ((w_up_no (by omega)).trans ((w_up_no (by omega)).trans (congrFun (y2 j (by omega) (by omega) (by omega)) y))))))))
  have fw : ∀ j : Nat, 74 ≤ j → j ≤ 77 → Z1 j = S j := fun j j0 j1 => funext fun y => (y16.1.1 j y (by omega) (by omega) (by omega) (by omega) (by omega) (by omega) (by omega) (by omega)).trans ((w_up_no (by omega)).trans ((w_up_no (by omega)).trans ((w_up_no (by omega)).trans ((y9 j y (by omega) (by omega) (by omega) (by omega)).trans ((y6 j y (by omega) (by omega) (by omega)).trans ((w_up_no (by omega)).trans ((w_up_no (by omega)).trans ((w_up_no (by omega)).trans ((w_up_no (by omega)).trans ((w_up_no (by omega)).trans ((w_up_no (by omega)).trans ((w_up_no (by omega)).trans (congrFun (y2 j (by omega) (by omega) (by omega)) y)))))))))))))
  have e9 : rwP9 87 97 74 (cs.length : Int) (ms.length : Int) S Zf := by
    refine ⟨fun j y j0 j1 y0 y1 => ?_, fun j y j0 j1 y0 y1 => ?_, fun j j0 j1 => ?_⟩
    · rw [f1 j y (by omega) (by omega), f2 j y (by omega) (by omega) (by omega), f3 j y (by omega) (by omega) (by omega)]
      exact f4 j y (by omega) (by omega)
    · rw [f1 j y (by omega) (by omega), f2 j y (by omega) (by omega) (by omega), f3 j y (by omega) (by omega) (by omega)]
      exact f4 j y (by omega) (by omega)
    · rw [← fw j (by omega) (by omega)]
      exact funext fun y => f1 j y (by omega) (by omega)
  have s116 : S3 116 2 = cS ms := (congrFun (y2 116 (by first | decide | omega) (by first | decide | omega) (by first | decide | omega)) 2).trans hj.2.2.2.2.2.2.2
  have es : ∀ y : Int, 0 ≤ y → y < cS ms → Zf 117 y = S 117 y ∧ Zf 118 y = S 118 y := fun y h0 h1 => by
    have q := y16.1.2 y h0 (by rw [s116]; exact h1)
    have g : ∀ j : Nat, j = 117 ∨ j = 118 → (w_up (w_up (w_up Zm 14 4 ((i2 + 1 : Nat) : Int)) 94 (cs.length : Int) (if a = -1 then 0 else S3 94 a)) 95 (cs.length : Int) (if a = -1 then -1 else S3 95 a)) j y = S j y := fun j hj => (w_up_no (by omega)).trans ((w_up_no (by omega)).trans ((w_up_no (by omega)).trans ((y9 j y (by omega) (by omega) (by omega) (by omega)).trans ((y6 j y (by omega) (by omega) (by omega)).trans ((w_up_no (by omega)).trans ((w_up_no (by omega)).trans ((w_up_no (by omega)).trans ((w_up_no (by omega)).trans ((w_up_no (by omega)).trans ((w_up_no (by omega)).trans ((w_up_no (by omega)).trans (congrFun (y2 j (by omega) (by omega) (by omega)) y))))))))))))
    exact ⟨(f1 117 y (by omega) (by omega)).trans (q.1.trans (g 117 (by omega))), (f1 118 y (by omega) (by omega)).trans (q.2.trans (g 118 (by omega)))⟩
  have hcb : cbP 87 (cs.length : Int) (ms.length : Int) S := fun q q0 q1 => by
    obtain ⟨u1, u2, u3, u4, -⟩ := hj.2.1.1 q q0 q1
    exact ⟨u1, u2, u3, u4⟩
  intro k r hk
  by_cases c : k < cs.length
  · rw [List.getElem?_append_left c] at hk
    obtain ⟨⟨h1, h2, h2b⟩, h3, h4⟩ := h k r hk
    have es9 := slM_ap (rs := rs) h2
    have hl := slM_l (ms := ms) (r := r)
    rw [es9, List.take_append_of_le_length (by omega)]
    refine ⟨⟨h1, by omega, h2b⟩, h3, jC_pt (n9 := cS ms) h4 e9 es hcb ⟨by omega, by omega⟩ h1 ⟨h2.1, by omega⟩ cS_sl (fun q hq => ?_)⟩
    obtain ⟨g, hg⟩ : ∃ g : hMR, (slM ms r)[q]? = some g := ⟨_, List.getElem?_eq_getElem hq⟩
    have z := (hj.2.2.2.1.2 _ _ (slM_g h2.1 hg)).1.1
    rw [show (((r.2.2.2.2.2.2.1 + (q : Int)).toNat : Nat) : Int) = r.2.2.2.2.2.2.1 + (q : Int) by omega] at z
    exact z.trans (h3 q g hg).1
  · have ck : k = cs.length := by
      have := (List.getElem?_eq_some_iff.mp hk).1
      rw [List.length_append] at this
      have : k < cs.length + 1 := this
      omega
    subst ck
    rw [List.getElem?_append_right (Nat.le_refl _), Nat.sub_self] at hk
    cases hk
    have es9 : slM (ms ++ rs) (itf, tp T n 1 i, zq (hq_cn A 241 cs) (tp T n 1 i) 237 8, a, l, al, (ms.length : Int), ((ms ++ rs).length : Int) - (ms.length : Int)) = rs := by
      show ((ms ++ rs).drop ((ms.length : Nat) : Int).toNat).take (((ms ++ rs).length : Int) - (ms.length : Int)).toNat = rs
      rw [Int.toNat_natCast, hd, hlen, show ((ms.length : Int) + (rs.length : Int) - (ms.length : Int)).toNat = rs.length by omega, List.take_length]
    have ec9 : cS ((ms ++ rs).take ((ms.length : Nat) : Int).toNat) = cS ms := by rw [Int.toNat_natCast, List.take_left]
    rw [es9]
    refine ⟨⟨y5, ⟨by show (0 : Int) ≤ (ms.length : Int); omega, by show 0 ≤ ((ms ++ rs).length : Int) - (ms.length : Int); omega, by show (ms.length : Int) + (((ms ++ rs).length : Int) - (ms.length : Int)) ≤ _; omega⟩, hit⟩, e3, ?_⟩
    show jC 87 97 74 117 118 Zf (cs.length : Int) a (ms.length : Int) (cS ((ms ++ rs).take ((ms.length : Nat) : Int).toNat)) rs
    rw [ec9]
    have ea : (if a = -1 then 0 else Zf 94 a) = (if a = -1 then 0 else S3 94 a) ∧ (if a = -1 then -1 else Zf 95 a) = (if a = -1 then -1 else S3 95 a) := by
      by_cases c9 : a = -1
      · rw [if_pos c9, if_pos c9, if_pos c9, if_pos c9]; exact ⟨rfl, rfl⟩
      · rw [if_neg c9, if_neg c9, if_neg c9, if_neg c9, y2 94 (by first | decide | omega) (by first | decide | omega) (by first | decide | omega), y2 95 (by first | decide | omega) (by first | decide | omega) (by first | decide | omega)]
        exact ⟨e9.1 94 a (by first | decide | omega) (by first | decide | omega) (by omega) (by omega), e9.1 95 a (by first | decide | omega) (by first | decide | omega) (by omega) (by omega)⟩
    obtain ⟨-, ⟨-, u2, u3⟩, u4, -⟩ := y16
    rw [List.take_length] at u2 u3
    rw [s116] at u4
    refine ⟨⟨?_, ?_⟩, fun q r hq => ?_, fun q r hq r1 => ?_⟩
    · rw [ea.1, f1 94 _ (by omega) (by omega)]; exact u2
    · rw [ea.2, f1 95 _ (by omega) (by omega)]; exact u3
    · have ql := (List.getElem?_eq_some_iff.mp hq).1
      rw [ea.1, ea.2]
      obtain ⟨v1, v2⟩ := u4 q r ql hq
      refine ⟨fun r0 s1 => ?_, fun r0 s1 => ?_⟩
      · obtain ⟨x1, x2, x3⟩ := v1 r0 s1
        rw [y17.2.1 q r hq (Or.inl (by omega)), f1 117 _ (by omega) (by omega), f1 118 _ (by omega) (by omega)]
        exact ⟨x1, x2, x3⟩
      · obtain ⟨x1, x2⟩ := v2 r0 s1
        rw [y17.2.1 q r hq (Or.inl (by omega)), f1 113 _ (by omega) (by omega)]
        exact ⟨x1, x2⟩
    · have ql := (List.getElem?_eq_some_iff.mp hq).1
      obtain ⟨hd2, x, x1, x2, x3⟩ := y17.2.2.1 q r ql hq r1
      have ez : ∀ j : Nat, j ≠ 119 → j ≠ 112 → Zf j = Z1 j := fun j j0 j1 => funext fun y => f1 j y (Or.inl j0) (Or.inl j1)
      exact ⟨hd2, x, fo_h_cg (fun j hj => (ez j (by omega) (by omega)).symm) x1, fo_r_cg (fun j hj => (ez j (by omega) (by omega)).symm) x2, x3⟩
theorem rcn_g_162 {B : wS} {k0 itf p1 p2 : Int} {ms ms2 : List hMR} {cr : hCR} (hB : B 239 = T) (hk0 : 0 ≤ k0) (h : rc_n_261 B k0 ms itf p1 = .inr (p2, cr, ms2)) : ∃ rs : List hMR, ms2 = ms ++ rs ∧ ∀ (i : Nat) (r : hMR), rs[i]? = some r → mG T k0 itf (k0 + 1) (rs.take i) r := by
  unfold rc_n_261 at h
  by_cases h1 : zq B p1 237 6 = 1
  · rw [if_pos h1] at h
    by_cases h2 : ch_of (zq B p1) 261 < 0 ∧ lx_oo (zq B p1) tx_21 = false
    · rw [if_pos h2] at h
      by_cases h3 : k0 < 60
      · rw [if_pos h3] at h
        exact rcb_g (T := T) (by rw [w_up_row (by first | decide | omega), w_up_row (by first | decide | omega), w_up_row (by first | decide | omega), w_up_row (by first | decide | omega), w_up_row (by first | decide | omega), w_up_row (by first | decide | omega), w_up_row (by first | decide | omega), w_up_row (by first | decide | omega)]; exact hB) (by first | decide | omega) (by first | decide | omega) ⟨hk0, h3⟩ h
      · rw [if_neg h3] at h; cases h
    · rw [if_neg h2] at h; cases h
  · rw [if_neg h1] at h; cases h
theorem JX_162 : JE_162 A T n c (fun cs ms _ S => JX 176 186 163 206 207 T cs ms S) := by
  refine ⟨fun Z _ k r h => (by cases h), fun cs ms os S x h k r hk => ?_, ?_⟩
  · obtain ⟨h1, h2, h3⟩ := h k r hk
    exact ⟨h1, h2, jC_fn h3 (fun j hj => w_up_row (by omega))⟩
  intro cs ms os S i itf S3 a al l Zo i2 ms2 Zm Z1 Zf hj h hP hit y1 y2 y3 y4 y5 y6 y7 y8 y9 y10 y11 y12 y13 y14 y15 y16 y17
  obtain ⟨rs, e1, e3⟩ := rcn_g_162 (T := T) hj.1.1.1 (by omega) y1
  subst e1
  have hd : (ms ++ rs).drop ms.length = rs := List.drop_left
  rw [hd] at y16 y17
  have hlen : ((ms ++ rs).length : Int) = (ms.length : Int) + (rs.length : Int) := by rw [List.length_append]; omega
  have hw : wG = 1000000 := rfl
  have f1 : ∀ (j : Nat) (y : Int), (j ≠ 208 ∨ y < 0) → (j ≠ 201 ∨ y < (ms.length : Int)) → Zf j y = Z1 j y := y17.1
  have f2 : ∀ (j : Nat) (y : Int), 176 ≤ j ∧ j ≤ 202 → ((j ≠ 201 ∧ j ≠ 202) ∨ y < (ms.length : Int)) → ((j ≠ 183 ∧ j ≠ 184) ∨ y ≠ (cs.length : Int)) → Z1 j y = Zm j y := fun j y e0 e1 e2 => (y16.1.1 j y (by omega) (by omega) (by omega) (by omega) (by omega) (by omega) (by omega) (by omega)).trans ((w_up_no (by omega)).trans ((w_up_no (by omega)).trans (w_up_no (by omega))))
  have f3 : ∀ (j : Nat) (y : Int), 176 ≤ j ∧ j ≤ 202 → (j < 186 ∨ y < (ms.length : Int)) → (j ≠ 179 ∨ y ≠ (cs.length : Int)) → Zm j y = Zo j y := fun j y e0 e1 e2 => y9 j y (by omega) (by omega) (by omega) (by omega)
  have f4 : ∀ (j : Nat) (y : Int), 176 ≤ j ∧ j ≤ 202 → (182 < j ∨ y ≠ (cs.length : Int)) → Zo j y = S j y := fun j y e0 e1 => (y6 j y (by omega) (by omega) (by omega)).trans ((w_up_no (by omega)).trans ((w_up_no (by omega)).trans ((w_up_no (by omega)).trans ((w_up_no (by omega)).trans ((w_up_no (by omega)).trans ((w_up_no (by omega)).trans ((w_up_no (by omega)).trans (congrFun (y2 j (by omega) (by omega) (by omega)) y))))))))
  have fw : ∀ j : Nat, 163 ≤ j → j ≤ 166 → Z1 j = S j := fun j j0 j1 => funext fun y => (y16.1.1 j y (by omega) (by omega) (by omega) (by omega) (by omega) (by omega) (by omega) (by omega)).trans ((w_up_no (by omega)).trans ((w_up_no (by omega)).trans ((w_up_no (by omega)).trans ((y9 j y (by omega) (by omega) (by omega) (by omega)).trans ((y6 j y (by omega) (by omega) (by omega)).trans ((w_up_no (by omega)).trans ((w_up_no (by omega)).trans ((w_up_no (by omega)).trans ((w_up_no (by omega)).trans ((w_up_no (by omega)).trans ((w_up_no (by omega)).trans ((w_up_no (by omega)).trans (congrFun (y2 j (by omega) (by omega) (by omega)) y)))))))))))))
  have e9 : rwP9 176 186 163 (cs.length : Int) (ms.length : Int) S Zf := by
    refine ⟨fun j y j0 j1 y0 y1 => ?_, fun j y j0 j1 y0 y1 => ?_, fun j j0 j1 => ?_⟩
    · rw [f1 j y (by omega) (by omega), f2 j y (by omega) (by omega) (by omega), f3 j y (by omega) (by omega) (by omega)]
      exact f4 j y (by omega) (by omega)
    · rw [f1 j y (by omega) (by omega), f2 j y (by omega) (by omega) (by omega), f3 j y (by omega) (by omega) (by omega)]
      exact f4 j y (by omega) (by omega)
    · rw [← fw j (by omega) (by omega)]
      exact funext fun y => f1 j y (by omega) (by omega)
  have s116 : S3 205 2 = cS ms := (congrFun (y2 205 (by first | decide | omega) (by first | decide | omega) (by first | decide | omega)) 2).trans hj.2.2.2.2.2.2.2
  have es : ∀ y : Int, 0 ≤ y → y < cS ms → Zf 206 y = S 206 y ∧ Zf 207 y = S 207 y := fun y h0 h1 => by
    have q := y16.1.2 y h0 (by rw [s116]; exact h1)
    have g : ∀ j : Nat, j = 206 ∨ j = 207 → (w_up (w_up (w_up Zm 14 4 ((i2 + 1 : Nat) : Int)) 183 (cs.length : Int) (if a = -1 then 0 else S3 183 a)) 184 (cs.length : Int) (if a = -1 then -1 else S3 184 a)) j y = S j y := fun j hj => (w_up_no (by omega)).trans ((w_up_no (by omega)).trans ((w_up_no (by omega)).trans ((y9 j y (by omega) (by omega) (by omega) (by omega)).trans ((y6 j y (by omega) (by omega) (by omega)).trans ((w_up_no (by omega)).trans ((w_up_no (by omega)).trans ((w_up_no (by omega)).trans ((w_up_no (by omega)).trans ((w_up_no (by omega)).trans ((w_up_no (by omega)).trans ((w_up_no (by omega)).trans (congrFun (y2 j (by omega) (by omega) (by omega)) y))))))))))))
    exact ⟨(f1 206 y (by omega) (by omega)).trans (q.1.trans (g 206 (by omega))), (f1 207 y (by omega) (by omega)).trans (q.2.trans (g 207 (by omega)))⟩
  have hcb : cbP 176 (cs.length : Int) (ms.length : Int) S := fun q q0 q1 => by
    obtain ⟨u1, u2, u3, u4, -⟩ := hj.2.1.1 q q0 q1
    exact ⟨u1, u2, u3, u4⟩
  intro k r hk
  by_cases c : k < cs.length
  · rw [List.getElem?_append_left c] at hk
    obtain ⟨⟨h1, h2, h2b⟩, h3, h4⟩ := h k r hk
    have es9 := slM_ap (rs := rs) h2
    have hl := slM_l (ms := ms) (r := r)
    rw [es9, List.take_append_of_le_length (by omega)]
    refine ⟨⟨h1, by omega, h2b⟩, h3, jC_pt (n9 := cS ms) h4 e9 es hcb ⟨by omega, by omega⟩ h1 ⟨h2.1, by omega⟩ cS_sl (fun q hq => ?_)⟩
    obtain ⟨g, hg⟩ : ∃ g : hMR, (slM ms r)[q]? = some g := ⟨_, List.getElem?_eq_getElem hq⟩
    have z := (hj.2.2.2.1.2 _ _ (slM_g h2.1 hg)).1.1
    rw [show (((r.2.2.2.2.2.2.1 + (q : Int)).toNat : Nat) : Int) = r.2.2.2.2.2.2.1 + (q : Int) by omega] at z
    exact z.trans (h3 q g hg).1
  · have ck : k = cs.length := by
      have := (List.getElem?_eq_some_iff.mp hk).1
      rw [List.length_append] at this
      have : k < cs.length + 1 := this
      omega
    subst ck
    rw [List.getElem?_append_right (Nat.le_refl _), Nat.sub_self] at hk
    cases hk
    have es9 : slM (ms ++ rs) (itf, tp T n 1 i, zq (hq_cn A 261 cs) (tp T n 1 i) 237 8, a, l, al, (ms.length : Int), ((ms ++ rs).length : Int) - (ms.length : Int)) = rs := by
      show ((ms ++ rs).drop ((ms.length : Nat) : Int).toNat).take (((ms ++ rs).length : Int) - (ms.length : Int)).toNat = rs
      rw [Int.toNat_natCast, hd, hlen, show ((ms.length : Int) + (rs.length : Int) - (ms.length : Int)).toNat = rs.length by omega, List.take_length]
    have ec9 : cS ((ms ++ rs).take ((ms.length : Nat) : Int).toNat) = cS ms := by rw [Int.toNat_natCast, List.take_left]
    rw [es9]
    refine ⟨⟨y5, ⟨by show (0 : Int) ≤ (ms.length : Int); omega, by show 0 ≤ ((ms ++ rs).length : Int) - (ms.length : Int); omega, by show (ms.length : Int) + (((ms ++ rs).length : Int) - (ms.length : Int)) ≤ _; omega⟩, hit⟩, e3, ?_⟩
    show jC 176 186 163 206 207 Zf (cs.length : Int) a (ms.length : Int) (cS ((ms ++ rs).take ((ms.length : Nat) : Int).toNat)) rs
    rw [ec9]
    have ea : (if a = -1 then 0 else Zf 183 a) = (if a = -1 then 0 else S3 183 a) ∧ (if a = -1 then -1 else Zf 184 a) = (if a = -1 then -1 else S3 184 a) := by
      by_cases c9 : a = -1
      · rw [if_pos c9, if_pos c9, if_pos c9, if_pos c9]; exact ⟨rfl, rfl⟩
      · rw [if_neg c9, if_neg c9, if_neg c9, if_neg c9, y2 183 (by first | decide | omega) (by first | decide | omega) (by first | decide | omega), y2 184 (by first | decide | omega) (by first | decide | omega) (by first | decide | omega)]
        exact ⟨e9.1 183 a (by first | decide | omega) (by first | decide | omega) (by omega) (by omega), e9.1 184 a (by first | decide | omega) (by first | decide | omega) (by omega) (by omega)⟩
    obtain ⟨-, ⟨-, u2, u3⟩, u4, -⟩ := y16
    rw [List.take_length] at u2 u3
    rw [s116] at u4
    refine ⟨⟨?_, ?_⟩, fun q r hq => ?_, fun q r hq r1 => ?_⟩
    · rw [ea.1, f1 183 _ (by omega) (by omega)]; exact u2
    · rw [ea.2, f1 184 _ (by omega) (by omega)]; exact u3
    · have ql := (List.getElem?_eq_some_iff.mp hq).1
      rw [ea.1, ea.2]
      obtain ⟨v1, v2⟩ := u4 q r ql hq
      refine ⟨fun r0 s1 => ?_, fun r0 s1 => ?_⟩
      · obtain ⟨x1, x2, x3⟩ := v1 r0 s1
        rw [y17.2.1 q r hq (Or.inl (by omega)), f1 206 _ (by omega) (by omega), f1 207 _ (by omega) (by omega)]
        exact ⟨x1, x2, x3⟩
      · obtain ⟨x1, x2⟩ := v2 r0 s1
        rw [y17.2.1 q r hq (Or.inl (by omega)), f1 202 _ (by omega) (by omega)]
        exact ⟨x1, x2⟩
    · have ql := (List.getElem?_eq_some_iff.mp hq).1
      obtain ⟨hd2, x, x1, x2, x3⟩ := y17.2.2.1 q r ql hq r1
      have ez : ∀ j : Nat, j ≠ 208 → j ≠ 201 → Zf j = Z1 j := fun j j0 j1 => funext fun y => f1 j y (Or.inl j0) (Or.inl j1)
      exact ⟨hd2, x, fo_h_cg (fun j hj => (ez j (by omega) (by omega)).symm) x1, fo_r_cg (fun j hj => (ez j (by omega) (by omega)).symm) x2, x3⟩
end Wnr
