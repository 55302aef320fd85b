/-! PART ed: typed calls stay typed. -/
section Wed
theorem tyC_mo {fa fb : Int → Int} {S Z : wS} {g : Int} {H D : Nat → Int} {n : Nat} (h : tyC fa S g H D n) (hg : 0 ≤ S 297 g ∧ S 297 g + S 298 g ≤ S 237 43) (g0 : 0 ≤ g ∧ g < S 237 34) (e1 : S 237 16 ≤ Z 237 16 ∧ S 237 19 ≤ Z 237 19 ∧ S 237 34 ≤ Z 237 34 ∧ S 237 47 ≤ Z 237 47) (eF : ∀ (j : Nat) (x : Int), (j = 296 ∨ j = 297 ∨ j = 298) → 0 ≤ x → x < S 237 34 → Z j x = S j x) (eI : ∀ (j : Nat) (x : Int), (301 ≤ j ∧ j ≤ 303) → 0 ≤ x → x < S 237 43 → Z j x = S j x) (eS : ∀ (j : Nat) (x : Int), (304 ≤ j ∧ j ≤ 306) → 0 ≤ x → x < S 237 47 → Z j x = S j x) (ea : ∀ x : Int, 0 ≤ x → x < S 237 34 → fb x = fa x) : tyC fb Z g H D n  := by
  obtain ⟨h1, h2, h3, h4, h5, h6⟩ := h
  have e97 := eF 297 g (by omega) g0.1 g0.2
  have e98 := eF 298 g (by omega) g0.1 g0.2
  refine ⟨e98.trans h1, h2, h3, h4, fun i hi => ?_, ?_⟩
  · rw [e97, eI 301 _ (by omega) (by omega) (by omega), eI 302 _ (by omega) (by omega) (by omega), eI 303 _ (by omega) (by omega) (by omega)]
    obtain ⟨a1, a2, a3, a4, r9, a5, a6, a7, a8, a9, a10, a11, a12⟩ := h5 i hi
    have hs : S 301 (S 297 g + (i : Int)) = 27 → Z 304 (S 302 (S 297 g + (i : Int))) = S 304 (S 302 (S 297 g + (i : Int))) ∧ Z 305 (S 302 (S 297 g + (i : Int))) = S 305 (S 302 (S 297 g + (i : Int))) ∧ Z 306 (S 302 (S 297 g + (i : Int))) = S 306 (S 302 (S 297 g + (i : Int))) := fun q => by
      obtain ⟨⟨b1, b2⟩, -⟩ := a11 q
      exact ⟨eS 304 _ (by omega) b1 b2, eS 305 _ (by omega) b1 b2, eS 306 _ (by omega) b1 b2⟩
    have hm : ∀ e1 e2 : Int, S 301 (S 297 g + (i : Int)) ≠ 27 → mne (S 301 (S 297 g + (i : Int))) (S 302 (S 297 g + (i : Int))) e1 = mne (S 301 (S 297 g + (i : Int))) (S 302 (S 297 g + (i : Int))) e2 ∧ mde (S 301 (S 297 g + (i : Int))) (S 302 (S 297 g + (i : Int))) e1 = mde (S 301 (S 297 g + (i : Int))) (S 302 (S 297 g + (i : Int))) e2 := fun e1 e2 q => by
      unfold mne mde
      rw [if_neg q, if_neg q, if_neg q, if_neg q]
      exact ⟨rfl, rfl⟩
    refine ⟨?_, fun q => ?_, a3, a4, r9, a5, fun q => ?_, fun q => ?_, fun q => ?_, fun q => ?_, a10, fun q => ?_, a12⟩
    · by_cases q : S 301 (S 297 g + (i : Int)) = 27
      · obtain ⟨b1, b2, b3⟩ := hs q
        rw [b1, b3]; exact a1
      · rw [(hm _ (mes (S 304 (S 302 (S 297 g + (i : Int)))) (S 306 (S 302 (S 297 g + (i : Int))))) q).1]; exact a1
    · by_cases q2 : S 301 (S 297 g + (i : Int)) = 27
      · obtain ⟨b1, b2, b3⟩ := hs q2
        rw [b1, b3]; exact a2 q
      · rw [(hm _ (mes (S 304 (S 302 (S 297 g + (i : Int)))) (S 306 (S 302 (S 297 g + (i : Int))))) q2).2]; exact a2 q
    · obtain ⟨b1, b2, b3⟩ := a6 q
      exact ⟨b1, b2, fun q2 => by have := b3 q2; omega⟩
    · obtain ⟨b1, b2, b3, b4⟩ := a7 q
      have hc := fup_cg b2 ea
      refine ⟨b1, fun j hj => ?_, b3, ?_⟩
      · rw [hc j hj]; have := b2 j hj; omega
      · rw [hc _ (Nat.le_refl _), eF 296 _ (by omega) (b2 _ (Nat.le_refl _)).1 (b2 _ (Nat.le_refl _)).2]; exact b4
    · have := a8 q; omega
    · obtain ⟨b1, b2, b3⟩ := a9 q
      exact ⟨b1, by omega, (ea _ b1 b2).trans b3⟩
    · obtain ⟨b1, b2, b3, b4, b5⟩ := a11 q
      obtain ⟨c1, c2, c3⟩ := hs q
      rw [c1, c2, c3]
      exact ⟨by omega, b2, b3, fun q2 => by have := b4 q2; omega, by omega⟩
  · rw [e97, eI 301 _ (by omega) (by omega) (by omega)]; exact h6
variable {fa : Int → Int} {S Z : wS} {K : aK} {a : aV} {q : Int} {l l2 : List aY} {k : Nat} {lp : List aV} {y : aY}
/-- the latest call goes on, perhaps with other tries -/
theorem wKt_g (h : wKt fa S K) (h0 : 0 < K.2.1.length) (ht : fTy fa S ((K.2.1.getD (K.2.1.length - 1) (0, 0, 0, (0, 0, []), 0, 0, 0)).1, q, (K.2.1.getD (K.2.1.length - 1) (0, 0, 0, (0, 0, []), 0, 0, 0)).2.2) (lp.length : Int) (trs l2 (K.2.1.length - 1))) (h1 : ∀ i : Nat, i < K.2.1.length - 1 → trs l2 i = trs K.2.2.1 i) (h2 : ∀ i : Nat, i < K.2.1.length → (l2.filter (fun y => decide (y.1 < i))).length = (K.2.2.1.filter (fun y => decide (y.1 < i))).length) (h3 : l2.Pairwise (fun x y => x.1 ≤ y.1)) (h4 : ∀ y ∈ l2, y.1 < K.2.1.length) : wKt fa S (kNx (lp, K.2.1, l2, K.2.2.2) q) := by
  obtain ⟨g1, g2, g3, g4, g5⟩ := h
  have hl : (kNx (lp, K.2.1, l2, K.2.2.2) q).2.1.length = K.2.1.length := List.length_set
  have hx : ∀ i : Nat, (kNx (lp, K.2.1, l2, K.2.2.2) q).2.1.getD i (0, 0, 0, (0, 0, []), 0, 0, 0) = if K.2.1.length - 1 = i then ((K.2.1.getD (K.2.1.length - 1) (0, 0, 0, (0, 0, []), 0, 0, 0)).1, q, (K.2.1.getD (K.2.1.length - 1) (0, 0, 0, (0, 0, []), 0, 0, 0)).2.2) else (K.2.1.getD i (0, 0, 0, (0, 0, []), 0, 0, 0)) := fun i => gF_set (show K.2.1.length - 1 < K.2.1.length by omega)
  have hb : ∀ i : Nat, ((kNx (lp, K.2.1, l2, K.2.2.2) q).2.1.getD i (0, 0, 0, (0, 0, []), 0, 0, 0)).2.2.2.2.2.1 = (K.2.1.getD i (0, 0, 0, (0, 0, []), 0, 0, 0)).2.2.2.2.2.1 ∧ ((kNx (lp, K.2.1, l2, K.2.2.2) q).2.1.getD i (0, 0, 0, (0, 0, []), 0, 0, 0)).2.2.2.2.2.2 = (K.2.1.getD i (0, 0, 0, (0, 0, []), 0, 0, 0)).2.2.2.2.2.2 := fun i => by
    rw [hx]
    by_cases c : K.2.1.length - 1 = i
    · rw [if_pos c]; subst c; exact ⟨rfl, rfl⟩
    · rw [if_neg c]; exact ⟨rfl, rfl⟩
  refine ⟨fun i hi => ?_, fun i hi => ?_, h3, fun y hy => by rw [hl]; exact h4 y hy, fun i j hij hj => by rw [(hb i).1, (hb j).1]; exact g5 i j hij (by rw [hl] at hj; exact hj)⟩
  · rw [hl] at hi
    rw [hx]
    have hg : hgt (kNx (lp, K.2.1, l2, K.2.2.2) q) i = if i + 1 < K.2.1.length then ((K.2.1.getD (i + 1) (0, 0, 0, (0, 0, []), 0, 0, 0)).2.2.2.2.2.1 : Int) + 1 else (lp.length : Int) := by
      unfold hgt
      rw [hl, (hb (i + 1)).1]
      rfl
    rw [hg]
    by_cases c : K.2.1.length - 1 = i
    · subst c
      rw [if_pos rfl, if_neg (by omega)]
      exact ht
    · rw [if_neg c, if_pos (by omega)]
      have := g1 i hi
      rw [show hgt K i = ((K.2.1.getD (i + 1) (0, 0, 0, (0, 0, []), 0, 0, 0)).2.2.2.2.2.1 : Int) + 1 from if_pos (by omega)] at this
      show fTy fa S (K.2.1.getD i (0, 0, 0, (0, 0, []), 0, 0, 0)) _ (trs l2 i)
      rw [h1 i (by omega)]
      exact this
  · rw [hl] at hi
    rw [(hb i).2]
    show (K.2.1.getD i (0, 0, 0, (0, 0, []), 0, 0, 0)).2.2.2.2.2.2 = (l2.filter (fun y => decide (y.1 < i))).length
    rw [h2 i hi]
    exact g2 i hi
/-- .. with the same tries -/
theorem wKt_n (h : wKt fa S K) (h0 : 0 < K.2.1.length) (hq : ∀ (H D : Nat → Int) (n : Nat), tyC fa S (K.2.1.getD (K.2.1.length - 1) (0, 0, 0, (0, 0, []), 0, 0, 0)).1 H D n → 0 ≤ (K.2.1.getD (K.2.1.length - 1) (0, 0, 0, (0, 0, []), 0, 0, 0)).2.1 → (K.2.1.getD (K.2.1.length - 1) (0, 0, 0, (0, 0, []), 0, 0, 0)).2.1 < (n : Int) → (K.1.length : Int) = ((K.2.1.getD (K.2.1.length - 1) (0, 0, 0, (0, 0, []), 0, 0, 0)).2.2.2.2.2.1 : Int) + H (K.2.1.getD (K.2.1.length - 1) (0, 0, 0, (0, 0, []), 0, 0, 0)).2.1.toNat → (0 ≤ q ∧ q < (n : Int)) ∧ (lp.length : Int) = ((K.2.1.getD (K.2.1.length - 1) (0, 0, 0, (0, 0, []), 0, 0, 0)).2.2.2.2.2.1 : Int) + H q.toNat ∧ D q.toNat = D (K.2.1.getD (K.2.1.length - 1) (0, 0, 0, (0, 0, []), 0, 0, 0)).2.1.toNat) : wKt fa S (kNx (lp, K.2) q) := by
  obtain ⟨g1, g2, g3, g4, g5⟩ := id h
  obtain ⟨t1, H, D, n, t2, ⟨t3, t4⟩, t5, t6, t7⟩ := g1 (K.2.1.length - 1) (by omega)
  rw [show hgt K (K.2.1.length - 1) = (K.1.length : Int) from if_neg (by omega)] at t5
  obtain ⟨q1, q2, q3⟩ := hq H D n t2 t3 t4 t5
  exact wKt_g h h0 ⟨t1, H, D, n, t2, q1, q2, t6.trans q3.symm, t7⟩ (fun _ _ => rfl) (fun _ _ => rfl) g3 g4
theorem trs_a (h : y.1 = k) : trs (l ++ [y]) k = trs l k ++ [y] := by
  unfold trs
  rw [List.filter_append, List.filter_cons_of_pos (by simpa using h)]; rfl
theorem trs_b (h : y.1 ≠ k) : trs (l ++ [y]) k = trs l k := by
  unfold trs
  rw [List.filter_append, List.filter_cons_of_neg (by simpa using h)]; exact List.append_nil _
theorem fil_b (h : ¬ y.1 < k) : ((l ++ [y]).filter (fun z => decide (z.1 < k))) = l.filter (fun z => decide (z.1 < k)) := by
  rw [List.filter_append, List.filter_cons_of_neg (by simpa using h)]; exact List.append_nil _
/-- TRY -/
theorem wKt_31 {x : Int} (h : wKt fa S K) (h0 : 0 < K.2.1.length) (hq : ∀ (H D : Nat → Int) (n : Nat), tyC fa S (K.2.1.getD (K.2.1.length - 1) (0, 0, 0, (0, 0, []), 0, 0, 0)).1 H D n → 0 ≤ (K.2.1.getD (K.2.1.length - 1) (0, 0, 0, (0, 0, []), 0, 0, 0)).2.1 → (K.2.1.getD (K.2.1.length - 1) (0, 0, 0, (0, 0, []), 0, 0, 0)).2.1 < (n : Int) → (K.1.length : Int) = ((K.2.1.getD (K.2.1.length - 1) (0, 0, 0, (0, 0, []), 0, 0, 0)).2.2.2.2.2.1 : Int) + H (K.2.1.getD (K.2.1.length - 1) (0, 0, 0, (0, 0, []), 0, 0, 0)).2.1.toNat → (0 ≤ q ∧ q < (n : Int)) ∧ H q.toNat = 0 ∧ H (K.2.1.getD (K.2.1.length - 1) (0, 0, 0, (0, 0, []), 0, 0, 0)).2.1.toNat = 0 ∧ D q.toNat = D (K.2.1.getD (K.2.1.length - 1) (0, 0, 0, (0, 0, []), 0, 0, 0)).2.1.toNat + 1 ∧ (0 ≤ x ∧ x < (n : Int)) ∧ H x.toNat = 1 ∧ D x.toNat = D (K.2.1.getD (K.2.1.length - 1) (0, 0, 0, (0, 0, []), 0, 0, 0)).2.1.toNat) : wKt fa S (kNx (kTy K x) q) := by
  obtain ⟨g1, g2, g3, g4, g5⟩ := id h
  obtain ⟨t1, H, D, n, t2, ⟨t3, t4⟩, t5, t6, t7⟩ := g1 (K.2.1.length - 1) (by omega)
  rw [show hgt K (K.2.1.length - 1) = (K.1.length : Int) from if_neg (by omega)] at t5
  obtain ⟨q1, q2, q3, q4, q5, q6, q7⟩ := hq H D n t2 t3 t4 t5
  have hla : (trs K.2.2.1 (K.2.1.length - 1) ++ [(K.2.1.length - 1, x, K.1.length)]).length = (trs K.2.2.1 (K.2.1.length - 1)).length + 1 := by rw [List.length_append]; rfl
  refine wKt_g h h0 ⟨t1, H, D, n, t2, q1, ?_, ?_, fun j hj => ?_⟩ (fun i hi => trs_b (show K.2.1.length - 1 ≠ i by omega)) (fun i hi => by rw [fil_b (show ¬ K.2.1.length - 1 < i by omega)]) ?_ ?_
  · show (K.1.length : Int) = ((K.2.1.getD (K.2.1.length - 1) (0, 0, 0, (0, 0, []), 0, 0, 0)).2.2.2.2.2.1 : Int) + H q.toNat
    omega
  · rw [trs_a (k := K.2.1.length - 1) rfl, hla]
    show (((trs K.2.2.1 (K.2.1.length - 1)).length + 1 : Nat) : Int) = D q.toNat
    omega
  · rw [trs_a (k := K.2.1.length - 1) rfl, hla] at hj
    rw [trs_a (k := K.2.1.length - 1) rfl]
    by_cases e : j = (trs K.2.2.1 (K.2.1.length - 1)).length
    · subst e
      rw [gY_r]
      refine ⟨q5, ⟨?_, q6⟩, ?_⟩
      · show K.1.length = (K.2.1.getD (K.2.1.length - 1) (0, 0, 0, (0, 0, []), 0, 0, 0)).2.2.2.2.2.1
        omega
      · show D x.toNat = _
        omega
    · rw [gY_l (by omega)]
      exact t7 j (by omega)
  · refine List.pairwise_append.mpr ⟨g3, List.pairwise_singleton _ _, fun z hz w hw => ?_⟩
    rw [List.mem_singleton.mp hw]
    have := g4 z hz
    show z.1 ≤ K.2.1.length - 1
    omega
  · intro z hz
    rcases List.mem_append.mp hz with hz | hz
    · exact g4 z hz
    · rw [List.mem_singleton.mp hz]; show K.2.1.length - 1 < K.2.1.length; omega
theorem tk_l1 (hl : 0 < l.length) : l.take (l.length - 1) ++ [l.getD (l.length - 1) (0, 0, 0)] = l := by
  rw [List.getD_eq_getElem?_getD, List.getElem?_eq_getElem (show l.length - 1 < l.length by omega)]
  have := List.take_append_getElem (l := l) (i := l.length - 1) (by omega)
  rw [show l.length - 1 + 1 = l.length by omega, List.take_length] at this
  exact this
/-- the last try is the latest call's -/
theorem la_top (h : wKt fa S K) (h0 : 0 < (trs K.2.2.1 (K.2.1.length - 1)).length) : 0 < K.2.2.1.length ∧ (K.2.2.1.getD (K.2.2.1.length - 1) (0, 0, 0)).1 = K.2.1.length - 1 := by
  obtain ⟨g1, g2, g3, g4, g5⟩ := h
  obtain ⟨y, hy⟩ := List.exists_mem_of_length_pos h0
  obtain ⟨y1, y2⟩ := List.mem_filter.mp hy
  have y3 : y.1 = K.2.1.length - 1 := by simpa using y2
  have hl : 0 < K.2.2.1.length := List.length_pos_of_mem y1
  refine ⟨hl, ?_⟩
  have hlast := g4 _ (gY_m (show K.2.2.1.length - 1 < K.2.2.1.length by omega))
  have e := tk_l1 hl
  rw [← e] at y1
  rcases List.mem_append.mp y1 with q1 | q1
  · rw [← e] at g3
    have := (List.pairwise_append.mp g3).2.2 y q1 _ (List.mem_singleton.mpr rfl)
    omega
  · rw [← List.mem_singleton.mp q1]; exact y3
/-- END -/
theorem wKt_32 (h : wKt fa S K) (h0 : 0 < K.2.1.length) (hq : ∀ (H D : Nat → Int) (n : Nat), tyC fa S (K.2.1.getD (K.2.1.length - 1) (0, 0, 0, (0, 0, []), 0, 0, 0)).1 H D n → 0 ≤ (K.2.1.getD (K.2.1.length - 1) (0, 0, 0, (0, 0, []), 0, 0, 0)).2.1 → (K.2.1.getD (K.2.1.length - 1) (0, 0, 0, (0, 0, []), 0, 0, 0)).2.1 < (n : Int) → (K.1.length : Int) = ((K.2.1.getD (K.2.1.length - 1) (0, 0, 0, (0, 0, []), 0, 0, 0)).2.2.2.2.2.1 : Int) + H (K.2.1.getD (K.2.1.length - 1) (0, 0, 0, (0, 0, []), 0, 0, 0)).2.1.toNat → (0 ≤ q ∧ q < (n : Int)) ∧ H q.toNat = H (K.2.1.getD (K.2.1.length - 1) (0, 0, 0, (0, 0, []), 0, 0, 0)).2.1.toNat ∧ D q.toNat = D (K.2.1.getD (K.2.1.length - 1) (0, 0, 0, (0, 0, []), 0, 0, 0)).2.1.toNat - 1 ∧ 0 < D (K.2.1.getD (K.2.1.length - 1) (0, 0, 0, (0, 0, []), 0, 0, 0)).2.1.toNat) : 0 < K.2.2.1.length ∧ wKt fa S (kNx (K.1, K.2.1, K.2.2.1.take (K.2.2.1.length - 1), K.2.2.2) q) := by
  obtain ⟨g1, g2, g3, g4, g5⟩ := id h
  obtain ⟨t1, H, D, n, t2, ⟨t3, t4⟩, t5, t6, t7⟩ := g1 (K.2.1.length - 1) (by omega)
  rw [show hgt K (K.2.1.length - 1) = (K.1.length : Int) from if_neg (by omega)] at t5
  obtain ⟨q1, q2, q3, q4⟩ := hq H D n t2 t3 t4 t5
  obtain ⟨l0, l1⟩ := la_top h (by omega)
  have e := tk_l1 l0
  have et : trs K.2.2.1 (K.2.1.length - 1) = trs (K.2.2.1.take (K.2.2.1.length - 1)) (K.2.1.length - 1) ++ [K.2.2.1.getD (K.2.2.1.length - 1) (0, 0, 0)] := by
    have := trs_a (l := K.2.2.1.take (K.2.2.1.length - 1)) l1
    rw [e] at this
    exact this
  have el : (trs K.2.2.1 (K.2.1.length - 1)).length = (trs (K.2.2.1.take (K.2.2.1.length - 1)) (K.2.1.length - 1)).length + 1 := by rw [et, List.length_append]; rfl
  refine ⟨l0, wKt_g h h0 ⟨t1, H, D, n, t2, q1, ?_, ?_, fun j hj => ?_⟩ (fun i hi => ?_) (fun i hi => ?_) ?_ ?_⟩
  · show (K.1.length : Int) = ((K.2.1.getD (K.2.1.length - 1) (0, 0, 0, (0, 0, []), 0, 0, 0)).2.2.2.2.2.1 : Int) + H q.toNat
    rw [q2]; exact t5
  · show _ = D q.toNat
    omega
  · have := t7 j (by omega)
    rw [et, gY_l hj] at this
    exact this
  · have := trs_b (l := K.2.2.1.take (K.2.2.1.length - 1)) (y := K.2.2.1.getD (K.2.2.1.length - 1) (0, 0, 0)) (k := i) (by omega)
    rw [e] at this
    exact this.symm
  · have := fil_b (l := K.2.2.1.take (K.2.2.1.length - 1)) (y := K.2.2.1.getD (K.2.2.1.length - 1) (0, 0, 0)) (k := i) (by omega)
    rw [e] at this
    rw [this]
  · rw [← e] at g3; exact (List.pairwise_append.mp g3).1
  · exact fun z hz => g4 z (List.mem_of_mem_take hz)
end Wed
