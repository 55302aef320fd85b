/-! PART ee: typed calls: RETURN, throws, calls. -/
section Wee
variable {fa : Int → Int} {S Z : wS} {K : aK} {a : aV} {q : Int} {l l2 : List aY} {k m : Nat} {lp : List aV} {y : aY} {F2 : List aF} {r : Int × aV}
/-- fewer calls, the latest of them goes on -/
theorem wKt_c (h : wKt fa S K) (h0 : 0 < m) (hm : m ≤ K.2.1.length) (hF : F2.length = m) (hi : ∀ i : Nat, i < m - 1 → F2.getD i (0, 0, 0, (0, 0, []), 0, 0, 0) = (K.2.1.getD i (0, 0, 0, (0, 0, []), 0, 0, 0))) (hb : (F2.getD (m - 1) (0, 0, 0, (0, 0, []), 0, 0, 0)).2.2.2.2.2.1 = (K.2.1.getD (m - 1) (0, 0, 0, (0, 0, []), 0, 0, 0)).2.2.2.2.2.1 ∧ (F2.getD (m - 1) (0, 0, 0, (0, 0, []), 0, 0, 0)).2.2.2.2.2.2 = (K.2.1.getD (m - 1) (0, 0, 0, (0, 0, []), 0, 0, 0)).2.2.2.2.2.2) (ht : fTy fa S (F2.getD (m - 1) (0, 0, 0, (0, 0, []), 0, 0, 0)) (lp.length : Int) (trs l2 (m - 1))) (h1 : ∀ i : Nat, i < m - 1 → trs l2 i = trs K.2.2.1 i) (h2 : ∀ i : Nat, i < m → (l2.filter (fun y => decide (y.1 < i))).length = (K.2.2.1.filter (fun y => decide (y.1 < i))).length) (h3 : l2.Pairwise (fun x y => x.1 ≤ y.1)) (h4 : ∀ y ∈ l2, y.1 < m) : wKt fa S (lp, F2, l2, r) := by
  obtain ⟨g1, g2, g3, g4, g5⟩ := h
  have hb2 : ∀ i : Nat, i < m → (F2.getD i (0, 0, 0, (0, 0, []), 0, 0, 0)).2.2.2.2.2.1 = (K.2.1.getD i (0, 0, 0, (0, 0, []), 0, 0, 0)).2.2.2.2.2.1 ∧ (F2.getD i (0, 0, 0, (0, 0, []), 0, 0, 0)).2.2.2.2.2.2 = (K.2.1.getD i (0, 0, 0, (0, 0, []), 0, 0, 0)).2.2.2.2.2.2 := fun i hi2 => by
    by_cases c : i = m - 1
    · rw [c]; exact hb
    · rw [hi i (by omega)]; exact ⟨rfl, rfl⟩
  refine ⟨fun i hi3 => ?_, fun i hi3 => ?_, h3, fun y hy => by show y.1 < F2.length; rw [hF]; exact h4 y hy, fun i j hij hj => ?_⟩
  · have hi4 : i < m := by have : i < F2.length := hi3; omega
    have hg : hgt (lp, F2, l2, r) i = if i + 1 < m then ((K.2.1.getD (i + 1) (0, 0, 0, (0, 0, []), 0, 0, 0)).2.2.2.2.2.1 : Int) + 1 else (lp.length : Int) := by
      show (if i + 1 < F2.length then ((F2.getD (i + 1) (0, 0, 0, (0, 0, []), 0, 0, 0)).2.2.2.2.2.1 : Int) + 1 else (lp.length : Int)) = _
      rw [hF]
      by_cases c : i + 1 < m
      · rw [if_pos c, if_pos c, (hb2 (i + 1) c).1]
      · rw [if_neg c, if_neg c]
    show fTy fa S (F2.getD i (0, 0, 0, (0, 0, []), 0, 0, 0)) (hgt (lp, F2, l2, r) i) (trs l2 i)
    rw [hg]
    by_cases c : i = m - 1
    · rw [if_neg (by omega), c]; exact ht
    · rw [if_pos (by omega), hi i (by omega), h1 i (by omega)]
      have := g1 i (by omega)
      rw [show hgt K i = ((K.2.1.getD (i + 1) (0, 0, 0, (0, 0, []), 0, 0, 0)).2.2.2.2.2.1 : Int) + 1 from if_pos (by omega)] at this
      exact this
  · have hi4 : i < m := by have : i < F2.length := hi3; omega
    show (F2.getD i (0, 0, 0, (0, 0, []), 0, 0, 0)).2.2.2.2.2.2 = (l2.filter (fun y => decide (y.1 < i))).length
    rw [(hb2 i hi4).2, h2 i hi4]
    exact g2 i (by omega)
  · have hj4 : j < m := by have : j < F2.length := hj; omega
    show (F2.getD i (0, 0, 0, (0, 0, []), 0, 0, 0)).2.2.2.2.2.1 ≤ (F2.getD j (0, 0, 0, (0, 0, []), 0, 0, 0)).2.2.2.2.2.1
    rw [(hb2 i (by omega)).1, (hb2 j hj4).1]
    exact g5 i j hij (by omega)
theorem dr_ge (h : l.Pairwise (fun x y => x.1 ≤ y.1)) : ∀ y ∈ l.drop (l.filter (fun y => decide (y.1 < k))).length, ¬ y.1 < k := by
  intro y hy
  obtain ⟨j, hj, ej⟩ := List.getElem_of_mem hy
  rw [List.getElem_drop] at ej
  rw [List.length_drop] at hj
  have := so_f (k := k) l h ((l.filter (fun y => decide (y.1 < k))).length + j) (by omega)
  rw [List.getD_eq_getElem?_getD, List.getElem?_eq_getElem (by omega), Option.getD_some, ej] at this
  omega
/-- RETURN to the call before -/
theorem wKt_r (h : wKt fa S K) (h0 : 2 ≤ K.2.1.length) (hl : lp.length = (K.2.1.getD (K.2.1.length - 1) (0, 0, 0, (0, 0, []), 0, 0, 0)).2.2.2.2.2.1 + 1) : wKt fa S (lp, K.2.1.take (K.2.1.length - 1), K.2.2.1.take (K.2.1.getD (K.2.1.length - 1) (0, 0, 0, (0, 0, []), 0, 0, 0)).2.2.2.2.2.2, K.2.2.2) := by
  obtain ⟨g1, g2, g3, g4, g5⟩ := id h
  have e := g2 (K.2.1.length - 1) (by omega)
  have ed := List.take_append_drop (K.2.1.getD (K.2.1.length - 1) (0, 0, 0, (0, 0, []), 0, 0, 0)).2.2.2.2.2.2 K.2.2.1
  have hge := dr_ge (k := K.2.1.length - 1) g3
  rw [← e] at hge
  have hlt : ∀ y ∈ K.2.2.1.take (K.2.1.getD (K.2.1.length - 1) (0, 0, 0, (0, 0, []), 0, 0, 0)).2.2.2.2.2.2, y.1 < K.2.1.length - 1 := fun y hy => by
    obtain ⟨j, hj, ej⟩ := List.getElem_of_mem hy
    rw [List.length_take] at hj
    rw [List.getElem_take] at ej
    have := so_f (k := K.2.1.length - 1) K.2.2.1 g3 j (by omega)
    rw [List.getD_eq_getElem?_getD, List.getElem?_eq_getElem (by omega), Option.getD_some, ej] at this
    omega
  have ht : ∀ i : Nat, i < K.2.1.length - 1 → trs (K.2.2.1.take (K.2.1.getD (K.2.1.length - 1) (0, 0, 0, (0, 0, []), 0, 0, 0)).2.2.2.2.2.2) i = trs K.2.2.1 i := fun i hi => by
    have e1 : trs K.2.2.1 i = trs (K.2.2.1.take (K.2.1.getD (K.2.1.length - 1) (0, 0, 0, (0, 0, []), 0, 0, 0)).2.2.2.2.2.2 ++ K.2.2.1.drop (K.2.1.getD (K.2.1.length - 1) (0, 0, 0, (0, 0, []), 0, 0, 0)).2.2.2.2.2.2) i := by rw [ed]
    rw [e1]
    unfold trs
    have en : (K.2.2.1.drop (K.2.1.getD (K.2.1.length - 1) (0, 0, 0, (0, 0, []), 0, 0, 0)).2.2.2.2.2.2).filter (fun y => y.1 == i) = [] := List.filter_eq_nil_iff.mpr (fun y hy => by have := hge y hy; simp only [beq_iff_eq]; omega)
    rw [List.filter_append, en, List.append_nil]
  have hf : ∀ i : Nat, i < K.2.1.length → ((K.2.2.1.take (K.2.1.getD (K.2.1.length - 1) (0, 0, 0, (0, 0, []), 0, 0, 0)).2.2.2.2.2.2).filter (fun y => decide (y.1 < i))).length = (K.2.2.1.filter (fun y => decide (y.1 < i))).length := fun i hi => by
    have e1 : K.2.2.1.filter (fun y => decide (y.1 < i)) = (K.2.2.1.take (K.2.1.getD (K.2.1.length - 1) (0, 0, 0, (0, 0, []), 0, 0, 0)).2.2.2.2.2.2 ++ K.2.2.1.drop (K.2.1.getD (K.2.1.length - 1) (0, 0, 0, (0, 0, []), 0, 0, 0)).2.2.2.2.2.2).filter (fun y => decide (y.1 < i)) := by rw [ed]
    have en : (K.2.2.1.drop (K.2.1.getD (K.2.1.length - 1) (0, 0, 0, (0, 0, []), 0, 0, 0)).2.2.2.2.2.2).filter (fun y => decide (y.1 < i)) = [] := List.filter_eq_nil_iff.mpr (fun y hy => by have := hge y hy; simp only [decide_eq_true_eq]; omega)
    rw [e1, List.filter_append, en, List.append_nil]
  have hn : (K.2.1.take (K.2.1.length - 1)).length = K.2.1.length - 1 := by rw [List.length_take]; omega
  have hg : ∀ i : Nat, i < K.2.1.length - 1 → (K.2.1.take (K.2.1.length - 1)).getD i (0, 0, 0, (0, 0, []), 0, 0, 0) = (K.2.1.getD i (0, 0, 0, (0, 0, []), 0, 0, 0)) := fun i hi => gF_tk hi
  refine wKt_c (m := K.2.1.length - 1) h (by omega) (by omega) hn (fun i hi => hg i (by omega)) (by rw [hg _ (by omega)]; exact ⟨rfl, rfl⟩) ?_ (fun i hi => ht i (by omega)) (fun i hi => hf i (by omega)) (by rw [← ed] at g3; exact (List.pairwise_append.mp g3).1) hlt
  have := g1 (K.2.1.length - 1 - 1) (by omega)
  rw [show hgt K (K.2.1.length - 1 - 1) = (lp.length : Int) from (if_pos (by omega)).trans (by rw [show K.2.1.length - 1 - 1 + 1 = K.2.1.length - 1 by omega]; omega)] at this
  rw [hg _ (by omega), ht _ (by omega)]
  exact this
/-- a value is thrown to the latest try -/
theorem wKt_t (h : wKt fa S K) : wKt fa S (kTh K a) := by
  unfold kTh
  by_cases e0 : K.2.2.1.length = 0
  · rw [if_pos e0]
    exact ⟨fun i hi => absurd hi (Nat.not_lt_zero _), fun i hi => absurd hi (Nat.not_lt_zero _), List.Pairwise.nil, fun y hy => absurd hy (List.not_mem_nil), fun i j _ hj => absurd hj (Nat.not_lt_zero _)⟩
  rw [if_neg e0]
  have hw := wKt_tr h (K.2.2.1.length - 1) (by omega)
  obtain ⟨g1, g2, g3, g4, g5⟩ := id h
  obtain ⟨w1, w2⟩ := hw
  have e := tk_l1 (l := K.2.2.1) (by omega)
  obtain ⟨t1, H, D, n, t2, t3, t5, t6, t7⟩ := g1 (K.2.2.1.getD (K.2.2.1.length - 1) (0, 0, 0)).1 w1
  have et : trs K.2.2.1 (K.2.2.1.getD (K.2.2.1.length - 1) (0, 0, 0)).1 = trs (K.2.2.1.take (K.2.2.1.length - 1)) (K.2.2.1.getD (K.2.2.1.length - 1) (0, 0, 0)).1 ++ [(K.2.2.1.getD (K.2.2.1.length - 1) (0, 0, 0))] := by
    have := trs_a (l := K.2.2.1.take (K.2.2.1.length - 1)) (y := (K.2.2.1.getD (K.2.2.1.length - 1) (0, 0, 0))) (k := (K.2.2.1.getD (K.2.2.1.length - 1) (0, 0, 0)).1) rfl
    rw [e] at this
    exact this
  have el : (trs K.2.2.1 (K.2.2.1.getD (K.2.2.1.length - 1) (0, 0, 0)).1).length = (trs (K.2.2.1.take (K.2.2.1.length - 1)) (K.2.2.1.getD (K.2.2.1.length - 1) (0, 0, 0)).1).length + 1 := by rw [et, List.length_append]; rfl
  have tl := t7 (trs (K.2.2.1.take (K.2.2.1.length - 1)) (K.2.2.1.getD (K.2.2.1.length - 1) (0, 0, 0)).1).length (by omega)
  rw [et, gY_r] at tl
  obtain ⟨u1, ⟨u2, u3⟩, u4⟩ := tl
  have hn : (K.2.1.take ((K.2.2.1.getD (K.2.2.1.length - 1) (0, 0, 0)).1 + 1)).length = (K.2.2.1.getD (K.2.2.1.length - 1) (0, 0, 0)).1 + 1 := by rw [List.length_take]; omega
  have hs : ((K.2.1.take ((K.2.2.1.getD (K.2.2.1.length - 1) (0, 0, 0)).1 + 1)).set ((K.2.1.take ((K.2.2.1.getD (K.2.2.1.length - 1) (0, 0, 0)).1 + 1)).length - 1) (((K.2.1.take ((K.2.2.1.getD (K.2.2.1.length - 1) (0, 0, 0)).1 + 1)).getD ((K.2.1.take ((K.2.2.1.getD (K.2.2.1.length - 1) (0, 0, 0)).1 + 1)).length - 1) (0, 0, 0, (0, 0, []), 0, 0, 0)).1, (K.2.2.1.getD (K.2.2.1.length - 1) (0, 0, 0)).2.1, ((K.2.1.take ((K.2.2.1.getD (K.2.2.1.length - 1) (0, 0, 0)).1 + 1)).getD ((K.2.1.take ((K.2.2.1.getD (K.2.2.1.length - 1) (0, 0, 0)).1 + 1)).length - 1) (0, 0, 0, (0, 0, []), 0, 0, 0)).2.2)).length = (K.2.2.1.getD (K.2.2.1.length - 1) (0, 0, 0)).1 + 1 := by rw [List.length_set]; exact hn
  have hx : ∀ i : Nat, i < (K.2.2.1.getD (K.2.2.1.length - 1) (0, 0, 0)).1 + 1 → ((K.2.1.take ((K.2.2.1.getD (K.2.2.1.length - 1) (0, 0, 0)).1 + 1)).set ((K.2.1.take ((K.2.2.1.getD (K.2.2.1.length - 1) (0, 0, 0)).1 + 1)).length - 1) (((K.2.1.take ((K.2.2.1.getD (K.2.2.1.length - 1) (0, 0, 0)).1 + 1)).getD ((K.2.1.take ((K.2.2.1.getD (K.2.2.1.length - 1) (0, 0, 0)).1 + 1)).length - 1) (0, 0, 0, (0, 0, []), 0, 0, 0)).1, (K.2.2.1.getD (K.2.2.1.length - 1) (0, 0, 0)).2.1, ((K.2.1.take ((K.2.2.1.getD (K.2.2.1.length - 1) (0, 0, 0)).1 + 1)).getD ((K.2.1.take ((K.2.2.1.getD (K.2.2.1.length - 1) (0, 0, 0)).1 + 1)).length - 1) (0, 0, 0, (0, 0, []), 0, 0, 0)).2.2)).getD i (0, 0, 0, (0, 0, []), 0, 0, 0) = if (K.2.2.1.getD (K.2.2.1.length - 1) (0, 0, 0)).1 = i then ((K.2.1.getD (K.2.2.1.getD (K.2.2.1.length - 1) (0, 0, 0)).1 (0, 0, 0, (0, 0, []), 0, 0, 0)).1, (K.2.2.1.getD (K.2.2.1.length - 1) (0, 0, 0)).2.1, (K.2.1.getD (K.2.2.1.getD (K.2.2.1.length - 1) (0, 0, 0)).1 (0, 0, 0, (0, 0, []), 0, 0, 0)).2.2) else (K.2.1.getD i (0, 0, 0, (0, 0, []), 0, 0, 0)) := fun i hi => by
    rw [gF_set (by omega), hn, show (K.2.2.1.getD (K.2.2.1.length - 1) (0, 0, 0)).1 + 1 - 1 = (K.2.2.1.getD (K.2.2.1.length - 1) (0, 0, 0)).1 by omega, gF_tk (by omega), gF_tk hi]
  refine wKt_c (m := (K.2.2.1.getD (K.2.2.1.length - 1) (0, 0, 0)).1 + 1) h (by omega) (by omega) hs (fun i hi => by rw [hx i (by omega), if_neg (by omega)]) (by rw [hx _ (by omega), if_pos (by omega), show (K.2.2.1.getD (K.2.2.1.length - 1) (0, 0, 0)).1 + 1 - 1 = (K.2.2.1.getD (K.2.2.1.length - 1) (0, 0, 0)).1 by omega]; exact ⟨rfl, rfl⟩) ?_ (fun i hi => ?_) (fun i hi => ?_) ?_ ?_
  · rw [hx _ (by omega), if_pos (by omega), show (K.2.2.1.getD (K.2.2.1.length - 1) (0, 0, 0)).1 + 1 - 1 = (K.2.2.1.getD (K.2.2.1.length - 1) (0, 0, 0)).1 by omega]
    refine ⟨t1, H, D, n, t2, u1, ?_, ?_, fun j hj => ?_⟩
    · show ((K.1.take (K.2.2.1.getD (K.2.2.1.length - 1) (0, 0, 0)).2.2 ++ [a]).length : Int) = ((K.2.1.getD (K.2.2.1.getD (K.2.2.1.length - 1) (0, 0, 0)).1 (0, 0, 0, (0, 0, []), 0, 0, 0)).2.2.2.2.2.1 : Int) + H (K.2.2.1.getD (K.2.2.1.length - 1) (0, 0, 0)).2.1.toNat
      rw [List.length_append, List.length_take, u3]
      show ((min (K.2.2.1.getD (K.2.2.1.length - 1) (0, 0, 0)).2.2 K.1.length + 1 : Nat) : Int) = _
      omega
    · show _ = D (K.2.2.1.getD (K.2.2.1.length - 1) (0, 0, 0)).2.1.toNat
      omega
    · have := t7 j (by omega)
      rw [et, gY_l hj] at this
      exact this
  · have := trs_b (l := K.2.2.1.take (K.2.2.1.length - 1)) (y := (K.2.2.1.getD (K.2.2.1.length - 1) (0, 0, 0))) (k := i) (by omega)
    rw [e] at this
    exact this.symm
  · have := fil_b (l := K.2.2.1.take (K.2.2.1.length - 1)) (y := (K.2.2.1.getD (K.2.2.1.length - 1) (0, 0, 0))) (k := i) (by omega)
    rw [e] at this
    rw [this]
  · rw [← e] at g3; exact (List.pairwise_append.mp g3).1
  · intro z hz
    rw [← e] at g3
    have := (List.pairwise_append.mp g3).2.2 z hz _ (List.mem_singleton.mpr rfl)
    omega
/-- a function is called -/
def kCl (K : aK) (lp : List aV) (q g n : Int) (th : aV) (md : Int) : aK := (lp, (kNx K q).2.1 ++ [(g, 0, n, th, md, lp.length, K.2.2.1.length)], K.2.2)
theorem gF_l {l : List aF} {y : aF} {i : Nat} (hi : i < l.length) : (l ++ [y]).getD i (0, 0, 0, (0, 0, []), 0, 0, 0) = l.getD i (0, 0, 0, (0, 0, []), 0, 0, 0) := by
  rw [List.getD_eq_getElem?_getD, List.getElem?_append_left hi, ← List.getD_eq_getElem?_getD]
theorem gF_r {l : List aF} {y : aF} : (l ++ [y]).getD l.length (0, 0, 0, (0, 0, []), 0, 0, 0) = y := by
  rw [List.getD_eq_getElem?_getD, List.getElem?_append_right (Nat.le_refl _), Nat.sub_self]; rfl
theorem wKt_cl {g n md : Int} {th : aV} (h : wKt fa S K) (h0 : 0 < K.2.1.length) (hg : 0 ≤ g ∧ g < S 237 34) (hty : ∃ (H D : Nat → Int) (n : Nat), tyC fa S g H D n) (hq : ∀ (H D : Nat → Int) (n : Nat), tyC fa S (K.2.1.getD (K.2.1.length - 1) (0, 0, 0, (0, 0, []), 0, 0, 0)).1 H D n → 0 ≤ (K.2.1.getD (K.2.1.length - 1) (0, 0, 0, (0, 0, []), 0, 0, 0)).2.1 → (K.2.1.getD (K.2.1.length - 1) (0, 0, 0, (0, 0, []), 0, 0, 0)).2.1 < (n : Int) → (K.1.length : Int) = ((K.2.1.getD (K.2.1.length - 1) (0, 0, 0, (0, 0, []), 0, 0, 0)).2.2.2.2.2.1 : Int) + H (K.2.1.getD (K.2.1.length - 1) (0, 0, 0, (0, 0, []), 0, 0, 0)).2.1.toNat → (0 ≤ q ∧ q < (n : Int)) ∧ (lp.length : Int) + 1 = ((K.2.1.getD (K.2.1.length - 1) (0, 0, 0, (0, 0, []), 0, 0, 0)).2.2.2.2.2.1 : Int) + H q.toNat ∧ 1 ≤ H q.toNat ∧ D q.toNat = D (K.2.1.getD (K.2.1.length - 1) (0, 0, 0, (0, 0, []), 0, 0, 0)).2.1.toNat) : wKt fa S (kCl K lp q g n th md) := by
  obtain ⟨g1, g2, g3, g4, g5⟩ := id h
  obtain ⟨t1, H, D, n1, t2, ⟨t3, t4⟩, t5, t6, t7⟩ := g1 (K.2.1.length - 1) (by omega)
  rw [show hgt K (K.2.1.length - 1) = (K.1.length : Int) from if_neg (by omega)] at t5
  obtain ⟨q1, q2, q3, q4⟩ := hq H D n1 t2 t3 t4 t5
  have hl : (kNx K q).2.1.length = K.2.1.length := List.length_set
  have hl2 : (kCl K lp q g n th md).2.1.length = K.2.1.length + 1 := by
    show ((kNx K q).2.1 ++ [_]).length = _
    rw [List.length_append, hl]; rfl
  have hx : ∀ i : Nat, i < K.2.1.length → (kCl K lp q g n th md).2.1.getD i (0, 0, 0, (0, 0, []), 0, 0, 0) = if K.2.1.length - 1 = i then ((K.2.1.getD (K.2.1.length - 1) (0, 0, 0, (0, 0, []), 0, 0, 0)).1, q, (K.2.1.getD (K.2.1.length - 1) (0, 0, 0, (0, 0, []), 0, 0, 0)).2.2) else (K.2.1.getD i (0, 0, 0, (0, 0, []), 0, 0, 0)) := fun i hi => by
    show ((kNx K q).2.1 ++ [_]).getD i (0, 0, 0, (0, 0, []), 0, 0, 0) = _
    rw [gF_l (by rw [hl]; exact hi)]
    exact gF_set (show K.2.1.length - 1 < K.2.1.length by omega)
  have hr : (kCl K lp q g n th md).2.1.getD K.2.1.length (0, 0, 0, (0, 0, []), 0, 0, 0) = (g, 0, n, th, md, lp.length, K.2.2.1.length) := by
    show ((kNx K q).2.1 ++ [_]).getD K.2.1.length (0, 0, 0, (0, 0, []), 0, 0, 0) = _
    rw [← hl]; exact gF_r
  have hb : ∀ i : Nat, i < K.2.1.length → ((kCl K lp q g n th md).2.1.getD i (0, 0, 0, (0, 0, []), 0, 0, 0)).2.2.2.2.2.1 = (K.2.1.getD i (0, 0, 0, (0, 0, []), 0, 0, 0)).2.2.2.2.2.1 ∧ ((kCl K lp q g n th md).2.1.getD i (0, 0, 0, (0, 0, []), 0, 0, 0)).2.2.2.2.2.2 = (K.2.1.getD i (0, 0, 0, (0, 0, []), 0, 0, 0)).2.2.2.2.2.2 := fun i hi => by
    rw [hx i hi]
    by_cases c : K.2.1.length - 1 = i
    · rw [if_pos c]; subst c; exact ⟨rfl, rfl⟩
    · rw [if_neg c]; exact ⟨rfl, rfl⟩
  have hno : trs K.2.2.1 K.2.1.length = [] := List.filter_eq_nil_iff.mpr (fun y hy => by have := g4 y hy; simp only [beq_iff_eq]; omega)
  have hall : K.2.2.1.filter (fun y => decide (y.1 < K.2.1.length)) = K.2.2.1 := List.filter_eq_self.mpr (fun y hy => by have := g4 y hy; simp only [decide_eq_true_eq]; exact this)
  refine ⟨fun i hi => ?_, fun i hi => ?_, g3, fun y hy => by rw [hl2]; exact Nat.lt_succ_of_lt (g4 y hy), fun i j hij hj => ?_⟩
  · rw [hl2] at hi
    have hgt2 : hgt (kCl K lp q g n th md) i = if i + 1 < K.2.1.length + 1 then ((((kCl K lp q g n th md).2.1.getD (i + 1) (0, 0, 0, (0, 0, []), 0, 0, 0)).2.2.2.2.2.1 : Nat) : Int) + 1 else (lp.length : Int) := by
      unfold hgt
      rw [hl2]
      rfl
    rw [hgt2]
    show fTy fa S _ _ (trs K.2.2.1 i)
    by_cases c : i = K.2.1.length
    · subst c
      rw [hr, if_neg (by omega), hno]
      obtain ⟨H2, D2, n2, e1⟩ := hty
      refine ⟨hg, H2, D2, n2, e1, ⟨Int.le_refl _, by have := e1.2.2.1; show (0 : Int) < (n2 : Int); omega⟩, ?_, ?_, fun j hj => absurd hj (Nat.not_lt_zero _)⟩
      · show (lp.length : Int) = (lp.length : Int) + H2 0
        rw [e1.2.1.1]; omega
      · show ((0 : Nat) : Int) = D2 0
        rw [e1.2.1.2]; rfl
    · rw [if_pos (by omega), hx i (by omega)]
      by_cases c2 : K.2.1.length - 1 = i
      · rw [if_pos c2, show i + 1 = K.2.1.length by omega, hr]
        subst c2
        exact ⟨t1, H, D, n1, t2, q1, q2, t6.trans q4.symm, t7⟩
      · rw [if_neg c2, (hb (i + 1) (by omega)).1]
        have := g1 i (by omega)
        rw [show hgt K i = ((K.2.1.getD (i + 1) (0, 0, 0, (0, 0, []), 0, 0, 0)).2.2.2.2.2.1 : Int) + 1 from if_pos (by omega)] at this
        exact this
  · rw [hl2] at hi
    show _ = (K.2.2.1.filter (fun y => decide (y.1 < i))).length
    by_cases c : i = K.2.1.length
    · subst c
      rw [hr, hall]
    · rw [(hb i (by omega)).2]; exact g2 i (by omega)
  · rw [hl2] at hj
    by_cases c : j = K.2.1.length
    · subst c
      rw [hr]
      by_cases c2 : i = K.2.1.length
      · subst c2; rw [hr]; exact Nat.le_refl _
      · rw [(hb i (by omega)).1]
        have := g5 i (K.2.1.length - 1) (by omega) (by omega)
        show (K.2.1.getD i (0, 0, 0, (0, 0, []), 0, 0, 0)).2.2.2.2.2.1 ≤ lp.length
        omega
    · rw [(hb i (by omega)).1, (hb j (by omega)).1]
      exact g5 i j hij (by omega)
end Wee
