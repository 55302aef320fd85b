/-! PART iu: a new instance, in the reference's world. -/
section Wiu
variable {S A B Z : wS} {T : List aO} {L : List aC} {G : Int → aV} {sl : Nat → List Int} {nf : Nat} {ty pt : Nat → Int} {g : Int} {o1 o2 o3 o4 o5 o6 : Int} {ps qs : List (Int × aV)} {es : List (Int × Int)} {us : List aV}
/-- the values of the last thing change -/
theorem rWd_va (h : rWd A sl (T ++ [(o1, o2, o3, o4, o5, o6, ps)]) L G) (e : rTx A Z) (f : ∀ (j : Nat) (x : Int), rWo j x → ((j ≠ 325 ∧ j ≠ 326) ∨ ∀ i : Nat, i < (sl T.length).length → x ≠ (sl T.length).getD i 0) → Z j x = A j x) (hl : qs.length = ps.length) (hn : ∀ i : Nat, i < ps.length → (qs.getD i (0, (0, 0, []))).1 = (ps.getD i (0, (0, 0, []))).1) (hv : ∀ i : Nat, i < ps.length → rVl Z (Z 325 ((sl T.length).getD i 0)) (Z 326 ((sl T.length).getD i 0)) (qs.getD i (0, (0, 0, []))).2) : rWd Z sl (T ++ [(o1, o2, o3, o4, o5, o6, qs)]) L G := by
  obtain ⟨⟨ga, gb⟩, g2, p3, n1, g5⟩ := h
  have ll : ∀ y : aO, (T ++ [y]).length = T.length + 1 := fun y => by rw [List.length_append]; rfl
  have es : ∀ (j : Nat) (x : Int), rWo j x → j ≠ 325 → j ≠ 326 → Z j x = A j x := fun j x hj j0 j1 => f j x hj (Or.inl ⟨j0, j1⟩)
  have et : ∀ (j : Nat) (x : Int), 314 ≤ j → j ≤ 328 → j ≠ 325 → j ≠ 326 → Z j x = A j x := fun j x j0 j1 j2 j3 => es j x (Or.inl ⟨j0, j1⟩) j2 j3
  have w8 : Z 237 68 = A 237 68 := es 237 68 (by unfold rWo; omega) (by first | decide | omega) (by first | decide | omega)
  have w82 : Z 237 82 = A 237 82 := es 237 82 (by unfold rWo; omega) (by first | decide | omega) (by first | decide | omega)
  have gu := gb T.length (by rw [ll]; omega)
  have glen : (sl T.length).length = ps.length := by have := gu.2.1.2; rw [gO_r] at this; exact this
  refine ⟨⟨?_, fun q hq => ?_⟩, rCa_mo g2 e (es 237 69 (by unfold rWo; omega) (by first | decide | omega) (by first | decide | omega)) (es 237 94 (by unfold rWo; omega) (by first | decide | omega) (by first | decide | omega)) (fun j x j0 j1 => es j x (by unfold rWo; omega) (by omega) (by omega)), fun q r hq hr => ?_, ?_, rGl_mo g5 e (fun j x j0 j1 => es j x (by unfold rWo; omega) (by omega) (by omega))⟩
  · rw [w8, ga, ll, ll]
  · rw [ll] at hq
    obtain ⟨a, ⟨b1, b2⟩, c, d, g⟩ := gb q (by rw [ll]; omega)
    rw [et 314 _ (by first | decide | omega) (by first | decide | omega) (by first | decide | omega) (by first | decide | omega), et 315 _ (by first | decide | omega) (by first | decide | omega) (by first | decide | omega) (by first | decide | omega), et 316 _ (by first | decide | omega) (by first | decide | omega) (by first | decide | omega) (by first | decide | omega), et 317 _ (by first | decide | omega) (by first | decide | omega) (by first | decide | omega) (by first | decide | omega), et 318 _ (by first | decide | omega) (by first | decide | omega) (by first | decide | omega) (by first | decide | omega), et 319 _ (by first | decide | omega) (by first | decide | omega) (by first | decide | omega) (by first | decide | omega), et 320 _ (by first | decide | omega) (by first | decide | omega) (by first | decide | omega) (by first | decide | omega), et 321 _ (by first | decide | omega) (by first | decide | omega) (by first | decide | omega) (by first | decide | omega), et 322 _ (by first | decide | omega) (by first | decide | omega) (by first | decide | omega) (by first | decide | omega), et 323 _ (by first | decide | omega) (by first | decide | omega) (by first | decide | omega) (by first | decide | omega), et 324 _ (by first | decide | omega) (by first | decide | omega) (by first | decide | omega) (by first | decide | omega), w82]
    have g' : ∀ q2 i j : Nat, q2 < (T ++ [(o1, o2, o3, o4, o5, o6, qs)]).length → i < (sl q).length → j < (sl q2).length → (sl q).getD i 0 = (sl q2).getD j 0 → q = q2 ∧ i = j := fun q2 i j z0 => g q2 i j (by rw [ll] at z0 ⊢; exact z0)
    by_cases cq : q = T.length
    · subst cq
      rw [gO_r] at a b1 b2 d
      rw [gO_r]
      refine ⟨a, ⟨by rw [hl]; exact b1, by rw [hl]; exact b2⟩, c, fun y hy => ?_, g'⟩
      obtain ⟨d1, d2, -, d4⟩ := d y hy
      rw [et 327 _ (by first | decide | omega) (by first | decide | omega) (by first | decide | omega) (by first | decide | omega), et 328 _ (by first | decide | omega) (by first | decide | omega) (by first | decide | omega) (by first | decide | omega)]
      exact ⟨d1, d2.trans (hn y (by omega)).symm, hv y (by omega), d4⟩
    · have hq2 : q < T.length := by omega
      rw [gO_l hq2] at a b1 b2 d
      rw [gO_l hq2]
      refine ⟨a, ⟨b1, b2⟩, c, fun y hy => ?_, g'⟩
      obtain ⟨d1, d2, d3, d4⟩ := d y hy
      have hne : ∀ i : Nat, i < (sl T.length).length → (sl q).getD y 0 ≠ (sl T.length).getD i 0 := fun i hi z => cq (g T.length y i (by rw [ll]; omega) hy hi z).1
      rw [et 327 _ (by first | decide | omega) (by first | decide | omega) (by first | decide | omega) (by first | decide | omega), et 328 _ (by first | decide | omega) (by first | decide | omega) (by first | decide | omega) (by first | decide | omega), f 325 _ (by unfold rWo; omega) (Or.inr hne), f 326 _ (by unfold rWo; omega) (Or.inr hne)]
      exact ⟨d1, d2, rVl_mo d3 e, d4⟩
  · rw [es 334 _ (by unfold rWo; omega) (by first | decide | omega) (by first | decide | omega), es 334 _ (by unfold rWo; omega) (by first | decide | omega) (by first | decide | omega)]
    exact p3 q r hq hr
  · rw [es 237 94 (by unfold rWo; omega) (by first | decide | omega) (by first | decide | omega)]; exact n1
/-- the fields of a new instance are added -/
theorem rWd_af : ∀ (r i : Nat) (S Z : wS) (sl : Nat → List Int) (ps : List (Int × aV)), rWd S sl (T ++ [(o1, o2, o3, o4, o5, o6, ps)]) L G → 0 ≤ S 237 82 → afL (T.length : Int) ty r i S Z → ∃ sl2 : Nat → List Int, rWd Z sl2 (T ++ [(o1, o2, o3, o4, o5, o6, ps ++ (List.range r).map (fun j => ((-1 : Int), (fkI (ty (i + j)), (0 : Int), ([] : List Int)))))]) L G ∧ rTx S Z ∧ sl2 T.length = sl T.length ++ (List.range r).map (fun j : Nat => S 237 82 + (j : Int))
  | 0, i, S, Z, sl, ps, h, h0, ha => by
    have ha2 : S = Z := ha
    subst ha2
    exact ⟨sl, by rw [List.range_zero, List.map_nil, List.append_nil]; exact h, rTx_rfl, by rw [List.range_zero, List.map_nil, List.append_nil]⟩
  | r + 1, i, S, Z, sl, ps, h, h0, ha => by
    obtain ⟨A, hA, hr⟩ := ha
    have hf3 : fkI (ty i) ≠ 3 := by
      unfold fkI
      split
      · decide
      · split <;> decide
    have ll : (T ++ [((o1, o2, o3, o4, o5, o6, ps) : aO)]).length = T.length + 1 := by rw [List.length_append]; rfl
    have h1 := rWd_as (u := (fkI (ty i), 0, [])) h (n := T.length) (by rw [ll]; omega) rfl rfl rfl hA h0 ⟨rfl, fun _ => ⟨rfl, rfl⟩, fun z => absurd z hf3⟩
    rw [gO_r, List.set_append_right _ _ (Nat.le_refl _), Nat.sub_self] at h1
    have h2 : rWd A (aSa sl T.length (S 237 82)) (T ++ [(o1, o2, o3, o4, o5, o6, ps ++ [(-1, (fkI (ty i), 0, []))])]) L G := h1
    have a82 : A 237 82 = S 237 82 + 1 := hA.1.1
    have eA : rTx S A := rTx_of (hA.2.2.2 237 19 (by first | decide | omega) (Or.inl (by first | decide | omega)) (Or.inl (by first | decide | omega)) (Or.inl (by first | decide | omega))) (hA.2.2.2 237 102 (by first | decide | omega) (Or.inl (by first | decide | omega)) (Or.inl (by first | decide | omega)) (Or.inl (by first | decide | omega))) (fun j x j0 j1 => hA.2.2.2 j x (by omega) (by omega) (by omega) (by omega))
    obtain ⟨sl2, k1, k2, k3⟩ := rWd_af r (i + 1) A Z (aSa sl T.length (S 237 82)) _ h2 (by omega) hr
    refine ⟨sl2, ?_, rTx_tr eA k2, ?_⟩
    · have hm : ps ++ (List.range (r + 1)).map (fun j => ((-1 : Int), (fkI (ty (i + j)), (0 : Int), ([] : List Int)))) = ps ++ [(-1, (fkI (ty i), 0, []))] ++ (List.range r).map (fun j => ((-1 : Int), (fkI (ty (i + 1 + j)), (0 : Int), ([] : List Int)))) := by
        rw [List.range_succ_eq_map, List.map_cons, List.map_map, List.append_assoc]
        refine congrArg (fun z => ps ++ z) ?_
        refine congr (congrArg List.cons rfl) (List.map_congr_left (fun j _ => ?_))
        show ((-1 : Int), (fkI (ty (i + (j + 1))), (0 : Int), ([] : List Int))) = _
        rw [show i + (j + 1) = i + 1 + j by omega]
      rw [hm]
      exact k1
    · rw [k3, aSa_e, List.range_succ_eq_map, List.map_cons, List.map_map, List.append_assoc]
      refine congrArg (fun z => sl T.length ++ z) ?_
      refine congr (congrArg List.cons (by show S 237 82 = S 237 82 + ((0 : Nat) : Int); omega)) (List.map_congr_left (fun j _ => ?_))
      show A 237 82 + (j : Int) = S 237 82 + ((j + 1 : Nat) : Int)
      omega
theorem rWd_in {s0 v0 u0 c tn m en : Int} (h : rWd B sl T L G) (r : maR g s0 v0 u0 c tn m en nf ty pt es B Z) (hg : g = (T.length : Int)) (hu : B 237 62 = u0) (h82 : B 237 82 = s0) (hs0 : 0 ≤ s0) (hel : es.length = us.length) (hes : ∀ q : Nat, q < es.length → rVl B (es.getD q (0, 0)).1 (es.getD q (0, 0)).2 (us.getD q (0, 0, []))) : (∃ sl2 : Nat → List Int, rWd Z sl2 (T ++ [(7, -1, c, -1, -1, 0, inP nf ty pt us)]) L G) ∧ rTx B Z := by
  obtain ⟨D, E, -, haf, hmu, hiq⟩ := r
  subst hg
  have hW1 : rWd (w_up (w_up (w_up B 343 tn m) 343 (tn + 1) en) 237 106 (tn + 2)) sl T L G := rWd_ag h (rTx_of rfl rfl (fun j x j0 j1 => (w_up_no (by omega)).trans ((w_up_no (by omega)).trans (w_up_no (by omega))))) (fun j x hj => by unfold rWo at hj; exact (w_up_no (by omega)).trans ((w_up_no (by omega)).trans (w_up_no (by omega))))
  have hnt := nt_7 (fo := c) (n := (T.length : Int)) (u0 := u0) (S := w_up (w_up (w_up B 343 tn m) 343 (tn + 1) en) 237 106 (tn + 2)) hu
  have hW2 := rWd_nx hW1 rfl hnt
  have nfr := hnt.2.2.2
  have x82 : (w_up (ntZ 7 (T.length : Int) u0 (w_up (w_up (w_up B 343 tn m) 343 (tn + 1) en) 237 106 (tn + 2))) 321 (T.length : Int) c) 237 82 = s0 := (nfr 237 82 (by omega) (by omega)).trans h82
  obtain ⟨sl2, k1, k2, k3⟩ := rWd_af nf 0 _ D _ _ hW2 (by rw [x82]; exact hs0) haf
  rw [aSl_e, x82, List.nil_append] at k3
  rw [List.nil_append] at k1
  have eB : rTx B D := rTx_tr (rTx_of ((nfr 237 19 (by omega) (by omega)).trans rfl) ((nfr 237 102 (by omega) (by omega)).trans rfl) (fun j x j0 j1 => (nfr j x (by omega) (by omega)).trans ((w_up_no (by omega)).trans ((w_up_no (by omega)).trans (w_up_no (by omega)))))) k2
  obtain ⟨m1, mfr⟩ := hmu
  obtain ⟨-, -, ifr⟩ := hiq
  have fZ : ∀ (j : Nat) (x : Int), (j ≠ 237 ∨ (x ≠ 110 ∧ x ≠ 111)) → j ≠ 386 → ((j ≠ 325 ∧ j ≠ 326) ∨ x < s0 ∨ s0 + (nf : Int) ≤ x) → Z j x = D j x := fun j x j0 j1 j2 => (ifr j x (by unfold isM; omega)).trans (mfr j x (by unfold muM; omega))
  have fE : ∀ (j : Nat) (x : Int), j ≠ 237 → Z j x = E j x := fun j x j0 => ifr j x (by unfold isM; omega)
  have eD : rTx D Z := rTx_of (fZ 237 19 (by omega) (by first | decide | omega) (by omega)) (fZ 237 102 (by omega) (by first | decide | omega) (by omega)) (fun j x j0 j1 => fZ j x (by omega) (by omega) (by omega))
  have eZ : rTx B Z := rTx_tr eB eD
  have hsl : (sl2 T.length).length = nf := by rw [k3, List.length_map, List.length_range]
  have hsg : ∀ i : Nat, i < nf → (sl2 T.length).getD i 0 = s0 + (i : Int) := fun i hi => by
    rw [k3, List.getD_eq_getElem?_getD, List.getElem?_map, List.getElem?_range hi]; rfl
  have hcs := cs_rel (nf := nf) (ty := ty) (pt := pt) (R := fun e u => rVl B e.1 e.2 u) (fun e u z => z.1) es us 0 (fun _ => (-1, 0)) (fun _ => (-1, 0, [])) hel hes (fun _ => ⟨rfl, fun _ => ⟨rfl, rfl⟩, fun z => absurd z (by first | decide | omega)⟩)
  have hlm : ((List.range nf).map (fun j => ((-1 : Int), (fkI (ty (0 + j)), (0 : Int), ([] : List Int))))).length = nf := by rw [List.length_map, List.length_range]
  refine ⟨⟨sl2, rWd_va k1 eD (fun j x hj j2 => ?_) (by rw [inP_l, hlm]) (fun i hi => ?_) (fun i hi => ?_)⟩, eZ⟩
  · refine fZ j x (by unfold rWo at hj; omega) (by unfold rWo at hj; omega) ?_
    rcases j2 with j2 | j2
    · exact Or.inl j2
    · refine Or.inr ?_
      by_cases cx : s0 ≤ x ∧ x < s0 + (nf : Int)
      · exact absurd (show x = (sl2 T.length).getD (x - s0).toNat 0 by rw [hsg _ (by omega)]; omega) (j2 (x - s0).toNat (by omega))
      · omega
  · rw [hlm] at hi
    rw [inP_g hi, List.getD_eq_getElem?_getD, List.getElem?_map, List.getElem?_range hi]
    rfl
  · rw [hlm] at hi
    rw [inP_g hi, hsg i hi, fE 325 _ (by first | decide | omega), fE 326 _ (by first | decide | omega), (m1 i hi).2.1, (m1 i hi).2.2]
    exact inV_r (rVl_mo (hcs i) eZ)
end Wiu
