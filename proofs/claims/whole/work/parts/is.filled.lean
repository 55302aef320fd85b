/-! PART is: a new thing's values, in the class's world; the values of a new instance. -/
section Wis
variable {S B Z : wS} {T : List aO} {L : List aC} {G : Int → aV} {nf : Nat} {ty pt : Nat → Int} {o1 o2 o3 o4 o5 o6 p : Int} {ps : List (Int × aV)}
theorem cWd_fi (h : cWd B (T ++ [(o1, o2, o3, o4, o5, o6, [])]) L G) (e : cTx B Z) (f : ∀ (j : Nat) (x : Int), cWo j x → (j ≠ 134 ∨ x ≠ (T.length : Int)) → j ≠ 141 → j ≠ 142 → Z j x = B j x) (fc : ∀ x : Int, 0 ≤ x → x < B 140 2 → (x < B 133 (T.length : Int) ∨ B 133 (T.length : Int) + B 135 (T.length : Int) ≤ x) → Z 141 x = B 141 x ∧ Z 142 x = B 142 x) (hl : Z 142 (-1) = Z 141 (-1) ∧ B 140 2 ≤ Z 141 (-1) ∧ 16 ≤ Z 141 (-1) ∧ Z 141 (-1) ≤ 480400) (h134 : Z 134 (T.length : Int) = (ps.length : Int)) (hps : (ps.length : Int) ≤ B 135 (T.length : Int)) (hv : cR1 Z 141 142 (B 133 (T.length : Int)) (ps.map (fun x => x.2))) : cWd Z (T ++ [(o1, o2, o3, o4, o5, o6, ps)]) L G := by
  obtain ⟨⟨ga, gb⟩, g2, ⟨p1, p2, p3⟩, ⟨⟨n1, n2, n3, n4⟩, n5, ⟨n6, n7⟩, n8, n9⟩, ⟨t1, t2, t3, t4⟩, g5⟩ := h
  have ll : ∀ y : aO, (T ++ [y]).length = T.length + 1 := fun y => by rw [List.length_append]; rfl
  have gl : ∀ (y : aO) (q : Nat), q < T.length → (T ++ [y]).getD q (0, 0, 0, 0, 0, 0, []) = T.getD q (0, 0, 0, 0, 0, 0, []) := fun y q hq => gLa hq
  have gr : ∀ y : aO, (T ++ [y]).getD T.length (0, 0, 0, 0, 0, 0, []) = y := fun y => by rw [gLb (Nat.le_refl _), Nat.sub_self]; rfl
  have f2 : ∀ (j : Nat) (x : Int), 127 ≤ j → j ≤ 136 → (j ≠ 134 ∨ x ≠ (T.length : Int)) → Z j x = B j x := fun j x j0 j1 j2 => f j x (Or.inl ⟨j0, j1⟩) j2 (by omega) (by omega)
  have w8 : ∀ x : Int, Z 138 x = B 138 x := fun x => f 138 x (by unfold cWo; omega) (by omega) (by first | decide | omega) (by first | decide | omega)
  have w9 : ∀ x : Int, Z 139 x = B 139 x := fun x => f 139 x (by unfold cWo; omega) (by omega) (by first | decide | omega) (by first | decide | omega)
  have w0 : Z 140 2 = B 140 2 := f 140 2 (by unfold cWo; omega) (by omega) (by first | decide | omega) (by first | decide | omega)
  have w3 : Z 72 3 = B 72 3 := f 72 3 (by unfold cWo; omega) (by omega) (by first | decide | omega) (by first | decide | omega)
  have w5 : Z 72 5 = B 72 5 := f 72 5 (by unfold cWo; omega) (by omega) (by first | decide | omega) (by first | decide | omega)
  obtain ⟨ua, ⟨ub1, ub2, ub3, ub4⟩, -⟩ := gb T.length (by rw [ll]; omega)
  refine ⟨⟨?_, fun q hq => ?_⟩, cCa_mo g2 e w5 (fun x _ _ => ⟨w8 x, w9 x⟩) (Int.le_of_eq w0.symm) (fun q x hq x0 x1 => ?_), ?_, ?_, ?_, cGl_mo g5 e (fun j x hj => f j x (by unfold cWo; omega) (by omega) (by omega) (by omega))⟩
  · rw [w3, ga, ll, ll]
  · rw [ll] at hq
    by_cases c : q = T.length
    · subst c
      rw [gr] at ua
      rw [gr, f2 127 _ (by first | decide | omega) (by first | decide | omega) (by omega), f2 128 _ (by first | decide | omega) (by first | decide | omega) (by omega), f2 129 _ (by first | decide | omega) (by first | decide | omega) (by omega), f2 130 _ (by first | decide | omega) (by first | decide | omega) (by omega), f2 131 _ (by first | decide | omega) (by first | decide | omega) (by omega), f2 133 _ (by first | decide | omega) (by first | decide | omega) (by omega), f2 135 _ (by first | decide | omega) (by first | decide | omega) (by omega), f2 136 _ (by first | decide | omega) (by first | decide | omega) (by omega), w0]
      exact ⟨ua, ⟨h134, by omega, ub3, ub4⟩, hv⟩
    · have hq2 : q < T.length := by omega
      obtain ⟨a, ⟨c1, c2, c3, c4⟩, c5⟩ := gb q (by rw [ll]; omega)
      rw [gl _ q hq2] at a c1 c5
      rw [gl _ q hq2, f2 127 _ (by first | decide | omega) (by first | decide | omega) (by omega), f2 128 _ (by first | decide | omega) (by first | decide | omega) (by omega), f2 129 _ (by first | decide | omega) (by first | decide | omega) (by omega), f2 130 _ (by first | decide | omega) (by first | decide | omega) (by omega), f2 131 _ (by first | decide | omega) (by first | decide | omega) (by omega), f2 133 _ (by first | decide | omega) (by first | decide | omega) (by omega), f2 134 _ (by first | decide | omega) (by first | decide | omega) (by omega), f2 135 _ (by first | decide | omega) (by first | decide | omega) (by omega), f2 136 _ (by first | decide | omega) (by first | decide | omega) (by omega), w0]
      refine ⟨a, ⟨c1, c2, c3, c4⟩, cR1_mo c5 e (fun x x0 x1 => fc x (by omega) ?_ ?_)⟩
      · rw [List.length_map] at x1; omega
      · rw [List.length_map] at x1
        have z := p1 q T.length (by rw [ll]; omega) (by rw [ll]; omega) c
        omega
  · obtain ⟨-, ⟨b3, b4⟩, -⟩ := g2.2 q hq
    refine fc x (by omega) (by omega) ?_
    have z := p2 T.length q (by rw [ll]; omega) hq
    rcases z with z | z | z | z
    · omega
    · rw [z] at x1; have : (([] : List aV).length : Int) = 0 := rfl; omega
    · omega
    · omega
  · have ap := cAp_mo (Z := Z) ⟨p1, p2, p3⟩ (fun x _ _ => ⟨f2 133 x (by first | decide | omega) (by first | decide | omega) (by omega), f2 135 x (by first | decide | omega) (by first | decide | omega) (by omega)⟩) (fun x _ _ => w8 x)
    rw [ll] at ap
    rw [ll]
    exact ap
  · unfold cLc
    rw [w8, w9, w0]
    exact ⟨⟨n1, n2, n3, n4⟩, hl.1, ⟨n6, hl.2.1⟩, hl.2.2.1, hl.2.2.2⟩
  · refine ⟨fun x hx => ?_, ?_⟩
    · rw [f2 (127 + x) _ (by omega) (by omega) (by omega), f2 127 _ (by first | decide | omega) (by first | decide | omega) (by omega)]; exact t1 x hx
    · rw [f2 127 _ (by first | decide | omega) (by first | decide | omega) (by omega), ll]
      rw [ll] at t2
      exact ⟨t2, t3, t4⟩
/-- the first unset field of a type, by values -/
def fuA (nf : Nat) (ty : Nat → Int) (c : Nat → aV) (p : Int) : Option Nat := (List.range nf).find? (fun i => decide ((c i).1 = -1 ∧ ty i = p))
def csB (nf : Nat) (ty : Nat → Int) (c : Nat → aV) (p : Int) (u : aV) : Nat → aV := match fuA nf ty c p with | none => c | some q => fun i => if i = q then u else c i
def csA (nf : Nat) (ty pt : Nat → Int) : Nat → List aV → (Nat → aV) → (Nat → aV)
  | _, [], c => c
  | i, u :: us, c => csA nf ty pt (i + 1) us (csB nf ty c (pt i) u)
theorem fu_rel {c : Nat → Int × Int} {c2 : Nat → aV} (h : ∀ i, (c i).1 = (c2 i).1) : fuN nf ty c p = fuA nf ty c2 p := by
  unfold fuN fuA
  congr 1
  funext i
  rw [h i]
theorem cs_rel {R : Int × Int → aV → Prop} (h1 : ∀ e u, R e u → e.1 = u.1) : ∀ (es : List (Int × Int)) (us : List aV) (i : Nat) (c : Nat → Int × Int) (c2 : Nat → aV), es.length = us.length → (∀ q : Nat, q < es.length → R (es.getD q (0, 0)) (us.getD q (0, 0, []))) → (∀ i, R (c i) (c2 i)) → ∀ q, R (csF nf ty pt i es c q) (csA nf ty pt i us c2 q)
  | [], [], _, _, _, _, _, h, q => h q
  | [], _ :: _, _, _, _, hl, _, _, _ => absurd hl (by simp)
  | _ :: _, [], _, _, _, hl, _, _, _ => absurd hl (by simp)
  | e :: es, u :: us, i, c, c2, hl, he, h, q => by
    refine cs_rel h1 es us (i + 1) (csS nf ty c (pt i) e) (csB nf ty c2 (pt i) u) (by simpa using hl) (fun q hq => he (q + 1) (by simpa using hq)) (fun x => ?_) q
    have h0 : R e u := he 0 (by simp)
    unfold csS csB
    rw [fu_rel (c2 := c2) (fun i => h1 _ _ (h i))]
    cases fuA nf ty c2 (pt i) with
    | none => exact h x
    | some y =>
      show R (if x = y then e else c x) (if x = y then u else c2 x)
      by_cases cy : x = y
      · rw [if_pos cy, if_pos cy]; exact h0
      · rw [if_neg cy, if_neg cy]; exact h x
/-- the fields' values of a new instance -/
def inV (nf : Nat) (ty pt : Nat → Int) (us : List aV) (i : Nat) : aV := if (csA nf ty pt 0 us (fun _ => (-1, 0, [])) i).1 = -1 then (fkI (ty i), 0, []) else csA nf ty pt 0 us (fun _ => (-1, 0, [])) i
def inP (nf : Nat) (ty pt : Nat → Int) (us : List aV) : List (Int × aV) := (List.range nf).map (fun i => (-1, inV nf ty pt us i))
theorem inP_l {us : List aV} : (inP nf ty pt us).length = nf := by unfold inP; rw [List.length_map, List.length_range]
theorem inP_g {us : List aV} {i : Nat} (hi : i < nf) : (inP nf ty pt us).getD i (0, (0, 0, [])) = (-1, inV nf ty pt us i) := by
  unfold inP
  rw [List.getD_eq_getElem?_getD, List.getElem?_map, List.getElem?_range hi]
  rfl
theorem inP_v {us : List aV} {i : Nat} (hi : i < nf) : ((inP nf ty pt us).map (fun x => x.2)).getD i (0, 0, []) = inV nf ty pt us i := by
  unfold inP
  rw [List.map_map, List.getD_eq_getElem?_getD, List.getElem?_map, List.getElem?_range hi]
  rfl
theorem inV_c {us : List aV} {i : Nat} {e : Int × Int} (h : cVl S e.1 e.2 (csA nf ty pt 0 us (fun _ => (-1, 0, [])) i)) : cVl S (if e.1 = -1 then fkI (ty i) else e.1) (if e.1 = -1 then 0 else e.2) (inV nf ty pt us i) := by
  unfold inV
  have h1 := h.1
  by_cases c : e.1 = -1
  · rw [if_pos c, if_pos c, if_pos (by omega)]
    refine cV_e ?_ rfl
    unfold fkI
    split
    · decide
    · split <;> decide
  · rw [if_neg c, if_neg c, if_neg (by omega)]; exact h
theorem inV_r {us : List aV} {i : Nat} {e : Int × Int} (h : rVl S e.1 e.2 (csA nf ty pt 0 us (fun _ => (-1, 0, [])) i)) : rVl S (if e.1 = -1 then fkI (ty i) else e.1) (if e.1 = -1 then 0 else e.2) (inV nf ty pt us i) := by
  unfold inV
  have h1 := h.1
  by_cases c : e.1 = -1
  · rw [if_pos c, if_pos c, if_pos (by omega)]
    have hf : fkI (ty i) ≠ 3 := by
      unfold fkI
      split
      · decide
      · split <;> decide
    exact ⟨rfl, fun _ => ⟨rfl, rfl⟩, fun z => absurd z hf⟩
  · rw [if_neg c, if_neg c, if_neg (by omega)]; exact h
end Wis
