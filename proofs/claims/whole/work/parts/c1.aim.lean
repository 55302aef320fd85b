/-! PART c1: the reference's here, set, drop. -/
section Wc1
variable {xs : List (Nat × List Int32)} {M : Nat → Prop} {d : Nat} {A B C S Z S0 : wS} {Q : wO → wS → Prop} {T : Int → Int} {n f0 u dp b0 b1 : Int} {N X : List (List Int)} {c i k pm : Nat} {I : List pz_I} {F : List pz_F} {PA : Nat → Int}
variable {la : List Int} {x : pz_I} {I2 : List pz_I} {v : Int} {ir : Nat}
/-- as rQ, with a place of its own for the room -/
def rQr (T : Int → Int) (n : Int) (N X : List (List Int)) (f0 b0 b1 : Int) (S0 : wS) (u dp : Int) (i ir : Nat) (I : List pz_I) (F : List pz_F) (PA : Nat → Int) (S : wS) : Prop := rL T n i S ∧ (mN (NL T n N i) S ∧ mX (XL T n X i) S) ∧ rFv f0 u I F (NL T n N i).length ∧ rFr (xTb T n X) S0 S ∧ ∃ pm : Nat, rCt f0 u dp I F pm S ∧ rB S0 f0 I F PA pm S ∧ rRm b0 b1 ir I F pm S
theorem rQ_gen {Z : wS} (h1 : rL T n i S) (h2 : mN (NL T n N i) S) (h3 : mX (XL T n X i) S) (h4 : rFv f0 u I F (NL T n N i).length) (h5 : rFr (xTb T n X) S0 S) (hc : rCt f0 u dp I F pm S) (hB : rB S0 f0 I F PA pm S) (hR : rRm b0 b1 i I F pm S) (hu : u = f0 + (k : Int)) (hown : ∀ x ∈ I2, f0 ≤ x.2.2.2 ∧ x.2.2.2 < f0 + (F.length : Int)) (hrl : ∀ q : Nat, q ≠ k → rl f0 (f0 + (q : Int)) I2 = rl f0 (f0 + (q : Int)) I ∧ ru f0 (f0 + (q : Int)) I2 = ru f0 (f0 + (q : Int)) I) (hlo : pz_lo I → pz_lo I2) (hl9 : I2.length ≤ 1 * ir + 16) (hPk : rPt S0 f0 I2 F k (PA k) Z) (hs : iI 287 (fs 0) 4000 (sk1 I2) Z ∧ iI 289 (fs 1) 4000 (sk2 I2) Z ∧ iI 291 (fs 2) 4000 (sk3 I2) Z) (fr : ∀ (j : Nat) (y : Int), j ≠ wG → (j < nP k ∨ nP k + 64 ≤ j) → (j < 287 ∨ 292 < j) → (j < nP 400 ∨ nP 400 + 64 ≤ j) → (j ≠ 237 ∨ (y ≠ 59 ∧ y ≠ 60 ∧ y ≠ 61)) → Z j y = S j y) (e59 : Z 237 59 = (I2.length : Int)) (rm : Z wG 0 + (phP k Z + phi 287 Z + phi 289 Z + phi 291 Z) ≤ S wG 0 + (phP k S + phi 287 S + phi 289 S + phi 291 S) + 12 * ((I2.length : Int) + (ir : Int) - ((I.length : Int) + (i : Int))) ∧ 8 * Z wG 1 - Z wG 0 ≤ 8 * S wG 1 - S wG 0) : rQr T n N X f0 b0 b1 S0 u dp i ir I2 F PA Z := by
  obtain ⟨⟨c1, c2⟩, c3, c4, c5, c6, c7⟩ := hc
  obtain ⟨b1', b2, b3, b4, ⟨b5, b6⟩, b7, b8, b9⟩ := hB
  obtain ⟨r1, r2⟩ := hR
  obtain ⟨v1, v2, v3, v4⟩ := h4
  have hkF : k < F.length := by omega
  have hk4 : k < 400 := by omega
  have hn4 : nP 400 = 2025600 := rfl
  have hnk : nP k = 2000000 + 64 * k := rfl
  have hw : wG = 1000000 := rfl
  have el2 : ∀ (j : Nat) (y : Int), ((y = -1 ∧ (j < 287 ∨ (292 < j ∧ j < 400))) ∨ j = 239 ∨ j = 240 ∨ (281 ≤ j ∧ j ≤ 285) ∨ (j = 237 ∧ y ≤ 20)) → Z j y = S j y := fun j y hj => fr j y (by omega) (by omega) (by omega) (by omega) (by omega)
  have e237 : ∀ y : Int, y ≠ 59 → y ≠ 60 → y ≠ 61 → Z 237 y = S 237 y := fun y y1 y2 y3 => fr 237 y (by decide) (by omega) (by decide) (by omega) (Or.inr ⟨y1, y2, y3⟩)
  have eP : ∀ q : Nat, q < 400 → q ≠ k → ∀ (j : Nat) (y : Int), nP q ≤ j → j < nP q + 64 → Z j y = S j y := fun q q1 q2 j y j1 j2 => fr j y (by unfold nP at *; omega) (by unfold nP at *; omega) (by unfold nP at *; omega) (by unfold nP at *; omega) (Or.inl (by unfold nP at *; omega))
  refine ⟨rL_ag2 h1 el2, ⟨mN_ag2 h2 el2, mX_ag2 h3 el2⟩, ⟨v1, v2, hown, v4⟩, fun j y j1 j2 j3 j4 j5 => (fr j y j1 (by omega) (by omega) (by omega) (by omega)).trans (h5 j y j1 j2 j3 j4 j5), pm, ⟨⟨(e237 27 (by decide) (by decide) (by decide)).trans c1, (e237 28 (by decide) (by decide) (by decide)).trans c2⟩, (e237 29 (by decide) (by decide) (by decide)).trans c3, (e237 26 (by decide) (by decide) (by decide)).trans c4, (e237 25 (by decide) (by decide) (by decide)).trans c5, (e237 34 (by decide) (by decide) (by decide)).trans c6, e59⟩, ⟨fun q hq => ?_, fun q q1 q2 => (rSh_ag (b2 q q1 q2) (eP q (by omega) (by omega))).1, fun q q1 q2 c hc z => b3 q q1 q2 c hc ⟨by rw [← eP q (by omega) (by omega) (nP q + c) (-1) (by omega) (by omega)]; exact z.1, z.2⟩, b4, ⟨fun q hq => (fr 286 _ (by decide) (by omega) (by decide) (by omega) (Or.inl (by decide))).trans (b5 q hq), (fr 286 _ (by decide) (by omega) (by decide) (by omega) (Or.inl (by decide))).trans b6⟩, hs.1, hs.2.1, hs.2.2⟩, ?_, ?_⟩
  · by_cases e : q = k
    · subst e; exact hPk
    · obtain ⟨l2, q1, q2, q3⟩ := b1' q hq
      obtain ⟨z1, z2⟩ := hrl q e
      refine ⟨l2, by rw [z1]; exact q1, fun j j1 hno => by rw [z1] at hno ⊢; exact q2 j j1 (hno.imp id (fun hn z => hn (hlo z))), ?_⟩
      rw [z1, z2]
      exact (pO_ag q3 (eP q (by omega) e)).1
  · have e1 : phs Z pm = phs S pm + (phP k Z - phP k S) := phs_one pm (by omega) (fun q q1 q2 => by
      by_cases e2 : q < F.length
      · exact (rPt_ag (b1' q e2) (eP q (by omega) q2)).2
      · exact (rSh_ag (b2 q (by omega) q1) (eP q (by omega) q2)).2)
    unfold phA at r1 ⊢
    rw [e1]
    omega
  · exact ⟨by have := r2.1; omega, hl9⟩
/-- behind the twenty thousandth nothing is kept -/
theorem rl_long {w : Int} (J : List pz_I) (h : 20000 ≤ I.length) : rl f0 w (I ++ J) = rl f0 w I := by
  refine li_end (p := fun J => rl f0 w (I ++ J) = rl f0 w I) (by rw [List.append_nil]) (fun l x q => ?_) J
  rw [← List.append_assoc, rl_ov (by rw [List.length_append]; omega)]
  exact q
/-- where an instruction stands in its part -/
theorem rl_split {w : Int} {j : Nat} {z : pz_I} (hj : j < I.length) (hz : I.getD j (0, 0, 0, 0) = z) (hw : z.2.2.2 = w) (h2 : j < 20000) : ∃ R : List (Int × Int × Int), rl f0 w I = rl f0 w (I.take j) ++ [renc f0 (pz_s (I.take j)) z] ++ R := by
  have e2 := foldl_cut (rst f0 w) I (0, 0, []) j (0, 0, 0, 0) hj
  rw [hz] at e2
  have et : (I.take j).foldl (rst f0 w) (0, 0, []) = (j, pz_s (I.take j), rl f0 w (I.take j)) := by
    have q1 := rfo_n f0 w (I.take j)
    have q2 := rfo_s f0 w (I.take j)
    rw [List.length_take, Nat.min_eq_left (by omega)] at q1
    show rfo f0 w (I.take j) = _
    exact Prod.ext q1 (Prod.ext q2 rfl)
  rw [et] at e2
  have e3 : rst f0 w (j, pz_s (I.take j), rl f0 w (I.take j)) z = (j + 1, pz_s (I.take j) + (if z.1 = 27 then 1 else 0), (rl f0 w (I.take j) ++ [renc f0 (pz_s (I.take j)) z]) ++ []) := by
    have q : z.2.2.2 = w ∧ j < 20000 := ⟨hw, h2⟩
    rw [List.append_nil]
    show (j + 1, pz_s (I.take j) + (if z.1 = 27 then 1 else 0), if z.2.2.2 = w ∧ j < 20000 then rl f0 w (I.take j) ++ [renc f0 (pz_s (I.take j)) z] else rl f0 w (I.take j)) = _
    rw [if_pos q]
  rw [e3, rst_front] at e2
  exact ⟨_, congrArg (fun z => z.2.2) e2⟩
theorem ls_same {α : Type} {l : List α} {k : Nat} {x : α} {z : α} (h : l.getD k z = x) : l.set k x = l := by
  by_cases hk : k < l.length
  · rw [List.getD_eq_getElem?_getD, List.getElem?_eq_getElem hk] at h
    have e : l[k] = x := h
    rw [← e]
    exact List.set_getElem_self hk
  · exact List.set_eq_of_length_le (by omega)
theorem getD_map1 {α β : Type} (g : α → β) {l : List α} {k : Nat} (z : α) (hk : k < l.length) : (l.map g).getD k (g z) = g (l.getD k z) := by
  rw [List.getD_eq_getElem?_getD, List.getD_eq_getElem?_getD, List.getElem?_map, List.getElem?_eq_getElem hk]
  rfl
/-- where jumps are aimed, nothing else changes -/
theorem mem_a {j : Nat} {p : Int → Prop} (h : ∀ x ∈ I, p x.2.2.2) : ∀ x ∈ pz_a I j v, p x.2.2.2 := pz_a_own h
theorem rPt_a {j : Nat} {z : pz_I} {pa : Int} (hj : j < I.length) (hz : I.getD j (0, 0, 0, 0) = z) (hw : z.2.2.2 = f0 + (k : Int)) (h27 : z.1 ≠ 27 ∧ z.1 ≠ 24) (l1 : la.length = (rl f0 (f0 + (k : Int)) I).length) (l2 : ∀ j : Nat, j < la.length → (((rl f0 (f0 + (k : Int)) I).getD j (0, 0, 0)).2.1 = -9 ∨ ¬ pz_lo I) → la.getD j 0 = gA S0 k j ((rl f0 (f0 + (k : Int)) I).getD j (0, 0, 0)).2.1) (hv9 : v ≠ -9) {Z : wS} (hp : pO k (aro f0 (F.getD k (-1, 0, [])).1) pa (F.getD k (-1, 0, [])).2.2.reverse ((rl f0 (f0 + (k : Int)) I).map (fun z => z.1)) (la.set (pz_h (I.take j) (f0 + (k : Int))).toNat v) ((rl f0 (f0 + (k : Int)) I).map (fun z => z.2.2)) (ru f0 (f0 + (k : Int)) I) Z) : rPt S0 f0 (pz_a I j v) F k pa Z := by
  have hru : ∀ I2 : List pz_I, (rl f0 (f0 + (k : Int)) I2).length = (rl f0 (f0 + (k : Int)) I).length → pz_h I2 (f0 + (k : Int)) = pz_h I (f0 + (k : Int)) → ru f0 (f0 + (k : Int)) I2 = ru f0 (f0 + (k : Int)) I := fun I2 a b => by unfold ru; rw [a, b]
  have ea := rl_a (f0 := f0) (u := f0 + (k : Int)) (v := v) hj hz h27
  have hh : (rl f0 (f0 + (k : Int)) (I.take j)).length = (pz_h (I.take j) (f0 + (k : Int))).toNat ∨ 20000 < j := by
    by_cases q : j ≤ 20000
    · have := (rl_len f0 (f0 + (k : Int)) (I.take j)).2 (by rw [List.length_take]; omega)
      exact Or.inl (by omega)
    · exact Or.inr (by omega)
  by_cases h2 : j < 20000
  · rw [if_pos ⟨hw, h2⟩] at ea
    have hh2 : (rl f0 (f0 + (k : Int)) (I.take j)).length = (pz_h (I.take j) (f0 + (k : Int))).toNat := by omega
    obtain ⟨R, hR⟩ := rl_split (f0 := f0) hj hz hw h2
    have hlt : (pz_h (I.take j) (f0 + (k : Int))).toNat < (rl f0 (f0 + (k : Int)) I).length := by
      rw [hR, List.length_append, List.length_append, ← hh2]
      have : [renc f0 (pz_s (I.take j)) z].length = 1 := rfl
      omega
    have hget : (rl f0 (f0 + (k : Int)) I).getD (pz_h (I.take j) (f0 + (k : Int))).toNat (0, 0, 0) = renc f0 (pz_s (I.take j)) z := by
      rw [hR, List.append_assoc, List.getD_eq_getElem?_getD, ← hh2, List.getElem?_append_right (Nat.le_refl _), Nat.sub_self]
      rfl
    rw [hh2] at ea
    have hren : (renc f0 (pz_s (I.take j)) z).1 = (renc f0 0 z).1 ∧ (renc f0 (pz_s (I.take j)) z).2.2 = z.2.2.1 := by
      unfold renc
      exact ⟨rfl, if_neg h27.1⟩
    have hm1 : ((rl f0 (f0 + (k : Int)) I).set (pz_h (I.take j) (f0 + (k : Int))).toNat ((renc f0 0 z).1, v, z.2.2.1)).map (fun z => z.1) = (rl f0 (f0 + (k : Int)) I).map (fun z => z.1) := by
      rw [List.map_set]
      refine ls_same (z := (fun z : Int × Int × Int => z.1) (0, 0, 0)) ?_
      rw [getD_map1 (fun z : Int × Int × Int => z.1) (0, 0, 0) hlt, hget, hren.1]
    have hm2 : ((rl f0 (f0 + (k : Int)) I).set (pz_h (I.take j) (f0 + (k : Int))).toNat ((renc f0 0 z).1, v, z.2.2.1)).map (fun z => z.2.2) = (rl f0 (f0 + (k : Int)) I).map (fun z => z.2.2) := by
      rw [List.map_set]
      refine ls_same (z := (fun z : Int × Int × Int => z.2.2) (0, 0, 0)) ?_
      rw [getD_map1 (fun z : Int × Int × Int => z.2.2) (0, 0, 0) hlt, hget, hren.2]
    refine ⟨la.set (pz_h (I.take j) (f0 + (k : Int))).toNat v, by rw [ea, List.length_set, List.length_set]; exact l1, fun t t1 hno => ?_, ?_⟩
    · rw [List.length_set] at t1
      rw [ea] at hno ⊢
      rw [gD_s (I := (rl f0 (f0 + (k : Int)) I)) (by omega)] at hno ⊢
      rw [gD_s (I := la) t1]
      by_cases e : t = (pz_h (I.take j) (f0 + (k : Int))).toNat
      · rw [if_pos e, if_pos e]
        exact (gA_n hv9).symm
      · rw [if_neg e] at hno ⊢
        rw [if_neg e]
        exact l2 t t1 (hno.imp id (fun hn z => hn (lo_a z)))
    · rw [hru _ (by rw [ea, List.length_set]) (pz_a_h I j v _), ea, hm1, hm2]
      exact hp
  · rw [if_neg (fun q => h2 q.2)] at ea
    have hle : la.length ≤ (pz_h (I.take j) (f0 + (k : Int))).toNat := by
      have e1 : I = I.take j ++ I.drop j := (List.take_append_drop j I).symm
      have e2 : (rl f0 (f0 + (k : Int)) I) = rl f0 (f0 + (k : Int)) (I.take j) := by
        have := rl_long (f0 := f0) (I := I.take j) (w := f0 + (k : Int)) (I.drop j) (by rw [List.length_take]; omega)
        rw [← e1] at this
        exact this
      have := (rl_len f0 (f0 + (k : Int)) (I.take j)).1
      rw [l1, e2]
      omega
    rw [List.set_eq_of_length_le hle] at hp
    refine ⟨la, by rw [ea]; exact l1, fun t t1 hno => by rw [ea] at hno ⊢; exact l2 t t1 (hno.imp id (fun hn z => hn (lo_a z))), ?_⟩
    rw [hru _ (by rw [ea]) (pz_a_h I j v _), ea]
    exact hp
end Wc1
