/-! PART bu: a unit's instructions as the reference keeps them, part by part. -/
section Wbu
variable {f0 u v w s : Int} {I : List pz_I} {x : pz_I} {j : Nat}
/-- an instruction in a part; s sites are ahead of it -/
def renc (f0 s : Int) (x : pz_I) : Int × Int × Int := (if x.1 = 3 then -1 else if x.1 = 4 then -2 else x.1, if x.1 = 27 then s else if x.1 = 24 then x.2.1 - f0 else x.2.1, if x.1 = 27 then 0 else x.2.2.1)
def rst (f0 u : Int) (a : Nat × Int × List (Int × Int × Int)) (x : pz_I) : Nat × Int × List (Int × Int × Int) := (a.1 + 1, a.2.1 + (if x.1 = 27 then 1 else 0), if x.2.2.2 = u ∧ a.1 < 20000 then a.2.2 ++ [renc f0 a.2.1 x] else a.2.2)
def rfo (f0 u : Int) (I : List pz_I) : Nat × Int × List (Int × Int × Int) := I.foldl (rst f0 u) (0, 0, [])
/-- the instructions of one part that are kept -/
def rl (f0 u : Int) (I : List pz_I) : List (Int × Int × Int) := (rfo f0 u I).2.2
theorem rfo_ap : rfo f0 u (I ++ [x]) = rst f0 u (rfo f0 u I) x := by
  unfold rfo
  rw [List.foldl_append]
  rfl
/-- from the end on -/
theorem li_end {α : Type} {p : List α → Prop} (h0 : p []) (h1 : ∀ (l : List α) (x : α), p l → p (l ++ [x])) (l : List α) : p l := by
  have : ∀ m : List α, p m.reverse := fun m => by
    induction m with
    | nil => exact h0
    | cons x m ih => rw [List.reverse_cons]; exact h1 _ _ ih
  have h := this l.reverse
  rw [List.reverse_reverse] at h
  exact h
theorem rfo_n (f0 u : Int) (I : List pz_I) : (rfo f0 u I).1 = I.length := by
  refine li_end (p := fun I => (rfo f0 u I).1 = I.length) rfl (fun l x h => ?_) I
  rw [rfo_ap, List.length_append]
  show (rfo f0 u l).1 + 1 = l.length + 1
  rw [h]
theorem rfo_s (f0 u : Int) (I : List pz_I) : (rfo f0 u I).2.1 = pz_s I := by
  refine li_end (p := fun I => (rfo f0 u I).2.1 = pz_s I) rfl (fun l x h => ?_) I
  rw [rfo_ap, pz_s_ap]
  show (rfo f0 u l).2.1 + (if x.1 = 27 then 1 else 0) = pz_s l + pz_s [x]
  rw [h, show pz_s [x] = (if x.1 = 27 then 1 else 0) from pz_s_1 x.1 x.2.1 x.2.2.1 x.2.2.2]
theorem rl_ap : rl f0 u (I ++ [x]) = if x.2.2.2 = u ∧ I.length < 20000 then rl f0 u I ++ [renc f0 (pz_s I) x] else rl f0 u I := by
  unfold rl
  rw [rfo_ap]
  show (if x.2.2.2 = u ∧ (rfo f0 u I).1 < 20000 then (rfo f0 u I).2.2 ++ [renc f0 (rfo f0 u I).2.1 x] else (rfo f0 u I).2.2) = _
  rw [rfo_n, rfo_s]
theorem rl_no (h : x.2.2.2 ≠ u) : rl f0 u (I ++ [x]) = rl f0 u I := by rw [rl_ap, if_neg (fun q => h q.1)]
theorem rl_in (h : x.2.2.2 = u) (hl : I.length < 20000) : rl f0 u (I ++ [x]) = rl f0 u I ++ [renc f0 (pz_s I) x] := by rw [rl_ap, if_pos ⟨h, hl⟩]
theorem rl_ov (hl : 20000 ≤ I.length) : rl f0 u (I ++ [x]) = rl f0 u I := by rw [rl_ap, if_neg (fun q => by omega)]
/-- how many are kept -/
theorem rl_len (f0 u : Int) (I : List pz_I) : ((rl f0 u I).length : Int) ≤ pz_h I u ∧ (I.length ≤ 20000 → ((rl f0 u I).length : Int) = pz_h I u) := by
  refine li_end (p := fun I => ((rl f0 u I).length : Int) ≤ pz_h I u ∧ (I.length ≤ 20000 → ((rl f0 u I).length : Int) = pz_h I u)) ⟨Int.le_refl _, fun _ => rfl⟩ (fun l x h => ?_) I
  rw [rl_ap, pz_h_ap, List.length_append, show pz_h [x] u = (if x.2.2.2 = u then 1 else 0) from pz_h_1 x.1 x.2.1 x.2.2.1 x.2.2.2 u]
  obtain ⟨h1, h2⟩ := h
  have hl1 : [x].length = 1 := rfl
  by_cases e : x.2.2.2 = u
  · rw [if_pos e]
    by_cases e2 : l.length < 20000
    · rw [if_pos ⟨e, e2⟩, List.length_append]
      have h3 := h2 (by omega)
      have h4 : [renc f0 (pz_s l) x].length = 1 := rfl
      omega
    · rw [if_neg (fun q => e2 q.2)]
      omega
  · rw [if_neg e, if_neg (fun q => e q.1)]
    refine ⟨by omega, fun q => by rw [h2 (by omega)]; omega⟩
/-- how many aren't -/
def ru (f0 u : Int) (I : List pz_I) : Int := pz_h I u - ((rl f0 u I).length : Int)
theorem ru_rg (f0 u : Int) (I : List pz_I) : 0 ≤ ru f0 u I ∧ (I.length ≤ 20000 → ru f0 u I = 0) ∧ ru f0 u I ≤ (I.length : Int) := by
  have h := rl_len f0 u I
  have h2 := pz_h_rg I u
  unfold ru
  exact ⟨by omega, fun q => by rw [h.2 q]; omega, by omega⟩
theorem ru_no (h : x.2.2.2 ≠ u) : ru f0 u (I ++ [x]) = ru f0 u I := by
  unfold ru
  rw [rl_no h, pz_h_ap, show pz_h [x] u = (if x.2.2.2 = u then 1 else 0) from pz_h_1 x.1 x.2.1 x.2.2.1 x.2.2.2 u, if_neg h]
  omega
theorem ru_in (h : x.2.2.2 = u) (hl : I.length < 20000) : ru f0 u (I ++ [x]) = ru f0 u I := by
  unfold ru
  rw [rl_in h hl, pz_h_ap, show pz_h [x] u = (if x.2.2.2 = u then 1 else 0) from pz_h_1 x.1 x.2.1 x.2.2.1 x.2.2.2 u, if_pos h, List.length_append]
  have h4 : [renc f0 (pz_s I) x].length = 1 := rfl
  omega
theorem ru_ov (h : x.2.2.2 = u) (hl : 20000 ≤ I.length) : ru f0 u (I ++ [x]) = ru f0 u I + 1 := by
  unfold ru
  rw [rl_ov hl, pz_h_ap, show pz_h [x] u = (if x.2.2.2 = u then 1 else 0) from pz_h_1 x.1 x.2.1 x.2.2.1 x.2.2.2 u, if_pos h]
  omega
/-- the unit's sites: kind, name, how many -/
def sk1 (I : List pz_I) : List Int := (I.filter (fun x => x.1 == 27)).map (fun x => x.2.1 % 16)
def sk2 (I : List pz_I) : List Int := (I.filter (fun x => x.1 == 27)).map (fun x => x.2.2.1)
def sk3 (I : List pz_I) : List Int := (I.filter (fun x => x.1 == 27)).map (fun x => x.2.1 / 16)
theorem sk_no (h : x.1 ≠ 27) : sk1 (I ++ [x]) = sk1 I ∧ sk2 (I ++ [x]) = sk2 I ∧ sk3 (I ++ [x]) = sk3 I := by
  have e : [x].filter (fun x => x.1 == 27) = [] := by
    rw [List.filter_cons_of_neg (by simpa using h)]; rfl
  unfold sk1 sk2 sk3
  rw [List.filter_append, e, List.append_nil]
  exact ⟨rfl, rfl, rfl⟩
theorem sk_in (h : x.1 = 27) : sk1 (I ++ [x]) = sk1 I ++ [x.2.1 % 16] ∧ sk2 (I ++ [x]) = sk2 I ++ [x.2.2.1] ∧ sk3 (I ++ [x]) = sk3 I ++ [x.2.1 / 16] := by
  have e : [x].filter (fun x => x.1 == 27) = [x] := by
    rw [List.filter_cons_of_pos (by simpa using h)]; rfl
  unfold sk1 sk2 sk3
  rw [List.filter_append, e, List.map_append, List.map_append, List.map_append]
  exact ⟨rfl, rfl, rfl⟩
theorem sk_len (I : List pz_I) : ((sk1 I).length : Int) = pz_s I ∧ ((sk2 I).length : Int) = pz_s I ∧ ((sk3 I).length : Int) = pz_s I := by
  unfold sk1 sk2 sk3 pz_s
  rw [List.length_map, List.length_map, List.length_map, List.countP_eq_length_filter]
  exact ⟨rfl, rfl, rfl⟩
/-- an instruction's A is set: nothing else changes -/
theorem foldl_set {α β : Type} (f : β → α → β) : ∀ (l : List α) (b : β) (j : Nat) (y : α), j < l.length → (l.set j y).foldl f b = (l.drop (j + 1)).foldl f (f ((l.take j).foldl f b) y) := by
  intro l
  induction l with
  | nil => intro b j y h; exact absurd h (Nat.not_lt_zero _)
  | cons x l ih =>
    intro b j y h
    cases j with
    | zero => rfl
    | succ j =>
      show (l.set j y).foldl f (f b x) = _
      rw [ih (f b x) j y (Nat.lt_of_succ_lt_succ h)]
      rfl
theorem foldl_cut {α β : Type} (f : β → α → β) (l : List α) (b : β) (j : Nat) (z : α) (h : j < l.length) : l.foldl f b = (l.drop (j + 1)).foldl f (f ((l.take j).foldl f b) (l.getD j z)) := by
  have e := foldl_set f l b j (l.getD j z) h
  rw [show l.set j (l.getD j z) = l by
    rw [List.getD_eq_getElem?_getD, List.getElem?_eq_getElem h]
    exact List.set_getElem_self h] at e
  exact e
/-- a longer list keeps its front -/
theorem rst_front (f0 u : Int) : ∀ (I : List pz_I) (c : Nat) (s : Int) (l m : List (Int × Int × Int)), I.foldl (rst f0 u) (c, s, l ++ m) = ((I.foldl (rst f0 u) (c, s, m)).1, (I.foldl (rst f0 u) (c, s, m)).2.1, l ++ (I.foldl (rst f0 u) (c, s, m)).2.2) := by
  intro I
  induction I with
  | nil => intro c s l m; rfl
  | cons x I ih =>
    intro c s l m
    have e : (x :: I).foldl (rst f0 u) (c, s, m) = I.foldl (rst f0 u) (c + 1, s + (if x.1 = 27 then 1 else 0), if x.2.2.2 = u ∧ c < 20000 then m ++ [renc f0 s x] else m) := rfl
    have e2 : (x :: I).foldl (rst f0 u) (c, s, l ++ m) = I.foldl (rst f0 u) (c + 1, s + (if x.1 = 27 then 1 else 0), if x.2.2.2 = u ∧ c < 20000 then (l ++ m) ++ [renc f0 s x] else l ++ m) := rfl
    rw [e, e2]
    by_cases h : x.2.2.2 = u ∧ c < 20000
    · rw [if_pos h, if_pos h, List.append_assoc, ih]
    · rw [if_neg h, if_neg h, ih]
theorem rl_a {z : pz_I} (hj : j < I.length) (hz : I.getD j (0, 0, 0, 0) = z) (h27 : z.1 ≠ 27 ∧ z.1 ≠ 24) : rl f0 u (pz_a I j v) = if z.2.2.2 = u ∧ j < 20000 then (rl f0 u I).set (rl f0 u (I.take j)).length ((renc f0 0 z).1, v, z.2.2.1) else rl f0 u I := by
  have e1 := foldl_set (rst f0 u) I (0, 0, []) j ((I.getD j (0, 0, 0, 0)).1, v, (I.getD j (0, 0, 0, 0)).2.2) hj
  have e2 := foldl_cut (rst f0 u) I (0, 0, []) j (0, 0, 0, 0) hj
  rw [hz] at e1 e2
  have et : (I.take j).foldl (rst f0 u) (0, 0, []) = (j, pz_s (I.take j), rl f0 u (I.take j)) := by
    have q1 := rfo_n f0 u (I.take j)
    have q2 := rfo_s f0 u (I.take j)
    rw [List.length_take, Nat.min_eq_left (by omega)] at q1
    show rfo f0 u (I.take j) = _
    exact Prod.ext q1 (Prod.ext q2 rfl)
  rw [et] at e1 e2
  unfold rl rfo
  have ea : pz_a I j v = I.set j (z.1, v, z.2.2) := by unfold pz_a; rw [hz]
  rw [ea, e1, e2]
  show ((I.drop (j + 1)).foldl (rst f0 u) (j + 1, pz_s (I.take j) + (if z.1 = 27 then 1 else 0), if z.2.2.2 = u ∧ j < 20000 then rl f0 u (I.take j) ++ [renc f0 (pz_s (I.take j)) (z.1, v, z.2.2)] else rl f0 u (I.take j))).2.2 = if z.2.2.2 = u ∧ j < 20000 then (((I.drop (j + 1)).foldl (rst f0 u) (j + 1, pz_s (I.take j) + (if z.1 = 27 then 1 else 0), if z.2.2.2 = u ∧ j < 20000 then rl f0 u (I.take j) ++ [renc f0 (pz_s (I.take j)) z] else rl f0 u (I.take j))).2.2).set (rl f0 u (I.take j)).length ((renc f0 0 z).1, v, z.2.2.1) else ((I.drop (j + 1)).foldl (rst f0 u) (j + 1, pz_s (I.take j) + (if z.1 = 27 then 1 else 0), if z.2.2.2 = u ∧ j < 20000 then rl f0 u (I.take j) ++ [renc f0 (pz_s (I.take j)) z] else rl f0 u (I.take j))).2.2
  by_cases h : z.2.2.2 = u ∧ j < 20000
  · rw [if_pos h, if_pos h, if_pos h]
    have r1 : renc f0 (pz_s (I.take j)) (z.1, v, z.2.2) = ((renc f0 0 z).1, v, z.2.2.1) := by
      unfold renc
      rw [if_neg h27.1, if_neg h27.2, if_neg h27.1]
    have k1 := rst_front f0 u (I.drop (j + 1)) (j + 1) (pz_s (I.take j) + (if z.1 = 27 then 1 else 0)) (rl f0 u (I.take j) ++ [renc f0 (pz_s (I.take j)) (z.1, v, z.2.2)]) []
    have k2 := rst_front f0 u (I.drop (j + 1)) (j + 1) (pz_s (I.take j) + (if z.1 = 27 then 1 else 0)) (rl f0 u (I.take j) ++ [renc f0 (pz_s (I.take j)) z]) []
    rw [List.append_nil] at k1 k2
    rw [k1, k2, r1]
    show rl f0 u (I.take j) ++ [((renc f0 0 z).1, v, z.2.2.1)] ++ _ = (rl f0 u (I.take j) ++ [renc f0 (pz_s (I.take j)) z] ++ _).set (rl f0 u (I.take j)).length _
    rw [List.append_assoc, List.append_assoc, List.set_append_right _ _ (Nat.le_refl _), Nat.sub_self]
    rfl
  · rw [if_neg h, if_neg h, if_neg h]
theorem sk_a {z : pz_I} (hj : j < I.length) (hz : I.getD j (0, 0, 0, 0) = z) (h27 : z.1 ≠ 27) : sk1 (pz_a I j v) = sk1 I ∧ sk2 (pz_a I j v) = sk2 I ∧ sk3 (pz_a I j v) = sk3 I := by
  have ea : pz_a I j v = I.set j (z.1, v, z.2.2) := by unfold pz_a; rw [hz]
  have ef : (I.set j (z.1, v, z.2.2)).filter (fun x => x.1 == 27) = I.filter (fun x => x.1 == 27) := by
    clear ea
    induction I generalizing j with
    | nil => rfl
    | cons y r ih =>
      cases j with
      | zero =>
        have e : y = z := hz
        subst e
        show ((y.1, v, y.2.2) :: r).filter (fun x : pz_I => x.1 == 27) = (y :: r).filter (fun x : pz_I => x.1 == 27)
        rw [List.filter_cons_of_neg (by simpa using h27), List.filter_cons_of_neg (by simpa using h27)]
      | succ j =>
        show (y :: r.set j (z.1, v, z.2.2)).filter (fun x : pz_I => x.1 == 27) = (y :: r).filter (fun x : pz_I => x.1 == 27)
        rw [List.filter_cons, List.filter_cons, ih (Nat.lt_of_succ_lt_succ hj) hz]
  unfold sk1 sk2 sk3
  rw [ea, ef]
  exact ⟨rfl, rfl, rfl⟩
end Wbu
