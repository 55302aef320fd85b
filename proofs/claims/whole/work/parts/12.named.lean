/-! PART 12: a heap with named cells: pm_put h l is h with the cells of l in their places. Contracts are stated over pm_put h l for every h: that is the frame rule. -/
def pm_put (h : pm_H) : List (Nat × pm_E) → pm_H
  | [] => h
  | q :: r => (pm_put h r).set q.1 q.2
/-- the places are apart, and there -/
def pm_nd (h : pm_H) (l : List (Nat × pm_E)) : Prop := (l.map (fun q => q.1)).Nodup ∧ ∀ q ∈ l, q.1 < h.length
theorem pm_put_length (h : pm_H) (l : List (Nat × pm_E)) : (pm_put h l).length = h.length := by
  induction l with
  | nil => rfl
  | cons q r ih => show ((pm_put h r).set q.1 q.2).length = _; rw [List.length_set, ih]
theorem pm_nd.tail {h : pm_H} {q : Nat × pm_E} {r : List (Nat × pm_E)} (hn : pm_nd h (q :: r)) : pm_nd h r := ⟨(List.nodup_cons.mp (by simpa using hn.1)).2, fun x hx => hn.2 x (List.mem_cons_of_mem _ hx)⟩
theorem pm_nd.head {h : pm_H} {q : Nat × pm_E} {r : List (Nat × pm_E)} (hn : pm_nd h (q :: r)) : ∀ x ∈ r, x.1 ≠ q.1 := by
  have h1 := (List.nodup_cons.mp (by simpa using hn.1 : (q.1 :: r.map (fun q => q.1)).Nodup)).1
  intro x hx hxq
  exact h1 (by rw [← hxq]; exact List.mem_map_of_mem hx)
theorem pm_put_off {h : pm_H} {l : List (Nat × pm_E)} {j : Nat} (hj : ∀ q ∈ l, q.1 ≠ j) : (pm_put h l)[j]? = h[j]? := by
  induction l with
  | nil => rfl
  | cons q r ih =>
    show ((pm_put h r).set q.1 q.2)[j]? = _
    rw [List.getElem?_set_ne (hj q List.mem_cons_self)]
    exact ih (fun x hx => hj x (List.mem_cons_of_mem _ hx))
theorem pm_put_get {h : pm_H} {l : List (Nat × pm_E)} (hn : pm_nd h l) (p : Nat) {i : Nat} {x : pm_E} (hp : l[p]? = some (i, x)) : (pm_put h l)[i]? = some x := by
  induction l generalizing p with
  | nil => simp at hp
  | cons q r ih =>
    show ((pm_put h r).set q.1 q.2)[i]? = some x
    cases p with
    | zero =>
      cases hp
      rw [List.getElem?_set_self (by rw [pm_put_length]; exact hn.2 _ List.mem_cons_self)]
    | succ p =>
      have h1 : r[p]? = some (i, x) := hp
      have h2 := hn.head (i, x) (List.mem_of_getElem? h1)
      rw [List.getElem?_set_ne (Ne.symm h2)]
      exact ih hn.tail p h1
theorem pm_put_set {h : pm_H} {l : List (Nat × pm_E)} (hn : pm_nd h l) (p : Nat) {i : Nat} {x y : pm_E} (hp : l[p]? = some (i, x)) : (pm_put h l).set i y = pm_put h (l.set p (i, y)) := by
  induction l generalizing p with
  | nil => simp at hp
  | cons q r ih =>
    cases p with
    | zero =>
      cases hp
      show ((pm_put h r).set i x).set i y = (pm_put h r).set i y
      rw [List.set_set]
    | succ p =>
      have h1 : r[p]? = some (i, x) := hp
      have h2 : i ≠ q.1 := hn.head (i, x) (List.mem_of_getElem? h1)
      show ((pm_put h r).set q.1 q.2).set i y = (pm_put h (r.set p (i, y))).set q.1 q.2
      rw [List.set_comm _ _ (Ne.symm h2), ih hn.tail p h1]
theorem pm_put_app (h : pm_H) (l1 l2 : List (Nat × pm_E)) : pm_put h (l1 ++ l2) = pm_put (pm_put h l2) l1 := by
  induction l1 with
  | nil => rfl
  | cons q r ih => show (pm_put h (r ++ l2)).set q.1 q.2 = _; rw [ih]; rfl
theorem pm_put_perm {h : pm_H} {l1 l2 : List (Nat × pm_E)} (hp : l1.Perm l2) : (l1.map (fun q => q.1)).Nodup → pm_put h l1 = pm_put h l2 := by
  induction hp with
  | nil => intro _; rfl
  | cons q _ ih =>
    intro hn
    show (pm_put h _).set q.1 q.2 = (pm_put h _).set q.1 q.2
    rw [ih (List.nodup_cons.mp (by simpa using hn)).2]
  | swap a b t =>
    intro hn
    show ((pm_put h t).set a.1 a.2).set b.1 b.2 = ((pm_put h t).set b.1 b.2).set a.1 a.2
    have h1 : b.1 ≠ a.1 := by
      intro he
      have h2 := (List.nodup_cons.mp (by simpa using hn : (b.1 :: a.1 :: t.map (fun q => q.1)).Nodup)).1
      exact h2 (by rw [he]; exact List.mem_cons_self)
    rw [List.set_comm _ _ (Ne.symm h1)]
  | trans a _ ih1 ih2 =>
    intro hn
    rw [ih1 hn]
    exact ih2 ((a.map (fun q => q.1)).nodup_iff.mp hn)
theorem pm_put_sz {h : pm_H} {l1 l2 : List (Nat × pm_E)} (hk : l1.map (fun q => (q.1, pm_n q.2)) = l2.map (fun q => (q.1, pm_n q.2))) (hn : pm_nd h l1) : pm_sz (pm_put h l1) = pm_sz (pm_put h l2) := by
  induction l1 generalizing l2 with
  | nil =>
    cases l2 with
    | nil => rfl
    | cons _ _ => simp at hk
  | cons q r ih =>
    cases l2 with
    | nil => simp at hk
    | cons q2 r2 =>
      simp only [List.map_cons, List.cons.injEq, Prod.mk.injEq] at hk
      obtain ⟨⟨h1, h2⟩, h3⟩ := hk
      have h4 := ih h3 hn.tail
      have h5 : ∀ (g : pm_H) (i : Nat) (a b : pm_E), i < g.length → pm_n a = pm_n b → pm_sz (g.set i a) = pm_sz (g.set i b) := by
        intro g i a b hi hab
        have e1 : (g.set i b)[i]? = some b := List.getElem?_set_self hi
        have e2 := pm_sz_set (y := a) e1 hab
        rw [List.set_set] at e2
        exact e2
      have h6 : ∀ (g1 g2 : pm_H) (i : Nat) (a : pm_E), pm_sz g1 = pm_sz g2 → (g1[i]?).map pm_n = (g2[i]?).map pm_n → pm_sz (g1.set i a) = pm_sz (g2.set i a) := by
        intro g1 g2 i a e1 e2
        have key : ∀ (g : pm_H) (i : Nat) (x : pm_E), g[i]? = some x → pm_sz (g.set i a) + pm_n x = pm_sz g + pm_n a := by
          intro g
          induction g with
          | nil => intro i x hx; simp at hx
          | cons y t iht =>
            intro i x hx
            cases i with
            | zero => cases hx; simp [pm_sz]; omega
            | succ i =>
              have e3 := iht i x hx
              simp only [pm_sz] at e3 ⊢
              rw [List.set_cons_succ, List.map_cons, List.map_cons, List.sum_cons, List.sum_cons]
              omega
        cases c1 : g1[i]? with
        | none =>
          cases c2 : g2[i]? with
          | none =>
            rw [List.set_eq_of_length_le (by simpa using c1), List.set_eq_of_length_le (by simpa using c2)]
            exact e1
          | some y => rw [c1, c2] at e2; cases e2
        | some x =>
          cases c2 : g2[i]? with
          | none => rw [c1, c2] at e2; cases e2
          | some y =>
            rw [c1, c2] at e2
            have e3 := key g1 i x c1
            have e4 := key g2 i y c2
            have e5 : pm_n x = pm_n y := Option.some.inj e2
            omega
      have h7 : ∀ z ∈ r2, z.1 ≠ q.1 := by
        intro z hz hzq
        have e1 : (z.1, pm_n z.2) ∈ r.map (fun q => (q.1, pm_n q.2)) := by rw [h3]; exact List.mem_map_of_mem hz
        obtain ⟨y, hy, e2⟩ := List.mem_map.mp e1
        have e3 : y.1 = z.1 := (Prod.mk.injEq .. ▸ e2).1
        exact hn.head y hy (e3.trans hzq)
      show pm_sz ((pm_put h r).set q.1 q.2) = pm_sz ((pm_put h r2).set q2.1 q2.2)
      rw [← h1, h5 (pm_put h r2) q.1 q2.2 q.2 (by rw [pm_put_length]; exact hn.2 _ List.mem_cons_self) h2.symm]
      refine h6 _ _ _ _ h4 ?_
      rw [pm_put_off hn.head, pm_put_off h7]
