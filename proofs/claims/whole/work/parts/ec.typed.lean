/-! PART ec: calls that run are typed. -/
section Wec
variable {fa : Int → Int} {S Z : wS} {K : aK} {a : aV} {q : Int} {l : List aY} {k : Nat}
/-- a function's code, with its heights and tries -/
def tyC (fa : Int → Int) (S : wS) (g : Int) (H D : Nat → Int) (n : Nat) : Prop := S 298 g = (n : Int) ∧ (H 0 = 0 ∧ D 0 = 0) ∧ 0 < n ∧ (∀ i : Nat, i ≤ n → 0 ≤ H i ∧ 0 ≤ D i ∧ D i ≤ 50) ∧ (∀ i : Nat, i < n → mcI fa S H D n i g (S 301 (S 297 g + (i : Int))) (S 302 (S 297 g + (i : Int))) (S 303 (S 297 g + (i : Int)))) ∧ S 301 (S 297 g + ((n - 1 : Nat) : Int)) = 29
/-- tries of one call -/
def trs (l : List aY) (i : Nat) : List aY := l.filter (fun y => y.1 == i)
/-- a call that runs: hi is where its pile ends, tl are its tries -/
def fTy (fa : Int → Int) (S : wS) (f : aF) (hi : Int) (tl : List aY) : Prop := (0 ≤ f.1 ∧ f.1 < S 237 34) ∧ ∃ (H D : Nat → Int) (n : Nat), tyC fa S f.1 H D n ∧ (0 ≤ f.2.1 ∧ f.2.1 < (n : Int)) ∧ hi = (f.2.2.2.2.2.1 : Int) + H f.2.1.toNat ∧ (tl.length : Int) = D f.2.1.toNat ∧ ∀ j : Nat, j < tl.length → (0 ≤ (tl.getD j (0, 0, 0)).2.1 ∧ (tl.getD j (0, 0, 0)).2.1 < (n : Int)) ∧ ((tl.getD j (0, 0, 0)).2.2 = f.2.2.2.2.2.1 ∧ H (tl.getD j (0, 0, 0)).2.1.toNat = 1) ∧ D (tl.getD j (0, 0, 0)).2.1.toNat = (j : Int)
/-- up to where the pile of a call reaches -/
def hgt (K : aK) (i : Nat) : Int := if i + 1 < K.2.1.length then ((K.2.1.getD (i + 1) (0, 0, 0, (0, 0, []), 0, 0, 0)).2.2.2.2.2.1 : Int) + 1 else (K.1.length : Int)
/-- a task's calls are typed -/
def wKt (fa : Int → Int) (S : wS) (K : aK) : Prop := (∀ i : Nat, i < K.2.1.length → fTy fa S (K.2.1.getD i (0, 0, 0, (0, 0, []), 0, 0, 0)) (hgt K i) (trs K.2.2.1 i)) ∧ (∀ i : Nat, i < K.2.1.length → (K.2.1.getD i (0, 0, 0, (0, 0, []), 0, 0, 0)).2.2.2.2.2.2 = (K.2.2.1.filter (fun y => decide (y.1 < i))).length) ∧ K.2.2.1.Pairwise (fun x y => x.1 ≤ y.1) ∧ (∀ y ∈ K.2.2.1, y.1 < K.2.1.length) ∧ ∀ i j : Nat, i ≤ j → j < K.2.1.length → (K.2.1.getD i (0, 0, 0, (0, 0, []), 0, 0, 0)).2.2.2.2.2.1 ≤ (K.2.1.getD j (0, 0, 0, (0, 0, []), 0, 0, 0)).2.2.2.2.2.1
/-- in a list in order those below a number stand ahead -/
theorem so_f : ∀ (l : List aY), l.Pairwise (fun x y => x.1 ≤ y.1) → ∀ i : Nat, i < l.length → ((l.getD i (0, 0, 0)).1 < k ↔ i < (l.filter (fun y => decide (y.1 < k))).length)
  | [], _, i, hi => absurd hi (Nat.not_lt_zero _)
  | a :: t, h, i, hi => by
    obtain ⟨h1, h2⟩ := List.pairwise_cons.mp h
    by_cases e : a.1 < k
    · rw [List.filter_cons_of_pos (by simpa using e)]
      cases i with
      | zero => exact ⟨fun _ => Nat.zero_lt_succ _, fun _ => e⟩
      | succ i =>
        have := so_f t h2 i (Nat.lt_of_succ_lt_succ hi)
        show ((t.getD i (0, 0, 0)).1 < k ↔ i + 1 < (t.filter _).length + 1)
        omega
    · have e2 : (t.filter (fun y => decide (y.1 < k))) = [] := List.filter_eq_nil_iff.mpr (fun y hy => by have := h1 y hy; simp only [decide_eq_true_eq]; omega)
      rw [List.filter_cons_of_neg (by simpa using e), e2]
      refine ⟨fun q => ?_, fun q => absurd q (Nat.not_lt_zero _)⟩
      exfalso
      cases i with
      | zero => exact e q
      | succ i =>
        have hm : t.getD i (0, 0, 0) ∈ t := by
          have hi2 : i < t.length := Nat.lt_of_succ_lt_succ hi
          rw [List.getD_eq_getElem?_getD, List.getElem?_eq_getElem hi2]
          exact List.getElem_mem hi2
        have := h1 _ hm
        have q2 : (t.getD i (0, 0, 0)).1 < k := q
        omega
theorem gY_m {i : Nat} (hi : i < l.length) : l.getD i (0, 0, 0) ∈ l := by
  rw [List.getD_eq_getElem?_getD, List.getElem?_eq_getElem hi]
  exact List.getElem_mem hi
/-- the height of each try's call -/
theorem wKt_tr (h : wKt fa S K) : wTr K := by
  obtain ⟨h1, h2, h3, h4, h5⟩ := h
  intro i hi
  have hm := gY_m hi
  have hf := h4 _ hm
  refine ⟨hf, ?_⟩
  obtain ⟨-, H, D, n, -, -, -, t4, t5⟩ := h1 _ hf
  have hin : K.2.2.1.getD i (0, 0, 0) ∈ trs K.2.2.1 (K.2.2.1.getD i (0, 0, 0)).1 := List.mem_filter.mpr ⟨hm, by simp⟩
  obtain ⟨j, hj, ej⟩ := List.getElem_of_mem hin
  have ej2 : (trs K.2.2.1 (K.2.2.1.getD i (0, 0, 0)).1).getD j (0, 0, 0) = K.2.2.1.getD i (0, 0, 0) := by
    rw [List.getD_eq_getElem?_getD, List.getElem?_eq_getElem hj, ej]; rfl
  have hb := (t5 j hj).2.1.1
  rw [ej2] at hb
  rw [hb]
  have hn : 0 < K.2.1.length := by omega
  have b1 := h5 (K.2.2.1.getD i (0, 0, 0)).1 (K.2.1.length - 1) (by omega) (by omega)
  obtain ⟨-, H2, D2, n2, c1, ⟨c2, c3⟩, c4, -⟩ := h1 (K.2.1.length - 1) (by omega)
  have c5 := (c1.2.2.2.1 (K.2.1.getD (K.2.1.length - 1) (0, 0, 0, (0, 0, []), 0, 0, 0)).2.1.toNat (by omega)).1
  have c6 : hgt K (K.2.1.length - 1) = (K.1.length : Int) := if_neg (by omega)
  rw [c6] at c4
  omega
/-- RETURN finds its value, and its call's tries -/
theorem wKt_re (h : wKt fa S K) (h0 : 0 < K.2.1.length) (hb : (K.2.1.getD (K.2.1.length - 1) (0, 0, 0, (0, 0, []), 0, 0, 0)).2.2.2.2.2.1 + 1 = K.1.length) : wRe K := by
  obtain ⟨h1, h2, h3, h4, h5⟩ := h
  have e := h2 (K.2.1.length - 1) (by omega)
  refine ⟨⟨h0, ?_⟩, fun i hi => ?_, hb⟩
  · rw [e]; exact List.length_filter_le _ _
  · have := so_f (k := K.2.1.length - 1) K.2.2.1 h3 i hi
    have hf := h4 _ (gY_m hi)
    rw [e]
    omega
end Wec
