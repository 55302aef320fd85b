/-! PART jz: tasks after a step stay within their limits and typed. -/
section Wjz
variable {S0 : wS} {X : List (List Int)} {T : List aO} {L : List aC} {n : Int} {cf : Int → Int} {fa : Int → Int} {K K2 : aK} {q : Int} {m : Nat} {u : aV} {lp : List aV} {F F2 : List aF}
theorem fr_m (h : 0 < K.2.1.length) : (K.2.1.getD (K.2.1.length - 1) (0, 0, 0, (0, 0, []), 0, 0, 0)) ∈ K.2.1 := by
  rw [List.getD_eq_getElem?_getD, List.getElem?_eq_getElem (by omega)]
  exact List.getElem_mem _
theorem tp_m (h : 0 < K.1.length) : (K.1.getD (K.1.length - 1) (0, 0, [])) ∈ K.1 := by
  rw [List.getD_eq_getElem?_getD, List.getElem?_eq_getElem (by omega)]
  exact List.getElem_mem _
theorem tq_m {i : Nat} (h : i < K.1.length) : K.1.getD i (0, 0, []) ∈ K.1 := by
  rw [List.getD_eq_getElem?_getD, List.getElem?_eq_getElem h]
  exact List.getElem_mem _
/-- frames that are frames of another list, but for where they are at -/
def fLe (F2 F : List aF) : Prop := ∀ f ∈ F2, ∃ g ∈ F, g.1 = f.1 ∧ g.2.2 = f.2.2
theorem fLe_r : fLe F F := fun f hf => ⟨f, hf, rfl, rfl⟩
theorem fLe_0 : fLe [] F := fun f hf => absurd hf (List.not_mem_nil)
theorem fLe_t {i : Nat} : fLe (F.take i) F := fun f hf => ⟨f, List.mem_of_mem_take hf, rfl, rfl⟩
theorem fLe_s {i : Nat} (hi : i < F.length) : fLe (F.set i ((F.getD i (0, 0, 0, (0, 0, []), 0, 0, 0)).1, q, (F.getD i (0, 0, 0, (0, 0, []), 0, 0, 0)).2.2)) F := fun f hf => by
  rcases List.mem_or_eq_of_mem_set hf with z | z
  · exact ⟨f, z, rfl, rfl⟩
  · refine ⟨F.getD i (0, 0, 0, (0, 0, []), 0, 0, 0), ?_, by rw [z], by rw [z]⟩
    rw [List.getD_eq_getElem?_getD, List.getElem?_eq_getElem hi]
    exact List.getElem_mem _
theorem fLe_tr {F3 : List aF} (h : fLe F3 F2) (g : fLe F2 F) : fLe F3 F := fun f hf => by
  obtain ⟨f2, a1, a2, a3⟩ := h f hf
  obtain ⟨f3, b1, b2, b3⟩ := g f2 a1
  exact ⟨f3, b1, b2.trans a2, b3.trans a3⟩
theorem fLe_n : fLe (kNx K q).2.1 K.2.1 := by
  show fLe (K.2.1.set (K.2.1.length - 1) ((K.2.1.getD (K.2.1.length - 1) (0, 0, 0, (0, 0, []), 0, 0, 0)).1, q, (K.2.1.getD (K.2.1.length - 1) (0, 0, 0, (0, 0, []), 0, 0, 0)).2.2)) K.2.1
  by_cases c : K.2.1.length = 0
  · rw [List.set_eq_of_length_le (by omega)]
    exact fLe_r
  · exact fLe_s (by omega)
theorem fLe_th : fLe (kTh K u).2.1 K.2.1 := by
  unfold kTh
  by_cases c : K.2.2.1.length = 0
  · rw [if_pos c]
    exact fLe_0
  · rw [if_neg c]
    exact fLe_tr fLe_n fLe_t
theorem fLe_re : fLe (kRe K u).2.1 K.2.1 := by
  unfold kRe
  by_cases c : K.2.1.length = 1
  · rw [if_pos c]
    exact fLe_0
  · rw [if_neg c]
    exact fLe_t
theorem kc_le (h : wKc T L cf K) (e : fLe K2.2.1 K.2.1) : wKc T L cf K2 := fun f hf => by
  obtain ⟨g, a1, a2, a3⟩ := e f hf
  rw [← a2, ← a3]
  exact h g a1
theorem kv_le (h : wKv T n K) (e : fLe K2.2.1 K.2.1) (h1 : ∀ v ∈ K2.1, vG T n v) (h2 : K2.2.2.2.1 = 2 ∨ K2.2.2.2.1 = 3 → vG T n K2.2.2.2.2) : wKv T n K2 := by
  refine ⟨h1, fun f hf => ?_, h2⟩
  obtain ⟨g, a1, a2, a3⟩ := e f hf
  rw [← a3]
  exact h.2.1 g a1
theorem bs_le (h : ∀ f ∈ K.2.1, f.2.2.2.2.2.1 ≤ 2000) (e : fLe K2.2.1 K.2.1) : ∀ f ∈ K2.2.1, f.2.2.2.2.2.1 ≤ 2000 := fun f hf => by
  obtain ⟨g, a1, a2, a3⟩ := e f hf
  rw [← a3]
  exact h g a1
/-- a task goes on at another place of its function -/
theorem tyt_n (hk : wTk fa S0 K) (hr : K.2.2.2.1 = 1) (hl : lp.length ≤ 2001) (hq : ∀ (H D : Nat → Int) (n : Nat), tyC fa S0 (K.2.1.getD (K.2.1.length - 1) (0, 0, 0, (0, 0, []), 0, 0, 0)).1 H D n → (0 ≤ (K.2.1.getD (K.2.1.length - 1) (0, 0, 0, (0, 0, []), 0, 0, 0)).2.1 ∧ (K.2.1.getD (K.2.1.length - 1) (0, 0, 0, (0, 0, []), 0, 0, 0)).2.1 < (n : Int)) → (K.1.length : Int) = ((K.2.1.getD (K.2.1.length - 1) (0, 0, 0, (0, 0, []), 0, 0, 0)).2.2.2.2.2.1 : Int) + H (K.2.1.getD (K.2.1.length - 1) (0, 0, 0, (0, 0, []), 0, 0, 0)).2.1.toNat → mcI fa S0 H D n (K.2.1.getD (K.2.1.length - 1) (0, 0, 0, (0, 0, []), 0, 0, 0)).2.1.toNat (K.2.1.getD (K.2.1.length - 1) (0, 0, 0, (0, 0, []), 0, 0, 0)).1 (opI S0 K) (opA S0 K) (opB S0 K) → ((K.2.1.getD (K.2.1.length - 1) (0, 0, 0, (0, 0, []), 0, 0, 0)).2.1 + 1 < (n : Int) ∨ opI S0 K = 29) → (0 ≤ q ∧ q < (n : Int)) ∧ (lp.length : Int) = ((K.2.1.getD (K.2.1.length - 1) (0, 0, 0, (0, 0, []), 0, 0, 0)).2.2.2.2.2.1 : Int) + H q.toNat ∧ D q.toNat = D (K.2.1.getD (K.2.1.length - 1) (0, 0, 0, (0, 0, []), 0, 0, 0)).2.1.toNat) : wTk fa S0 (kNx (lp, K.2) q) := by
  obtain ⟨k1, k2, k3⟩ := hk
  obtain ⟨h1, h2⟩ := k2 hr
  refine ⟨⟨hl, ?_⟩, fun _ => ⟨wKt_n h1 h2 (fun H D n a1 a2 a3 a4 => ?_), ?_⟩, bs_le (K := K) k3 (fLe_n (K := (lp, K.2)))⟩
  · show (K.2.1.set _ _).length ≤ 200
    rw [List.length_set]
    exact k1.2
  · have z := a1.2.2.2.2.1 (K.2.1.getD (K.2.1.length - 1) (0, 0, 0, (0, 0, []), 0, 0, 0)).2.1.toNat (by omega)
    rw [show (((K.2.1.getD (K.2.1.length - 1) (0, 0, 0, (0, 0, []), 0, 0, 0)).2.1.toNat : Nat) : Int) = (K.2.1.getD (K.2.1.length - 1) (0, 0, 0, (0, 0, []), 0, 0, 0)).2.1 by omega] at z
    refine hq H D n a1 ⟨a2, a3⟩ a4 z ?_
    by_cases c : (K.2.1.getD (K.2.1.length - 1) (0, 0, 0, (0, 0, []), 0, 0, 0)).2.1 + 1 < (n : Int)
    · exact Or.inl c
    · refine Or.inr ?_
      have e := a1.2.2.2.2.2
      rw [show ((n - 1 : Nat) : Int) = (K.2.1.getD (K.2.1.length - 1) (0, 0, 0, (0, 0, []), 0, 0, 0)).2.1 by omega] at e
      exact e
  · show 0 < (K.2.1.set _ _).length
    rw [List.length_set]
    exact h2
/-- the same, at the next place: m values off, the values of lp on -/
theorem tyt_g (hk : wTk fa S0 K) (hr : K.2.2.2.1 = 1) (ho : opI S0 K ≠ 29 ∧ opI S0 K ≠ 20 ∧ opI S0 K ≠ 31 ∧ opI S0 K ≠ 32) (hl : lp.length ≤ 2001) (hd : (lp.length : Int) = (K.1.length : Int) + mde (opI S0 K) (opA S0 K) (mes (S0 304 (opA S0 K)) (S0 306 (opA S0 K)))) : wTk fa S0 (kNx (lp, K.2) ((K.2.1.getD (K.2.1.length - 1) (0, 0, 0, (0, 0, []), 0, 0, 0)).2.1 + 1)) := by
  refine tyt_n hk hr hl (fun H D n a1 a2 a3 a4 a5 => ?_)
  have e : ((K.2.1.getD (K.2.1.length - 1) (0, 0, 0, (0, 0, []), 0, 0, 0)).2.1 + 1).toNat = (K.2.1.getD (K.2.1.length - 1) (0, 0, 0, (0, 0, []), 0, 0, 0)).2.1.toNat + 1 := by omega
  rw [e]
  obtain ⟨b1, b2, b3, b4, b5, b6⟩ := a4
  have b7 := b2 ho.2.1
  have b8 : tdd (opI S0 K) = 0 := by
    unfold tdd
    rw [if_neg ho.2.2.1, if_neg ho.2.2.2]
  rcases a5 with a5 | a5
  · exact ⟨⟨by omega, by omega⟩, by omega, by omega⟩
  · exact absurd a5 ho.1
/-- a task's pile is high enough -/
theorem tyt_h (hx : stX S0 fa X) (hk : wTk fa S0 K) (hr : K.2.2.2.1 = 1) : mne (opI S0 K) (opA S0 K) (mes (S0 304 (opA S0 K)) (S0 306 (opA S0 K))) ≤ (K.1.length : Int) := by
  obtain ⟨a1, H, D, n, a2, a3, a4, a5⟩ := topT hx hk hr
  have := a5.1
  omega
theorem tyt_P (hx : stX S0 fa X) (hk : wTk fa S0 K) (hr : K.2.2.2.1 = 1) (ho : opI S0 K ≠ 29 ∧ opI S0 K ≠ 20 ∧ opI S0 K ≠ 31 ∧ opI S0 K ≠ 32) (hd : mde (opI S0 K) (opA S0 K) (mes (S0 304 (opA S0 K)) (S0 306 (opA S0 K))) = 1 - (m : Int)) (hm : m ≤ K.1.length) (h0 : m = 0 → K.1.length < 2000) : wTk fa S0 (kP K m u) := by
  have l : (K.1.take (K.1.length - m) ++ [u]).length = K.1.length - m + 1 := by
    rw [List.length_append, List.length_take]
    simp
  have l2 := hk.1.1
  refine tyt_g hk hr ho (by rw [l]; omega) (by rw [l, hd]; omega)
theorem tyt_D (hk : wTk fa S0 K) (hr : K.2.2.2.1 = 1) (ho : opI S0 K ≠ 29 ∧ opI S0 K ≠ 20 ∧ opI S0 K ≠ 31 ∧ opI S0 K ≠ 32) (hd : mde (opI S0 K) (opA S0 K) (mes (S0 304 (opA S0 K)) (S0 306 (opA S0 K))) = -(m : Int)) (hm : m ≤ K.1.length) : wTk fa S0 (kD K m ((K.2.1.getD (K.2.1.length - 1) (0, 0, 0, (0, 0, []), 0, 0, 0)).2.1 + 1)) := by
  have l : (K.1.take (K.1.length - m)).length = K.1.length - m := by
    rw [List.length_take]
    omega
  have l2 := hk.1.1
  refine tyt_g hk hr ho (by rw [l]; omega) (by rw [l, hd]; omega)
/-- a jump -/
theorem tyt_J (hk : wTk fa S0 K) (hr : K.2.2.2.1 = 1) (ho : 20 ≤ opI S0 K ∧ opI S0 K ≤ 23) (hd : (m : Int) = -(tdj (opI S0 K))) (hm : m ≤ K.1.length) : wTk fa S0 (kD K m (opA S0 K)) := by
  have l : (K.1.take (K.1.length - m)).length = K.1.length - m := by
    rw [List.length_take]
    omega
  have l2 := hk.1.1
  refine tyt_n hk hr (by rw [l]; omega) (fun H D n a1 a2 a3 a4 a5 => ?_)
  obtain ⟨b1, b2, b3, b4, b5, b6⟩ := a4
  obtain ⟨c1, c2, c3, c4⟩ := b4 (Or.inl ho)
  exact ⟨⟨c1, c2⟩, by rw [l]; omega, c4⟩
theorem tyt_T (hk : wTk fa S0 K) (hr : K.2.2.2.1 = 1) : wTk fa S0 (kTh K u) := by
  obtain ⟨k1, k2, k3⟩ := hk
  obtain ⟨h1, h2⟩ := k2 hr
  have h3 := wKt_t (a := u) h1
  refine ⟨?_, fun _ => ⟨h3, ?_⟩, bs_le k3 fLe_th⟩
  · unfold kTh
    by_cases c : K.2.2.1.length = 0
    · rw [if_pos c]
      exact ⟨Nat.zero_le _, Nat.zero_le _⟩
    · rw [if_neg c]
      obtain ⟨b1, b2⟩ := wKt_bs h1 (i := K.2.2.1.length - 1) (by omega)
      have b3 := k3 (K.2.1.getD (K.2.1.length - 1) (0, 0, 0, (0, 0, []), 0, 0, 0)) (fr_m h2)
      refine ⟨?_, ?_⟩
      · show (K.1.take _ ++ [u]).length ≤ 2001
        rw [List.length_append, List.length_take]
        simp only [List.length_cons, List.length_nil]
        omega
      · show ((K.2.1.take _).set _ _).length ≤ 200
        rw [List.length_set, List.length_take]
        have := k1.2
        omega
  · rename_i hs
    unfold kTh at hs ⊢
    by_cases c : K.2.2.1.length = 0
    · rw [if_pos c] at hs
      replace hs : (3 : Int) = 1 := hs
      omega
    · rw [if_neg c]
      obtain ⟨b1, b2⟩ := wKt_bs h1 (i := K.2.2.1.length - 1) (by omega)
      show 0 < ((K.2.1.take _).set _ _).length
      rw [List.length_set, List.length_take]
      omega
/-- values after a step -/
theorem kv_P (h : wKv T n K) (hu : vG T n u) : wKv T n (kP K m u) := by
  refine kv_le h (fLe_n (K := (_, K.2))) (fun v hv => ?_) h.2.2
  rcases List.mem_append.mp hv with z | z
  · exact h.1 v (List.mem_of_mem_take z)
  · rw [List.mem_singleton.mp z]
    exact hu
theorem kv_D (h : wKv T n K) : wKv T n (kD K m q) := kv_le h (fLe_n (K := (_, K.2))) (fun v hv => h.1 v (List.mem_of_mem_take hv)) h.2.2
theorem kv_N (h : wKv T n K) : wKv T n (kNx K q) := kv_le h fLe_n h.1 h.2.2
theorem kv_T (h : wKv T n K) (hr : K.2.2.2.1 = 1) (hu : vG T n u) : wKv T n (kTh K u) := by
  refine kv_le h fLe_th (fun v hv => ?_) (fun hs => ?_)
  · unfold kTh at hv
    by_cases c : K.2.2.1.length = 0
    · rw [if_pos c] at hv
      exact absurd hv (List.not_mem_nil)
    · rw [if_neg c] at hv
      rcases List.mem_append.mp hv with z | z
      · exact h.1 v (List.mem_of_mem_take z)
      · rw [List.mem_singleton.mp z]
        exact hu
  · unfold kTh at hs ⊢
    by_cases c : K.2.2.1.length = 0
    · rw [if_pos c]
      exact hu
    · rw [if_neg c] at hs
      replace hs : K.2.2.2.1 = 2 ∨ K.2.2.2.1 = 3 := hs
      omega
/-- a task that is stopped -/
theorem tyt_S (hk : wTk fa S0 K) : wTk fa S0 (kSt K) := ⟨hk.1, fun h => absurd h (by show ¬ ((4 : Int) = 1); decide), hk.2.2⟩
theorem kv_S (h : wKv T n K) : wKv T n (kSt K) := ⟨h.1, h.2.1, fun hs => by replace hs : (4 : Int) = 2 ∨ (4 : Int) = 3 := hs; omega⟩
end Wjz
