/-! PART iq: shapes where values alone change; the last of a list goes. -/
section Wiq
variable {S Z A : wS} {k v kd sz ix : Int} {u : aV} {i : Nat} {L : List aC} {T T2 : List aO} {H : List aH} {G : Int → aV} {sl : Nat → List Int}
theorem wSh_cg (h : wSh T H) (hl : T2.length = T.length) (hf : ∀ k : Int, 0 ≤ k → k < (T.length : Int) → (tO T2 k).1 = (tO T k).1 ∧ (tO T2 k).2.1 = (tO T k).2.1 ∧ (tO T2 k).2.2.2.2.1 = (tO T k).2.2.2.2.1) (hn : ∀ k : Int, isO T k → pNs (tO T2 k) = pNs (tO T k)) (h6 : ∀ k : Int, 0 ≤ k → k < (T.length : Int) → (tO T k).1 = 6 ∨ (tO T k).1 = 7 → ∀ x ∈ (tO T2 k).2.2.2.2.2.2, x.1 = -1) : wSh T2 H := by
  obtain ⟨g1, g2, g3, g4, g5, g6, g7, rk, g8⟩ := h
  have ho : ∀ k : Int, isO T2 k ↔ isO T k := fun k => by
    constructor
    · rintro ⟨⟨z0, z1⟩, z2⟩
      rw [hl] at z1
      exact ⟨⟨z0, z1⟩, by rw [(hf k z0 z1).1] at z2; exact z2⟩
    · rintro ⟨⟨z0, z1⟩, z2⟩
      exact ⟨⟨z0, by rw [hl]; exact z1⟩, by rw [(hf k z0 z1).1]; exact z2⟩
  have hp : ∀ k : Int, isO T k → aPr T2 H k = aPr T H k := fun k z => by
    unfold aPr
    rw [(hf k z.1.1 z.1.2).2.1]
  refine ⟨by rw [hl]; exact g1, g2, fun k hk => ?_, fun k hk => ?_, fun k z0 z1 z2 => ?_, fun s s0 s1 => (g6 s s0 s1).imp id (ho _).mpr, fun k z0 z1 => ?_, rk, fun k z => ?_⟩
  · rw [hl] at hk
    obtain ⟨f1, f2, f3⟩ := hf (k : Int) (by omega) (by omega)
    have w := g3 k hk
    replace f1 : (T2.getD k (0, 0, 0, 0, 0, 0, [])).1 = (T.getD k (0, 0, 0, 0, 0, 0, [])).1 := f1
    replace f2 : (T2.getD k (0, 0, 0, 0, 0, 0, [])).2.1 = (T.getD k (0, 0, 0, 0, 0, 0, [])).2.1 := f2
    replace f3 : (T2.getD k (0, 0, 0, 0, 0, 0, [])).2.2.2.2.1 = (T.getD k (0, 0, 0, 0, 0, 0, [])).2.2.2.2.1 := f3
    unfold wTh at w ⊢
    rw [f1, f2, f3]
    exact w
  · have z := (ho k).mp hk
    obtain ⟨w1, w2⟩ := g4 k z
    have hnk := hn k z
    refine ⟨by rw [hnk, (hf k z.1.1 z.1.2).2.1]; exact w1, ?_⟩
    have := congrArg List.length hnk
    rw [List.length_map, List.length_map] at this
    omega
  · rw [hl] at z1
    rw [(hf k z0 z1).1] at z2
    exact h6 k z0 z1 z2
  · rw [hl] at z1
    rw [(hf k z0 z1).2.2]
    exact g7 k z0 z1
  · have z2 := (ho k).mp z
    rw [hp k z2]
    exact g8 k z2
theorem wSh_sp (h : wSh T H) (k0 : 0 ≤ k) (k1 : k < (T.length : Int)) (hi : i < (tO T k).2.2.2.2.2.2.length) : wSh (tSp T k i u) H := by
  have kn : k.toNat < T.length := by omega
  have hg : ∀ q : Int, 0 ≤ q → tO (tSp T k i u) q = if k = q then ((tO T k).1, (tO T k).2.1, (tO T k).2.2.1, (tO T k).2.2.2.1, (tO T k).2.2.2.2.1, (tO T k).2.2.2.2.2.1, (tO T k).2.2.2.2.2.2.set i (((tO T k).2.2.2.2.2.2.getD i (0, (0, 0, []))).1, u)) else tO T q := fun q q0 => by
    show (tSp T k i u).getD q.toNat (0, 0, 0, 0, 0, 0, []) = _
    rw [tSp_g kn]
    by_cases c : k = q
    · rw [if_pos c, if_pos (by omega)]
    · rw [if_neg c, if_neg (by omega)]
  have hm : ((tO T k).2.2.2.2.2.2.set i (((tO T k).2.2.2.2.2.2.getD i (0, (0, 0, []))).1, u)).map (fun x => x.1) = pNs (tO T k) := by
    rw [List.map_set]
    refine List.ext_getElem? (fun n => ?_)
    by_cases c : i = n
    · subst c
      rw [List.getElem?_set_self (by rw [List.length_map]; exact hi), List.getElem?_map, List.getD_eq_getElem?_getD, List.getElem?_eq_getElem hi]
      rfl
    · rw [List.getElem?_set_ne c]
  refine wSh_cg h tSp_l (fun q q0 q1 => ?_) (fun q z => ?_) (fun q q0 q1 z x hx => ?_)
  · rw [hg q q0]
    by_cases c : k = q
    · rw [if_pos c, c]; exact ⟨rfl, rfl, rfl⟩
    · rw [if_neg c]; exact ⟨rfl, rfl, rfl⟩
  · rw [hg q z.1.1]
    by_cases c : k = q
    · rw [if_pos c, ← c]; exact hm
    · rw [if_neg c]
  · rw [hg q q0] at hx
    by_cases c : k = q
    · rw [if_pos c] at hx
      have hx2 : x.1 ∈ ((tO T k).2.2.2.2.2.2.set i (((tO T k).2.2.2.2.2.2.getD i (0, (0, 0, []))).1, u)).map (fun x => x.1) := List.mem_map_of_mem hx
      rw [hm] at hx2
      obtain ⟨y, y1, y2⟩ := List.mem_map.mp hx2
      have := h.2.2.2.2.1 k k0 k1 (by rw [c]; exact z) y y1
      omega
    · rw [if_neg c] at hx
      exact h.2.2.2.2.1 q q0 q1 z x hx
/-- of a list the last goes: the class -/
theorem dv_pop (hI : gI S) (h134 : S 134 k = sz) (hk : 0 ≤ k) : dv_ag k (sz - 1) S (w_up S 134 k (sz - 1)) := by
  refine ⟨by rw [w_up_same, h134], fun i i0 i1 => by omega, fun i _ => ⟨w_up_slot (by first | decide | omega), w_up_slot (by first | decide | omega)⟩, fun j x _ _ j2 => w_up_no (by omega), gI_up hI (by first | decide | omega) (by omega) (by omega), rmR_up (rmR_rfl S) (by omega) (by first | decide | omega)⟩
theorem lDr_m {α : Type} {x : α} : ∀ (n : Nat) (l : List α), x ∈ lDr n l → x ∈ l
  | 0, [], h => h
  | _ + 1, [], h => h
  | 0, _ :: _, h => List.mem_cons_of_mem _ h
  | n + 1, a :: l, h => by
    have h2 : x ∈ a :: lDr n l := h
    rcases List.mem_cons.mp h2 with z | z
    · rw [z]; exact List.mem_cons_self
    · exact List.mem_cons_of_mem _ (lDr_m n l z)
theorem wSh_dl (h : wSh T H) (k0 : 0 ≤ k) (k1 : k < (T.length : Int)) (h6 : (tO T k).1 = 6) : wSh (tDp T k ix) H := by
  refine wSh_cg h tDp_l (fun q q0 q1 => ?_) (fun q z => ?_) (fun q q0 q1 z x hx => ?_)
  · obtain ⟨f1, f2, f3, f4, f5, f6, f7⟩ := tDp_f (ix := ix) k0 k1 q0
    exact ⟨f1, f2, f5⟩
  · rw [tDp_o k0 k1 z.1.1]
    by_cases c : q = k
    · exfalso
      have := z.2
      rw [c] at this
      omega
    · rw [if_neg c]
  · rw [tDp_o k0 k1 q0] at hx
    by_cases c : q = k
    · rw [if_pos c] at hx
      exact h.2.2.2.2.1 k k0 k1 (Or.inl h6) x (lDr_m _ _ hx)
    · rw [if_neg c] at hx
      exact h.2.2.2.2.1 q q0 q1 z x hx
end Wiq
