/-! PART mra: names and texts that a program brings. -/
section Wmra
variable {T : Int → Int} {n p : Int} {N X : List (List Int)}
theorem adL_nd {L : List (List Int)} {x : List Int} (h : L.Nodup) : (adL L x).Nodup := by
  unfold adL
  by_cases c : x ∈ L ∨ 4000 ≤ L.length
  · rw [if_pos c]
    exact h
  · rw [if_neg c]
    refine List.nodup_append.mpr ⟨h, by simp, fun a ha b hb e => ?_⟩
    rw [List.mem_singleton.mp hb] at e
    rw [e] at ha
    exact c (Or.inl ha)
theorem NL_nd (h : N.Nodup) : ∀ i : Nat, (NL T n N i).Nodup
  | 0 => h
  | i + 1 => by
    show (Nn T n (tp T n 0 i) (NL T n N i)).Nodup
    unfold Nn
    split
    · exact adL_nd (NL_nd h i)
    · exact NL_nd h i
theorem sf_3 {c d e h : Int} : (lx_sf c d e h).1 ≠ 3 := by
  unfold lx_sf
  repeat' split
  all_goals (intro q; revert q; first | decide | (show ¬ ((4 : Int) = 3); decide) | (show ¬ ((5 : Int) = 3); decide))
theorem tk3 (h : lx_tk T n 0 p = 3) : p < n ∧ lx_en T n 0 p = (lx_tx T n ((n - p).toNat + 1) (p + 1) []).2.1 + 1 ∧ (lx_tx T n ((n - p).toNat + 1) (p + 1) []).1 = 3 := by
  unfold lx_tk at h
  unfold lx_en
  by_cases c0 : n ≤ p
  · rw [if_pos c0] at h
    exact absurd h (by first | decide | omega)
  · rw [if_neg c0] at h ⊢
    by_cases c1 : lx_le (T p) = true
    · rw [if_pos c1] at h
      split at h
      · exact absurd h (by first | decide | omega)
      · exact absurd h (by first | decide | omega)
    · rw [if_neg c1] at h ⊢
      by_cases c2 : lx_di (T p) = true
      · rw [if_pos c2] at h
        split at h
        · exact absurd h (by first | decide | omega)
        · exact absurd h (by first | decide | omega)
      · rw [if_neg c2] at h ⊢
        by_cases c3 : T p = 34
        · rw [if_pos c3] at h ⊢
          exact ⟨by omega, rfl, h⟩
        · rw [if_neg c3] at h
          exact absurd h sf_3
theorem lx_tc_g (hT : ∀ i : Int, 0 ≤ i → i < n → T i = 10 ∨ (32 ≤ T i ∧ T i ≤ 126)) {t : Int} (ht : 0 ≤ t) : 0 ≤ lx_tc T n t ∧ lx_tc T n t ≤ 255 := by
  have at_g : ∀ k : Int, 0 ≤ k → 0 ≤ lx_at T n k ∧ lx_at T n k ≤ 255 := fun k k0 => by
    unfold lx_at
    by_cases c : k < n
    · rw [if_pos c]
      have := hT k k0 c
      omega
    · rw [if_neg c]
      omega
  have a := at_g t ht
  have b := at_g (t + 1) (by omega)
  unfold lx_tc
  repeat' split
  all_goals omega
theorem lx_tx_g (hT : ∀ i : Int, 0 ≤ i → i < n → T i = 10 ∨ (32 ≤ T i ∧ T i ≤ 126)) : ∀ (f : Nat) (t : Int) (l : List Int), 0 ≤ t → (∀ y ∈ l, 0 ≤ y ∧ y ≤ 255) → ∀ y ∈ (lx_tx T n f t l).2.2, 0 ≤ y ∧ y ≤ 255
  | 0, _, _, _, hl => hl
  | f + 1, t, l, ht, hl => by
    rw [lx_tx_s]
    by_cases c1 : lx_at T n t = 34
    · rw [if_pos c1]
      exact hl
    · rw [if_neg c1]
      by_cases c2 : lx_tc T n t = 0 ∨ l.length = 60
      · rw [if_pos c2]
        exact hl
      · rw [if_neg c2]
        refine lx_tx_g hT f _ _ (by unfold lx_t2; split <;> omega) (fun y hy => ?_)
        rcases List.mem_append.mp hy with z | z
        · exact hl y z
        · rw [List.mem_singleton.mp z]
          exact lx_tc_g hT ht
theorem adL_m {L : List (List Int)} {x k : List Int} (h : k ∈ adL L x) : k ∈ L ∨ k = x := by
  unfold adL at h
  by_cases c : x ∈ L ∨ 4000 ≤ L.length
  · rw [if_pos c] at h
    exact Or.inl h
  · rw [if_neg c] at h
    rcases List.mem_append.mp h with z | z
    · exact Or.inl z
    · exact Or.inr (List.mem_singleton.mp z)
theorem lx_go_up {t : Int} : t ≤ lx_go T n t ∧ (t ≤ n → lx_go T n t ≤ n) ∧ (n ≤ t → lx_go T n t = t) := by
  by_cases c : t ≤ n
  · have z := lx_bl_rg T n ((n - t).toNat + 1) t c
    exact ⟨z.1, fun _ => z.2, fun h => lx_go_ge h⟩
  · have z := lx_go_ge (T := T) (n := n) (p := t) (by omega)
    exact ⟨by omega, fun h => absurd h c, fun _ => z⟩
theorem tp_rg (h0 : 0 ≤ n) : ∀ i : Nat, 0 ≤ tp T n 0 i ∧ tp T n 0 i ≤ n + 2
  | 0 => by
    have z := lx_go_up (T := T) (n := n) (t := 0)
    show 0 ≤ lx_go T n 0 ∧ lx_go T n 0 ≤ n + 2
    have := z.2.1 h0
    omega
  | i + 1 => by
    have ih := tp_rg h0 i
    show 0 ≤ lx_go T n (lx_en T n 0 (tp T n 0 i)) ∧ lx_go T n (lx_en T n 0 (tp T n 0 i)) ≤ n + 2
    have z := lx_go_up (T := T) (n := n) (t := lx_en T n 0 (tp T n 0 i))
    by_cases c : tp T n 0 i ≤ n
    · have e := lx_en_le (T := T) (n := n) (h := 0) c
      by_cases c2 : lx_en T n 0 (tp T n 0 i) ≤ n
      · have := z.2.1 c2
        omega
      · have := z.2.2 (by omega)
        omega
    · have e : lx_en T n 0 (tp T n 0 i) = tp T n 0 i := by
        unfold lx_en
        rw [if_pos (by omega)]
      rw [e] at z ⊢
      have := z.2.2 (by omega)
      omega
theorem tp_up (i : Nat) : lx_en T n 0 (tp T n 0 i) ≤ tp T n 0 (i + 1) ∧ tp T n 0 i ≤ lx_en T n 0 (tp T n 0 i) := by
  refine ⟨(lx_go_up (T := T) (n := n) (t := lx_en T n 0 (tp T n 0 i))).1, ?_⟩
  by_cases c : tp T n 0 i ≤ n
  · exact (lx_en_le (T := T) (n := n) (h := 0) c).1
  · unfold lx_en
    rw [if_pos (by omega)]
    exact Int.le_refl _
theorem XL_m (h0 : 0 ≤ n) (hT : ∀ i : Int, 0 ≤ i → i < n → T i = 10 ∨ (32 ≤ T i ∧ T i ≤ 126)) (hX : ∀ k ∈ X, ∀ y ∈ k, 0 ≤ y ∧ y ≤ 255) : ∀ i : Nat, ∀ k ∈ XL T n X i, ∀ y ∈ k, 0 ≤ y ∧ y ≤ 255
  | 0 => hX
  | i + 1 => fun k hk => by
    replace hk : k ∈ Xn T n (tp T n 0 i) (XL T n X i) := hk
    have hp := (tp_rg (T := T) h0 i).1
    unfold Xn at hk
    split at hk
    · rcases adL_m hk with z | z
      · exact XL_m h0 hT hX i k z
      · rw [z]
        unfold lx_by
        exact lx_tx_g hT _ _ _ (by omega) (fun y hy => absurd hy (List.not_mem_nil))
    · exact XL_m h0 hT hX i k hk
theorem XL_t (h0 : 0 ≤ n) : ∀ i : Nat, (tls (XL T n X i) : Int) ≤ (tls X : Int) + tp T n 0 i
  | 0 => by
    have := (tp_rg (T := T) h0 0).1
    show (tls X : Int) ≤ (tls X : Int) + tp T n 0 0
    omega
  | i + 1 => by
    have ih := XL_t h0 i
    have u := tp_up (T := T) (n := n) i
    show (tls (Xn T n (tp T n 0 i) (XL T n X i)) : Int) ≤ (tls X : Int) + tp T n 0 (i + 1)
    unfold Xn
    split
    · rename_i h3
      obtain ⟨q1, q2, q3⟩ := tk3 h3
      have l := lx_tx_ln T n ((n - tp T n 0 i).toNat + 1) (tp T n 0 i + 1) [] q3
      have l0 : ((([] : List Int).length : Nat) : Int) = 0 := rfl
      unfold adL
      split
      · omega
      · rw [tls_ap]
        unfold lx_by
        omega
    · omega
end Wmra
