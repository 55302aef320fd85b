/-! PART bv: the reference's lexer on a program: its tokens by the class's kinds. -/
section Wbv
variable {xs : List (Nat × List Int32)} {M : Nat → Prop} {d : Nat} {A B C S Z : wS} {Q : wO → wS → Prop} {T : Int → Int} {n : Int} {N X : List (List Int)} {c i : Nat}
theorem sk_rx (a : Int) : 10 ≤ sk a ∧ sk a ≤ 35 := by
  unfold sk
  repeat' (split; · omega)
  omega
theorem sk_40 {a : Int} : sk a = 10 ↔ a = 40 := by
  constructor
  · intro h
    unfold sk at h
    repeat' (split at h; · omega)
    omega
  · rintro rfl
    rfl
theorem sk_41 {a : Int} : sk a = 11 ↔ a = 41 := by
  constructor
  · intro h
    unfold sk at h
    repeat' (split at h; · omega)
    omega
  · rintro rfl
    rfl
theorem sk_123 {a : Int} : sk a = 12 ↔ a = 123 := by
  constructor
  · intro h
    unfold sk at h
    repeat' (split at h; · omega)
    omega
  · rintro rfl
    rfl
theorem sk_125 {a : Int} : sk a = 13 ↔ a = 125 := by
  constructor
  · intro h
    unfold sk at h
    repeat' (split at h; · omega)
    omega
  · rintro rfl
    rfl
theorem sk_91 {a : Int} : sk a = 14 ↔ a = 91 := by
  constructor
  · intro h
    unfold sk at h
    repeat' (split at h; · omega)
    omega
  · rintro rfl
    rfl
theorem sk_93 {a : Int} : sk a = 15 ↔ a = 93 := by
  constructor
  · intro h
    unfold sk at h
    repeat' (split at h; · omega)
    omega
  · rintro rfl
    rfl
theorem sk_44 {a : Int} : sk a = 16 ↔ a = 44 := by
  constructor
  · intro h
    unfold sk at h
    repeat' (split at h; · omega)
    omega
  · rintro rfl
    rfl
theorem sk_59 {a : Int} : sk a = 17 ↔ a = 59 := by
  constructor
  · intro h
    unfold sk at h
    repeat' (split at h; · omega)
    omega
  · rintro rfl
    rfl
theorem sk_46 {a : Int} : sk a = 18 ↔ a = 46 := by
  constructor
  · intro h
    unfold sk at h
    repeat' (split at h; · omega)
    omega
  · rintro rfl
    rfl
theorem sk_58 {a : Int} : sk a = 19 ↔ a = 58 := by
  constructor
  · intro h
    unfold sk at h
    repeat' (split at h; · omega)
    omega
  · rintro rfl
    rfl
theorem sk_61 {a : Int} : sk a = 20 ↔ a = 61 := by
  constructor
  · intro h
    unfold sk at h
    repeat' (split at h; · omega)
    omega
  · rintro rfl
    rfl
theorem sk_60 {a : Int} : sk a = 21 ↔ a = 60 := by
  constructor
  · intro h
    unfold sk at h
    repeat' (split at h; · omega)
    omega
  · rintro rfl
    rfl
theorem sk_62 {a : Int} : sk a = 22 ↔ a = 62 := by
  constructor
  · intro h
    unfold sk at h
    repeat' (split at h; · omega)
    omega
  · rintro rfl
    rfl
theorem sk_43 {a : Int} : sk a = 23 ↔ a = 43 := by
  constructor
  · intro h
    unfold sk at h
    repeat' (split at h; · omega)
    omega
  · rintro rfl
    rfl
theorem sk_45 {a : Int} : sk a = 24 ↔ a = 45 := by
  constructor
  · intro h
    unfold sk at h
    repeat' (split at h; · omega)
    omega
  · rintro rfl
    rfl
theorem sk_42 {a : Int} : sk a = 25 ↔ a = 42 := by
  constructor
  · intro h
    unfold sk at h
    repeat' (split at h; · omega)
    omega
  · rintro rfl
    rfl
theorem sk_47 {a : Int} : sk a = 26 ↔ a = 47 := by
  constructor
  · intro h
    unfold sk at h
    repeat' (split at h; · omega)
    omega
  · rintro rfl
    rfl
theorem sk_37 {a : Int} : sk a = 27 ↔ a = 37 := by
  constructor
  · intro h
    unfold sk at h
    repeat' (split at h; · omega)
    omega
  · rintro rfl
    rfl
theorem sk_33 {a : Int} : sk a = 28 ↔ a = 33 := by
  constructor
  · intro h
    unfold sk at h
    repeat' (split at h; · omega)
    omega
  · rintro rfl
    rfl
theorem sk_256 {a : Int} : sk a = 29 ↔ a = 256 := by
  constructor
  · intro h
    unfold sk at h
    repeat' (split at h; · omega)
    omega
  · rintro rfl
    rfl
theorem sk_257 {a : Int} : sk a = 30 ↔ a = 257 := by
  constructor
  · intro h
    unfold sk at h
    repeat' (split at h; · omega)
    omega
  · rintro rfl
    rfl
theorem sk_258 {a : Int} : sk a = 31 ↔ a = 258 := by
  constructor
  · intro h
    unfold sk at h
    repeat' (split at h; · omega)
    omega
  · rintro rfl
    rfl
theorem sk_259 {a : Int} : sk a = 32 ↔ a = 259 := by
  constructor
  · intro h
    unfold sk at h
    repeat' (split at h; · omega)
    omega
  · rintro rfl
    rfl
theorem sk_260 {a : Int} : sk a = 33 ↔ a = 260 := by
  constructor
  · intro h
    unfold sk at h
    repeat' (split at h; · omega)
    omega
  · rintro rfl
    rfl
theorem sk_261 {a : Int} : sk a = 34 ↔ a = 261 := by
  constructor
  · intro h
    unfold sk at h
    repeat' (split at h; · omega)
    omega
  · rintro rfl
    rfl
theorem tk_cs (T : Int → Int) (n h p : Int) : lx_tk T n h p = 0 ∨ lx_tk T n h p = 1 ∨ lx_tk T n h p = 2 ∨ lx_tk T n h p = 3 ∨ lx_tk T n h p = 4 ∨ lx_tk T n h p = 5 := by
  unfold lx_tk
  by_cases h1 : n ≤ p
  · rw [if_pos h1]; omega
  · rw [if_neg h1]
    by_cases h2 : lx_le (T p) = true
    · rw [if_pos h2]; split <;> omega
    · rw [if_neg h2]
      by_cases h3 : lx_di (T p) = true
      · rw [if_pos h3]; split <;> omega
      · rw [if_neg h3]
        by_cases h4 : T p = 34
        · rw [if_pos h4]; have := lx_tx_tk T n ((n - p).toNat + 1) (p + 1) []; omega
        · rw [if_neg h4]; have := lx_sf_tk (T p) (lx_at T n (p + 1)) (lx_at T n (p + 2)) h; omega
theorem tk_x0 {h p : Int} : lx_tk T n h p = 0 ↔ n ≤ p := by
  unfold lx_tk
  by_cases h1 : n ≤ p
  · rw [if_pos h1]; omega
  · rw [if_neg h1]
    refine ⟨fun q => ?_, fun q => absurd q h1⟩
    exfalso
    revert q
    by_cases h2 : lx_le (T p) = true
    · rw [if_pos h2]; split <;> omega
    · rw [if_neg h2]
      by_cases h3 : lx_di (T p) = true
      · rw [if_pos h3]; split <;> omega
      · rw [if_neg h3]
        by_cases h4 : T p = 34
        · rw [if_pos h4]; have := lx_tx_tk T n ((n - p).toNat + 1) (p + 1) []; omega
        · rw [if_neg h4]; have := lx_sf_tk (T p) (lx_at T n (p + 1)) (lx_at T n (p + 2)) h; omega
/-- a token's kind in the class, and the reference's -/
theorem kq_cs (T : Int → Int) (n : Int) (N X : List (List Int)) (i : Nat) : (lx_tk T n 0 (tp T n 0 i) = 0 ∧ kq T n N X i = 0) ∨ (lx_tk T n 0 (tp T n 0 i) = 1 ∧ kwL (nmx T n (tp T n 0 i)) = -1 ∧ (kq T n N X i = 5 ∨ kq T n N X i = 6)) ∨ (lx_tk T n 0 (tp T n 0 i) = 1 ∧ (0 ≤ kwL (nmx T n (tp T n 0 i)) ∧ kwL (nmx T n (tp T n 0 i)) ≤ 21) ∧ kq T n N X i = 40 + kwL (nmx T n (tp T n 0 i))) ∨ (lx_tk T n 0 (tp T n 0 i) = 2 ∧ kq T n N X i = 2) ∨ (lx_tk T n 0 (tp T n 0 i) = 3 ∧ (kq T n N X i = 3 ∨ kq T n N X i = 4)) ∨ (lx_tk T n 0 (tp T n 0 i) = 4 ∧ kq T n N X i = sk (lx_si T n 0 (tp T n 0 i))) ∨ (lx_tk T n 0 (tp T n 0 i) = 5 ∧ kq T n N X i = 1) := by
  have h0 := tk_x0 (T := T) (n := n) (h := 0) (p := tp T n 0 i)
  unfold kq
  by_cases hn : n ≤ tp T n 0 i
  · rw [if_pos hn]; exact Or.inl ⟨h0.2 hn, rfl⟩
  · rw [if_neg hn]
    have hz : lx_tk T n 0 (tp T n 0 i) ≠ 0 := fun q => hn (h0.1 q)
    unfold kp
    rcases tk_cs T n 0 (tp T n 0 i) with e | e | e | e | e | e
    · exact absurd e hz
    · rw [if_pos e]
      by_cases hk : kwL (nmx T n (tp T n 0 i)) = -1
      · rw [if_pos hk]
        refine Or.inr (Or.inl ⟨e, hk, ?_⟩)
        split <;> omega
      · rw [if_neg hk]
        have := kwL_rg (nmx T n (tp T n 0 i))
        exact Or.inr (Or.inr (Or.inl ⟨e, by omega, rfl⟩))
    · rw [if_neg (by omega), if_pos e]; exact Or.inr (Or.inr (Or.inr (Or.inl ⟨e, rfl⟩)))
    · rw [if_neg (by omega), if_neg (by omega), if_pos e]
      refine Or.inr (Or.inr (Or.inr (Or.inr (Or.inl ⟨e, ?_⟩))))
      split <;> omega
    · rw [if_neg (by omega), if_neg (by omega), if_neg (by omega), if_neg (by omega)]; exact Or.inr (Or.inr (Or.inr (Or.inr (Or.inr (Or.inl ⟨e, rfl⟩)))))
    · rw [if_neg (by omega), if_neg (by omega), if_neg (by omega), if_pos e]; exact Or.inr (Or.inr (Or.inr (Or.inr (Or.inr (Or.inr ⟨e, rfl⟩)))))
/-- the reference's lexer stands at the i-th token -/
def rL (T : Int → Int) (n : Int) (i : Nat) (S : wS) : Prop := S 239 = T ∧ S 237 4 = n ∧ S 237 5 = 0 ∧ lx_I S (tp T n 0 i)
theorem rL_tk (h : rL T n i S) : S 237 6 = lx_tk T n 0 (tp T n 0 i) ∧ S 237 7 = tp T n 0 i ∧ S 237 8 = lx_en T n 0 (tp T n 0 i) ∧ (S 237 6 = 4 → S 237 9 = lx_si T n 0 (tp T n 0 i)) := by
  obtain ⟨h1, h2, h3, h4, h5, h6, h7, h8, h9, h10, h11⟩ := h
  rw [h1, h2, h3] at h8 h9 h10
  exact ⟨h8, h7, h9, h10⟩
theorem rL_is (h : rL T n i S) {c k : Int} (hk : ∀ a : Int, sk a = k ↔ a = c) (hr : 10 ≤ k ∧ k ≤ 34) : lx_is S c = true ↔ kq T n N X i = k := by
  obtain ⟨h1, h2, h3, h4⟩ := rL_tk h
  have hq := kq_cs T n N X i
  unfold lx_is
  rw [decide_eq_true_iff]
  constructor
  · rintro ⟨a, b⟩
    have e := h4 a
    have e2 := (hk c).2 rfl
    rw [← e, b] at hq
    omega
  · intro e
    have hs := sk_rx (lx_si T n 0 (tp T n 0 i))
    have e4 : lx_tk T n 0 (tp T n 0 i) = 4 ∧ kq T n N X i = sk (lx_si T n 0 (tp T n 0 i)) := by omega
    have e5 : S 237 6 = 4 := h1.trans e4.1
    exact ⟨e5, (h4 e5).trans ((hk _).1 (e4.2.symm.trans e))⟩
theorem rL_is0 (h : rL T n i S) {c k : Int} (hk : ∀ a : Int, sk a = k ↔ a = c) (hr : 10 ≤ k ∧ k ≤ 34) : lx_is S c = false ↔ kq T n N X i ≠ k := by
  have := rL_is (N := N) (X := X) h hk hr
  cases e : lx_is S c with
  | true => rw [e] at this; simp only [true_iff] at this; simp [this]
  | false => rw [e] at this; simp only [Bool.false_eq_true, false_iff] at this; simp [this]
theorem rL_nx (h : rL T n i S) (g : lx_ag S Z) (hz : lx_I Z (lx_ne S (tp T n 0 i))) : rL T n (i + 1) Z := by
  obtain ⟨h1, h2, h3, h4⟩ := h
  obtain ⟨g1, g2, g3⟩ := lx_ag_T g
  refine ⟨g1.trans h1, g2.trans h2, g3.trans h3, ?_⟩
  have e : lx_ne S (tp T n 0 i) = tp T n 0 (i + 1) := by
    show lx_go (S 239) (S 237 4) (lx_en (S 239) (S 237 4) (S 237 5) (tp T n 0 i)) = lx_go T n (lx_en T n 0 (tp T n 0 i))
    rw [h1, h2, h3]
  rw [← e]; exact hz
theorem wl2_nd : (wl2.take 22).Nodup := by decide +kernel
theorem kwL_at {x : List Int} {k : Nat} (hk : k < 22) : wl2.getD k [] = x ↔ kwL x = (k : Int) := by
  have hl : (wl2.take 22).length = 22 := by decide +kernel
  have hg : wl2.getD k [] = (wl2.take 22)[k]'(by omega) := by
    rw [List.getElem_take, List.getD_eq_getElem?_getD, List.getElem?_eq_getElem (by have : wl2.length = 33 := by decide +kernel
                                                                                    omega)]
    rfl
  unfold kwL
  constructor
  · intro e
    have hm : x ∈ wl2.take 22 := by rw [← e, hg]; exact List.getElem_mem _
    rw [if_pos hm]
    have : (wl2.take 22).idxOf x = k := by
      rw [← e, hg]
      exact List.Nodup.idxOf_getElem wl2_nd k (by omega)
    omega
  · intro e
    by_cases hm : x ∈ wl2.take 22
    · rw [if_pos hm] at e
      have e2 : (wl2.take 22).idxOf x = k := by omega
      have hlt : (wl2.take 22).idxOf x < (wl2.take 22).length := List.idxOf_lt_length_iff.mpr hm
      have h3 : (wl2.take 22)[(wl2.take 22).idxOf x] = x := List.getElem_idxOf hlt
      rw [hg]
      simp only [e2] at h3
      exact h3
    · rw [if_neg hm] at e; omega
/-- the word k of the language -/
theorem rL_wd (h : rL T n i S) {k : Nat} (hk : k < 22) : lx_w S (kwl k) = true ↔ kq T n N X i = 40 + (k : Int) := by
  obtain ⟨h1, h2, h3, h4⟩ := rL_tk h
  have hq := kq_cs T n N X i
  by_cases e1 : S 237 6 = 1
  · have hle : S 237 7 ≤ S 237 8 := by
      rw [h2, h3]
      obtain ⟨a1, a2, a3, a4, a5, a6, a7, -⟩ := h
      exact (lx_en_le (by rw [a2] at a6; exact a6.2)).1
    rw [lx_w_kw hk e1 hle]
    have ex : sl_ (S 239) (S 237 7) (S 237 8 - S 237 7) = nmx T n (tp T n 0 i) := by unfold nmx; rw [h.1, h2, h3]
    rw [ex]
    have hkw := kwL_at (x := nmx T n (tp T n 0 i)) hk
    rw [hkw]
    omega
  · have hw : lx_w S (kwl k) = false := by
      unfold lx_w
      exact decide_eq_false (fun q => e1 q.1)
    rw [hw]
    rw [h1] at e1
    have hs := sk_rx (lx_si T n 0 (tp T n 0 i))
    simp only [Bool.false_eq_true, false_iff]
    omega
end Wbv
