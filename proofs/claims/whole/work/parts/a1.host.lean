/-! PART a1: readClass from its brace on. -/
section Wa1
variable {xs : List (Nat × List Int32)} {M : Nat → Prop} {d : Nat} {A B C S Z : wS} {Q : wO → wS → Prop} {T : Int → Int} {n : Int} {c i : Nat}
/-- what the reading of the class kc may change, of the class's own rows and of members from the N-th on -/
def cz_ag (m0 ho t0 oo ob : Nat) (kc N : Int) (S Z : wS) : Prop := ∀ (j : Nat) (i : Int), (j ≠ 14 ∨ i ≠ 4) → (j ≠ 61 ∨ (i ≠ 2 ∧ i ≠ 4)) → (j ≠ 62 ∨ i < 0) → (j ≠ ho ∨ (i ≠ 2 ∧ i ≠ 4)) → (j < t0 ∨ t0 + 8 < j ∨ i ≠ kc) → (j ≠ oo ∨ i < 60 * kc) → (j ≠ ob ∨ i ≠ kc) → (j < m0 ∨ m0 + 16 < j ∨ i < N) → Z j i = S j i
theorem cz_tr {m0 ho t0 oo ob : Nat} {kc N : Int} (h : cz_ag m0 ho t0 oo ob kc N A B) (k : cz_ag m0 ho t0 oo ob kc N B C) : cz_ag m0 ho t0 oo ob kc N A C := fun j i a b c d e f g l => (k j i a b c d e f g l).trans (h j i a b c d e f g l)
theorem nt_30 {p : Int} (h : lx_tk T n 1 p = 1) : lx_en T n 1 p - p ≤ 30 := by
  unfold lx_tk at h
  unfold lx_en
  by_cases c1 : n ≤ p
  · rw [if_pos c1] at h; omega
  · rw [if_neg c1] at h ⊢
    by_cases c2 : lx_le (T p) = true
    · rw [if_pos c2] at h ⊢
      split at h
      · assumption
      · omega
    · rw [if_neg c2] at h
      by_cases c3 : lx_di (T p) = true
      · rw [if_pos c3] at h; split at h <;> omega
      · rw [if_neg c3] at h
        by_cases c4 : T p = 34
        · rw [if_pos c4] at h
          have := lx_tx_tk T n ((n - p).toNat + 1) (p + 1) []
          omega
        · rw [if_neg c4] at h
          have := lx_sf_tk (T p) (lx_at T n (p + 1)) (lx_at T n (p + 2)) 1
          omega
/-- the type of a member, and its name's size -/
def mo_I (r : hMR) : Prop := (0 ≤ r.2.2.2.1 ∧ r.2.2.2.1 ≤ 68) ∧ (r.2.1 ≠ 2 → r.2.2.2.2.2.2.2 - r.2.2.2.2.2.2.1 ≤ 30)
theorem rm_end_mo {q so st ty v f e p2 so2 st2 ty2 v2 f2 e2 : Int} {l l2 : List Int} (h : rm_end B q so st ty l v f e = .inr (p2, so2, st2, ty2, l2, v2, f2, e2)) : so2 = so ∧ ty2 = ty ∧ f2 = f ∧ e2 = e := by
  unfold rm_end at h
  split at h
  · cases h; exact ⟨rfl, rfl, rfl, rfl⟩
  · cases h
theorem rm_fin_mo {r : (Int × Int) ⊕ (Int × List Int × Int)} {so st ty f e p2 so2 st2 ty2 v2 f2 e2 : Int} {l2 : List Int} (h : rm_fin B r so st ty f e = .inr (p2, so2, st2, ty2, l2, v2, f2, e2)) : so2 = so ∧ ty2 = ty ∧ f2 = f ∧ e2 = e := by
  rcases r with x | ⟨q, l, v⟩
  · cases h
  · exact rm_end_mo h
theorem rb_L_mo {b : Nat} {kc itf p1 st p2 so2 st2 ty2 v2 f2 e2 : Int} {l2 : List Int} {rs : List hMR} {N : Nat} (hB : zT B T n) (hb : b ≠ 237) (hb1 : B b 1 ≤ 60) (hkc : 0 ≤ kc ∧ kc < 60) (h : rb_L B b kc itf rs N p1 st = .inr (p2, so2, st2, ty2, l2, v2, f2, e2)) : (0 ≤ ty2 ∧ ty2 ≤ 68) ∧ (so2 ≠ 2 → e2 - f2 ≤ 30) := by
  by_cases h1n : ¬ zq B p1 237 6 = 1
  · rw [rb_1 h1n] at h; cases h
  have h1 := Decidable.not_not.1 h1n
  by_cases hn : lx_w (zq B p1) tx_25 = true
  · by_cases hs : st = 1
    · rw [rb_2 hs hn] at h; cases h
    · by_cases hN : (N : Int) < 400
      · by_cases hi : itf = 0
        · rw [rb_n h1 hs hn hN hi] at h
          obtain ⟨a1, a2, a3, a4⟩ := rm_fin_mo h
          exact ⟨by omega, fun z => absurd a1 z⟩
        · rw [rb_6 h1 hs hn hN hi] at h; cases h
      · rw [rb_5 h1 (fun z => hs z.1) (Or.inl hn) hN] at h; cases h
  · by_cases hpn : ¬ (0 ≤ pl_of (zq B p1) tx_27 ∨ 0 ≤ ch_of (zq B p1) b)
    · rw [rb_3 h1 hn hpn] at h; cases h
    have hp := Decidable.not_not.1 hpn
    by_cases hNn : ¬ (N : Int) < 400
    · rw [rb_5 h1 (fun z => hn z.2) (Or.inr hp) hNn] at h; cases h
    have hN := Decidable.not_not.1 hNn
    have hch := ch_of_rg (zq B p1) b (by rw [zq_o hb]; exact hb1)
    have hpl : pl_of (zq B p1) tx_27 ≤ 8 := by
      rw [pl_27_w]
      repeat' split
      all_goals omega
    cases hy : hy_type (zq B p1) b p1 1 with
    | inl x =>
      unfold rb_L at h
      rw [if_pos ⟨h1, fun z => hn z.2⟩, if_pos (Or.inr hp), if_pos hN, if_neg hn, hy] at h
      cases h
    | inr tp2 =>
      obtain ⟨t, q⟩ := tp2
      have ht : 0 ≤ t ∧ t ≤ 68 := by
        unfold hy_type at hy
        rw [if_pos h1, if_neg (by omega)] at hy
        by_cases c3 : 0 ≤ pl_of (zq B p1) tx_27
        · rw [if_pos c3] at hy; cases hy; omega
        · rw [if_neg c3] at hy
          by_cases c4 : 0 ≤ ch_of (zq B p1) b
          · rw [if_pos c4] at hy; cases hy; omega
          · rw [if_neg c4] at hy; cases hy
      rw [rb_t h1 hn hp hN hy] at h
      by_cases h2n : ¬ zq B q 237 6 = 1
      · rw [rn_1 h2n] at h; cases h
      have h2 := Decidable.not_not.1 h2n
      have h30 := nt_30 (T := T) (n := n) (p := q) (by rw [← zT_6 hB]; exact h2)
      by_cases ho : lx_oo (zq B q) tx_21 = true
      · rw [rn_2 h2 ho] at h; cases h
      by_cases hf : lx_is (zq B (lx_ne (zq B q) q)) 59 = true ∧ t ≠ 0
      · by_cases h4 : lx_is (zq B (lx_ne (zq B q) q)) 40 = true
        · exfalso
          have e1 := (lx_is4 h4).2
          have e2 := (lx_is4 hf.1).2
          omega
        · rw [rn_f h2 ho h4 hf] at h
          split at h
          · cases h
          · split at h
            · obtain ⟨a1, a2, a3, a4⟩ := rm_end_mo h
              rw [zT_8 hB] at a4
              exact ⟨by omega, fun _ => by omega⟩
            · cases h
      · rw [rn_m h2 ho hf] at h
        obtain ⟨a1, a2, a3, a4⟩ := rm_fin_mo h
        rw [zT_8 hB] at a4
        exact ⟨by omega, fun _ => by omega⟩
theorem rm_L_mo {b : Nat} {kc itf p p2 so2 st2 ty2 v2 f2 e2 : Int} {l2 : List Int} {rs : List hMR} {N : Nat} (hB : zT B T n) (hb : b ≠ 237) (hb1 : B b 1 ≤ 60) (hkc : 0 ≤ kc ∧ kc < 60) (h : rm_L B b kc itf rs N p = .inr (p2, so2, st2, ty2, l2, v2, f2, e2)) : (0 ≤ ty2 ∧ ty2 ≤ 68) ∧ (so2 ≠ 2 → e2 - f2 ≤ 30) := by
  by_cases h1 : lx_w (zq B p) tx_23 = true
  · by_cases hi : itf = 0
    · rw [rm_s h1 hi] at h; exact rb_L_mo hB hb hb1 hkc h
    · rw [rm_s6 h1 hi] at h; cases h
  · rw [rm_o h1] at h; exact rb_L_mo hB hb hb1 hkc h
theorem mb_f_mo {b : Nat} {kc itf : Int} {fi : Nat} (hB : zT B T n) (hb : b ≠ 237) (hb1 : B b 1 ≤ 60) (hkc : 0 ≤ kc ∧ kc < 60) : ∀ (f : Nat) (p : Int) (ms : List hMR) (q : Int) (ms2 : List hMR), mb_f B b kc itf fi f p ms = .inr (q, ms2) → ∃ rs : List hMR, ms2 = ms ++ rs ∧ ∀ r ∈ rs, mo_I r ∧ r.1 = kc := by
  intro f
  induction f with
  | zero => intro p ms q ms2 h; cases h
  | succ f ih =>
    intro p ms q ms2 h
    rw [mb_f_s] at h
    split at h
    · cases h; exact ⟨[], (List.append_nil _).symm, fun r hr => absurd hr List.not_mem_nil⟩
    · cases hr : rm_L B b kc itf (ms.drop fi) ms.length p with
      | inl x => rw [hr] at h; cases h
      | inr x =>
        obtain ⟨p2, so, st, ty, l, v, f2, e2⟩ := x
        rw [hr] at h
        obtain ⟨rs, e1, e3⟩ := ih p2 (ms ++ [(kc, so, st, ty, l, v, f2, e2)]) q ms2 h
        refine ⟨(kc, so, st, ty, l, v, f2, e2) :: rs, by rw [e1, List.append_assoc]; rfl, fun r hr2 => ?_⟩
        rcases List.mem_cons.1 hr2 with z | z
        · subst z; exact ⟨rm_L_mo hB hb hb1 hkc hr, rfl⟩
        · exact e3 r z
end Wa1
