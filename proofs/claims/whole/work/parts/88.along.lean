/-! PART 88: a member's reading goes on along the text. -/
section W88
variable {S A B Z : wS} {b : Nat} {p : Int}
theorem ne_ge {p : Int} (hp : p ≤ B 237 4) (h5 : zq B p 237 6 ≠ 5) : p ≤ lx_ne (zq B p) p ∧ lx_ne (zq B p) p ≤ B 237 4 := by
  have h1 := lx_en_le (T := B 239) (h := B 237 5) hp
  have h2 := h1.2.1 (by rw [← zq_6]; exact h5)
  have h3 := lx_bl_rg (B 239) (B 237 4) ((B 237 4 - lx_en (B 239) (B 237 4) (B 237 5) p).toNat + 1) (lx_en (B 239) (B 237 4) (B 237 5) p) h2
  show p ≤ lx_bl (B 239) (B 237 4) ((B 237 4 - lx_en (B 239) (B 237 4) (B 237 5) p).toNat + 1) (lx_en (B 239) (B 237 4) (B 237 5) p) ∧ lx_bl (B 239) (B 237 4) ((B 237 4 - lx_en (B 239) (B 237 4) (B 237 5) p).toNat + 1) (lx_en (B 239) (B 237 4) (B 237 5) p) ≤ _
  omega
theorem ne_gt {p : Int} (hp : p ≤ B 237 4) (h0 : zq B p 237 6 ≠ 0) (h5 : zq B p 237 6 ≠ 5) : p < lx_ne (zq B p) p ∧ lx_ne (zq B p) p ≤ B 237 4 := by
  have h1 := lx_en_le (T := B 239) (h := B 237 5) hp
  have h2 := h1.2.1 (by rw [← zq_6]; exact h5)
  have h4 := lx_tk_lt (T := B 239) (n := B 237 4) (h := B 237 5) (p := p) (by rw [← zq_6]; exact h0)
  have h6 := lx_en_gt (T := B 239) (h := B 237 5) h4
  have h3 := lx_bl_rg (B 239) (B 237 4) ((B 237 4 - lx_en (B 239) (B 237 4) (B 237 5) p).toNat + 1) (lx_en (B 239) (B 237 4) (B 237 5) p) h2
  show p < lx_bl (B 239) (B 237 4) ((B 237 4 - lx_en (B 239) (B 237 4) (B 237 5) p).toNat + 1) (lx_en (B 239) (B 237 4) (B 237 5) p) ∧ lx_bl (B 239) (B 237 4) ((B 237 4 - lx_en (B 239) (B 237 4) (B 237 5) p).toNat + 1) (lx_en (B 239) (B 237 4) (B 237 5) p) ≤ _
  omega
theorem ne_is {p c : Int} (hp : p ≤ B 237 4) (h : lx_is (zq B p) c = true) : p < lx_ne (zq B p) p ∧ lx_ne (zq B p) p ≤ B 237 4 := by
  have := (lx_is4 h).1
  exact ne_gt hp (by omega) (by omega)
theorem pr_f_ge (hb : B b 1 ≤ 60) (hb2 : b ≠ 237) : ∀ (f : Nat) (p : Int) (l : List Int) (q v : Int) (l2 : List Int), p ≤ B 237 4 → pr_f B b f p l = .inr (q, l2, v) → p ≤ q ∧ q ≤ B 237 4 := by
  intro f
  induction f with
  | zero => intro p l q v l2 _ h; cases h
  | succ f ih =>
    intro p l q v l2 hp h
    rw [pr_f_s] at h
    by_cases c1 : zq B p 237 6 = 1
    · rw [if_pos c1] at h
      by_cases c2 : 0 < pl_of (zq B p) tx_27 ∨ 0 ≤ ch_of (zq B p) b
      · rw [if_pos c2] at h
        by_cases c3 : l.length < 8
        · rw [if_pos c3] at h
          cases hy : hy_type (zq B p) b p 0 with
          | inl e => rw [hy] at h; cases h
          | inr tq =>
            obtain ⟨t, q1⟩ := tq
            rw [hy] at h
            dsimp only at h
            have h1 := hy_type_rg (by rw [zq_o hb2]; exact hb) hy
            have h2 := ne_gt hp (by omega) (by omega)
            have hq1 : q1 ≤ B 237 4 := by omega
            cases g1 : lx_is (zq B q1) 262 with
            | true =>
              rw [g1, if_pos rfl] at h
              have h3 := ne_is hq1 g1
              cases h
              omega
            | false =>
              rw [g1, if_neg (by decide)] at h
              cases g2 : lx_is (zq B q1) 44 with
              | true =>
                rw [g2, if_pos rfl] at h
                have h3 := ne_is hq1 g2
                have h4 := ih _ _ _ _ _ h3.2 h
                omega
              | false =>
                rw [g2, if_neg (by decide)] at h
                cases h
                omega
        · rw [if_neg c3] at h; cases h
      · rw [if_neg c2] at h; cases h
    · rw [if_neg c1] at h; cases h
theorem pq_r_ge {q v : Int} {l : List Int} (hb : B b 1 ≤ 60) (hb2 : b ≠ 237) (hp : p ≤ B 237 4) (h : pq_r B b p = .inr (q, l, v)) : p ≤ q ∧ q ≤ B 237 4 := by
  unfold pq_r at h
  cases g : lx_is (zq B p) 41 with
  | true => rw [g, if_pos rfl] at h; cases h; omega
  | false => rw [g, if_neg (by decide)] at h; exact pr_f_ge hb hb2 _ _ _ _ _ _ hp h
theorem rm_end_gt {q so st ty v f e p2 so2 st2 ty2 v2 f2 e2 : Int} {l l2 : List Int} (hq : q ≤ B 237 4) (h : rm_end B q so st ty l v f e = .inr (p2, so2, st2, ty2, l2, v2, f2, e2)) : q < p2 ∧ p2 ≤ B 237 4 ∧ f2 = f ∧ e2 = e ∧ l2 = l := by
  unfold rm_end at h
  cases g : lx_is (zq B q) 59 with
  | true =>
    rw [g, if_pos rfl] at h
    have := ne_is hq g
    cases h
    exact ⟨this.1, this.2, rfl, rfl, rfl⟩
  | false => rw [g, if_neg (by decide)] at h; cases h
theorem rp_L_gt {rs : List hMR} {so st ty f e p2 so2 st2 ty2 v2 f2 e2 : Int} {l2 : List Int} (hb : B b 1 ≤ 60) (hb2 : b ≠ 237) (hp : p ≤ B 237 4) (h : rp_L B b rs p so st ty f e = .inr (p2, so2, st2, ty2, l2, v2, f2, e2)) : p < p2 ∧ p2 ≤ B 237 4 ∧ f2 = f ∧ e2 = e := by
  unfold rp_L at h
  cases hk : pk_L B so f e rs (pq_r B b p) with
  | inl x => rw [hk] at h; cases h
  | inr t =>
    obtain ⟨q, l, v⟩ := t
    rw [hk] at h
    dsimp only at h
    cases hr : pq_r B b p with
    | inl x => rw [hr] at hk; cases hk
    | inr t2 =>
      obtain ⟨q0, l0, v0⟩ := t2
      rw [hr] at hk
      have h0 := pq_r_ge hb hb2 hp hr
      replace hk : (if lx_is (zq B q0) 41 = true then (if dp_L (B 239) so f e l0 rs = true then (.inl (7, q0) : (Int × Int) ⊕ (Int × List Int × Int)) else .inr (lx_ne (zq B q0) q0, l0, v0)) else .inl (1, q0)) = .inr (q, l, v) := hk
      cases g : lx_is (zq B q0) 41 with
      | true =>
        rw [g, if_pos rfl] at hk
        have h1 := ne_is h0.2 g
        cases gd : dp_L (B 239) so f e l0 rs with
        | true => rw [gd, if_pos rfl] at hk; cases hk
        | false =>
          rw [gd, if_neg (by decide)] at hk
          cases hk
          have h2 := rm_end_gt h1.2 h
          exact ⟨by omega, h2.2.1, h2.2.2.1, h2.2.2.2.1⟩
      | false => rw [g, if_neg (by decide)] at hk; cases hk
/-- a member that is read: the place behind it, its name's place and end -/
theorem rb_L_gt {c itf : Int} {rs : List hMR} {n : Nat} {p1 st p2 so2 st2 ty2 v2 f2 e2 : Int} {l2 : List Int} (hb : B b 1 ≤ 60) (hb2 : b ≠ 237) (hp : 0 ≤ p1 ∧ p1 ≤ B 237 4) (h : rb_L B b c itf rs n p1 st = .inr (p2, so2, st2, ty2, l2, v2, f2, e2)) : p1 < p2 ∧ p2 ≤ B 237 4 ∧ (0 ≤ f2 ∧ f2 ≤ e2 ∧ e2 ≤ B 237 4 + 2) := by
  unfold rb_L at h
  by_cases c1 : zq B p1 237 6 = 1 ∧ ¬ (st = 1 ∧ lx_w (zq B p1) tx_25 = true)
  · rw [if_pos c1] at h
    have hg1 := ne_gt hp.2 (by omega) (by omega)
    by_cases c2 : lx_w (zq B p1) tx_25 = true ∨ (0 ≤ pl_of (zq B p1) tx_27 ∨ 0 ≤ ch_of (zq B p1) b)
    · rw [if_pos c2] at h
      by_cases c3 : (n : Int) < 400
      · rw [if_pos c3] at h
        by_cases c4 : lx_w (zq B p1) tx_25 = true
        · rw [if_pos c4] at h
          by_cases c5 : itf = 0
          · rw [if_pos c5] at h
            by_cases c6 : lx_is (zq B (lx_ne (zq B p1) p1)) 40 = true
            · rw [if_pos c6] at h
              have hg2 := ne_is hg1.2 c6
              have := rp_L_gt hb hb2 hg2.2 h
              omega
            · rw [if_neg c6] at h; cases h
          · rw [if_neg c5] at h; cases h
        · rw [if_neg c4] at h
          cases hy : hy_type (zq B p1) b p1 1 with
          | inl x => rw [hy] at h; cases h
          | inr tq =>
            obtain ⟨t, q⟩ := tq
            rw [hy] at h
            dsimp only at h
            have h1 := hy_type_rg (by rw [zq_o hb2]; exact hb) hy
            have hq : q ≤ B 237 4 := by omega
            have he := lx_en_le (T := B 239) (h := B 237 5) hq
            have e8 : zq B q 237 8 = lx_en (B 239) (B 237 4) (B 237 5) q := rfl
            by_cases c7 : zq B q 237 6 = 1
            · rw [if_pos c7] at h
              have hg3 := ne_gt hq (by omega) (by omega)
              by_cases c8 : lx_oo (zq B q) tx_21 = true
              · rw [if_pos c8] at h; cases h
              · rw [if_neg c8] at h
                by_cases c9 : lx_is (zq B (lx_ne (zq B q) q)) 40 = true
                · rw [if_pos c9] at h
                  have hg4 := ne_is hg3.2 c9
                  have := rp_L_gt hb hb2 hg4.2 h
                  omega
                · rw [if_neg c9] at h
                  cases hf : rf_L B itf rs t q (zq B q 237 8) (lx_ne (zq B q) q) q with
                  | some x => rw [hf] at h; cases h
                  | none =>
                    rw [hf] at h
                    dsimp only at h
                    have := rm_end_gt hg3.2 h
                    omega
            · rw [if_neg c7] at h; cases h
      · rw [if_neg c3] at h; cases h
    · rw [if_neg c2] at h; cases h
  · rw [if_neg c1] at h; cases h
theorem rm_L_gt {c itf : Int} {rs : List hMR} {n : Nat} {p2 so2 st2 ty2 v2 f2 e2 : Int} {l2 : List Int} (hb : B b 1 ≤ 60) (hb2 : b ≠ 237) (hp : 0 ≤ p ∧ p ≤ B 237 4) (h : rm_L B b c itf rs n p = .inr (p2, so2, st2, ty2, l2, v2, f2, e2)) : p < p2 ∧ p2 ≤ B 237 4 ∧ (0 ≤ f2 ∧ f2 ≤ e2 ∧ e2 ≤ B 237 4 + 2) := by
  unfold rm_L at h
  by_cases c1 : lx_w (zq B p) tx_23 = true
  · rw [if_pos c1] at h
    have h6 := lx_w1 c1
    have hg := ne_gt hp.2 (by omega) (by omega)
    by_cases c2 : itf = 0
    · rw [if_pos c2] at h
      have := rb_L_gt hb hb2 ⟨by omega, hg.2⟩ h
      omega
    · rw [if_neg c2] at h; cases h
  · rw [if_neg c1] at h
    exact rb_L_gt hb hb2 hp h
end W88
