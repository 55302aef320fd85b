/-! PART no: what is true of every member that a host's text brings. -/
section Wno
variable {A B S : wS} {T : Int → Int} {b : Nat} {c itf nb p q p1 p2 so st ty v f e t : Int} {l : List Int} {rs ms ms2 : List hMR} {N m0 : Nat}
/-- parameters' types -/
def pG (nb : Int) (l : List Int) (v : Int) : Prop := (v = 0 ∨ (v = 1 ∧ 1 ≤ l.length)) ∧ l.length ≤ 8 ∧ ∀ x ∈ l, 1 ≤ x ∧ x < 9 + nb
/-- a member of the class c (itf: an interface), behind those in rs, where nb classes are told -/
def mG (T : Int → Int) (c itf nb : Int) (rs : List hMR) (r : hMR) : Prop := r.1 = c ∧ ((r.2.1 = 0 ∧ 1 ≤ r.2.2.2.1 ∧ itf = 0 ∧ r.2.2.2.2.1 = [] ∧ r.2.2.2.2.2.1 = 0 ∧ df_L T r.2.2.2.2.2.2.1 r.2.2.2.2.2.2.2 rs = false) ∨ (r.2.1 = 1 ∧ dp_L T 1 r.2.2.2.2.2.2.1 r.2.2.2.2.2.2.2 r.2.2.2.2.1 rs = false) ∨ (r.2.1 = 2 ∧ itf = 0 ∧ r.2.2.1 = 0 ∧ r.2.2.2.2.2.2.1 = r.2.2.2.2.2.2.2 ∧ r.2.2.2.1 = 9 + c ∧ dp_L T 2 r.2.2.2.2.2.2.1 r.2.2.2.2.2.2.2 r.2.2.2.2.1 rs = false)) ∧ (r.2.2.1 = 0 ∨ (r.2.2.1 = 1 ∧ itf = 0)) ∧ (0 ≤ r.2.2.2.1 ∧ r.2.2.2.1 < 9 + nb) ∧ pG nb r.2.2.2.2.1 r.2.2.2.2.2.1
theorem pl_8 : pl_of S tx_27 ≤ 8 := by
  rw [pl_27_w]
  repeat' split
  all_goals omega
theorem hy_g {av : Int} (hn : 0 ≤ S b 1 ∧ S b 1 ≤ 60) (h : hy_type S b p av = .inr (t, q)) : (0 ≤ t ∧ t < 9 + max (S b 1) 0) ∧ (av = 0 → 1 ≤ t) := by
  have h1 := pl_8 (S := S)
  have h2 := ch_of_rg S b hn.2
  unfold hy_type at h
  by_cases c1 : S 237 6 = 1
  · rw [if_pos c1] at h
    by_cases c2 : pl_of S tx_27 = 0 ∧ av = 0
    · rw [if_pos c2] at h; cases h
    · rw [if_neg c2] at h
      by_cases c3 : 0 ≤ pl_of S tx_27
      · rw [if_pos c3] at h; cases h; exact ⟨by omega, by omega⟩
      · rw [if_neg c3] at h
        by_cases c4 : 0 ≤ ch_of S b
        · rw [if_pos c4] at h; cases h; exact ⟨by omega, by omega⟩
        · rw [if_neg c4] at h; cases h
  · rw [if_neg c1] at h; cases h
theorem zq_b1 (hb : b ≠ 237) (p : Int) : zq B p b 1 = B b 1 := congrFun (zq_o hb) 1
theorem pr_g (hb : b ≠ 237) (hn : 0 ≤ B b 1 ∧ B b 1 ≤ 60) : ∀ (k : Nat) (p : Int) (l : List Int) (q : Int) (l2 : List Int) (v : Int), l.length ≤ 8 → (∀ x ∈ l, 1 ≤ x ∧ x < 9 + B b 1) → pr_f B b k p l = .inr (q, l2, v) → pG (B b 1) l2 v := by
  intro k
  induction k with
  | zero => intro p l q l2 v _ _ h; cases h
  | succ k ih =>
    intro p l q l2 v hl hx h
    rw [pr_f_s] at h
    split at h
    · split at h
      · split at h
        · rename_i hl8
          cases hy : hy_type (zq B p) b p 0 with
          | inl x => rw [hy] at h; cases h
          | inr x =>
            obtain ⟨t, q2⟩ := x
            rw [hy] at h
            have ht := hy_g (S := zq B p) (by rw [zq_b1 hb]; exact hn) hy
            rw [zq_b1 hb] at ht
            have hx2 : ∀ x ∈ l ++ [t], 1 ≤ x ∧ x < 9 + B b 1 := fun x hm => by
              rcases List.mem_append.mp hm with z | z
              · exact hx x z
              · rw [List.mem_singleton.mp z]
                have := ht.2 rfl
                omega
            have hl2 : (l ++ [t]).length = l.length + 1 := by rw [List.length_append]; rfl
            replace h : (if lx_is (zq B q2) 262 = true then Sum.inr (lx_ne (zq B q2) q2, l ++ [t], (1 : Int)) else if lx_is (zq B q2) 44 = true then pr_f B b k (lx_ne (zq B q2) q2) (l ++ [t]) else .inr (q2, l ++ [t], 0)) = .inr (q, l2, v) := h
            split at h
            · cases h
              exact ⟨Or.inr ⟨rfl, by omega⟩, by omega, hx2⟩
            · split at h
              · exact ih _ _ q l2 v (by omega) hx2 h
              · cases h
                exact ⟨Or.inl rfl, by omega, hx2⟩
        · cases h
      · cases h
    · cases h
theorem pq_g (hb : b ≠ 237) (hn : 0 ≤ B b 1 ∧ B b 1 ≤ 60) (h : pq_r B b p = .inr (q, l, v)) : pG (B b 1) l v := by
  unfold pq_r at h
  split at h
  · cases h
    exact ⟨Or.inl rfl, Nat.zero_le _, fun x hx => absurd hx List.not_mem_nil⟩
  · exact pr_g hb hn _ _ [] _ _ _ (Nat.zero_le _) (fun x hx => absurd hx List.not_mem_nil) h
theorem rpL_g {so2 st2 ty2 f2 e2 : Int} (hb : b ≠ 237) (hn : 0 ≤ B b 1 ∧ B b 1 ≤ 60) (h : rp_L B b rs p so st ty f e = .inr (p2, so2, st2, ty2, l, v, f2, e2)) : (so2 = so ∧ st2 = st ∧ ty2 = ty ∧ f2 = f ∧ e2 = e) ∧ dp_L (B 239) so f e l rs = false ∧ pG (B b 1) l v := by
  unfold rp_L at h
  cases hq : pq_r B b p with
  | inl x => rw [hq] at h; cases h
  | inr x =>
    obtain ⟨q, l2, v2⟩ := x
    rw [hq] at h
    have hg := pq_g hb hn hq
    unfold pk_L at h
    replace h : (match (if lx_is (zq B q) 41 = true then (if dp_L (B 239) so f e l2 rs = true then Sum.inl ((7 : Int), q) else .inr (lx_ne (zq B q) q, l2, v2)) else .inl (1, q)) with
      | .inl x => (.inl x : hRM)
      | .inr (q, l, v) => rm_end B q so st ty l v f e) = .inr (p2, so2, st2, ty2, l, v, f2, e2) := h
    by_cases c1 : lx_is (zq B q) 41 = true
    · rw [if_pos c1] at h
      by_cases c2 : dp_L (B 239) so f e l2 rs = true
      · rw [if_pos c2] at h; cases h
      · rw [if_neg c2] at h
        replace h : rm_end B (lx_ne (zq B q) q) so st ty l2 v2 f e = .inr (p2, so2, st2, ty2, l, v, f2, e2) := h
        unfold rm_end at h
        split at h
        · cases h
          exact ⟨⟨rfl, rfl, rfl, rfl, rfl⟩, by simpa using c2, hg⟩
        · cases h
    · rw [if_neg c1] at h; cases h
theorem rb_g {N : Nat} (hb : b ≠ 237) (hn : 0 ≤ B b 1 ∧ B b 1 ≤ 60) (hc : 0 ≤ c ∧ c < B b 1) (hst : st = 0 ∨ (st = 1 ∧ itf = 0)) {so2 st2 ty2 f2 e2 : Int} (h : rb_L B b c itf rs N p1 st = .inr (p2, so2, st2, ty2, l, v, f2, e2)) : mG (B 239) c itf (B b 1) rs (c, so2, st2, ty2, l, v, f2, e2) := by
  unfold rb_L at h
  by_cases h1 : zq B p1 237 6 = 1 ∧ ¬ (st = 1 ∧ lx_w (zq B p1) tx_25 = true)
  · rw [if_pos h1] at h
    by_cases h2 : lx_w (zq B p1) tx_25 = true ∨ (0 ≤ pl_of (zq B p1) tx_27 ∨ 0 ≤ ch_of (zq B p1) b)
    · rw [if_pos h2] at h
      by_cases h3 : (N : Int) < 400
      · rw [if_pos h3] at h
        by_cases h4 : lx_w (zq B p1) tx_25 = true
        · rw [if_pos h4] at h
          by_cases h5 : itf = 0
          · rw [if_pos h5] at h
            split at h
            · obtain ⟨⟨rfl, rfl, rfl, rfl, rfl⟩, d, g⟩ := rpL_g hb hn h
              have s0 : st2 = 0 := by
                rcases hst with z | z
                · exact z
                · exact absurd ⟨z.1, h4⟩ h1.2
              exact ⟨rfl, Or.inr (Or.inr ⟨rfl, h5, s0, rfl, rfl, d⟩), Or.inl s0, ⟨by show 0 ≤ 9 + c; omega, by show 9 + c < 9 + B b 1; omega⟩, g⟩
            · cases h
          · rw [if_neg h5] at h; cases h
        · rw [if_neg h4] at h
          cases hy : hy_type (zq B p1) b p1 1 with
          | inl x => rw [hy] at h; cases h
          | inr x =>
            obtain ⟨t, q⟩ := x
            rw [hy] at h
            have ht := hy_g (S := zq B p1) (by rw [zq_b1 hb]; exact hn) hy
            rw [zq_b1 hb] at ht
            replace h : (if zq B q 237 6 = 1 then (if lx_oo (zq B q) tx_21 = true then .inl (2, q) else (if lx_is (zq B (lx_ne (zq B q) q)) 40 = true then rp_L B b rs (lx_ne (zq B (lx_ne (zq B q) q)) (lx_ne (zq B q) q)) 1 st t q (zq B q 237 8) else (match rf_L B itf rs t q (zq B q 237 8) (lx_ne (zq B q) q) q with
              | some x => .inl x
              | none => rm_end B (lx_ne (zq B q) q) 0 st t [] 0 q (zq B q 237 8)))) else .inl (1, q) : hRM) = .inr (p2, so2, st2, ty2, l, v, f2, e2) := h
            split at h
            · split at h
              · cases h
              · split at h
                · obtain ⟨⟨rfl, rfl, rfl, rfl, rfl⟩, d, g⟩ := rpL_g hb hn h
                  exact ⟨rfl, Or.inr (Or.inl ⟨rfl, d⟩), hst, ⟨ht.1.1, by show ty2 < 9 + B b 1; omega⟩, g⟩
                · cases hr : rf_L B itf rs t q (zq B q 237 8) (lx_ne (zq B q) q) q with
                  | some x => rw [hr] at h; cases h
                  | none =>
                    rw [hr] at h
                    replace h : rm_end B (lx_ne (zq B q) q) 0 st t [] 0 q (zq B q 237 8) = .inr (p2, so2, st2, ty2, l, v, f2, e2) := h
                    unfold rf_L at hr
                    split at hr
                    · rename_i hf
                      split at hr
                      · cases hr
                      · rename_i hd
                        split at hr
                        · rename_i hi
                          unfold rm_end at h
                          split at h
                          · cases h
                            exact ⟨rfl, Or.inl ⟨rfl, by show 1 ≤ ty2; have := hf.2; omega, hi, rfl, rfl, by simpa using hd⟩, hst, ⟨ht.1.1, by show ty2 < 9 + B b 1; omega⟩, ⟨Or.inl rfl, Nat.zero_le _, fun x hx => absurd hx List.not_mem_nil⟩⟩
                          · cases h
                        · cases hr
                    · cases hr
            · cases h
      · rw [if_neg h3] at h; cases h
    · rw [if_neg h2] at h; cases h
  · rw [if_neg h1] at h; cases h
theorem rm_g {N : Nat} (hb : b ≠ 237) (hn : 0 ≤ B b 1 ∧ B b 1 ≤ 60) (hc : 0 ≤ c ∧ c < B b 1) {so2 st2 ty2 f2 e2 : Int} (h : rm_L B b c itf rs N p = .inr (p2, so2, st2, ty2, l, v, f2, e2)) : mG (B 239) c itf (B b 1) rs (c, so2, st2, ty2, l, v, f2, e2) := by
  unfold rm_L at h
  split at h
  · split at h
    · rename_i hi
      exact rb_g hb hn hc (Or.inr ⟨rfl, hi⟩) h
    · cases h
  · exact rb_g hb hn hc (Or.inl rfl) h
theorem mb_g (hb : b ≠ 237) (hn : 0 ≤ B b 1 ∧ B b 1 ≤ 60) (hc : 0 ≤ c ∧ c < B b 1) : ∀ (k : Nat) (p : Int) (ms : List hMR) (q : Int) (ms2 : List hMR), mb_f B b c itf m0 k p ms = .inr (q, ms2) → ∃ rs : List hMR, ms2 = ms ++ rs ∧ ∀ (i : Nat) (r : hMR), rs[i]? = some r → mG (B 239) c itf (B b 1) ((ms ++ rs.take i).drop m0) r := by
  intro k
  induction k with
  | zero => intro p ms q ms2 h; cases h
  | succ k ih =>
    intro p ms q ms2 h
    rw [mb_f_s] at h
    split at h
    · cases h; exact ⟨[], (List.append_nil _).symm, fun i r hr => by cases hr⟩
    · cases hr : rm_L B b c itf (ms.drop m0) ms.length p with
      | inl x => rw [hr] at h; cases h
      | inr x =>
        obtain ⟨p2, so, st, ty, l, v, f2, e2⟩ := x
        rw [hr] at h
        obtain ⟨rs, e1, e3⟩ := ih p2 (ms ++ [(c, so, st, ty, l, v, f2, e2)]) q ms2 h
        refine ⟨(c, so, st, ty, l, v, f2, e2) :: rs, by rw [e1, List.append_assoc]; rfl, fun i r hi => ?_⟩
        cases i with
        | zero =>
          cases hi
          rw [List.take_zero, List.append_nil]
          exact rm_g hb hn hc hr
        | succ i =>
          have z := e3 i r hi
          rw [List.append_assoc] at z
          exact z
end Wno
