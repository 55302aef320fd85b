/-! PART ny: names of a host: where they end, how long they are. -/
section Wny
variable {A B S : wS} {T : Int → Int} {n : Int} {c : Nat}
theorem nt_n {p : Int} (h : lx_tk T n 1 p = 1) : p < n ∧ lx_en T n 1 p ≤ n := by
  have c1 : p < n := by
    rcases Int.lt_or_le p n with z | z
    · exact z
    · unfold lx_tk at h
      rw [if_pos z] at h
      omega
  exact ⟨c1, (lx_en_le (by omega)).2.1 (by rw [h]; decide)⟩
theorem rb_L_me {b : Nat} {kc itf p1 st p2 so2 st2 ty2 v2 f2 e2 : Int} {l2 : List Int} {rs : List hMR} {N : Nat} (hB : zT B T n) (h : rb_L B b kc itf rs N p1 st = .inr (p2, so2, st2, ty2, l2, v2, f2, e2)) : e2 ≤ n := by
  by_cases h1n : ¬ zq B p1 237 6 = 1
  · rw [rb_1 h1n] at h; cases h
  have h1 := Decidable.not_not.1 h1n
  have hq := nt_n (T := T) (n := n) (p := p1) (by rw [← zT_6 hB]; exact h1)
  by_cases hn : lx_w (zq B p1) tx_25 = true
  · by_cases hs : st = 1
    · rw [rb_2 hs hn] at h; cases h
    · by_cases hN : (N : Int) < 400
      · by_cases hi : itf = 0
        · rw [rb_n h1 hs hn hN hi] at h
          obtain ⟨a1, a2, a3, a4⟩ := rm_fin_mo h
          omega
        · rw [rb_6 h1 hs hn hN hi] at h; cases h
      · rw [rb_5 h1 (fun z => hs z.1) (Or.inl hn) hN] at h; cases h
  · by_cases hpn : ¬ (0 ≤ pl_of (zq B p1) tx_27 ∨ 0 ≤ ch_of (zq B p1) b)
    · rw [rb_3 h1 hn hpn] at h; cases h
    have hp := Decidable.not_not.1 hpn
    by_cases hNn : ¬ (N : Int) < 400
    · rw [rb_5 h1 (fun z => hn z.2) (Or.inr hp) hNn] at h; cases h
    have hN := Decidable.not_not.1 hNn
    cases hy : hy_type (zq B p1) b p1 1 with
    | inl x =>
      unfold rb_L at h
      rw [if_pos ⟨h1, fun z => hn z.2⟩, if_pos (Or.inr hp), if_pos hN, if_neg hn, hy] at h
      cases h
    | inr tp2 =>
      obtain ⟨t, q⟩ := tp2
      rw [rb_t h1 hn hp hN hy] at h
      by_cases h2n : ¬ zq B q 237 6 = 1
      · rw [rn_1 h2n] at h; cases h
      have h2 := Decidable.not_not.1 h2n
      have h30 := nt_n (T := T) (n := n) (p := q) (by rw [← zT_6 hB]; exact h2)
      by_cases ho : lx_oo (zq B q) tx_21 = true
      · rw [rn_2 h2 ho] at h; cases h
      by_cases hf : lx_is (zq B (lx_ne (zq B q) q)) 59 = true ∧ t ≠ 0
      · by_cases h4 : lx_is (zq B (lx_ne (zq B q) q)) 40 = true
        · exfalso
          have e1 := (lx_is4 h4).2
          have e2 := (lx_is4 hf.1).2
          omega
        · rw [rn_f h2 ho h4 hf] at h
          split at h
          · cases h
          · split at h
            · obtain ⟨a1, a2, a3, a4⟩ := rm_end_mo h
              rw [zT_8 hB] at a4
              omega
            · cases h
      · rw [rn_m h2 ho hf] at h
        obtain ⟨a1, a2, a3, a4⟩ := rm_fin_mo h
        rw [zT_8 hB] at a4
        omega
theorem rm_L_me {b : Nat} {kc itf p p2 so2 st2 ty2 v2 f2 e2 : Int} {l2 : List Int} {rs : List hMR} {N : Nat} (hB : zT B T n) (h : rm_L B b kc itf rs N p = .inr (p2, so2, st2, ty2, l2, v2, f2, e2)) : e2 ≤ n := by
  by_cases h1 : lx_w (zq B p) tx_23 = true
  · by_cases hi : itf = 0
    · rw [rm_s h1 hi] at h; exact rb_L_me hB h
    · rw [rm_s6 h1 hi] at h; cases h
  · rw [rm_o h1] at h; exact rb_L_me hB h
theorem mb_f_me {b : Nat} {kc itf : Int} {fi : Nat} (hB : zT B T n) : ∀ (f : Nat) (p : Int) (ms : List hMR) (q : Int) (ms2 : List hMR), mb_f B b kc itf fi f p ms = .inr (q, ms2) → ∃ rs : List hMR, ms2 = ms ++ rs ∧ ∀ r ∈ rs, r.2.2.2.2.2.2.2 ≤ n := by
  intro f
  induction f with
  | zero => intro p ms q ms2 h; cases h
  | succ f ih =>
    intro p ms q ms2 h
    rw [mb_f_s] at h
    split at h
    · cases h; exact ⟨[], (List.append_nil _).symm, fun r hr => absurd hr List.not_mem_nil⟩
    · cases hr : rm_L B b kc itf (ms.drop fi) ms.length p with
      | inl x => rw [hr] at h; cases h
      | inr x =>
        obtain ⟨p2, so, st, ty, l, v, f2, e2⟩ := x
        rw [hr] at h
        obtain ⟨rs, e1, e3⟩ := ih p2 (ms ++ [(kc, so, st, ty, l, v, f2, e2)]) q ms2 h
        refine ⟨(kc, so, st, ty, l, v, f2, e2) :: rs, by rw [e1, List.append_assoc]; rfl, fun r hr2 => ?_⟩
        rcases List.mem_cons.1 hr2 with z | z
        · subst z; exact rm_L_me hB hr
        · exact e3 r z
theorem rcb_me {B1 : wS} {b : Nat} {k0 itf p1 p2 : Int} {ms ms2 : List hMR} {cr : hCR} (hB1 : zT B1 T n) (hb : b ≠ 237) (hb9 : b ≠ 239) (h : rc_body B B1 b k0 ms itf p1 = .inr (p2, cr, ms2)) : ∃ rs : List hMR, ms2 = ms ++ rs ∧ ∀ r ∈ rs, r.2.2.2.2.2.2.2 ≤ n := by
  have hB2 : zT (w_up B1 b 1 (k0 + 1)) T n := by
    unfold zT
    rw [w_up_row (fun e => hb9 e.symm), w_up_row (fun e => hb e.symm)]; exact hB1
  cases hs : rc_su B B1 b k0 p1 with
  | inl e => rw [rcb_1 hs] at h; cases h
  | inr x =>
    obtain ⟨q, l, a, al⟩ := x
    by_cases h123 : lx_is (zq B q) 123 = true
    · cases hm : mb_f (w_up B1 b 1 (k0 + 1)) b k0 itf ms.length ((B 237 4 - lx_ne (zq B q) q).toNat + 1) (lx_ne (zq B q) q) ms with
      | inl e => rw [rcb_3 hs h123 hm] at h; cases h
      | inr y =>
        obtain ⟨z, ms3⟩ := y
        rw [rcb_4 hs h123 hm] at h
        have := mb_f_me hB2 _ _ _ z ms3 hm
        cases h
        exact this
    · rw [rcb_2 hs h123] at h; cases h
theorem rc_n_me_73 {k0 itf p1 p2 : Int} {ms ms2 : List hMR} {cr : hCR} (hB : zT B T n) (h : rc_n_241 B k0 ms itf p1 = .inr (p2, cr, ms2)) : (∃ rs : List hMR, ms2 = ms ++ rs ∧ ∀ r ∈ rs, r.2.2.2.2.2.2.2 ≤ n) ∧ zq B p1 237 8 - p1 ≤ 30 := by
  unfold rc_n_241 at h
  by_cases h1 : zq B p1 237 6 = 1
  · refine ⟨?_, by rw [zT_8 hB]; exact nt_30 (by rw [← zT_6 hB]; exact h1)⟩
    rw [if_pos h1] at h
    by_cases h2 : ch_of (zq B p1) 241 < 0 ∧ lx_oo (zq B p1) tx_21 = false
    · rw [if_pos h2] at h
      by_cases h3 : k0 < 60
      · rw [if_pos h3] at h
        exact rcb_me (T := T) (n := n) ⟨by rw [w_up_row (by first | decide | omega), w_up_row (by first | decide | omega), w_up_row (by first | decide | omega), w_up_row (by first | decide | omega), w_up_row (by first | decide | omega), w_up_row (by first | decide | omega), w_up_row (by first | decide | omega), w_up_row (by first | decide | omega)]; exact hB.1, by rw [w_up_row (by first | decide | omega), w_up_row (by first | decide | omega), w_up_row (by first | decide | omega), w_up_row (by first | decide | omega), w_up_row (by first | decide | omega), w_up_row (by first | decide | omega), w_up_row (by first | decide | omega), w_up_row (by first | decide | omega)]; exact hB.2.1, by rw [w_up_row (by first | decide | omega), w_up_row (by first | decide | omega), w_up_row (by first | decide | omega), w_up_row (by first | decide | omega), w_up_row (by first | decide | omega), w_up_row (by first | decide | omega), w_up_row (by first | decide | omega), w_up_row (by first | decide | omega)]; exact hB.2.2⟩ (by first | decide | omega) (by first | decide | omega) h
      · rw [if_neg h3] at h; cases h
    · rw [if_neg h2] at h; cases h
  · rw [if_neg h1] at h; cases h
theorem rc_n_me_162 {k0 itf p1 p2 : Int} {ms ms2 : List hMR} {cr : hCR} (hB : zT B T n) (h : rc_n_261 B k0 ms itf p1 = .inr (p2, cr, ms2)) : (∃ rs : List hMR, ms2 = ms ++ rs ∧ ∀ r ∈ rs, r.2.2.2.2.2.2.2 ≤ n) ∧ zq B p1 237 8 - p1 ≤ 30 := by
  unfold rc_n_261 at h
  by_cases h1 : zq B p1 237 6 = 1
  · refine ⟨?_, by rw [zT_8 hB]; exact nt_30 (by rw [← zT_6 hB]; exact h1)⟩
    rw [if_pos h1] at h
    by_cases h2 : ch_of (zq B p1) 261 < 0 ∧ lx_oo (zq B p1) tx_21 = false
    · rw [if_pos h2] at h
      by_cases h3 : k0 < 60
      · rw [if_pos h3] at h
        exact rcb_me (T := T) (n := n) ⟨by rw [w_up_row (by first | decide | omega), w_up_row (by first | decide | omega), w_up_row (by first | decide | omega), w_up_row (by first | decide | omega), w_up_row (by first | decide | omega), w_up_row (by first | decide | omega), w_up_row (by first | decide | omega), w_up_row (by first | decide | omega)]; exact hB.1, by rw [w_up_row (by first | decide | omega), w_up_row (by first | decide | omega), w_up_row (by first | decide | omega), w_up_row (by first | decide | omega), w_up_row (by first | decide | omega), w_up_row (by first | decide | omega), w_up_row (by first | decide | omega), w_up_row (by first | decide | omega)]; exact hB.2.1, by rw [w_up_row (by first | decide | omega), w_up_row (by first | decide | omega), w_up_row (by first | decide | omega), w_up_row (by first | decide | omega), w_up_row (by first | decide | omega), w_up_row (by first | decide | omega), w_up_row (by first | decide | omega), w_up_row (by first | decide | omega)]; exact hB.2.2⟩ (by first | decide | omega) (by first | decide | omega) h
      · rw [if_neg h3] at h; cases h
    · rw [if_neg h2] at h; cases h
  · rw [if_neg h1] at h; cases h
/-- names end within the text; a class's name is not too long -/
def JN (n : Int) (cs : List hCR) (ms : List hMR) : Prop := (∀ r ∈ ms, r.2.2.2.2.2.2.2 ≤ n) ∧ ∀ r ∈ cs, r.2.2.1 - r.2.1 ≤ 30
theorem JN_73 : JE_73 A T n c (fun cs ms _ _ => JN n cs ms) := by
  refine ⟨fun Z _ => ⟨fun r hr => absurd hr List.not_mem_nil, fun r hr => absurd hr List.not_mem_nil⟩, fun cs ms os S x h => h, ?_⟩
  intro cs ms os S i itf S3 a al l Zo i2 ms2 Zm Z1 Zf hj h hP hit y1 y2 y3 y4 y5 y6 y7 y8 y9 y10 y11 y12 y13 y14 y15 y16 y17
  obtain ⟨⟨rs, e1, e2⟩, e3⟩ := rc_n_me_73 (T := T) (n := n) hj.1.1 y1
  subst e1
  refine ⟨fun r hr => ?_, fun r hr => ?_⟩
  · rcases List.mem_append.mp hr with z | z
    · exact h.1 r z
    · exact e2 r z
  · rcases List.mem_append.mp hr with z | z
    · exact h.2 r z
    · rw [List.mem_singleton.mp z]
      exact e3
theorem JN_162 : JE_162 A T n c (fun cs ms _ _ => JN n cs ms) := by
  refine ⟨fun Z _ => ⟨fun r hr => absurd hr List.not_mem_nil, fun r hr => absurd hr List.not_mem_nil⟩, fun cs ms os S x h => h, ?_⟩
  intro cs ms os S i itf S3 a al l Zo i2 ms2 Zm Z1 Zf hj h hP hit y1 y2 y3 y4 y5 y6 y7 y8 y9 y10 y11 y12 y13 y14 y15 y16 y17
  obtain ⟨⟨rs, e1, e2⟩, e3⟩ := rc_n_me_162 (T := T) (n := n) hj.1.1 y1
  subst e1
  refine ⟨fun r hr => ?_, fun r hr => ?_⟩
  · rcases List.mem_append.mp hr with z | z
    · exact h.1 r z
    · exact e2 r z
  · rcases List.mem_append.mp hr with z | z
    · exact h.2 r z
    · rw [List.mem_singleton.mp z]
      exact e3
end Wny
