/-! PART 96: the reference's host. -/
section W96
variable {xs : List (Nat × List Int32)} {M : Nat → Prop} {d : Nat} {S A B Z : wS} {Q : wO → wS → Prop} {p : Int} {b : Nat}
/-- the states are the same but for the lexer's places, the halt's, and the host that is read -/
def ho_ag (b : Nat) (S Z : wS) : Prop := ∀ (j : Nat) (i : Int), (j ≠ 240 ∨ i < 0) → (j ≠ 237 ∨ (i ≠ 6 ∧ i ≠ 7 ∧ i ≠ 8 ∧ i ≠ 9 ∧ i ≠ 10 ∧ i ≠ 12)) → (j ≠ 238 ∨ (i ≠ 5 ∧ i ≠ 6)) → (j < b ∨ b + 19 < j ∨ j = b + 1 ∨ i < 0) → Z j i = S j i
theorem ho_ag_rf : ho_ag b S S := fun _ _ _ _ _ _ => rfl
theorem ho_ag_rc {c m0 : Int} (hc : 0 ≤ c) (hm : 0 ≤ m0) (h : ho_ag b S A) (h2 : rc_ag b c m0 A B) : ho_ag b S B := fun j i a1 a2 a3 a4 => (h2 j i a1 a2 a3 (by omega)).trans (h j i a1 a2 a3 a4)
theorem ho_ag_ML (hb : b = 241 ∨ b = 261) (h : ho_ag b S Z) (hM : w_ML S) : w_ML Z := fun q hq => (h q.1 (-1) (by omega) (by omega) (by omega) (by omega)).trans (hM q hq)
theorem hc_all_rc {cs : List hCR} {m0 n : Int} (hb : b = 241 ∨ b = 261) (hm : 0 ≤ m0) (ho : ∀ r ∈ cs, hq_ok n r) (h : hc_all b A cs) (h2 : rc_ag b (cs.length : Int) m0 A B) : hc_all b B cs := by
  intro k r hk
  have hl := (List.getElem?_eq_some_iff.mp hk).1
  obtain ⟨q1, q2, q3, q4, q5, q6⟩ := h k r hk
  have hr := ho r (List.mem_of_getElem? hk)
  refine ⟨(h2 (b + 2) k (by omega) (by omega) (by omega) (by omega)).trans q1, (h2 (b + 9) k (by omega) (by omega) (by omega) (by omega)).trans q2, (h2 (b + 10) k (by omega) (by omega) (by omega) (by omega)).trans q3, ⟨(h2 (b + 4) k (by omega) (by omega) (by omega) (by omega)).trans q4.1, (h2 (b + 3) k (by omega) (by omega) (by omega) (by omega)).trans q4.2.1, (h2 (b + 6) k (by omega) (by omega) (by omega) (by omega)).trans q4.2.2.1, fun i hi => (h2 (b + 5) _ (by omega) (by omega) (by omega) ?_).trans (q4.2.2.2 i hi)⟩, (h2 (b + 7) k (by omega) (by omega) (by omega) (by omega)).trans q5, (h2 (b + 8) k (by omega) (by omega) (by omega) (by omega)).trans q6⟩
  have := hr.2
  omega
theorem hc_all_add {cs : List hCR} {cr : hCR} (h : hc_all b B cs) (h2 : hc_at b (cs.length : Int) B cr) : hc_all b B (cs ++ [cr]) := by
  intro k r hk
  by_cases hl : k < cs.length
  · rw [List.getElem?_append_left hl] at hk
    exact h k r hk
  · have h3 := (List.getElem?_eq_some_iff.mp hk).1
    rw [List.length_append, List.length_singleton] at h3
    have h4 : k = cs.length := by omega
    subst h4
    rw [List.getElem?_append_right (Nat.le_refl _), Nat.sub_self] at hk
    have h5 : cr = r := Option.some.inj hk
    exact h5 ▸ h2
theorem ho_nm_all {cs : List hCR} {n : Int} (hn : n ≤ 65536) (hl : cs.length ≤ 60) (ho : ∀ r ∈ cs, hq_ok n r) (h1 : A b 1 = (cs.length : Int)) (h : hc_all b A cs) : ho_nm A b := by
  refine ⟨by omega, fun c c0 c1 => ?_⟩
  have h2 : c.toNat < cs.length := by omega
  have h3 := h c.toNat _ (List.getElem?_eq_getElem h2)
  have h4 := (ho _ (List.getElem_mem h2)).1
  rw [show ((c.toNat : Nat) : Int) = c by omega] at h3
  rw [h3.2.1, h3.2.2.1]
  omega
theorem ho_1_241 {R : (Int × Int) ⊕ (List hCR × List hMR)} (hX : w_X xs) (hn : A 237 4 ≤ 65536) (hk : ∀ (Z : wS) (p : Int) (cs : List hCR) (ms : List hMR), R = .inr (cs, ms) → lx_E Z A p → Z 237 15 = 241 → Z 241 1 = (cs.length : Int) → hc_all 241 Z cs → (∀ r ∈ cs, hq_ok (A 237 4) r) → cs.length ≤ 60 → Z 241 11 = (ms.length : Int) → hr_all 241 Z ms → ms.length ≤ 400 → ho_ag 241 A Z → (∀ (j : Nat) (i : Int), 241 + 2 ≤ j → j ≤ 241 + 10 → j ≠ 241 + 5 → i < 0 ∨ (cs.length : Int) ≤ i → Z j i = A j i) → wJ (pe_GA xs) wY0 M (d + 9) t_M_host ((pe_at t_M_host.bl 2).getD (0, [])).2 [(0, (2, 237)), (1, (0, 0))] [] Z Q) (hf : ∀ (Z : wS) (e q : Int), R = .inl (e, q) → Z 237 15 = 241 → ho_ag 241 A Z → Z 238 5 = e → Z 238 6 = q → wJ (pe_GA xs) wY0 M (d + 9) t_M_host ((pe_at t_M_host.bl 5).getD (0, [])).2 [(0, (2, 237)), (1, (0, 0))] [(2, 238)] Z Q) : ∀ (f : Nat) (cs : List hCR) (ms : List hMR) (p : Int) (Z : wS), 60 - cs.length < f → ho_f_241 A f cs ms p = R → lx_E Z A p → Z 237 15 = 241 → Z 241 1 = (cs.length : Int) → hc_all 241 Z cs → (∀ r ∈ cs, hq_ok (A 237 4) r) → cs.length ≤ 60 → Z 241 11 = (ms.length : Int) → hr_all 241 Z ms → ms.length ≤ 400 → ho_ag 241 A Z → (∀ (j : Nat) (i : Int), 241 + 2 ≤ j → j ≤ 241 + 10 → j ≠ 241 + 5 → i < 0 ∨ (cs.length : Int) ≤ i → Z j i = A j i) → wJ (pe_GA xs) wY0 M (d + 9) t_M_host ((pe_at t_M_host.bl 1).getD (0, [])).2 [(0, (2, 237)), (1, (0, 0))] [] Z Q := by
  intro f
  induction f with
  | zero => intro cs ms p Z hf0; exact absurd hf0 (Nat.not_lt_zero _)
  | succ f ih =>
    intro cs ms p Z hf0 he hE h15 h1 hc hok hl h11 hms hm4 hag hro
    have hzF : zF Z (hq_cn A 241 cs) 241 := hq_zF (Or.inl rfl) hE.2.1 hE.2.2.1 hE.2.2.2 h1 hc hro
    have e6 : Z 237 6 = zq A p 237 6 := lx_E_6 hE
    rw [ho_f_s_241] at he
    refine wa_aload_n (n := 0) rfl ?_
    refine wb_gfi 237 rfl (wy_pr rfl) wt_237 wf_15_6 (v := zq A p 237 6) e6 (fun r1 => ?_)
    refine wa_ifeq (w_rg0 (by omega) (by omega)) ⟨_, rfl⟩ (fun c1 => ?_) (fun c1 => ?_)
    · rw [if_pos c1] at he
      exact hk Z p cs ms he.symm hE h15 h1 hc hok hl h11 hms hm4 hag hro
    · rw [if_neg c1] at he
      refine wa_aload_n (n := 0) rfl ?_
      refine wa_cx (M2 := fun _ => False) 237 rfl (wy_pr rfl) wt_237 rfl at_M_readsClass ⟨_, rfl⟩ rfl rfl ⟨(Or.inr ⟨wy_pr rfl, fun q => q⟩), trivial, trivial⟩ trivial (fun _ _ q => False.elim q) (readsClass_241 (c := (cs.length : Int)) (ms := ms) (p := p) hX h15 h1 (by omega) (ho_nm_all hn hl hok h1 hc) h11 hms hm4 ⟨hE.1, rfl, rfl, rfl⟩ (rc_of_F_241 hzF)) (fun o S2 hp q => ?_)
      rcases q with ⟨p2, cr, ms2, g1, rfl, g2, g3, g4, g5, g6, g7, g8, g9⟩ | ⟨e, q, g1, rfl, g2, g3, g4⟩
      · rw [g1] at he
        dsimp only at he
        have hk2 := rc_of_ok_241 (c := (cs.length : Int)) (p := p) (by omega) h1 ⟨hE.1, rfl, rfl, rfl⟩ ((rc_of_F_241 hzF).trans g1)
        rw [hE.2.2.1] at hk2
        show wJ _ _ _ _ _ _ _ _ _ _
        refine wa_goto ⟨_, rfl⟩ ?_
        have hl2 : (cs ++ [cr]).length = cs.length + 1 := by rw [List.length_append, List.length_singleton]
        refine ih (cs ++ [cr]) ms2 p2 S2 (by omega) he ⟨g3.1, g3.2.1.trans hE.2.1, g3.2.2.1.trans hE.2.2.1, g3.2.2.2.trans hE.2.2.2⟩ ((g2 237 15 (by omega) (by omega) (by omega) (by omega)).trans h15) (by rw [g4, hl2]; omega) (hc_all_add (hc_all_rc (Or.inl rfl) (by omega) hok hc g2) g5) (fun r hr => ?_) (by omega) g6 g7 g9 (ho_ag_rc (by omega) (by omega) hag g2) (fun j i q1 q2 q3 q4 => ?_)
        · rcases List.mem_append.mp hr with h | h
          · exact hok r h
          · rw [List.mem_singleton.mp h]; exact hk2.1
        · exact (g2 j i (by omega) (by omega) (by omega) (by omega)).trans (hro j i q1 q2 q3 (by omega))
      · rw [g1] at he
        dsimp only at he
        exact ⟨11, _, _, wy_pr rfl, wt_238, rfl, ⟨_, rfl⟩, hf S2 e q he.symm ((g2 237 15 (by omega) (by omega) (by omega) (by omega)).trans h15) (ho_ag_rc (by omega) (by omega) hag g2) g3 g4⟩
theorem ho_1_261 {R : (Int × Int) ⊕ (List hCR × List hMR)} (hX : w_X xs) (hn : A 237 4 ≤ 65536) (hk : ∀ (Z : wS) (p : Int) (cs : List hCR) (ms : List hMR), R = .inr (cs, ms) → lx_E Z A p → Z 237 15 = 261 → Z 261 1 = (cs.length : Int) → hc_all 261 Z cs → (∀ r ∈ cs, hq_ok (A 237 4) r) → cs.length ≤ 60 → Z 261 11 = (ms.length : Int) → hr_all 261 Z ms → ms.length ≤ 400 → ho_ag 261 A Z → (∀ (j : Nat) (i : Int), 261 + 2 ≤ j → j ≤ 261 + 10 → j ≠ 261 + 5 → i < 0 ∨ (cs.length : Int) ≤ i → Z j i = A j i) → wJ (pe_GA xs) wY0 M (d + 9) t_M_host ((pe_at t_M_host.bl 2).getD (0, [])).2 [(0, (2, 237)), (1, (0, 0))] [] Z Q) (hf : ∀ (Z : wS) (e q : Int), R = .inl (e, q) → Z 237 15 = 261 → ho_ag 261 A Z → Z 238 5 = e → Z 238 6 = q → wJ (pe_GA xs) wY0 M (d + 9) t_M_host ((pe_at t_M_host.bl 5).getD (0, [])).2 [(0, (2, 237)), (1, (0, 0))] [(2, 238)] Z Q) : ∀ (f : Nat) (cs : List hCR) (ms : List hMR) (p : Int) (Z : wS), 60 - cs.length < f → ho_f_261 A f cs ms p = R → lx_E Z A p → Z 237 15 = 261 → Z 261 1 = (cs.length : Int) → hc_all 261 Z cs → (∀ r ∈ cs, hq_ok (A 237 4) r) → cs.length ≤ 60 → Z 261 11 = (ms.length : Int) → hr_all 261 Z ms → ms.length ≤ 400 → ho_ag 261 A Z → (∀ (j : Nat) (i : Int), 261 + 2 ≤ j → j ≤ 261 + 10 → j ≠ 261 + 5 → i < 0 ∨ (cs.length : Int) ≤ i → Z j i = A j i) → wJ (pe_GA xs) wY0 M (d + 9) t_M_host ((pe_at t_M_host.bl 1).getD (0, [])).2 [(0, (2, 237)), (1, (0, 0))] [] Z Q := by
  intro f
  induction f with
  | zero => intro cs ms p Z hf0; exact absurd hf0 (Nat.not_lt_zero _)
  | succ f ih =>
    intro cs ms p Z hf0 he hE h15 h1 hc hok hl h11 hms hm4 hag hro
    have hzF : zF Z (hq_cn A 261 cs) 261 := hq_zF (Or.inr rfl) hE.2.1 hE.2.2.1 hE.2.2.2 h1 hc hro
    have e6 : Z 237 6 = zq A p 237 6 := lx_E_6 hE
    rw [ho_f_s_261] at he
    refine wa_aload_n (n := 0) rfl ?_
    refine wb_gfi 237 rfl (wy_pr rfl) wt_237 wf_15_6 (v := zq A p 237 6) e6 (fun r1 => ?_)
    refine wa_ifeq (w_rg0 (by omega) (by omega)) ⟨_, rfl⟩ (fun c1 => ?_) (fun c1 => ?_)
    · rw [if_pos c1] at he
      exact hk Z p cs ms he.symm hE h15 h1 hc hok hl h11 hms hm4 hag hro
    · rw [if_neg c1] at he
      refine wa_aload_n (n := 0) rfl ?_
      refine wa_cx (M2 := fun _ => False) 237 rfl (wy_pr rfl) wt_237 rfl at_M_readsClass ⟨_, rfl⟩ rfl rfl ⟨(Or.inr ⟨wy_pr rfl, fun q => q⟩), trivial, trivial⟩ trivial (fun _ _ q => False.elim q) (readsClass_261 (c := (cs.length : Int)) (ms := ms) (p := p) hX h15 h1 (by omega) (ho_nm_all hn hl hok h1 hc) h11 hms hm4 ⟨hE.1, rfl, rfl, rfl⟩ (rc_of_F_261 hzF)) (fun o S2 hp q => ?_)
      rcases q with ⟨p2, cr, ms2, g1, rfl, g2, g3, g4, g5, g6, g7, g8, g9⟩ | ⟨e, q, g1, rfl, g2, g3, g4⟩
      · rw [g1] at he
        dsimp only at he
        have hk2 := rc_of_ok_261 (c := (cs.length : Int)) (p := p) (by omega) h1 ⟨hE.1, rfl, rfl, rfl⟩ ((rc_of_F_261 hzF).trans g1)
        rw [hE.2.2.1] at hk2
        show wJ _ _ _ _ _ _ _ _ _ _
        refine wa_goto ⟨_, rfl⟩ ?_
        have hl2 : (cs ++ [cr]).length = cs.length + 1 := by rw [List.length_append, List.length_singleton]
        refine ih (cs ++ [cr]) ms2 p2 S2 (by omega) he ⟨g3.1, g3.2.1.trans hE.2.1, g3.2.2.1.trans hE.2.2.1, g3.2.2.2.trans hE.2.2.2⟩ ((g2 237 15 (by omega) (by omega) (by omega) (by omega)).trans h15) (by rw [g4, hl2]; omega) (hc_all_add (hc_all_rc (Or.inr rfl) (by omega) hok hc g2) g5) (fun r hr => ?_) (by omega) g6 g7 g9 (ho_ag_rc (by omega) (by omega) hag g2) (fun j i q1 q2 q3 q4 => ?_)
        · rcases List.mem_append.mp hr with h | h
          · exact hok r h
          · rw [List.mem_singleton.mp h]; exact hk2.1
        · exact (g2 j i (by omega) (by omega) (by omega) (by omega)).trans (hro j i q1 q2 q3 (by omega))
      · rw [g1] at he
        dsimp only at he
        exact ⟨11, _, _, wy_pr rfl, wt_238, rfl, ⟨_, rfl⟩, hf S2 e q he.symm ((g2 237 15 (by omega) (by omega) (by omega) (by omega)).trans h15) (ho_ag_rc (by omega) (by omega) hag g2) g3 g4⟩
end W96
