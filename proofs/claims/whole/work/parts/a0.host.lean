/-! PART a0: addClass; readClass behind its members. -/
section Wa0
variable {xs : List (Nat × List Int32)} {M : Nat → Prop} {d : Nat} {A B C S Z : wS} {Q : wO → wS → Prop} {T : Int → Int} {n : Int} {c i : Nat}
theorem cn_R_cg {b ho t0 t5 w : Nat} {B2 : wS} (h : cn_R b ho t0 t5 w T B S) (h1 : B2 b 1 = B b 1) (h2 : ∀ k : Int, 0 ≤ k → k < B b 1 → B2 (b + 2) k = B (b + 2) k ∧ B2 (b + 9) k = B (b + 9) k ∧ B2 (b + 10) k = B (b + 10) k) : cn_R b ho t0 t5 w T B2 S := by
  obtain ⟨a1, a2, a3, a4⟩ := h
  refine ⟨a1.trans h1.symm, by rw [h1]; exact a2, a3, fun k k0 k1 => ?_⟩
  rw [h1] at k1
  obtain ⟨e1, e2, e3⟩ := h2 k k0 k1
  rw [e1, e2, e3]
  exact a4 k k0 k1
/-- one more class -/
theorem cn_R_add {b ho t0 t5 w : Nat} {B2 : wS} {k0 : Int} (h : cn_R b ho t0 t5 w T B S) (hk : B b 1 = k0) (hk1 : k0 < 60) (h1 : B2 b 1 = k0 + 1) (h2 : ∀ k : Int, 0 ≤ k → k < k0 → B2 (b + 2) k = B (b + 2) k ∧ B2 (b + 9) k = B (b + 9) k ∧ B2 (b + 10) k = B (b + 10) k) (z2 : Z ho 2 = k0 + 1) (zC : w_CL Z) (zr : ∀ k : Int, 0 ≤ k → k < k0 → Z t0 k = S t0 k ∧ Z t5 k = S t5 k) (zw : ∀ x : Nat, x ≤ 3 → Z (w + x) = S (w + x)) (hn : Z t0 k0 = B2 (b + 2) k0 ∧ (13 ≤ Z t5 k0 ∧ Z t5 k0 < Z w 7) ∧ wq (Z (w + 1)) (Z (w + 2)) (Z (w + 3)) T (B2 (b + 9) k0) (B2 (b + 10) k0 - B2 (b + 9) k0) (Z t5 k0)) : cn_R b ho t0 t5 w T B2 Z := by
  obtain ⟨a1, a2, a3, a4⟩ := h
  have w0 := zw 0 (by omega)
  rw [Nat.add_zero] at w0
  refine ⟨z2.trans h1.symm, by rw [h1]; omega, zC, fun k q0 q1 => ?_⟩
  rw [h1] at q1
  by_cases hq : k < k0
  · obtain ⟨e1, e2, e3⟩ := h2 k q0 hq
    obtain ⟨f1, f2⟩ := zr k q0 hq
    rw [e1, e2, e3, f1, f2, w0, zw 1 (by omega), zw 2 (by omega), zw 3 (by omega)]
    exact a4 k q0 (by omega)
  · rw [show k = k0 by omega]; exact hn
theorem ac_73 {k0 itf a word m : Int} (hC : w_CL S) (hk : S 73 2 = k0 ∧ 0 ≤ k0 ∧ k0 < 60) (hit : itf = 0 ∨ itf = 1) (ha : -1 ≤ a ∧ a < 60) (hwd : 0 ≤ word ∧ word ≤ 2147483647) (hm : S 73 4 = m ∧ 0 ≤ m ∧ m ≤ 400) : wJ (pe_GA xs) wY0 M d t_XO_addClass ((pe_at t_XO_addClass.bl 0).getD (0, [])).2 [(0, (2, 73)), (1, (0, itf)), (2, (0, a)), (3, (0, word))] [] S (fun o Z => o = .inl none ∧ (w_up (w_up (w_up (w_up (w_up (w_up S 87 k0 itf) 88 k0 a) 90 k0 0) 91 k0 m) 92 k0 word) 73 2 (k0 + 1)) = Z) := by
  have hk1 := hk.1
  have hm1 := hm.1
  refine wa_aload_n (n := 0) rfl ?_
  refine wb_gfi 73 rfl (wy_pr rfl) wt_73 wf_3_2 (v := k0) (hk1) (fun r1 => ?_)
  refine wa_istore (n := 4) rfl ?_
  refine wa_aload_n (n := 0) rfl ?_
  refine wb_gf4 73 rfl (wy_pr rfl) wt_73 wf_3_1 (v := 86) wl_73_1 ?_
  refine wa_iconst ?_
  refine wb_aald5 86 0 rfl rfl (wy_pr rfl) wt_86 (by rw [show _ = _ from ((cl_86 hC))]; omega) wl_86_0 ?_
  refine wa_iload (n := 4) rfl ?_
  refine wa_iload_n (n := 1) rfl ?_
  refine wa_ifeq (w_rg0 (by omega) (by omega)) ⟨_, rfl⟩ (fun c2 => ?_) (fun c2 => ?_)
  · skip
    refine wa_iconst ?_
    refine wa_fall ⟨_, rfl⟩ ?_
    refine wb_iast 87 rfl (wy_pr rfl) wt_87 (n := 60) ((cl_87 hC)) (by omega) (by omega) ⟨(by omega), (by omega)⟩ ?_
    refine wa_aload_n (n := 0) rfl ?_
    refine wb_gf4 73 rfl (wy_pr rfl) wt_73 wf_3_1 (v := 86) wl_73_1 ?_
    refine wa_iconst ?_
    refine wb_aald5 86 1 rfl rfl (wy_pr rfl) wt_86 (by rw [show _ = _ from ((w_up_slot (by decide)).trans ((cl_86 hC)))]; omega) wl_86_1 ?_
    refine wa_iload (n := 4) rfl ?_
    refine wa_iload_n (n := 2) rfl ?_
    refine wb_iast 88 rfl (wy_pr rfl) wt_88 (n := 60) ((w_up_slot (by decide)).trans ((cl_88 hC))) (by omega) (by omega) ⟨(by omega), (by omega)⟩ ?_
    refine wa_aload_n (n := 0) rfl ?_
    refine wb_gf4 73 rfl (wy_pr rfl) wt_73 wf_3_1 (v := 86) wl_73_1 ?_
    refine wa_iconst ?_
    refine wb_aald5 86 3 rfl rfl (wy_pr rfl) wt_86 (by rw [show _ = _ from ((w_up_slot (by decide)).trans ((w_up_slot (by decide)).trans ((cl_86 hC))))]; omega) wl_86_3 ?_
    refine wa_iload (n := 4) rfl ?_
    refine wa_iconst ?_
    refine wb_iast 90 rfl (wy_pr rfl) wt_90 (n := 60) ((w_up_slot (by decide)).trans ((w_up_slot (by decide)).trans ((cl_90 hC)))) (by omega) (by omega) ⟨(by omega), (by omega)⟩ ?_
    refine wa_aload_n (n := 0) rfl ?_
    refine wb_gf4 73 rfl (wy_pr rfl) wt_73 wf_3_1 (v := 86) wl_73_1 ?_
    refine wa_iconst ?_
    refine wb_aald5 86 4 rfl rfl (wy_pr rfl) wt_86 (by rw [show _ = _ from ((w_up_slot (by decide)).trans ((w_up_slot (by decide)).trans ((w_up_slot (by decide)).trans ((cl_86 hC)))))]; omega) wl_86_4 ?_
    refine wa_iload (n := 4) rfl ?_
    refine wa_aload_n (n := 0) rfl ?_
    refine wb_gfi 73 rfl (wy_pr rfl) wt_73 wf_3_4 (v := m) ((w_up_slot (by decide)).trans ((w_up_slot (by decide)).trans ((w_up_slot (by decide)).trans (hm1)))) (fun r3 => ?_)
    refine wb_iast 91 rfl (wy_pr rfl) wt_91 (n := 60) ((w_up_slot (by decide)).trans ((w_up_slot (by decide)).trans ((w_up_slot (by decide)).trans ((cl_91 hC))))) (by omega) (by omega) ⟨(by omega), (by omega)⟩ ?_
    refine wa_aload_n (n := 0) rfl ?_
    refine wb_gf4 73 rfl (wy_pr rfl) wt_73 wf_3_1 (v := 86) wl_73_1 ?_
    refine wa_iconst ?_
    refine wb_aald5 86 5 rfl rfl (wy_pr rfl) wt_86 (by rw [show _ = _ from ((w_up_slot (by decide)).trans ((w_up_slot (by decide)).trans ((w_up_slot (by decide)).trans ((w_up_slot (by decide)).trans ((cl_86 hC))))))]; omega) wl_86_5 ?_
    refine wa_iload (n := 4) rfl ?_
    refine wa_iload_n (n := 3) rfl ?_
    refine wb_iast 92 rfl (wy_pr rfl) wt_92 (n := 60) ((w_up_slot (by decide)).trans ((w_up_slot (by decide)).trans ((w_up_slot (by decide)).trans ((w_up_slot (by decide)).trans ((cl_92 hC)))))) (by omega) (by omega) ⟨(by omega), (by omega)⟩ ?_
    refine wa_aload_n (n := 0) rfl ?_
    refine wa_dup (by decide) ?_
    refine wb_gfi 73 rfl (wy_pr rfl) wt_73 wf_3_2 (v := k0) ((w_up_slot (by decide)).trans ((w_up_slot (by decide)).trans ((w_up_slot (by decide)).trans ((w_up_slot (by decide)).trans ((w_up_slot (by decide)).trans (hk1)))))) (fun r4 => ?_)
    refine wa_iconst ?_
    refine wa_iadd ?_
    refine wb_pfi 73 rfl (wy_pr rfl) wt_73 wf_3_2 (n := 2) rfl ⟨(by omega), (by omega)⟩ ?_
    refine wa_return rfl ?_
    have hi : itf = 0 := by omega
    subst hi
    exact ⟨rfl, rfl⟩
  · skip
    refine wa_iconst ?_
    refine wa_goto ⟨_, rfl⟩ ?_
    refine wb_iast 87 rfl (wy_pr rfl) wt_87 (n := 60) ((cl_87 hC)) (by omega) (by omega) ⟨(by omega), (by omega)⟩ ?_
    refine wa_aload_n (n := 0) rfl ?_
    refine wb_gf4 73 rfl (wy_pr rfl) wt_73 wf_3_1 (v := 86) wl_73_1 ?_
    refine wa_iconst ?_
    refine wb_aald5 86 1 rfl rfl (wy_pr rfl) wt_86 (by rw [show _ = _ from ((w_up_slot (by decide)).trans ((cl_86 hC)))]; omega) wl_86_1 ?_
    refine wa_iload (n := 4) rfl ?_
    refine wa_iload_n (n := 2) rfl ?_
    refine wb_iast 88 rfl (wy_pr rfl) wt_88 (n := 60) ((w_up_slot (by decide)).trans ((cl_88 hC))) (by omega) (by omega) ⟨(by omega), (by omega)⟩ ?_
    refine wa_aload_n (n := 0) rfl ?_
    refine wb_gf4 73 rfl (wy_pr rfl) wt_73 wf_3_1 (v := 86) wl_73_1 ?_
    refine wa_iconst ?_
    refine wb_aald5 86 3 rfl rfl (wy_pr rfl) wt_86 (by rw [show _ = _ from ((w_up_slot (by decide)).trans ((w_up_slot (by decide)).trans ((cl_86 hC))))]; omega) wl_86_3 ?_
    refine wa_iload (n := 4) rfl ?_
    refine wa_iconst ?_
    refine wb_iast 90 rfl (wy_pr rfl) wt_90 (n := 60) ((w_up_slot (by decide)).trans ((w_up_slot (by decide)).trans ((cl_90 hC)))) (by omega) (by omega) ⟨(by omega), (by omega)⟩ ?_
    refine wa_aload_n (n := 0) rfl ?_
    refine wb_gf4 73 rfl (wy_pr rfl) wt_73 wf_3_1 (v := 86) wl_73_1 ?_
    refine wa_iconst ?_
    refine wb_aald5 86 4 rfl rfl (wy_pr rfl) wt_86 (by rw [show _ = _ from ((w_up_slot (by decide)).trans ((w_up_slot (by decide)).trans ((w_up_slot (by decide)).trans ((cl_86 hC)))))]; omega) wl_86_4 ?_
    refine wa_iload (n := 4) rfl ?_
    refine wa_aload_n (n := 0) rfl ?_
    refine wb_gfi 73 rfl (wy_pr rfl) wt_73 wf_3_4 (v := m) ((w_up_slot (by decide)).trans ((w_up_slot (by decide)).trans ((w_up_slot (by decide)).trans (hm1)))) (fun r5 => ?_)
    refine wb_iast 91 rfl (wy_pr rfl) wt_91 (n := 60) ((w_up_slot (by decide)).trans ((w_up_slot (by decide)).trans ((w_up_slot (by decide)).trans ((cl_91 hC))))) (by omega) (by omega) ⟨(by omega), (by omega)⟩ ?_
    refine wa_aload_n (n := 0) rfl ?_
    refine wb_gf4 73 rfl (wy_pr rfl) wt_73 wf_3_1 (v := 86) wl_73_1 ?_
    refine wa_iconst ?_
    refine wb_aald5 86 5 rfl rfl (wy_pr rfl) wt_86 (by rw [show _ = _ from ((w_up_slot (by decide)).trans ((w_up_slot (by decide)).trans ((w_up_slot (by decide)).trans ((w_up_slot (by decide)).trans ((cl_86 hC))))))]; omega) wl_86_5 ?_
    refine wa_iload (n := 4) rfl ?_
    refine wa_iload_n (n := 3) rfl ?_
    refine wb_iast 92 rfl (wy_pr rfl) wt_92 (n := 60) ((w_up_slot (by decide)).trans ((w_up_slot (by decide)).trans ((w_up_slot (by decide)).trans ((w_up_slot (by decide)).trans ((cl_92 hC)))))) (by omega) (by omega) ⟨(by omega), (by omega)⟩ ?_
    refine wa_aload_n (n := 0) rfl ?_
    refine wa_dup (by decide) ?_
    refine wb_gfi 73 rfl (wy_pr rfl) wt_73 wf_3_2 (v := k0) ((w_up_slot (by decide)).trans ((w_up_slot (by decide)).trans ((w_up_slot (by decide)).trans ((w_up_slot (by decide)).trans ((w_up_slot (by decide)).trans (hk1)))))) (fun r6 => ?_)
    refine wa_iconst ?_
    refine wa_iadd ?_
    refine wb_pfi 73 rfl (wy_pr rfl) wt_73 wf_3_2 (n := 2) rfl ⟨(by omega), (by omega)⟩ ?_
    refine wa_return rfl ?_
    have hi : itf = 1 := by omega
    subst hi
    exact ⟨rfl, rfl⟩
theorem ac_162 {k0 itf a word m : Int} (hC : w_CL S) (hk : S 162 2 = k0 ∧ 0 ≤ k0 ∧ k0 < 60) (hit : itf = 0 ∨ itf = 1) (ha : -1 ≤ a ∧ a < 60) (hwd : 0 ≤ word ∧ word ≤ 2147483647) (hm : S 162 4 = m ∧ 0 ≤ m ∧ m ≤ 400) : wJ (pe_GA xs) wY0 M d t_XO_addClass ((pe_at t_XO_addClass.bl 0).getD (0, [])).2 [(0, (2, 162)), (1, (0, itf)), (2, (0, a)), (3, (0, word))] [] S (fun o Z => o = .inl none ∧ (w_up (w_up (w_up (w_up (w_up (w_up S 176 k0 itf) 177 k0 a) 179 k0 0) 180 k0 m) 181 k0 word) 162 2 (k0 + 1)) = Z) := by
  have hk1 := hk.1
  have hm1 := hm.1
  refine wa_aload_n (n := 0) rfl ?_
  refine wb_gfi 162 rfl (wy_pr rfl) wt_162 wf_3_2 (v := k0) (hk1) (fun r1 => ?_)
  refine wa_istore (n := 4) rfl ?_
  refine wa_aload_n (n := 0) rfl ?_
  refine wb_gf4 162 rfl (wy_pr rfl) wt_162 wf_3_1 (v := 175) wl_162_1 ?_
  refine wa_iconst ?_
  refine wb_aald5 175 0 rfl rfl (wy_pr rfl) wt_175 (by rw [show _ = _ from ((cl_175 hC))]; omega) wl_175_0 ?_
  refine wa_iload (n := 4) rfl ?_
  refine wa_iload_n (n := 1) rfl ?_
  refine wa_ifeq (w_rg0 (by omega) (by omega)) ⟨_, rfl⟩ (fun c2 => ?_) (fun c2 => ?_)
  · skip
    refine wa_iconst ?_
    refine wa_fall ⟨_, rfl⟩ ?_
    refine wb_iast 176 rfl (wy_pr rfl) wt_176 (n := 60) ((cl_176 hC)) (by omega) (by omega) ⟨(by omega), (by omega)⟩ ?_
    refine wa_aload_n (n := 0) rfl ?_
    refine wb_gf4 162 rfl (wy_pr rfl) wt_162 wf_3_1 (v := 175) wl_162_1 ?_
    refine wa_iconst ?_
    refine wb_aald5 175 1 rfl rfl (wy_pr rfl) wt_175 (by rw [show _ = _ from ((w_up_slot (by decide)).trans ((cl_175 hC)))]; omega) wl_175_1 ?_
    refine wa_iload (n := 4) rfl ?_
    refine wa_iload_n (n := 2) rfl ?_
    refine wb_iast 177 rfl (wy_pr rfl) wt_177 (n := 60) ((w_up_slot (by decide)).trans ((cl_177 hC))) (by omega) (by omega) ⟨(by omega), (by omega)⟩ ?_
    refine wa_aload_n (n := 0) rfl ?_
    refine wb_gf4 162 rfl (wy_pr rfl) wt_162 wf_3_1 (v := 175) wl_162_1 ?_
    refine wa_iconst ?_
    refine wb_aald5 175 3 rfl rfl (wy_pr rfl) wt_175 (by rw [show _ = _ from ((w_up_slot (by decide)).trans ((w_up_slot (by decide)).trans ((cl_175 hC))))]; omega) wl_175_3 ?_
    refine wa_iload (n := 4) rfl ?_
    refine wa_iconst ?_
    refine wb_iast 179 rfl (wy_pr rfl) wt_179 (n := 60) ((w_up_slot (by decide)).trans ((w_up_slot (by decide)).trans ((cl_179 hC)))) (by omega) (by omega) ⟨(by omega), (by omega)⟩ ?_
    refine wa_aload_n (n := 0) rfl ?_
    refine wb_gf4 162 rfl (wy_pr rfl) wt_162 wf_3_1 (v := 175) wl_162_1 ?_
    refine wa_iconst ?_
    refine wb_aald5 175 4 rfl rfl (wy_pr rfl) wt_175 (by rw [show _ = _ from ((w_up_slot (by decide)).trans ((w_up_slot (by decide)).trans ((w_up_slot (by decide)).trans ((cl_175 hC)))))]; omega) wl_175_4 ?_
    refine wa_iload (n := 4) rfl ?_
    refine wa_aload_n (n := 0) rfl ?_
    refine wb_gfi 162 rfl (wy_pr rfl) wt_162 wf_3_4 (v := m) ((w_up_slot (by decide)).trans ((w_up_slot (by decide)).trans ((w_up_slot (by decide)).trans (hm1)))) (fun r3 => ?_)
    refine wb_iast 180 rfl (wy_pr rfl) wt_180 (n := 60) ((w_up_slot (by decide)).trans ((w_up_slot (by decide)).trans ((w_up_slot (by decide)).trans ((cl_180 hC))))) (by omega) (by omega) ⟨(by omega), (by omega)⟩ ?_
    refine wa_aload_n (n := 0) rfl ?_
    refine wb_gf4 162 rfl (wy_pr rfl) wt_162 wf_3_1 (v := 175) wl_162_1 ?_
    refine wa_iconst ?_
    refine wb_aald5 175 5 rfl rfl (wy_pr rfl) wt_175 (by rw [show _ = _ from ((w_up_slot (by decide)).trans ((w_up_slot (by decide)).trans ((w_up_slot (by decide)).trans ((w_up_slot (by decide)).trans ((cl_175 hC))))))]; omega) wl_175_5 ?_
    refine wa_iload (n := 4) rfl ?_
    refine wa_iload_n (n := 3) rfl ?_
    refine wb_iast 181 rfl (wy_pr rfl) wt_181 (n := 60) ((w_up_slot (by decide)).trans ((w_up_slot (by decide)).trans ((w_up_slot (by decide)).trans ((w_up_slot (by decide)).trans ((cl_181 hC)))))) (by omega) (by omega) ⟨(by omega), (by omega)⟩ ?_
    refine wa_aload_n (n := 0) rfl ?_
    refine wa_dup (by decide) ?_
    refine wb_gfi 162 rfl (wy_pr rfl) wt_162 wf_3_2 (v := k0) ((w_up_slot (by decide)).trans ((w_up_slot (by decide)).trans ((w_up_slot (by decide)).trans ((w_up_slot (by decide)).trans ((w_up_slot (by decide)).trans (hk1)))))) (fun r4 => ?_)
    refine wa_iconst ?_
    refine wa_iadd ?_
    refine wb_pfi 162 rfl (wy_pr rfl) wt_162 wf_3_2 (n := 2) rfl ⟨(by omega), (by omega)⟩ ?_
    refine wa_return rfl ?_
    have hi : itf = 0 := by omega
    subst hi
    exact ⟨rfl, rfl⟩
  · skip
    refine wa_iconst ?_
    refine wa_goto ⟨_, rfl⟩ ?_
    refine wb_iast 176 rfl (wy_pr rfl) wt_176 (n := 60) ((cl_176 hC)) (by omega) (by omega) ⟨(by omega), (by omega)⟩ ?_
    refine wa_aload_n (n := 0) rfl ?_
    refine wb_gf4 162 rfl (wy_pr rfl) wt_162 wf_3_1 (v := 175) wl_162_1 ?_
    refine wa_iconst ?_
    refine wb_aald5 175 1 rfl rfl (wy_pr rfl) wt_175 (by rw [show _ = _ from ((w_up_slot (by decide)).trans ((cl_175 hC)))]; omega) wl_175_1 ?_
    refine wa_iload (n := 4) rfl ?_
    refine wa_iload_n (n := 2) rfl ?_
    refine wb_iast 177 rfl (wy_pr rfl) wt_177 (n := 60) ((w_up_slot (by decide)).trans ((cl_177 hC))) (by omega) (by omega) ⟨(by omega), (by omega)⟩ ?_
    refine wa_aload_n (n := 0) rfl ?_
    refine wb_gf4 162 rfl (wy_pr rfl) wt_162 wf_3_1 (v := 175) wl_162_1 ?_
    refine wa_iconst ?_
    refine wb_aald5 175 3 rfl rfl (wy_pr rfl) wt_175 (by rw [show _ = _ from ((w_up_slot (by decide)).trans ((w_up_slot (by decide)).trans ((cl_175 hC))))]; omega) wl_175_3 ?_
    refine wa_iload (n := 4) rfl ?_
    refine wa_iconst ?_
    refine wb_iast 179 rfl (wy_pr rfl) wt_179 (n := 60) ((w_up_slot (by decide)).trans ((w_up_slot (by decide)).trans ((cl_179 hC)))) (by omega) (by omega) ⟨(by omega), (by omega)⟩ ?_
    refine wa_aload_n (n := 0) rfl ?_
    refine wb_gf4 162 rfl (wy_pr rfl) wt_162 wf_3_1 (v := 175) wl_162_1 ?_
    refine wa_iconst ?_
    refine wb_aald5 175 4 rfl rfl (wy_pr rfl) wt_175 (by rw [show _ = _ from ((w_up_slot (by decide)).trans ((w_up_slot (by decide)).trans ((w_up_slot (by decide)).trans ((cl_175 hC)))))]; omega) wl_175_4 ?_
    refine wa_iload (n := 4) rfl ?_
    refine wa_aload_n (n := 0) rfl ?_
    refine wb_gfi 162 rfl (wy_pr rfl) wt_162 wf_3_4 (v := m) ((w_up_slot (by decide)).trans ((w_up_slot (by decide)).trans ((w_up_slot (by decide)).trans (hm1)))) (fun r5 => ?_)
    refine wb_iast 180 rfl (wy_pr rfl) wt_180 (n := 60) ((w_up_slot (by decide)).trans ((w_up_slot (by decide)).trans ((w_up_slot (by decide)).trans ((cl_180 hC))))) (by omega) (by omega) ⟨(by omega), (by omega)⟩ ?_
    refine wa_aload_n (n := 0) rfl ?_
    refine wb_gf4 162 rfl (wy_pr rfl) wt_162 wf_3_1 (v := 175) wl_162_1 ?_
    refine wa_iconst ?_
    refine wb_aald5 175 5 rfl rfl (wy_pr rfl) wt_175 (by rw [show _ = _ from ((w_up_slot (by decide)).trans ((w_up_slot (by decide)).trans ((w_up_slot (by decide)).trans ((w_up_slot (by decide)).trans ((cl_175 hC))))))]; omega) wl_175_5 ?_
    refine wa_iload (n := 4) rfl ?_
    refine wa_iload_n (n := 3) rfl ?_
    refine wb_iast 181 rfl (wy_pr rfl) wt_181 (n := 60) ((w_up_slot (by decide)).trans ((w_up_slot (by decide)).trans ((w_up_slot (by decide)).trans ((w_up_slot (by decide)).trans ((cl_181 hC)))))) (by omega) (by omega) ⟨(by omega), (by omega)⟩ ?_
    refine wa_aload_n (n := 0) rfl ?_
    refine wa_dup (by decide) ?_
    refine wb_gfi 162 rfl (wy_pr rfl) wt_162 wf_3_2 (v := k0) ((w_up_slot (by decide)).trans ((w_up_slot (by decide)).trans ((w_up_slot (by decide)).trans ((w_up_slot (by decide)).trans ((w_up_slot (by decide)).trans (hk1)))))) (fun r6 => ?_)
    refine wa_iconst ?_
    refine wa_iadd ?_
    refine wb_pfi 162 rfl (wy_pr rfl) wt_162 wf_3_2 (n := 2) rfl ⟨(by omega), (by omega)⟩ ?_
    refine wa_return rfl ?_
    have hi : itf = 1 := by omega
    subst hi
    exact ⟨rfl, rfl⟩
end Wa0
