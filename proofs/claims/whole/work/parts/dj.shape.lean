/-! PART dj: shape of each side. -/
section Wdj
variable {xs : List (Nat × List Int32)} {M : Nat → Prop} {d : Nat} {S Z : wS} {L : List aH} {B C B2 C2 : Int → Int} {n m : Int}
/-- up a shape's chain to the one that has so many names -/
def hAt (B C : Int → Int) (n : Int) : Nat → Int → Int
  | 0, s => s
  | f + 1, s => if C s ≤ n then s else hAt B C n f (B s)
/-- chains of shapes: each with names has one ahead of it with one less -/
def hcF (B C : Int → Int) (m : Int) : Prop := ∀ k : Int, 0 ≤ k → k < m → (0 ≤ C k ∧ C k ≤ 4001) ∧ (0 < C k → 0 ≤ B k ∧ B k < k ∧ C (B k) = C k - 1)
theorem hAt_cg (h : hcF B C m) (e : ∀ k : Int, 0 ≤ k → k < m → B2 k = B k ∧ C2 k = C k) (hn : 0 ≤ n) : ∀ (f : Nat) (s : Int), 0 ≤ s → s < m → hAt B2 C2 n f s = hAt B C n f s
  | 0, _, _, _ => rfl
  | f + 1, s, s0, s1 => by
    obtain ⟨e1, e2⟩ := e s s0 s1
    obtain ⟨h1, h2⟩ := h s s0 s1
    show (if C2 s ≤ n then s else hAt B2 C2 n f (B2 s)) = (if C s ≤ n then s else hAt B C n f (B s))
    rw [e1, e2]
    by_cases q : C s ≤ n
    · rw [if_pos q, if_pos q]
    · obtain ⟨a1, a2, a3⟩ := h2 (by omega)
      rw [if_neg q, if_neg q]
      exact hAt_cg h e hn f (B s) a1 (by omega)
theorem hAt_rg (h : hcF B C m) (hn : 0 ≤ n) : ∀ (f : Nat) (s : Int), 0 ≤ s → s < m → 0 ≤ hAt B C n f s ∧ hAt B C n f s < m
  | 0, _, s0, s1 => ⟨s0, s1⟩
  | f + 1, s, s0, s1 => by
    obtain ⟨h1, h2⟩ := h s s0 s1
    show 0 ≤ (if C s ≤ n then s else hAt B C n f (B s)) ∧ (if C s ≤ n then s else hAt B C n f (B s)) < m
    by_cases q : C s ≤ n
    · rw [if_pos q]; exact ⟨s0, s1⟩
    · obtain ⟨a1, a2, a3⟩ := h2 (by omega)
      rw [if_neg q]
      exact hAt_rg h hn f (B s) a1 (by omega)
def sh_f (pr cn nm bf : Int → Int) (m k wh : Int) : Int := if 0 ≤ k ∧ k < m ∧ 0 ≤ wh then (if wh = 0 then pr k else if wh = 1 then cn k else if wh - 2 < cn k then nm (hAt bf cn (wh - 2 + 1) ((cn k).toNat + 1) k) else -1) else -1
theorem sh_eq {p1 c1 n1 b1 p2 c2 n2 b2 : Int → Int} {k wh : Int} (h : hcF b1 c1 m) (e : ∀ k : Int, 0 ≤ k → k < m → (p2 k = p1 k ∧ n2 k = n1 k) ∧ b2 k = b1 k ∧ c2 k = c1 k) : sh_f p2 c2 n2 b2 m k wh = sh_f p1 c1 n1 b1 m k wh := by
  unfold sh_f
  by_cases q : 0 ≤ k ∧ k < m ∧ 0 ≤ wh
  · obtain ⟨⟨e1, e2⟩, e3, e4⟩ := e k q.1 q.2.1
    rw [if_pos q, if_pos q, e1, e4]
    by_cases r : wh = 0
    · rw [if_pos r, if_pos r]
    rw [if_neg r, if_neg r]
    by_cases r2 : wh = 1
    · rw [if_pos r2, if_pos r2]
    rw [if_neg r2, if_neg r2]
    have hg := hAt_rg (n := wh - 2 + 1) h (by omega) ((c1 k).toNat + 1) k q.1 q.2.1
    rw [hAt_cg (n := wh - 2 + 1) h (fun k a b => (e k a b).2) (by omega) ((c1 k).toNat + 1) k q.1 q.2.1, (e _ hg.1 hg.2).1.2]
  · rw [if_neg q, if_neg q]
theorem ni_l {k n : Int} (hl : ∀ x : Nat, x < 5 → S (144 + x) (-1) = S 144 (-1)) (hC : w_CL S) (hm : 0 ≤ m ∧ m ≤ S 144 (-1)) (hz : S 144 (-1) ≤ 1000000) (hc : hcF (S 147) (S 145) m) (hn : 0 ≤ n ∧ n ≤ 1000000) : ∀ (f : Nat) (s i : Int), i - n < f → 0 ≤ s → s < m → S 145 s = i + 1 → n ≤ i → wJ (pe_GA xs) wY0 M d t_XH_nameIn ((pe_at t_XH_nameIn.bl 1).getD (0, [])).2 [(0, (2, 72)), (1, (0, k)), (2, (0, n)), (3, (0, s)), (4, (0, i))] [] S (fun o Z => S = Z ∧ o = .inl (some (0, S 146 (hAt (S 147) (S 145) (n + 1) f s)))) := by
  intro f
  induction f with
  | zero => intro s i h1 _ _ _ h2; omega
  | succ f ih =>
    intro s i h1 s0 s1 hi hni
    obtain ⟨c1, c2⟩ := hc s s0 s1
    refine wa_iload (n := 4) rfl ?_
    refine wa_iload_n (n := 2) rfl ?_
    refine wa_icmple (w_rg0 (by omega) (by omega)) (w_rg0 (by omega) (by omega)) ⟨_, rfl⟩ (fun c1 => ?_) (fun c1 => ?_)
    · skip
      refine wa_aload_n (n := 0) rfl ?_
      refine wb_gf4 72 rfl (wy_pr rfl) wt_72 wf_2_7 (v := 143) wl_72_7 ?_
      refine wa_iconst ?_
      refine wb_aald5 143 2 rfl rfl (wy_pr rfl) wt_143 (by rw [show _ = _ from ((cl_143 hC))]; omega) wl_143_2 ?_
      refine wa_iload_n (n := 3) rfl ?_
      refine wb_iald 146 rfl (wy_pr rfl) wt_146 (n := (S 144 (-1))) ((hl 2 (by decide))) (by omega) (by omega) (v := (S 146 s)) rfl (fun r2 => ?_)
      refine wa_ireturn rfl ?_
      have e : hAt (S 147) (S 145) (n + 1) (f + 1) s = s := if_pos (by omega)
      exact ⟨rfl, by rw [e]⟩
    · skip
      refine wa_aload_n (n := 0) rfl ?_
      refine wb_gf4 72 rfl (wy_pr rfl) wt_72 wf_2_7 (v := 143) wl_72_7 ?_
      refine wa_iconst ?_
      refine wb_aald5 143 3 rfl rfl (wy_pr rfl) wt_143 (by rw [show _ = _ from ((cl_143 hC))]; omega) wl_143_3 ?_
      refine wa_iload_n (n := 3) rfl ?_
      refine wb_iald 147 rfl (wy_pr rfl) wt_147 (n := (S 144 (-1))) ((hl 3 (by decide))) (by omega) (by omega) (v := (S 147 s)) rfl (fun r3 => ?_)
      refine wa_istore_n (n := 3) rfl ?_
      refine wa_iinc rfl rfl ?_
      refine wa_goto ⟨_, rfl⟩ ?_
      obtain ⟨a1, a2, a3⟩ := c2 (by omega)
      have e : hAt (S 147) (S 145) (n + 1) (f + 1) s = hAt (S 147) (S 145) (n + 1) f (S 147 s) := if_neg (by omega)
      rw [e]
      exact wJ_S (ih (S 147 s) (i - 1) (by omega) a1 (by omega) (by omega) (by omega)) ⟨rfl, rfl, rfl, rfl, rfl, trivial⟩
theorem ni_ok {k n : Int} (hl : ∀ x : Nat, x < 5 → S (144 + x) (-1) = S 144 (-1)) (hC : w_CL S) (hm : 0 ≤ m ∧ m ≤ S 144 (-1)) (hz : S 144 (-1) ≤ 1000000) (hc : hcF (S 147) (S 145) m) (hn : 0 ≤ n ∧ n ≤ 1000000) (hk : 0 ≤ k ∧ k < m) (hi : n < S 145 k) : wJ (pe_GA xs) wY0 M d t_XH_nameIn ((pe_at t_XH_nameIn.bl 0).getD (0, [])).2 [(0, (2, 72)), (1, (0, k)), (2, (0, n))] [] S (fun o Z => S = Z ∧ o = .inl (some (0, S 146 (hAt (S 147) (S 145) (n + 1) ((S 145 k).toNat + 1) k)))) := by
  have c1 := (hc k hk.1 hk.2).1
  refine wa_iload_n (n := 1) rfl ?_
  refine wa_istore_n (n := 3) rfl ?_
  refine wa_aload_n (n := 0) rfl ?_
  refine wb_gf4 72 rfl (wy_pr rfl) wt_72 wf_2_7 (v := 143) wl_72_7 ?_
  refine wa_iconst ?_
  refine wb_aald5 143 1 rfl rfl (wy_pr rfl) wt_143 (by rw [show _ = _ from ((cl_143 hC))]; omega) wl_143_1 ?_
  refine wa_iload_n (n := 1) rfl ?_
  refine wb_iald 145 rfl (wy_pr rfl) wt_145 (n := (S 144 (-1))) ((hl 1 (by decide))) (by omega) (by omega) (v := (S 145 k)) rfl (fun r1 => ?_)
  refine wa_iconst ?_
  refine wa_isub ?_
  refine wa_istore (n := 4) rfl ?_
  refine wa_fall ⟨_, rfl⟩ ?_
  exact wJ_S (ni_l hl hC hm hz hc hn ((S 145 k).toNat + 1) k (S 145 k - 1) (by omega) hk.1 hk.2 (by omega) (by omega)) ⟨rfl, rfl, rfl, rfl, rfl, trivial⟩
theorem xsh {k wh : Int} (hl : ∀ x : Nat, x < 5 → S (144 + x) (-1) = S 144 (-1)) (hC : w_CL S) (hm : 0 ≤ S 72 8 ∧ S 72 8 ≤ S 144 (-1)) (hz : S 144 (-1) ≤ 1000000) (hc : hcF (S 147) (S 145) (S 72 8)) (hk : -2147483648 ≤ k ∧ k ≤ 2147483647) (hwh : -2147483648 ≤ wh ∧ wh ≤ 2147483647) : wJ (pe_GA xs) wY0 M (d + 1) t_X_shape ((pe_at t_X_shape.bl 0).getD (0, [])).2 [(0, (2, 0)), (1, (0, k)), (2, (0, wh))] [] S (fun o Z => S = Z ∧ o = .inl (some (0, sh_f (S 144) (S 145) (S 146) (S 147) (S 72 8) k wh))) := by
  refine wa_iload_n (n := 1) rfl ?_
  refine wa_iflt (w_rg0 (by omega) (by omega)) ⟨_, rfl⟩ (fun c1 => ?_) (fun c1 => ?_)
  · skip
    refine wa_iconst ?_
    refine wa_ireturn rfl ?_
    refine ⟨rfl, congrArg (fun z => Sum.inl (some (0, z))) ?_⟩
    unfold sh_f
    repeat (first | rw [if_pos (by omega)] | rw [if_neg (by omega)])
    all_goals rfl
  · skip
    refine wa_iload_n (n := 1) rfl ?_
    refine wa_aload_n (n := 0) rfl ?_
    refine wb_gf4 0 rfl (wy_pr rfl) wt_0 wf_10_7 (v := 72) wl_0_7 ?_
    refine wb_gfi 72 rfl (wy_pr rfl) wt_72 wf_2_8 (v := (S 72 8)) rfl (fun r2 => ?_)
    refine wa_icmpge (w_rg0 (by omega) (by omega)) (w_rg0 (by omega) (by omega)) ⟨_, rfl⟩ (fun c3 => ?_) (fun c3 => ?_)
    · skip
      refine wa_iconst ?_
      refine wa_ireturn rfl ?_
      refine ⟨rfl, congrArg (fun z => Sum.inl (some (0, z))) ?_⟩
      unfold sh_f
      repeat (first | rw [if_pos (by omega)] | rw [if_neg (by omega)])
      all_goals rfl
    · skip
      refine wa_iload_n (n := 2) rfl ?_
      refine wa_ifge (w_rg0 (by omega) (by omega)) ⟨_, rfl⟩ (fun c4 => ?_) (fun c4 => ?_)
      · skip
        have hck := (hc k (by omega) (by omega)).1
        refine wa_iload_n (n := 2) rfl ?_
        refine wa_iconst ?_
        refine wa_icmpge (w_rg0 (by omega) (by omega)) (w_rg0 (by omega) (by omega)) ⟨_, rfl⟩ (fun c5 => ?_) (fun c5 => ?_)
        · skip
          refine wa_iload_n (n := 2) rfl ?_
          refine wa_iconst ?_
          refine wa_isub ?_
          refine wa_aload_n (n := 0) rfl ?_
          refine wb_gf4 0 rfl (wy_pr rfl) wt_0 wf_10_7 (v := 72) wl_0_7 ?_
          refine wb_gf4 72 rfl (wy_pr rfl) wt_72 wf_2_7 (v := 143) wl_72_7 ?_
          refine wa_iconst ?_
          refine wb_aald5 143 1 rfl rfl (wy_pr rfl) wt_143 (by rw [show _ = _ from ((cl_143 hC))]; omega) wl_143_1 ?_
          refine wa_iload_n (n := 1) rfl ?_
          refine wb_iald 145 rfl (wy_pr rfl) wt_145 (n := (S 144 (-1))) ((hl 1 (by decide))) (by omega) (by omega) (v := (S 145 k)) rfl (fun r6 => ?_)
          refine wa_icmpge (w_rg0 (by omega) (by omega)) (w_rg0 (by omega) (by omega)) ⟨_, rfl⟩ (fun c7 => ?_) (fun c7 => ?_)
          · skip
            refine wa_iconst ?_
            refine wa_fall ⟨_, rfl⟩ ?_
            refine wa_ireturn rfl ?_
            refine ⟨rfl, congrArg (fun z => Sum.inl (some (0, z))) ?_⟩
            unfold sh_f
            repeat (first | rw [if_pos (by omega)] | rw [if_neg (by omega)])
            all_goals rfl
          · skip
            refine wa_aload_n (n := 0) rfl ?_
            refine wb_gf4 0 rfl (wy_pr rfl) wt_0 wf_10_7 (v := 72) wl_0_7 ?_
            refine wa_iload_n (n := 1) rfl ?_
            refine wa_iload_n (n := 2) rfl ?_
            refine wa_iconst ?_
            refine wa_isub ?_
            refine wa_cv 72 rfl (wy_pr rfl) wt_72 (M2 := fun _ => False) rfl at_XH_nameIn ⟨_, rfl⟩ rfl rfl ⟨(Or.inr ⟨wy_pr rfl, fun q => q⟩), trivial, trivial, trivial⟩ trivial (fun _ _ q => False.elim q) (ni_ok (S := S) (k := k) (n := wh - 2) hl hC hm hz hc ⟨by omega, by omega⟩ ⟨by omega, by omega⟩ (by omega)) (fun oq8 Sq8 hp9 q8 => ?_)
            rcases q8 with ⟨rfl, rfl⟩
            show wJ _ _ _ _ _ _ _ _ _ _
            refine wa_goto ⟨_, rfl⟩ ?_
            refine wa_ireturn rfl ?_
            refine ⟨rfl, congrArg (fun z => Sum.inl (some (0, z))) ?_⟩
            unfold sh_f
            repeat (first | rw [if_pos (by omega)] | rw [if_neg (by omega)])
            all_goals rfl
        · skip
          refine wa_aload_n (n := 0) rfl ?_
          refine wb_gf4 0 rfl (wy_pr rfl) wt_0 wf_10_7 (v := 72) wl_0_7 ?_
          refine wb_gf4 72 rfl (wy_pr rfl) wt_72 wf_2_7 (v := 143) wl_72_7 ?_
          refine wa_iload_n (n := 2) rfl ?_
          refine wa_ifne (w_rg0 (by omega) (by omega)) ⟨_, rfl⟩ (fun c10 => ?_) (fun c10 => ?_)
          · skip
            refine wa_iconst ?_
            refine wa_fall ⟨_, rfl⟩ ?_
            refine wb_aald5 143 1 rfl rfl (wy_pr rfl) wt_143 (by rw [show _ = _ from ((cl_143 hC))]; omega) wl_143_1 ?_
            refine wa_iload_n (n := 1) rfl ?_
            refine wb_iald 145 rfl (wy_pr rfl) wt_145 (n := (S 144 (-1))) ((hl 1 (by decide))) (by omega) (by omega) (v := (S 145 k)) rfl (fun r11 => ?_)
            refine wa_ireturn rfl ?_
            refine ⟨rfl, congrArg (fun z => Sum.inl (some (0, z))) ?_⟩
            unfold sh_f
            repeat (first | rw [if_pos (by omega)] | rw [if_neg (by omega)])
            all_goals rfl
          · skip
            refine wa_iconst ?_
            refine wa_goto ⟨_, rfl⟩ ?_
            refine wb_aald5 143 0 rfl rfl (wy_pr rfl) wt_143 (by rw [show _ = _ from ((cl_143 hC))]; omega) wl_143_0 ?_
            refine wa_iload_n (n := 1) rfl ?_
            refine wb_iald 144 rfl (wy_pr rfl) wt_144 (n := (S 144 (-1))) (rfl) (by omega) (by omega) (v := (S 144 k)) rfl (fun r12 => ?_)
            refine wa_ireturn rfl ?_
            refine ⟨rfl, congrArg (fun z => Sum.inl (some (0, z))) ?_⟩
            unfold sh_f
            repeat (first | rw [if_pos (by omega)] | rw [if_neg (by omega)])
            all_goals rfl
      · skip
        refine wa_fall ⟨_, rfl⟩ ?_
        refine wa_iconst ?_
        refine wa_ireturn rfl ?_
        refine ⟨rfl, congrArg (fun z => Sum.inl (some (0, z))) ?_⟩
        unfold sh_f
        repeat (first | rw [if_pos (by omega)] | rw [if_neg (by omega)])
        all_goals rfl
theorem ms_l {k wh n : Int} (hM : w_ML S) (hm : 0 ≤ m ∧ m ≤ 4001) (hc : hcF (S 330) (S 332) m) (hn : 0 ≤ n ∧ n ≤ 1000000) : ∀ (f : Nat) (s : Int), S 332 s - (n + 1) < f → 0 ≤ s → s < m → wJ (pe_GA xs) wY0 M d t_M_shape ((pe_at t_M_shape.bl 7).getD (0, [])).2 [(0, (2, 237)), (1, (0, k)), (2, (0, wh)), (3, (0, n)), (4, (0, s))] [] S (fun o Z => S = Z ∧ o = .inl (some (0, S 331 (hAt (S 330) (S 332) (n + 1) (f + 1) s)))) := by
  intro f
  induction f with
  | zero =>
    intro s h1 s0 s1
    obtain ⟨hg1, hg2⟩ := hc s s0 s1
    refine wa_aload_n (n := 0) rfl ?_
    refine wb_gf4 237 rfl (wy_pr rfl) wt_237 wf_15_91 (v := 332) wl_237_91 ?_
    refine wa_iload (n := 4) rfl ?_
    refine wb_iald 332 rfl (wy_pr rfl) wt_332 (n := 4001) ((ml_332 hM)) (by omega) (by omega) (v := (S 332 s)) rfl (fun r1 => ?_)
    refine wa_iload_n (n := 3) rfl ?_
    refine wa_iconst ?_
    refine wa_iadd ?_
    refine wa_icmple (w_rg0 (by omega) (by omega)) (w_rg0 (by omega) (by omega)) ⟨_, rfl⟩ (fun c2 => ?_) (fun c2 => ?_)
    · skip
      refine wa_aload_n (n := 0) rfl ?_
      refine wb_gf4 237 rfl (wy_pr rfl) wt_237 wf_15_90 (v := 331) wl_237_90 ?_
      refine wa_iload (n := 4) rfl ?_
      refine wb_iald 331 rfl (wy_pr rfl) wt_331 (n := 4001) ((ml_331 hM)) (by omega) (by omega) (v := (S 331 s)) rfl (fun r3 => ?_)
      refine wa_ireturn rfl ?_
      have e : hAt (S 330) (S 332) (n + 1) (0 + 1) s = s := if_pos (by omega)
      exact ⟨rfl, by rw [e]⟩
    · skip
      refine wa_aload_n (n := 0) rfl ?_
      refine wb_gf4 237 rfl (wy_pr rfl) wt_237 wf_15_89 (v := 330) wl_237_89 ?_
      refine wa_iload (n := 4) rfl ?_
      refine wb_iald 330 rfl (wy_pr rfl) wt_330 (n := 4001) ((ml_330 hM)) (by omega) (by omega) (v := (S 330 s)) rfl (fun r4 => ?_)
      refine wa_istore (n := 4) rfl ?_
      refine wa_goto ⟨_, rfl⟩ ?_
      obtain ⟨a1, a2, a3⟩ := hg2 (by omega)
      exfalso; omega
  | succ f ih =>
    intro s h1 s0 s1
    obtain ⟨hg1, hg2⟩ := hc s s0 s1
    refine wa_aload_n (n := 0) rfl ?_
    refine wb_gf4 237 rfl (wy_pr rfl) wt_237 wf_15_91 (v := 332) wl_237_91 ?_
    refine wa_iload (n := 4) rfl ?_
    refine wb_iald 332 rfl (wy_pr rfl) wt_332 (n := 4001) ((ml_332 hM)) (by omega) (by omega) (v := (S 332 s)) rfl (fun r1 => ?_)
    refine wa_iload_n (n := 3) rfl ?_
    refine wa_iconst ?_
    refine wa_iadd ?_
    refine wa_icmple (w_rg0 (by omega) (by omega)) (w_rg0 (by omega) (by omega)) ⟨_, rfl⟩ (fun c2 => ?_) (fun c2 => ?_)
    · skip
      refine wa_aload_n (n := 0) rfl ?_
      refine wb_gf4 237 rfl (wy_pr rfl) wt_237 wf_15_90 (v := 331) wl_237_90 ?_
      refine wa_iload (n := 4) rfl ?_
      refine wb_iald 331 rfl (wy_pr rfl) wt_331 (n := 4001) ((ml_331 hM)) (by omega) (by omega) (v := (S 331 s)) rfl (fun r3 => ?_)
      refine wa_ireturn rfl ?_
      have e : hAt (S 330) (S 332) (n + 1) (f + 1 + 1) s = s := if_pos (by omega)
      exact ⟨rfl, by rw [e]⟩
    · skip
      refine wa_aload_n (n := 0) rfl ?_
      refine wb_gf4 237 rfl (wy_pr rfl) wt_237 wf_15_89 (v := 330) wl_237_89 ?_
      refine wa_iload (n := 4) rfl ?_
      refine wb_iald 330 rfl (wy_pr rfl) wt_330 (n := 4001) ((ml_330 hM)) (by omega) (by omega) (v := (S 330 s)) rfl (fun r4 => ?_)
      refine wa_istore (n := 4) rfl ?_
      refine wa_goto ⟨_, rfl⟩ ?_
      obtain ⟨a1, a2, a3⟩ := hg2 (by omega)
      have e : hAt (S 330) (S 332) (n + 1) (f + 1 + 1) s = hAt (S 330) (S 332) (n + 1) (f + 1) (S 330 s) := if_neg (by omega)
      rw [e]
      exact wJ_S (ih (S 330 s) (by omega) a1 (by omega)) ⟨rfl, rfl, rfl, rfl, rfl, trivial⟩
theorem msh {k wh : Int} (hM : w_ML S) (hm : 0 ≤ S 237 87 ∧ S 237 87 ≤ 4001) (hc : hcF (S 330) (S 332) (S 237 87)) (hk : -2147483648 ≤ k ∧ k ≤ 2147483647) (hwh : -2147483648 ≤ wh ∧ wh ≤ 2147483647) : wJ (pe_GA xs) wY0 M (d + 1) t_M_shape ((pe_at t_M_shape.bl 0).getD (0, [])).2 [(0, (2, 237)), (1, (0, k)), (2, (0, wh))] [] S (fun o Z => w_up S 237 0 0 = Z ∧ o = .inl (some (0, sh_f (S 329) (S 332) (S 331) (S 330) (S 237 87) k wh))) := by
  refine wa_aload_n (n := 0) rfl ?_
  refine wa_iconst ?_
  refine wb_pfi 237 rfl (wy_pr rfl) wt_237 wf_15_0 (n := 0) rfl ⟨(by omega), (by omega)⟩ ?_
  refine wa_iload_n (n := 1) rfl ?_
  refine wa_i2l (w_rg0 (by omega) (by omega)) ?_
  refine wa_lconst ?_
  refine wa_aload_n (n := 0) rfl ?_
  refine wb_gfi 237 rfl (wy_pr rfl) wt_237 wf_15_87 (v := (S 237 87)) (w_up_at (by decide)) (fun r1 => ?_)
  refine wa_iconst ?_
  refine wa_isub ?_
  refine wa_i2l (w_rg0 (by omega) (by omega)) ?_
  refine wa_cs (M2 := fun _ => False) rfl at_M_in ⟨_, rfl⟩ rfl rfl ⟨(Or.inr ⟨wy_pr rfl, fun q => q⟩), trivial, trivial, trivial⟩ trivial (fun _ _ q => False.elim q) (in_ok (S := (w_up S 237 0 0)) (a := k) (lo := 0) (hi := ((S 237 87) - 1)) ⟨by omega, by omega⟩ ⟨by omega, by omega⟩ ⟨by omega, by omega⟩) (fun oq3 Sq3 hp4 q3 => ?_)
  rcases q3 with ⟨rfl, ⟨rfl, hin2⟩ | ⟨rfl, hin2⟩⟩
  · skip
    show wJ _ _ _ _ _ _ _ _ _ _
    refine wa_ifeq (w_rg0 (by omega) (by omega)) ⟨_, rfl⟩ (fun c5 => ?_) (fun c5 => ?_)
    · skip
      exact absurd c5 (by omega)
    · skip
      refine wa_iload_n (n := 2) rfl ?_
      refine wa_ifge (w_rg0 (by omega) (by omega)) ⟨_, rfl⟩ (fun c6 => ?_) (fun c6 => ?_)
      · skip
        have hck := (hc k (by omega) (by omega)).1
        refine wa_iload_n (n := 2) rfl ?_
        refine wa_iconst ?_
        refine wa_icmpge (w_rg0 (by omega) (by omega)) (w_rg0 (by omega) (by omega)) ⟨_, rfl⟩ (fun c7 => ?_) (fun c7 => ?_)
        · skip
          refine wa_iload_n (n := 2) rfl ?_
          refine wa_iconst ?_
          refine wa_isub ?_
          refine wa_istore_n (n := 3) rfl ?_
          refine wa_iload_n (n := 3) rfl ?_
          refine wa_aload_n (n := 0) rfl ?_
          refine wb_gf4 237 rfl (wy_pr rfl) wt_237 wf_15_91 (v := 332) wl_237_91 ?_
          refine wa_iload_n (n := 1) rfl ?_
          refine wb_iald 332 rfl (wy_pr rfl) wt_332 (n := 4001) ((w_up_slot (by decide)).trans ((ml_332 hM))) (by omega) (by omega) (v := (S 332 k)) (w_up_slot (by decide)) (fun r8 => ?_)
          refine wa_icmplt (w_rg0 (by omega) (by omega)) (w_rg0 (by omega) (by omega)) ⟨_, rfl⟩ (fun c9 => ?_) (fun c9 => ?_)
          · skip
            refine wa_iload_n (n := 1) rfl ?_
            refine wa_istore (n := 4) rfl ?_
            refine wa_fall ⟨_, rfl⟩ ?_
            have er : ∀ j : Nat, j ≠ 237 → (w_up S 237 0 0) j = S j := fun j hj => w_up_row hj
            have hM2 : w_ML (w_up S 237 0 0) := w_ML_up hM (by decide)
            refine wJ_S (wJ_mono (ms_l (S := (w_up S 237 0 0)) (k := k) (wh := wh) (n := wh - 2) (m := S 237 87) hM2 hm (by rw [er 330 (by decide), er 332 (by decide)]; exact hc) ⟨by omega, by omega⟩ (S 332 k).toNat k (by rw [er 332 (by decide)]; omega) (by omega) (by omega)) (fun o Z hz => ?_)) ⟨rfl, rfl, rfl, rfl, rfl, trivial⟩
            rw [er 330 (by decide), er 331 (by decide), er 332 (by decide)] at hz
            obtain ⟨rfl, rfl⟩ := hz
            refine ⟨rfl, congrArg (fun z => Sum.inl (some (0, z))) ?_⟩
            unfold sh_f
            rw [if_pos (by omega), if_neg (by omega), if_neg (by omega), if_pos (by omega)]
          · skip
            refine wa_iconst ?_
            refine wa_ireturn rfl ?_
            refine ⟨rfl, congrArg (fun z => Sum.inl (some (0, z))) ?_⟩
            unfold sh_f
            repeat (first | rw [if_pos (by omega)] | rw [if_neg (by omega)])
            all_goals rfl
        · skip
          refine wa_iload_n (n := 2) rfl ?_
          refine wa_ifne (w_rg0 (by omega) (by omega)) ⟨_, rfl⟩ (fun c10 => ?_) (fun c10 => ?_)
          · skip
            refine wa_aload_n (n := 0) rfl ?_
            refine wb_gf4 237 rfl (wy_pr rfl) wt_237 wf_15_91 (v := 332) wl_237_91 ?_
            refine wa_iload_n (n := 1) rfl ?_
            refine wb_iald 332 rfl (wy_pr rfl) wt_332 (n := 4001) ((w_up_slot (by decide)).trans ((ml_332 hM))) (by omega) (by omega) (v := (S 332 k)) (w_up_slot (by decide)) (fun r11 => ?_)
            refine wa_fall ⟨_, rfl⟩ ?_
            refine wa_ireturn rfl ?_
            refine ⟨rfl, congrArg (fun z => Sum.inl (some (0, z))) ?_⟩
            unfold sh_f
            repeat (first | rw [if_pos (by omega)] | rw [if_neg (by omega)])
            all_goals rfl
          · skip
            refine wa_aload_n (n := 0) rfl ?_
            refine wb_gf4 237 rfl (wy_pr rfl) wt_237 wf_15_88 (v := 329) wl_237_88 ?_
            refine wa_iload_n (n := 1) rfl ?_
            refine wb_iald 329 rfl (wy_pr rfl) wt_329 (n := 4001) ((w_up_slot (by decide)).trans ((ml_329 hM))) (by omega) (by omega) (v := (S 329 k)) (w_up_slot (by decide)) (fun r12 => ?_)
            refine wa_goto ⟨_, rfl⟩ ?_
            refine wa_ireturn rfl ?_
            refine ⟨rfl, congrArg (fun z => Sum.inl (some (0, z))) ?_⟩
            unfold sh_f
            repeat (first | rw [if_pos (by omega)] | rw [if_neg (by omega)])
            all_goals rfl
      · skip
        refine wa_fall ⟨_, rfl⟩ ?_
        refine wa_iconst ?_
        refine wa_ireturn rfl ?_
        refine ⟨rfl, congrArg (fun z => Sum.inl (some (0, z))) ?_⟩
        unfold sh_f
        repeat (first | rw [if_pos (by omega)] | rw [if_neg (by omega)])
        all_goals rfl
  · skip
    show wJ _ _ _ _ _ _ _ _ _ _
    refine wa_ifeq (w_rg0 (by omega) (by omega)) ⟨_, rfl⟩ (fun c13 => ?_) (fun c13 => ?_)
    · skip
      refine wa_iconst ?_
      refine wa_ireturn rfl ?_
      refine ⟨rfl, congrArg (fun z => Sum.inl (some (0, z))) ?_⟩
      unfold sh_f
      repeat (first | rw [if_pos (by omega)] | rw [if_neg (by omega)])
      all_goals rfl
    · skip
      exact absurd c13 (by omega)
end Wdj
