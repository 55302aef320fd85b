/-! PART ea: the reference's slots and shapes: slotAt, own, findShape, madeShape, addSlot. -/
section Wea
variable {xs : List (Nat × List Int32)} {M : Nat → Prop} {d : Nat} {S Z : wS} {l : List Int}
/-- the slots of a thing stand in a chain -/
def slC (S : wS) (th : Int) (l : List Int) : Prop := S 317 th = (l.length : Int) ∧ (0 < l.length → S 316 th = l.getD 0 0) ∧ ∀ i : Nat, i < l.length → (0 ≤ l.getD i 0 ∧ l.getD i 0 < 60000) ∧ (i + 1 < l.length → S 328 (l.getD i 0) = l.getD (i + 1) 0)
/-- the first place of a name -/
def lFi (g : Nat → Int) (nm : Int) : Nat → Nat → Int
  | 0, _ => -1
  | f + 1, k => if g k = nm then (k : Int) else lFi g nm f (k + 1)
theorem saM_l {th i : Int} (hM : w_ML S) (hs : slC S th l) (hi : 0 ≤ i ∧ i < (l.length : Int)) (hl : l.length ≤ 60000) : ∀ (f k : Nat), (k : Int) + (f : Int) = i → wJ (pe_GA xs) wY0 M d t_M_slotAt ((pe_at t_M_slotAt.bl 1).getD (0, [])).2 [(0, (2, 237)), (1, (0, th)), (2, (0, i)), (3, (0, l.getD k 0)), (4, (0, (k : Int)))] [] S (fun o Z => S = Z ∧ o = .inl (some (0, l.getD i.toNat 0))) := by
  intro f
  induction f with
  | zero =>
    intro k h1
    have hk : i.toNat = k := by omega
    refine wa_iload (n := 4) rfl ?_
    refine wa_iload_n (n := 2) rfl ?_
    refine wa_icmpge (w_rg0 (by omega) (by omega)) (w_rg0 (by omega) (by omega)) ⟨_, rfl⟩ (fun c1 => ?_) (fun c1 => ?_)
    · skip
      refine wa_iload_n (n := 3) rfl ?_
      refine wa_ireturn rfl ?_
      rw [hk]
      exact ⟨rfl, rfl⟩
    · skip
      exfalso; omega
  | succ f ih =>
    intro k h1
    obtain ⟨s1, s2⟩ := hs.2.2 k (by omega)
    have s3 := s2 (by omega)
    refine wa_iload (n := 4) rfl ?_
    refine wa_iload_n (n := 2) rfl ?_
    refine wa_icmpge (w_rg0 (by omega) (by omega)) (w_rg0 (by omega) (by omega)) ⟨_, rfl⟩ (fun c1 => ?_) (fun c1 => ?_)
    · skip
      exfalso; omega
    · skip
      refine wa_aload_n (n := 0) rfl ?_
      refine wb_gf4 237 rfl (wy_pr rfl) wt_237 wf_15_86 (v := 328) wl_237_86 ?_
      refine wa_iload_n (n := 3) rfl ?_
      refine wb_iald 328 rfl (wy_pr rfl) wt_328 (n := 60000) ((ml_328 hM)) (by omega) (by omega) (v := (l.getD (k + 1) 0)) (s3) (fun r2 => ?_)
      refine wa_istore_n (n := 3) rfl ?_
      refine wa_iinc rfl rfl ?_
      refine wa_goto ⟨_, rfl⟩ ?_
      exact wJ_S (ih (k + 1) (by omega)) ⟨rfl, rfl, rfl, rfl, rfl, trivial⟩
theorem saM_ok {th i : Int} (hM : w_ML S) (hth : 0 ≤ th ∧ th < 8000) (hs : slC S th l) (hi : 0 ≤ i ∧ i < (l.length : Int)) (hl : l.length ≤ 60000) : wJ (pe_GA xs) wY0 M d t_M_slotAt ((pe_at t_M_slotAt.bl 0).getD (0, [])).2 [(0, (2, 237)), (1, (0, th)), (2, (0, i))] [] S (fun o Z => S = Z ∧ o = .inl (some (0, l.getD i.toNat 0))) := by
  have s0 := hs.2.1 (by omega)
  refine wa_aload_n (n := 0) rfl ?_
  refine wb_gf4 237 rfl (wy_pr rfl) wt_237 wf_15_72 (v := 316) wl_237_72 ?_
  refine wa_iload_n (n := 1) rfl ?_
  refine wb_iald 316 rfl (wy_pr rfl) wt_316 (n := 8000) ((ml_316 hM)) (by omega) (by omega) (v := (l.getD 0 0)) (s0) (fun r1 => ?_)
  refine wa_istore_n (n := 3) rfl ?_
  refine wa_iconst ?_
  refine wa_istore (n := 4) rfl ?_
  refine wa_fall ⟨_, rfl⟩ ?_
  exact wJ_S (saM_l hM hs hi hl i.toNat 0 (by omega)) ⟨rfl, rfl, rfl, rfl, rfl, trivial⟩
theorem ow_l {th nm : Int} (hM : w_ML S) (hth : 0 ≤ th ∧ th < 8000) (hs : slC S th l) (hnm : -2147483648 ≤ nm ∧ nm ≤ 2147483647) (hl : l.length ≤ 60000) : ∀ (f k : Nat) (s : Int), k + f = l.length → (k < l.length → s = l.getD k 0) → wJ (pe_GA xs) wY0 M d t_M_own ((pe_at t_M_own.bl 1).getD (0, [])).2 [(0, (2, 237)), (1, (0, th)), (2, (0, nm)), (3, (0, s)), (4, (0, (k : Int)))] [] S (fun o Z => S = Z ∧ o = .inl (some (0, lFi (fun i => S 327 (l.getD i 0)) nm f k))) := by
  have h17 := hs.1
  intro f
  induction f with
  | zero =>
    intro k s h1 h2
    refine wa_iload (n := 4) rfl ?_
    refine wa_aload_n (n := 0) rfl ?_
    refine wb_gf4 237 rfl (wy_pr rfl) wt_237 wf_15_73 (v := 317) wl_237_73 ?_
    refine wa_iload_n (n := 1) rfl ?_
    refine wb_iald 317 rfl (wy_pr rfl) wt_317 (n := 8000) ((ml_317 hM)) (by omega) (by omega) (v := (l.length : Int)) (h17) (fun r1 => ?_)
    refine wa_icmpge (w_rg0 (by omega) (by omega)) (w_rg0 (by omega) (by omega)) ⟨_, rfl⟩ (fun c2 => ?_) (fun c2 => ?_)
    · skip
      refine wa_iconst ?_
      refine wa_ireturn rfl ?_
      exact ⟨rfl, rfl⟩
    · skip
      exfalso; omega
  | succ f ih =>
    intro k s h1 h2
    have h3 := h2 (by omega)
    subst h3
    obtain ⟨s1, s2⟩ := hs.2.2 k (by omega)
    refine wa_iload (n := 4) rfl ?_
    refine wa_aload_n (n := 0) rfl ?_
    refine wb_gf4 237 rfl (wy_pr rfl) wt_237 wf_15_73 (v := 317) wl_237_73 ?_
    refine wa_iload_n (n := 1) rfl ?_
    refine wb_iald 317 rfl (wy_pr rfl) wt_317 (n := 8000) ((ml_317 hM)) (by omega) (by omega) (v := (l.length : Int)) (h17) (fun r1 => ?_)
    refine wa_icmpge (w_rg0 (by omega) (by omega)) (w_rg0 (by omega) (by omega)) ⟨_, rfl⟩ (fun c2 => ?_) (fun c2 => ?_)
    · skip
      exfalso; omega
    · skip
      refine wa_aload_n (n := 0) rfl ?_
      refine wb_gf4 237 rfl (wy_pr rfl) wt_237 wf_15_85 (v := 327) wl_237_85 ?_
      refine wa_iload_n (n := 3) rfl ?_
      refine wb_iald 327 rfl (wy_pr rfl) wt_327 (n := 60000) ((ml_327 hM)) (by omega) (by omega) (v := (S 327 (l.getD k 0))) rfl (fun r3 => ?_)
      refine wa_iload_n (n := 2) rfl ?_
      refine wa_icmpne (w_rg0 (by omega) (by omega)) (w_rg0 (by omega) (by omega)) ⟨_, rfl⟩ (fun c4 => ?_) (fun c4 => ?_)
      · skip
        refine wa_aload_n (n := 0) rfl ?_
        refine wb_gf4 237 rfl (wy_pr rfl) wt_237 wf_15_86 (v := 328) wl_237_86 ?_
        refine wa_iload_n (n := 3) rfl ?_
        refine wb_iald 328 rfl (wy_pr rfl) wt_328 (n := 60000) ((ml_328 hM)) (by omega) (by omega) (v := (S 328 (l.getD k 0))) rfl (fun r5 => ?_)
        refine wa_istore_n (n := 3) rfl ?_
        refine wa_iinc rfl rfl ?_
        refine wa_goto ⟨_, rfl⟩ ?_
        have e : lFi (fun i => S 327 (l.getD i 0)) nm (f + 1) k = lFi (fun i => S 327 (l.getD i 0)) nm f (k + 1) := if_neg (by show ¬ (S 327 (l.getD k 0) = nm); omega)
        rw [e]
        exact wJ_S (ih (k + 1) (S 328 (l.getD k 0)) (by omega) s2) ⟨rfl, rfl, rfl, rfl, rfl, trivial⟩
      · skip
        refine wa_iload (n := 4) rfl ?_
        refine wa_ireturn rfl ?_
        have e : lFi (fun i => S 327 (l.getD i 0)) nm (f + 1) k = (k : Int) := if_pos (by show S 327 (l.getD k 0) = nm; omega)
        rw [e]
        exact ⟨rfl, rfl⟩
theorem ow_ok {th nm : Int} (hM : w_ML S) (hth : 0 ≤ th ∧ th < 8000) (hs : slC S th l) (hnm : -2147483648 ≤ nm ∧ nm ≤ 2147483647) (hl : l.length ≤ 60000) : wJ (pe_GA xs) wY0 M d t_M_own ((pe_at t_M_own.bl 0).getD (0, [])).2 [(0, (2, 237)), (1, (0, th)), (2, (0, nm))] [] S (fun o Z => S = Z ∧ o = .inl (some (0, lFi (fun i => S 327 (l.getD i 0)) nm l.length 0))) := by
  refine wa_aload_n (n := 0) rfl ?_
  refine wb_gf4 237 rfl (wy_pr rfl) wt_237 wf_15_72 (v := 316) wl_237_72 ?_
  refine wa_iload_n (n := 1) rfl ?_
  refine wb_iald 316 rfl (wy_pr rfl) wt_316 (n := 8000) ((ml_316 hM)) (by omega) (by omega) (v := (S 316 th)) rfl (fun r1 => ?_)
  refine wa_istore_n (n := 3) rfl ?_
  refine wa_iconst ?_
  refine wa_istore (n := 4) rfl ?_
  refine wa_fall ⟨_, rfl⟩ ?_
  exact wJ_S (ow_l hM hth hs hnm hl l.length 0 (S 316 th) (by omega) hs.2.1) ⟨rfl, rfl, rfl, rfl, rfl, trivial⟩
/-- what findShape finds -/
def fsR (S : wS) (be pr nm m r : Int) : Prop := ((be < 0 ∧ pr < 0) ∧ r = 0) ∨ (¬ (be < 0 ∧ pr < 0) ∧ ((r = -1 ∧ ∀ k : Int, 1 ≤ k → k < m → ¬ (S 330 k = be ∧ S 329 k = pr ∧ S 331 k = nm)) ∨ ((1 ≤ r ∧ r < m) ∧ (S 330 r = be ∧ S 329 r = pr ∧ S 331 r = nm))))
theorem fs_l {be pr nm m : Int} (hM : w_ML S) (h87 : S 237 87 = m) (hm : 1 ≤ m ∧ m ≤ 4001) (hbe : -2147483648 ≤ be ∧ be ≤ 2147483647) (hpr : -2147483648 ≤ pr ∧ pr ≤ 2147483647) (hnm : -2147483648 ≤ nm ∧ nm ≤ 2147483647) (hn : ¬ (be < 0 ∧ pr < 0)) : ∀ (f : Nat) (k : Int), m - k < f → 1 ≤ k ∧ k ≤ m → (∀ q : Int, 1 ≤ q → q < k → ¬ (S 330 q = be ∧ S 329 q = pr ∧ S 331 q = nm)) → wJ (pe_GA xs) wY0 M d t_M_findShape ((pe_at t_M_findShape.bl 2).getD (0, [])).2 [(0, (2, 237)), (1, (0, be)), (2, (0, pr)), (3, (0, nm)), (4, (0, k))] [] S (fun o Z => S = Z ∧ ∃ r : Int, o = .inl (some (0, r)) ∧ fsR S be pr nm m r) := by
  intro f
  induction f with
  | zero =>
    intro k h1 h2 h3
    refine wa_iload (n := 4) rfl ?_
    refine wa_aload_n (n := 0) rfl ?_
    refine wb_gfi 237 rfl (wy_pr rfl) wt_237 wf_15_87 (v := m) (h87) (fun r1 => ?_)
    refine wa_icmpge (w_rg0 (by omega) (by omega)) (w_rg0 (by omega) (by omega)) ⟨_, rfl⟩ (fun c2 => ?_) (fun c2 => ?_)
    · skip
      refine wa_iconst ?_
      refine wa_ireturn rfl ?_
      exact ⟨rfl, -1, rfl, Or.inr ⟨hn, Or.inl ⟨rfl, fun q q0 q1 => h3 q q0 (by omega)⟩⟩⟩
    · skip
      exfalso; omega
  | succ f ih =>
    intro k h1 h2 h3
    refine wa_iload (n := 4) rfl ?_
    refine wa_aload_n (n := 0) rfl ?_
    refine wb_gfi 237 rfl (wy_pr rfl) wt_237 wf_15_87 (v := m) (h87) (fun r1 => ?_)
    refine wa_icmpge (w_rg0 (by omega) (by omega)) (w_rg0 (by omega) (by omega)) ⟨_, rfl⟩ (fun c2 => ?_) (fun c2 => ?_)
    · skip
      refine wa_iconst ?_
      refine wa_ireturn rfl ?_
      exact ⟨rfl, -1, rfl, Or.inr ⟨hn, Or.inl ⟨rfl, fun q q0 q1 => h3 q q0 (by omega)⟩⟩⟩
    · skip
      refine wa_aload_n (n := 0) rfl ?_
      refine wb_gf4 237 rfl (wy_pr rfl) wt_237 wf_15_89 (v := 330) wl_237_89 ?_
      refine wa_iload (n := 4) rfl ?_
      refine wb_iald 330 rfl (wy_pr rfl) wt_330 (n := 4001) ((ml_330 hM)) (by omega) (by omega) (v := (S 330 k)) rfl (fun r3 => ?_)
      refine wa_iload_n (n := 1) rfl ?_
      refine wa_icmpne (w_rg0 (by omega) (by omega)) (w_rg0 (by omega) (by omega)) ⟨_, rfl⟩ (fun c4 => ?_) (fun c4 => ?_)
      · skip
        refine wa_iinc rfl rfl ?_
        refine wa_goto ⟨_, rfl⟩ ?_
        exact wJ_S (ih (k + 1) (by omega) (by omega) (fun q q0 q1 => by by_cases e : q = k; (subst e; omega); exact h3 q q0 (by omega))) ⟨rfl, rfl, rfl, rfl, rfl, trivial⟩
      · skip
        refine wa_aload_n (n := 0) rfl ?_
        refine wb_gf4 237 rfl (wy_pr rfl) wt_237 wf_15_88 (v := 329) wl_237_88 ?_
        refine wa_iload (n := 4) rfl ?_
        refine wb_iald 329 rfl (wy_pr rfl) wt_329 (n := 4001) ((ml_329 hM)) (by omega) (by omega) (v := (S 329 k)) rfl (fun r5 => ?_)
        refine wa_iload_n (n := 2) rfl ?_
        refine wa_icmpne (w_rg0 (by omega) (by omega)) (w_rg0 (by omega) (by omega)) ⟨_, rfl⟩ (fun c6 => ?_) (fun c6 => ?_)
        · skip
          refine wa_iinc rfl rfl ?_
          refine wa_goto ⟨_, rfl⟩ ?_
          exact wJ_S (ih (k + 1) (by omega) (by omega) (fun q q0 q1 => by by_cases e : q = k; (subst e; omega); exact h3 q q0 (by omega))) ⟨rfl, rfl, rfl, rfl, rfl, trivial⟩
        · skip
          refine wa_aload_n (n := 0) rfl ?_
          refine wb_gf4 237 rfl (wy_pr rfl) wt_237 wf_15_90 (v := 331) wl_237_90 ?_
          refine wa_iload (n := 4) rfl ?_
          refine wb_iald 331 rfl (wy_pr rfl) wt_331 (n := 4001) ((ml_331 hM)) (by omega) (by omega) (v := (S 331 k)) rfl (fun r7 => ?_)
          refine wa_iload_n (n := 3) rfl ?_
          refine wa_icmpne (w_rg0 (by omega) (by omega)) (w_rg0 (by omega) (by omega)) ⟨_, rfl⟩ (fun c8 => ?_) (fun c8 => ?_)
          · skip
            refine wa_iinc rfl rfl ?_
            refine wa_goto ⟨_, rfl⟩ ?_
            exact wJ_S (ih (k + 1) (by omega) (by omega) (fun q q0 q1 => by by_cases e : q = k; (subst e; omega); exact h3 q q0 (by omega))) ⟨rfl, rfl, rfl, rfl, rfl, trivial⟩
          · skip
            refine wa_iload (n := 4) rfl ?_
            refine wa_ireturn rfl ?_
            exact ⟨rfl, k, rfl, Or.inr ⟨hn, Or.inr ⟨⟨by omega, by omega⟩, by omega, by omega, by omega⟩⟩⟩
theorem fs_ok {be pr nm m : Int} (hM : w_ML S) (h87 : S 237 87 = m) (hm : 1 ≤ m ∧ m ≤ 4001) (hbe : -2147483648 ≤ be ∧ be ≤ 2147483647) (hpr : -2147483648 ≤ pr ∧ pr ≤ 2147483647) (hnm : -2147483648 ≤ nm ∧ nm ≤ 2147483647) : wJ (pe_GA xs) wY0 M d t_M_findShape ((pe_at t_M_findShape.bl 0).getD (0, [])).2 [(0, (2, 237)), (1, (0, be)), (2, (0, pr)), (3, (0, nm))] [] S (fun o Z => S = Z ∧ ∃ r : Int, o = .inl (some (0, r)) ∧ fsR S be pr nm m r) := by
  refine wa_iload_n (n := 1) rfl ?_
  refine wa_ifge (w_rg0 (by omega) (by omega)) ⟨_, rfl⟩ (fun c1 => ?_) (fun c1 => ?_)
  · skip
    refine wa_iconst ?_
    refine wa_istore (n := 4) rfl ?_
    refine wa_fall ⟨_, rfl⟩ ?_
    exact wJ_S (fs_l hM h87 hm hbe hpr hnm (by omega) m.toNat 1 (by omega) (by omega) (fun q q0 q1 => by omega)) ⟨rfl, rfl, rfl, rfl, rfl, trivial⟩
  · skip
    refine wa_iload_n (n := 2) rfl ?_
    refine wa_ifge (w_rg0 (by omega) (by omega)) ⟨_, rfl⟩ (fun c2 => ?_) (fun c2 => ?_)
    · skip
      refine wa_iconst ?_
      refine wa_istore (n := 4) rfl ?_
      refine wa_fall ⟨_, rfl⟩ ?_
      exact wJ_S (fs_l hM h87 hm hbe hpr hnm (by omega) m.toNat 1 (by omega) (by omega) (fun q q0 q1 => by omega)) ⟨rfl, rfl, rfl, rfl, rfl, trivial⟩
    · skip
      refine wa_iconst ?_
      refine wa_ireturn rfl ?_
      exact ⟨rfl, 0, rfl, Or.inl ⟨⟨by omega, by omega⟩, rfl⟩⟩
/-- a shape of the reference is made -/
def msZ (be pr nm m u4 : Int) (S : wS) : wS := if 0 ≤ pr ∧ S 322 pr = 0 then w_up (w_up (w_up (w_up (w_up (w_up (w_up (w_up S 237 87 (m + 1)) 237 66 (u4 + 1)) 330 m be) 329 m pr) 331 m nm) 332 m (if be < 0 then 0 else S 332 be + 1)) 322 pr 1) 323 pr 0 else (w_up (w_up (w_up (w_up (w_up (w_up S 237 87 (m + 1)) 237 66 (u4 + 1)) 330 m be) 329 m pr) 331 m nm) 332 m (if be < 0 then 0 else S 332 be + 1))
theorem ms_ok {be pr nm m u4 : Int} (hM : w_ML S) (h87 : S 237 87 = m) (hm : 1 ≤ m ∧ m ≤ 4001) (hbe : -2147483648 ≤ be ∧ be ≤ 2147483647) (hpr : -2147483648 ≤ pr ∧ pr ≤ 2147483647) (hnm : -2147483648 ≤ nm ∧ nm ≤ 2147483647) (h66 : S 237 66 = u4) (hu : 0 ≤ u4 ∧ u4 ≤ 4000) (hmu : m ≤ u4 + 1) (hbe2 : 0 ≤ be → be < m ∧ 0 ≤ S 332 be ∧ S 332 be ≤ 100000) (hpr2 : pr < 8000) : wJ (pe_GA xs) wY0 M (d + 2) t_M_madeShape ((pe_at t_M_madeShape.bl 0).getD (0, [])).2 [(0, (2, 237)), (1, (0, be)), (2, (0, pr)), (3, (0, nm))] [] S (fun o Z => ∃ r : Int, fsR S be pr nm m r ∧ ((0 ≤ r ∧ o = .inl (some (0, r)) ∧ S = Z) ∨ (r = -1 ∧ 4000 ≤ u4 ∧ o = .inr 238 ∧ hZ 99 S = Z) ∨ (r = -1 ∧ u4 < 4000 ∧ o = .inl (some (0, m)) ∧ msZ be pr nm m u4 S = Z))) := by
  refine wa_aload_n (n := 0) rfl ?_
  refine wa_iload_n (n := 1) rfl ?_
  refine wa_iload_n (n := 2) rfl ?_
  refine wa_iload_n (n := 3) rfl ?_
  refine wa_cv 237 rfl (wy_pr rfl) wt_237 (M2 := fun _ => False) rfl at_M_findShape ⟨_, rfl⟩ rfl rfl ⟨(Or.inr ⟨wy_pr rfl, fun q => q⟩), trivial, trivial, trivial, trivial⟩ trivial (fun _ _ q => False.elim q) (fs_ok hM h87 hm hbe hpr hnm) (fun oq1 Sq1 hp2 q1 => ?_)
  rcases q1 with ⟨rfl, r, rfl, hfs⟩
  show wJ _ _ _ _ _ _ _ _ _ _
  have hr1 : -1 ≤ r ∧ r < m := by unfold fsR at hfs; omega
  refine wa_istore (n := 4) rfl ?_
  refine wa_iload (n := 4) rfl ?_
  refine wa_iflt (w_rg0 (by omega) (by omega)) ⟨_, rfl⟩ (fun c3 => ?_) (fun c3 => ?_)
  · skip
    refine wa_aload_n (n := 0) rfl ?_
    refine wa_aload_n (n := 0) rfl ?_
    refine wb_gfi 237 rfl (wy_pr rfl) wt_237 wf_15_66 (v := u4) (h66) (fun r4 => ?_)
    refine wa_sipush (by omega) ?_
    refine wa_icmpge (w_rg0 (by omega) (by omega)) (w_rg0 (by omega) (by omega)) ⟨_, rfl⟩ (fun c5 => ?_) (fun c5 => ?_)
    · skip
      refine wa_iconst ?_
      refine wa_fall ⟨_, rfl⟩ ?_
      refine wa_cv 237 rfl (wy_pr rfl) wt_237 (M2 := fun _ => False) rfl at_M_room ⟨_, rfl⟩ rfl rfl ⟨trivial, (Or.inr ⟨wy_pr rfl, fun q => q⟩), trivial, trivial, trivial, trivial⟩ trivial (fun _ _ q => False.elim q) ?_ (fun _ _ _ q => q)
      refine wa_iload_n (n := 1) rfl ?_
      refine wa_ifne (w_rg0 (by omega) (by omega)) ⟨_, rfl⟩ (fun c6 => ?_) (fun c6 => ?_)
      · skip
        exact absurd c6 (by omega)
      · skip
        refine wa_aload_n (n := 0) rfl ?_
        refine wb_gf4 237 rfl (wy_pr rfl) wt_237 wf_15_1 (v := 238) wl_237_1 ?_
        refine wa_bipush (w_rg2 (by omega) (by omega)) ?_
        refine wa_iconst ?_
        refine wa_cv 238 rfl (wy_pr rfl) wt_238 (M2 := fun _ => False) rfl at_MH_of ⟨_, rfl⟩ rfl rfl ⟨(Or.inr ⟨wy_pr rfl, fun q => q⟩), trivial, trivial⟩ trivial (fun _ _ q => False.elim q) ?_ (fun _ _ _ q => q)
        refine wa_aload_n (n := 0) rfl ?_
        refine wa_iload_n (n := 1) rfl ?_
        refine wb_pfi 238 rfl (wy_pr rfl) wt_238 wf_11_5 (n := 5) rfl ⟨(by omega), (by omega)⟩ ?_
        refine wa_aload_n (n := 0) rfl ?_
        refine wa_iload_n (n := 2) rfl ?_
        refine wb_pfi 238 rfl (wy_pr rfl) wt_238 wf_11_6 (n := 6) rfl ⟨(by omega), (by omega)⟩ ?_
        refine wa_aload_n (n := 0) rfl ?_
        refine wa_oreturn rfl ?_
        show wJ _ _ _ _ _ _ _ _ _ _
        refine wa_th (j := 238) ?_
        refine ⟨rfl, ?_⟩
        exact ⟨r, hfs, Or.inr (Or.inl ⟨by omega, by omega, rfl, rfl⟩)⟩
    · skip
      refine wa_iconst ?_
      refine wa_goto ⟨_, rfl⟩ ?_
      refine wa_cv 237 rfl (wy_pr rfl) wt_237 (M2 := fun _ => False) rfl at_M_room ⟨_, rfl⟩ rfl rfl ⟨trivial, (Or.inr ⟨wy_pr rfl, fun q => q⟩), trivial, trivial, trivial, trivial⟩ trivial (fun _ _ q => False.elim q) ?_ (fun _ _ _ q => q)
      refine wa_iload_n (n := 1) rfl ?_
      refine wa_ifne (w_rg0 (by omega) (by omega)) ⟨_, rfl⟩ (fun c7 => ?_) (fun c7 => ?_)
      · skip
        refine wa_return rfl ?_
        show wJ _ _ _ _ _ _ _ _ _ _
        refine wa_aload_n (n := 0) rfl ?_
        refine wb_gfi 237 rfl (wy_pr rfl) wt_237 wf_15_87 (v := m) (h87) (fun r8 => ?_)
        refine wa_istore (n := 4) rfl ?_
        refine wa_aload_n (n := 0) rfl ?_
        refine wa_dup (by decide) ?_
        refine wb_gfi 237 rfl (wy_pr rfl) wt_237 wf_15_87 (v := m) (h87) (fun r9 => ?_)
        refine wa_iconst ?_
        refine wa_iadd ?_
        refine wb_pfi 237 rfl (wy_pr rfl) wt_237 wf_15_87 (n := 87) rfl ⟨(by omega), (by omega)⟩ ?_
        refine wa_aload_n (n := 0) rfl ?_
        refine wa_dup (by decide) ?_
        refine wb_gfi 237 rfl (wy_pr rfl) wt_237 wf_15_66 (v := u4) ((w_up_at (by decide)).trans (h66)) (fun r10 => ?_)
        refine wa_iconst ?_
        refine wa_iadd ?_
        refine wb_pfi 237 rfl (wy_pr rfl) wt_237 wf_15_66 (n := 66) rfl ⟨(by omega), (by omega)⟩ ?_
        refine wa_aload_n (n := 0) rfl ?_
        refine wb_gf4 237 rfl (wy_pr rfl) wt_237 wf_15_89 (v := 330) wl_237_89 ?_
        refine wa_iload (n := 4) rfl ?_
        refine wa_iload_n (n := 1) rfl ?_
        refine wb_iast 330 rfl (wy_pr rfl) wt_330 (n := 4001) ((w_up_slot (by decide)).trans ((w_up_slot (by decide)).trans ((ml_330 hM)))) (by omega) (by omega) ⟨(by omega), (by omega)⟩ ?_
        refine wa_aload_n (n := 0) rfl ?_
        refine wb_gf4 237 rfl (wy_pr rfl) wt_237 wf_15_88 (v := 329) wl_237_88 ?_
        refine wa_iload (n := 4) rfl ?_
        refine wa_iload_n (n := 2) rfl ?_
        refine wb_iast 329 rfl (wy_pr rfl) wt_329 (n := 4001) ((w_up_slot (by decide)).trans ((w_up_slot (by decide)).trans ((w_up_slot (by decide)).trans ((ml_329 hM))))) (by omega) (by omega) ⟨(by omega), (by omega)⟩ ?_
        refine wa_aload_n (n := 0) rfl ?_
        refine wb_gf4 237 rfl (wy_pr rfl) wt_237 wf_15_90 (v := 331) wl_237_90 ?_
        refine wa_iload (n := 4) rfl ?_
        refine wa_iload_n (n := 3) rfl ?_
        refine wb_iast 331 rfl (wy_pr rfl) wt_331 (n := 4001) ((w_up_slot (by decide)).trans ((w_up_slot (by decide)).trans ((w_up_slot (by decide)).trans ((w_up_slot (by decide)).trans ((ml_331 hM)))))) (by omega) (by omega) ⟨(by omega), (by omega)⟩ ?_
        refine wa_aload_n (n := 0) rfl ?_
        refine wb_gf4 237 rfl (wy_pr rfl) wt_237 wf_15_91 (v := 332) wl_237_91 ?_
        refine wa_iload (n := 4) rfl ?_
        refine wa_iload_n (n := 1) rfl ?_
        refine wa_ifge (w_rg0 (by omega) (by omega)) ⟨_, rfl⟩ (fun c11 => ?_) (fun c11 => ?_)
        · skip
          obtain ⟨hb1, hb2, hb3⟩ := hbe2 (by omega)
          refine wa_aload_n (n := 0) rfl ?_
          refine wb_gf4 237 rfl (wy_pr rfl) wt_237 wf_15_91 (v := 332) wl_237_91 ?_
          refine wa_iload_n (n := 1) rfl ?_
          refine wb_iald 332 rfl (wy_pr rfl) wt_332 (n := 4001) ((w_up_slot (by decide)).trans ((w_up_slot (by decide)).trans ((w_up_slot (by decide)).trans ((w_up_slot (by decide)).trans ((w_up_slot (by decide)).trans ((ml_332 hM))))))) (by omega) (by omega) (v := (S 332 be)) ((w_up_slot (by decide)).trans ((w_up_slot (by decide)).trans ((w_up_slot (by decide)).trans ((w_up_slot (by decide)).trans (w_up_slot (by decide)))))) (fun r12 => ?_)
          refine wa_iconst ?_
          refine wa_iadd ?_
          refine wa_fall ⟨_, rfl⟩ ?_
          refine wb_iast 332 rfl (wy_pr rfl) wt_332 (n := 4001) ((w_up_slot (by decide)).trans ((w_up_slot (by decide)).trans ((w_up_slot (by decide)).trans ((w_up_slot (by decide)).trans ((w_up_slot (by decide)).trans ((ml_332 hM))))))) (by omega) (by omega) ⟨(by omega), (by omega)⟩ ?_
          refine wa_iload_n (n := 2) rfl ?_
          refine wa_iflt (w_rg0 (by omega) (by omega)) ⟨_, rfl⟩ (fun c13 => ?_) (fun c13 => ?_)
          · skip
            refine wa_iload (n := 4) rfl ?_
            refine wa_ireturn rfl ?_
            refine ⟨r, hfs, Or.inr (Or.inr ⟨by omega, by omega, rfl, ?_⟩)⟩
            unfold msZ
            repeat (first | rw [if_pos (by omega)] | rw [if_neg (by omega)])
            all_goals rfl
          · skip
            refine wa_aload_n (n := 0) rfl ?_
            refine wb_gf4 237 rfl (wy_pr rfl) wt_237 wf_15_78 (v := 322) wl_237_78 ?_
            refine wa_iload_n (n := 2) rfl ?_
            refine wb_zald 322 rfl (wy_pr rfl) wt_322 (n := 8000) ((w_up_slot (by decide)).trans ((w_up_slot (by decide)).trans ((w_up_slot (by decide)).trans ((w_up_slot (by decide)).trans ((w_up_slot (by decide)).trans ((w_up_slot (by decide)).trans ((ml_322 hM)))))))) (by omega) (by omega) (v := (S 322 pr)) ((w_up_slot (by decide)).trans ((w_up_slot (by decide)).trans ((w_up_slot (by decide)).trans ((w_up_slot (by decide)).trans ((w_up_slot (by decide)).trans (w_up_slot (by decide))))))) (fun r14 => ?_)
            refine wa_ifne (w_rg0 (by omega) (by omega)) ⟨_, rfl⟩ (fun c15 => ?_) (fun c15 => ?_)
            · skip
              refine wa_iload (n := 4) rfl ?_
              refine wa_ireturn rfl ?_
              refine ⟨r, hfs, Or.inr (Or.inr ⟨by omega, by omega, rfl, ?_⟩)⟩
              unfold msZ
              repeat (first | rw [if_pos (by omega)] | rw [if_neg (by omega)])
              all_goals rfl
            · skip
              refine wa_aload_n (n := 0) rfl ?_
              refine wb_gf4 237 rfl (wy_pr rfl) wt_237 wf_15_78 (v := 322) wl_237_78 ?_
              refine wa_iload_n (n := 2) rfl ?_
              refine wa_iconst ?_
              refine wb_zast 322 rfl (wy_pr rfl) wt_322 (n := 8000) ((w_up_slot (by decide)).trans ((w_up_slot (by decide)).trans ((w_up_slot (by decide)).trans ((w_up_slot (by decide)).trans ((w_up_slot (by decide)).trans ((w_up_slot (by decide)).trans ((ml_322 hM)))))))) (by omega) (by omega) ⟨(by omega), (by omega)⟩ ?_
              refine wa_aload_n (n := 0) rfl ?_
              refine wb_gf4 237 rfl (wy_pr rfl) wt_237 wf_15_79 (v := 323) wl_237_79 ?_
              refine wa_iload_n (n := 2) rfl ?_
              refine wa_iconst ?_
              refine wb_iast 323 rfl (wy_pr rfl) wt_323 (n := 8000) ((w_up_slot (by decide)).trans ((w_up_slot (by decide)).trans ((w_up_slot (by decide)).trans ((w_up_slot (by decide)).trans ((w_up_slot (by decide)).trans ((w_up_slot (by decide)).trans ((w_up_slot (by decide)).trans ((ml_323 hM))))))))) (by omega) (by omega) ⟨(by omega), (by omega)⟩ ?_
              refine wa_fall ⟨_, rfl⟩ ?_
              refine wa_iload (n := 4) rfl ?_
              refine wa_ireturn rfl ?_
              refine ⟨r, hfs, Or.inr (Or.inr ⟨by omega, by omega, rfl, ?_⟩)⟩
              unfold msZ
              repeat (first | rw [if_pos (by omega)] | rw [if_neg (by omega)])
              all_goals rfl
        · skip
          refine wa_iconst ?_
          refine wa_goto ⟨_, rfl⟩ ?_
          refine wb_iast 332 rfl (wy_pr rfl) wt_332 (n := 4001) ((w_up_slot (by decide)).trans ((w_up_slot (by decide)).trans ((w_up_slot (by decide)).trans ((w_up_slot (by decide)).trans ((w_up_slot (by decide)).trans ((ml_332 hM))))))) (by omega) (by omega) ⟨(by omega), (by omega)⟩ ?_
          refine wa_iload_n (n := 2) rfl ?_
          refine wa_iflt (w_rg0 (by omega) (by omega)) ⟨_, rfl⟩ (fun c16 => ?_) (fun c16 => ?_)
          · skip
            refine wa_iload (n := 4) rfl ?_
            refine wa_ireturn rfl ?_
            refine ⟨r, hfs, Or.inr (Or.inr ⟨by omega, by omega, rfl, ?_⟩)⟩
            unfold msZ
            repeat (first | rw [if_pos (by omega)] | rw [if_neg (by omega)])
            all_goals rfl
          · skip
            refine wa_aload_n (n := 0) rfl ?_
            refine wb_gf4 237 rfl (wy_pr rfl) wt_237 wf_15_78 (v := 322) wl_237_78 ?_
            refine wa_iload_n (n := 2) rfl ?_
            refine wb_zald 322 rfl (wy_pr rfl) wt_322 (n := 8000) ((w_up_slot (by decide)).trans ((w_up_slot (by decide)).trans ((w_up_slot (by decide)).trans ((w_up_slot (by decide)).trans ((w_up_slot (by decide)).trans ((w_up_slot (by decide)).trans ((ml_322 hM)))))))) (by omega) (by omega) (v := (S 322 pr)) ((w_up_slot (by decide)).trans ((w_up_slot (by decide)).trans ((w_up_slot (by decide)).trans ((w_up_slot (by decide)).trans ((w_up_slot (by decide)).trans (w_up_slot (by decide))))))) (fun r17 => ?_)
            refine wa_ifne (w_rg0 (by omega) (by omega)) ⟨_, rfl⟩ (fun c18 => ?_) (fun c18 => ?_)
            · skip
              refine wa_iload (n := 4) rfl ?_
              refine wa_ireturn rfl ?_
              refine ⟨r, hfs, Or.inr (Or.inr ⟨by omega, by omega, rfl, ?_⟩)⟩
              unfold msZ
              repeat (first | rw [if_pos (by omega)] | rw [if_neg (by omega)])
              all_goals rfl
            · skip
              refine wa_aload_n (n := 0) rfl ?_
              refine wb_gf4 237 rfl (wy_pr rfl) wt_237 wf_15_78 (v := 322) wl_237_78 ?_
              refine wa_iload_n (n := 2) rfl ?_
              refine wa_iconst ?_
              refine wb_zast 322 rfl (wy_pr rfl) wt_322 (n := 8000) ((w_up_slot (by decide)).trans ((w_up_slot (by decide)).trans ((w_up_slot (by decide)).trans ((w_up_slot (by decide)).trans ((w_up_slot (by decide)).trans ((w_up_slot (by decide)).trans ((ml_322 hM)))))))) (by omega) (by omega) ⟨(by omega), (by omega)⟩ ?_
              refine wa_aload_n (n := 0) rfl ?_
              refine wb_gf4 237 rfl (wy_pr rfl) wt_237 wf_15_79 (v := 323) wl_237_79 ?_
              refine wa_iload_n (n := 2) rfl ?_
              refine wa_iconst ?_
              refine wb_iast 323 rfl (wy_pr rfl) wt_323 (n := 8000) ((w_up_slot (by decide)).trans ((w_up_slot (by decide)).trans ((w_up_slot (by decide)).trans ((w_up_slot (by decide)).trans ((w_up_slot (by decide)).trans ((w_up_slot (by decide)).trans ((w_up_slot (by decide)).trans ((ml_323 hM))))))))) (by omega) (by omega) ⟨(by omega), (by omega)⟩ ?_
              refine wa_fall ⟨_, rfl⟩ ?_
              refine wa_iload (n := 4) rfl ?_
              refine wa_ireturn rfl ?_
              refine ⟨r, hfs, Or.inr (Or.inr ⟨by omega, by omega, rfl, ?_⟩)⟩
              unfold msZ
              repeat (first | rw [if_pos (by omega)] | rw [if_neg (by omega)])
              all_goals rfl
      · skip
        exact absurd c7 (by omega)
  · skip
    refine wa_iload (n := 4) rfl ?_
    refine wa_ireturn rfl ?_
    exact ⟨r, hfs, Or.inl ⟨by omega, rfl, rfl⟩⟩
/-- a slot is added -/
def asZ (th nm ty va s v0 n la : Int) (S : wS) : wS := w_up (w_up (if n = 0 then w_up (w_up (w_up (w_up (w_up (w_up (w_up S 237 82 (s + 1)) 237 63 (v0 + 1)) 325 s ty) 326 s va) 327 s nm) 328 s (-1)) 316 th s else w_up (w_up (w_up (w_up (w_up (w_up (w_up S 237 82 (s + 1)) 237 63 (v0 + 1)) 325 s ty) 326 s va) 327 s nm) 328 s (-1)) 328 la s) 318 th s) 317 th (n + 1)
theorem adM_ok {th nm ty va s v0 n la : Int} (hM : w_ML S) (hth : 0 ≤ th ∧ th < 8000) (h82 : S 237 82 = s) (hs : 0 ≤ s ∧ s < 60000) (h63 : S 237 63 = v0) (hv : 0 ≤ v0 ∧ v0 ≤ 60000) (hn : S 317 th = n) (hn1 : 0 ≤ n ∧ n ≤ 60000) (hla : S 318 th = la) (hla1 : n ≠ 0 → 0 ≤ la ∧ la < 60000) (hnm : -2147483648 ≤ nm ∧ nm ≤ 2147483647) (hty : -2147483648 ≤ ty ∧ ty ≤ 2147483647) (hva : -9223372036854775808 ≤ va ∧ va ≤ 9223372036854775807) : wJ (pe_GA xs) wY0 M d t_M_addSlot ((pe_at t_M_addSlot.bl 0).getD (0, [])).2 [(0, (2, 237)), (1, (0, th)), (2, (0, nm)), (3, (0, ty)), (4, (1, va))] [] S (fun o Z => o = .inl none ∧ asZ th nm ty va s v0 n la S = Z) := by
  refine wa_aload_n (n := 0) rfl ?_
  refine wb_gfi 237 rfl (wy_pr rfl) wt_237 wf_15_82 (v := s) (h82) (fun r1 => ?_)
  refine wa_istore (n := 6) rfl ?_
  refine wa_aload_n (n := 0) rfl ?_
  refine wa_dup (by decide) ?_
  refine wb_gfi 237 rfl (wy_pr rfl) wt_237 wf_15_82 (v := s) (h82) (fun r2 => ?_)
  refine wa_iconst ?_
  refine wa_iadd ?_
  refine wb_pfi 237 rfl (wy_pr rfl) wt_237 wf_15_82 (n := 82) rfl ⟨(by omega), (by omega)⟩ ?_
  refine wa_aload_n (n := 0) rfl ?_
  refine wa_dup (by decide) ?_
  refine wb_gfi 237 rfl (wy_pr rfl) wt_237 wf_15_63 (v := v0) ((w_up_at (by decide)).trans (h63)) (fun r3 => ?_)
  refine wa_iconst ?_
  refine wa_iadd ?_
  refine wb_pfi 237 rfl (wy_pr rfl) wt_237 wf_15_63 (n := 63) rfl ⟨(by omega), (by omega)⟩ ?_
  refine wa_aload_n (n := 0) rfl ?_
  refine wb_gf4 237 rfl (wy_pr rfl) wt_237 wf_15_83 (v := 325) wl_237_83 ?_
  refine wa_iload (n := 6) rfl ?_
  refine wa_iload_n (n := 3) rfl ?_
  refine wb_iast 325 rfl (wy_pr rfl) wt_325 (n := 60000) ((w_up_slot (by decide)).trans ((w_up_slot (by decide)).trans ((ml_325 hM)))) (by omega) (by omega) ⟨(by omega), (by omega)⟩ ?_
  refine wa_aload_n (n := 0) rfl ?_
  refine wb_gf4 237 rfl (wy_pr rfl) wt_237 wf_15_84 (v := 326) wl_237_84 ?_
  refine wa_iload (n := 6) rfl ?_
  refine wa_lload (n := 4) rfl ?_
  refine wb_last 326 rfl (wy_pr rfl) wt_326 (n := 60000) ((w_up_slot (by decide)).trans ((w_up_slot (by decide)).trans ((w_up_slot (by decide)).trans ((ml_326 hM))))) (by omega) (by omega) ⟨(by omega), (by omega)⟩ ?_
  refine wa_aload_n (n := 0) rfl ?_
  refine wb_gf4 237 rfl (wy_pr rfl) wt_237 wf_15_85 (v := 327) wl_237_85 ?_
  refine wa_iload (n := 6) rfl ?_
  refine wa_iload_n (n := 2) rfl ?_
  refine wb_iast 327 rfl (wy_pr rfl) wt_327 (n := 60000) ((w_up_slot (by decide)).trans ((w_up_slot (by decide)).trans ((w_up_slot (by decide)).trans ((w_up_slot (by decide)).trans ((ml_327 hM)))))) (by omega) (by omega) ⟨(by omega), (by omega)⟩ ?_
  refine wa_aload_n (n := 0) rfl ?_
  refine wb_gf4 237 rfl (wy_pr rfl) wt_237 wf_15_86 (v := 328) wl_237_86 ?_
  refine wa_iload (n := 6) rfl ?_
  refine wa_iconst ?_
  refine wb_iast 328 rfl (wy_pr rfl) wt_328 (n := 60000) ((w_up_slot (by decide)).trans ((w_up_slot (by decide)).trans ((w_up_slot (by decide)).trans ((w_up_slot (by decide)).trans ((w_up_slot (by decide)).trans ((ml_328 hM))))))) (by omega) (by omega) ⟨(by omega), (by omega)⟩ ?_
  refine wa_aload_n (n := 0) rfl ?_
  refine wb_gf4 237 rfl (wy_pr rfl) wt_237 wf_15_73 (v := 317) wl_237_73 ?_
  refine wa_iload_n (n := 1) rfl ?_
  refine wb_iald 317 rfl (wy_pr rfl) wt_317 (n := 8000) ((w_up_slot (by decide)).trans ((w_up_slot (by decide)).trans ((w_up_slot (by decide)).trans ((w_up_slot (by decide)).trans ((w_up_slot (by decide)).trans ((w_up_slot (by decide)).trans ((ml_317 hM)))))))) (by omega) (by omega) (v := n) ((w_up_slot (by decide)).trans ((w_up_slot (by decide)).trans ((w_up_slot (by decide)).trans ((w_up_slot (by decide)).trans ((w_up_slot (by decide)).trans ((w_up_slot (by decide)).trans (hn))))))) (fun r4 => ?_)
  refine wa_ifne (w_rg0 (by omega) (by omega)) ⟨_, rfl⟩ (fun c5 => ?_) (fun c5 => ?_)
  · skip
    have hla2 := hla1 (by omega)
    refine wa_aload_n (n := 0) rfl ?_
    refine wb_gf4 237 rfl (wy_pr rfl) wt_237 wf_15_86 (v := 328) wl_237_86 ?_
    refine wa_aload_n (n := 0) rfl ?_
    refine wb_gf4 237 rfl (wy_pr rfl) wt_237 wf_15_74 (v := 318) wl_237_74 ?_
    refine wa_iload_n (n := 1) rfl ?_
    refine wb_iald 318 rfl (wy_pr rfl) wt_318 (n := 8000) ((w_up_slot (by decide)).trans ((w_up_slot (by decide)).trans ((w_up_slot (by decide)).trans ((w_up_slot (by decide)).trans ((w_up_slot (by decide)).trans ((w_up_slot (by decide)).trans ((ml_318 hM)))))))) (by omega) (by omega) (v := la) ((w_up_slot (by decide)).trans ((w_up_slot (by decide)).trans ((w_up_slot (by decide)).trans ((w_up_slot (by decide)).trans ((w_up_slot (by decide)).trans ((w_up_slot (by decide)).trans (hla))))))) (fun r6 => ?_)
    refine wa_iload (n := 6) rfl ?_
    refine wb_iast 328 rfl (wy_pr rfl) wt_328 (n := 60000) ((w_up_at (by omega)).trans ((w_up_slot (by decide)).trans ((w_up_slot (by decide)).trans ((w_up_slot (by decide)).trans ((w_up_slot (by decide)).trans ((w_up_slot (by decide)).trans ((ml_328 hM)))))))) (by omega) (by omega) ⟨(by omega), (by omega)⟩ ?_
    refine wa_fall ⟨_, rfl⟩ ?_
    refine wa_aload_n (n := 0) rfl ?_
    refine wb_gf4 237 rfl (wy_pr rfl) wt_237 wf_15_74 (v := 318) wl_237_74 ?_
    refine wa_iload_n (n := 1) rfl ?_
    refine wa_iload (n := 6) rfl ?_
    refine wb_iast 318 rfl (wy_pr rfl) wt_318 (n := 8000) ((w_up_slot (by decide)).trans ((w_up_slot (by decide)).trans ((w_up_slot (by decide)).trans ((w_up_slot (by decide)).trans ((w_up_slot (by decide)).trans ((w_up_slot (by decide)).trans ((w_up_slot (by decide)).trans ((ml_318 hM))))))))) (by omega) (by omega) ⟨(by omega), (by omega)⟩ ?_
    refine wa_aload_n (n := 0) rfl ?_
    refine wb_gf4 237 rfl (wy_pr rfl) wt_237 wf_15_73 (v := 317) wl_237_73 ?_
    refine wa_iload_n (n := 1) rfl ?_
    refine wa_dup2 (by decide) (by decide) ?_
    refine wb_iald 317 rfl (wy_pr rfl) wt_317 (n := 8000) ((w_up_slot (by decide)).trans ((w_up_slot (by decide)).trans ((w_up_slot (by decide)).trans ((w_up_slot (by decide)).trans ((w_up_slot (by decide)).trans ((w_up_slot (by decide)).trans ((w_up_slot (by decide)).trans ((w_up_slot (by decide)).trans ((ml_317 hM)))))))))) (by omega) (by omega) (v := n) ((w_up_slot (by decide)).trans ((w_up_slot (by decide)).trans ((w_up_slot (by decide)).trans ((w_up_slot (by decide)).trans ((w_up_slot (by decide)).trans ((w_up_slot (by decide)).trans ((w_up_slot (by decide)).trans ((w_up_slot (by decide)).trans (hn))))))))) (fun r7 => ?_)
    refine wa_iconst ?_
    refine wa_iadd ?_
    refine wb_iast 317 rfl (wy_pr rfl) wt_317 (n := 8000) ((w_up_slot (by decide)).trans ((w_up_slot (by decide)).trans ((w_up_slot (by decide)).trans ((w_up_slot (by decide)).trans ((w_up_slot (by decide)).trans ((w_up_slot (by decide)).trans ((w_up_slot (by decide)).trans ((w_up_slot (by decide)).trans ((ml_317 hM)))))))))) (by omega) (by omega) ⟨(by omega), (by omega)⟩ ?_
    refine wa_return rfl ?_
    refine ⟨rfl, ?_⟩
    unfold asZ
    first | rw [if_pos (by omega)] | rw [if_neg (by omega)]
  · skip
    refine wa_aload_n (n := 0) rfl ?_
    refine wb_gf4 237 rfl (wy_pr rfl) wt_237 wf_15_72 (v := 316) wl_237_72 ?_
    refine wa_iload_n (n := 1) rfl ?_
    refine wa_iload (n := 6) rfl ?_
    refine wb_iast 316 rfl (wy_pr rfl) wt_316 (n := 8000) ((w_up_slot (by decide)).trans ((w_up_slot (by decide)).trans ((w_up_slot (by decide)).trans ((w_up_slot (by decide)).trans ((w_up_slot (by decide)).trans ((w_up_slot (by decide)).trans ((ml_316 hM)))))))) (by omega) (by omega) ⟨(by omega), (by omega)⟩ ?_
    refine wa_goto ⟨_, rfl⟩ ?_
    refine wa_aload_n (n := 0) rfl ?_
    refine wb_gf4 237 rfl (wy_pr rfl) wt_237 wf_15_74 (v := 318) wl_237_74 ?_
    refine wa_iload_n (n := 1) rfl ?_
    refine wa_iload (n := 6) rfl ?_
    refine wb_iast 318 rfl (wy_pr rfl) wt_318 (n := 8000) ((w_up_slot (by decide)).trans ((w_up_slot (by decide)).trans ((w_up_slot (by decide)).trans ((w_up_slot (by decide)).trans ((w_up_slot (by decide)).trans ((w_up_slot (by decide)).trans ((w_up_slot (by decide)).trans ((ml_318 hM))))))))) (by omega) (by omega) ⟨(by omega), (by omega)⟩ ?_
    refine wa_aload_n (n := 0) rfl ?_
    refine wb_gf4 237 rfl (wy_pr rfl) wt_237 wf_15_73 (v := 317) wl_237_73 ?_
    refine wa_iload_n (n := 1) rfl ?_
    refine wa_dup2 (by decide) (by decide) ?_
    refine wb_iald 317 rfl (wy_pr rfl) wt_317 (n := 8000) ((w_up_slot (by decide)).trans ((w_up_slot (by decide)).trans ((w_up_slot (by decide)).trans ((w_up_slot (by decide)).trans ((w_up_slot (by decide)).trans ((w_up_slot (by decide)).trans ((w_up_slot (by decide)).trans ((w_up_slot (by decide)).trans ((ml_317 hM)))))))))) (by omega) (by omega) (v := n) ((w_up_slot (by decide)).trans ((w_up_slot (by decide)).trans ((w_up_slot (by decide)).trans ((w_up_slot (by decide)).trans ((w_up_slot (by decide)).trans ((w_up_slot (by decide)).trans ((w_up_slot (by decide)).trans ((w_up_slot (by decide)).trans (hn))))))))) (fun r8 => ?_)
    refine wa_iconst ?_
    refine wa_iadd ?_
    refine wb_iast 317 rfl (wy_pr rfl) wt_317 (n := 8000) ((w_up_slot (by decide)).trans ((w_up_slot (by decide)).trans ((w_up_slot (by decide)).trans ((w_up_slot (by decide)).trans ((w_up_slot (by decide)).trans ((w_up_slot (by decide)).trans ((w_up_slot (by decide)).trans ((w_up_slot (by decide)).trans ((ml_317 hM)))))))))) (by omega) (by omega) ⟨(by omega), (by omega)⟩ ?_
    refine wa_return rfl ?_
    refine ⟨rfl, ?_⟩
    unfold asZ
    first | rw [if_pos (by omega)] | rw [if_neg (by omega)]
end Wea
