/-! PART e9: the class's shapes: isStale, shapeBehind, addShape, reachShape, bareShape. -/
section We9
variable {xs : List (Nat × List Int32)} {M : Nat → Prop} {d : Nat} {S Z : wS} {m n : Int}
/-- whether one of the prototypes up to a holder has changed since -/
def hSt (Pr ch : Int → Int) (ho si : Int) : Nat → Int → Int
  | 0, _ => 0
  | f + 1, u => if u = -1 then 0 else if si < ch u then 1 else if u = ho then 0 else hSt Pr ch ho si f (Pr u)
theorem hSt_n {Pr ch : Int → Int} {ho si : Int} : ∀ f : Nat, hSt Pr ch ho si f (-1) = 0
  | 0 => rfl
  | _ + 1 => if_pos rfl
/-- the shape with a name more, along a chain -/
def hBe (B N X : Int → Int) (sh nm : Int) : Nat → Int → Int
  | 0, _ => -1
  | f + 1, s => if s < 0 then -1 else if B s = sh ∧ N s = nm then s else hBe B N X sh nm f (X s - 1)
/-- the head of its chain -/
def hsH (b nm : Int) : Int := wb_iand (wb_ixor (b * 1021 + nm) (wb_iushr (b * 1021 + nm) 10)) 1023
theorem hsH_rg (b nm : Int) : 0 ≤ hsH b nm ∧ hsH b nm ≤ 1023 := by
  have h : hsH b nm = ((Int32.ofInt (wb_ixor (b * 1021 + nm) (wb_iushr (b * 1021 + nm) 10)) &&& 1023).toInt) := rfl
  rw [h, and32_1023]
  have := Nat.mod_lt (Int32.ofInt (wb_ixor (b * 1021 + nm) (wb_iushr (b * 1021 + nm) 10))).toBitVec.toNat (show 0 < 1024 by decide)
  omega
theorem isS_l {sh ho si : Int} {pq : Int → Prop} (hl : ∀ x : Nat, x < 5 → S (144 + x) (-1) = S 144 (-1)) (hC : w_CL S) (hm : 0 ≤ m ∧ m ≤ S 144 (-1)) (hz : S 144 (-1) ≤ 1000000) (hth : ∀ x : Nat, x < 10 → S (127 + x) (-1) = S 127 (-1)) (hn : S 72 3 = n) (hn1 : 0 ≤ n ∧ n ≤ S 127 (-1)) (hn2 : S 127 (-1) ≤ 1000000) (hs : ∀ k : Int, 0 ≤ k → k < n → pq k → 0 ≤ S 128 k ∧ S 128 k < m ∧ (S 144 (S 128 k) = -1 ∨ (0 ≤ S 144 (S 128 k) ∧ S 144 (S 128 k) < n ∧ pq (S 144 (S 128 k))))) (hho : -2147483648 ≤ ho ∧ ho ≤ 2147483647) (hsi : -2147483648 ≤ si ∧ si ≤ 2147483647) : ∀ (f : Nat) (u i : Int), i + (f : Int) = n → 0 ≤ i → (u = -1 ∨ (0 ≤ u ∧ u < n ∧ pq u)) → wJ (pe_GA xs) wY0 M (d + 1) t_XH_isStale ((pe_at t_XH_isStale.bl 3).getD (0, [])).2 [(0, (2, 72)), (1, (0, sh)), (2, (0, ho)), (3, (0, si)), (4, (0, u)), (5, (0, i))] [] S (fun o Z => S = Z ∧ o = .inl (some (0, hSt (fun k => S 144 (S 128 k)) (S 131) ho si f u))) := by
  intro f
  induction f with
  | zero =>
    intro u i h1 h2 h3
    refine wa_iload (n := 5) rfl ?_
    refine wa_aload_n (n := 0) rfl ?_
    refine wb_gfi 72 rfl (wy_pr rfl) wt_72 wf_2_3 (v := n) (hn) (fun r101 => ?_)
    refine wa_icmpge (w_rg0 (by omega) (by omega)) (w_rg0 (by omega) (by omega)) ⟨_, rfl⟩ (fun c102 => ?_) (fun c102 => ?_)
    · skip
      refine wa_iconst ?_
      refine wa_zreturn rfl (Or.inl rfl) ?_
      exact ⟨rfl, rfl⟩
    · skip
      exfalso; omega
  | succ f ih =>
    intro u i h1 h2 h3
    refine wa_iload (n := 5) rfl ?_
    refine wa_aload_n (n := 0) rfl ?_
    refine wb_gfi 72 rfl (wy_pr rfl) wt_72 wf_2_3 (v := n) (hn) (fun r101 => ?_)
    refine wa_icmpge (w_rg0 (by omega) (by omega)) (w_rg0 (by omega) (by omega)) ⟨_, rfl⟩ (fun c102 => ?_) (fun c102 => ?_)
    · skip
      exfalso; omega
    · skip
      refine wa_iload (n := 4) rfl ?_
      refine wa_iconst ?_
      refine wa_icmpeq (w_rg0 (by omega) (by omega)) (w_rg0 (by omega) (by omega)) ⟨_, rfl⟩ (fun c103 => ?_) (fun c103 => ?_)
      · skip
        refine wa_iconst ?_
        refine wa_zreturn rfl (Or.inl rfl) ?_
        have e : hSt (fun k => S 144 (S 128 k)) (S 131) ho si (f + 1) u = 0 := if_pos (by omega)
        rw [e]
        exact ⟨rfl, rfl⟩
      · skip
        have hu1 : 0 ≤ u ∧ u < n ∧ pq u := by rcases h3 with h3 | h3; exact absurd h3 (by omega); exact h3
        have hu2 := hs u hu1.1 hu1.2.1 hu1.2.2
        obtain ⟨hu3, hu4, -⟩ := hu1
        obtain ⟨hu5, hu6, hu7⟩ := hu2
        refine wa_aload_n (n := 0) rfl ?_
        refine wb_gf4 72 rfl (wy_pr rfl) wt_72 wf_2_2 (v := 126) wl_72_2 ?_
        refine wa_iconst ?_
        refine wb_aald5 126 4 rfl rfl (wy_pr rfl) wt_126 (by rw [show _ = _ from ((cl_126 hC))]; omega) wl_126_4 ?_
        refine wa_iload (n := 4) rfl ?_
        refine wb_iald 131 rfl (wy_pr rfl) wt_131 (n := (S 127 (-1))) ((hth 4 (by decide))) (by omega) (by omega) (v := (S 131 u)) rfl (fun r104 => ?_)
        refine wa_iload_n (n := 3) rfl ?_
        refine wa_icmple (w_rg0 (by omega) (by omega)) (w_rg0 (by omega) (by omega)) ⟨_, rfl⟩ (fun c105 => ?_) (fun c105 => ?_)
        · skip
          refine wa_iload (n := 4) rfl ?_
          refine wa_iload_n (n := 2) rfl ?_
          refine wa_icmpne (w_rg0 (by omega) (by omega)) (w_rg0 (by omega) (by omega)) ⟨_, rfl⟩ (fun c106 => ?_) (fun c106 => ?_)
          · skip
            refine wa_aload_n (n := 0) rfl ?_
            refine wa_iload (n := 4) rfl ?_
            refine wa_cv 72 rfl (wy_pr rfl) wt_72 (M2 := fun _ => False) rfl at_XH_protoOf ⟨_, rfl⟩ rfl rfl ⟨(Or.inr ⟨wy_pr rfl, fun q => q⟩), trivial, trivial, trivial, trivial, trivial, trivial⟩ trivial (fun _ _ q => False.elim q) ?_ (fun _ _ _ q => q)
            refine wa_aload_n (n := 0) rfl ?_
            refine wb_gf4 72 rfl (wy_pr rfl) wt_72 wf_2_7 (v := 143) wl_72_7 ?_
            refine wa_iconst ?_
            refine wb_aald5 143 0 rfl rfl (wy_pr rfl) wt_143 (by rw [show _ = _ from ((cl_143 hC))]; omega) wl_143_0 ?_
            refine wa_aload_n (n := 0) rfl ?_
            refine wb_gf4 72 rfl (wy_pr rfl) wt_72 wf_2_2 (v := 126) wl_72_2 ?_
            refine wa_iconst ?_
            refine wb_aald5 126 1 rfl rfl (wy_pr rfl) wt_126 (by rw [show _ = _ from ((cl_126 hC))]; omega) wl_126_1 ?_
            refine wa_iload_n (n := 1) rfl ?_
            refine wb_iald 128 rfl (wy_pr rfl) wt_128 (n := (S 127 (-1))) ((hth 1 (by decide))) (by omega) (by omega) (v := (S 128 u)) rfl (fun r107 => ?_)
            refine wb_iald 144 rfl (wy_pr rfl) wt_144 (n := (S 144 (-1))) (rfl) (by omega) (by omega) (v := (S 144 (S 128 u))) rfl (fun r108 => ?_)
            refine wa_ireturn rfl ?_
            show wJ _ _ _ _ _ _ _ _ _ _
            refine wa_fall ⟨_, rfl⟩ ?_
            refine wa_istore (n := 4) rfl ?_
            refine wa_iinc rfl rfl ?_
            refine wa_goto ⟨_, rfl⟩ ?_
            have e : hSt (fun k => S 144 (S 128 k)) (S 131) ho si (f + 1) u = hSt (fun k => S 144 (S 128 k)) (S 131) ho si f (S 144 (S 128 u)) := (if_neg (by omega)).trans ((if_neg (by omega)).trans (if_neg (by omega)))
            rw [e]
            exact wJ_S (ih (S 144 (S 128 u)) (i + 1) (by omega) (by omega) hu7) ⟨rfl, rfl, rfl, rfl, rfl, rfl, trivial⟩
          · skip
            refine wa_iconst ?_
            refine wa_goto ⟨_, rfl⟩ ?_
            refine wa_istore (n := 4) rfl ?_
            refine wa_iinc rfl rfl ?_
            refine wa_goto ⟨_, rfl⟩ ?_
            have e : hSt (fun k => S 144 (S 128 k)) (S 131) ho si (f + 1) u = hSt (fun k => S 144 (S 128 k)) (S 131) ho si f (-1) := ((if_neg (by omega)).trans ((if_neg (by omega)).trans (if_pos (by omega)))).trans (hSt_n f).symm
            rw [e]
            exact wJ_S (ih (-1) (i + 1) (by omega) (by omega) (Or.inl rfl)) ⟨rfl, rfl, rfl, rfl, rfl, rfl, trivial⟩
        · skip
          refine wa_iconst ?_
          refine wa_zreturn rfl (Or.inr rfl) ?_
          have e : hSt (fun k => S 144 (S 128 k)) (S 131) ho si (f + 1) u = 1 := (if_neg (by omega)).trans (if_pos (by omega))
          rw [e]
          exact ⟨rfl, rfl⟩
theorem isS_ok {sh ho si : Int} {pq : Int → Prop} (hl : ∀ x : Nat, x < 5 → S (144 + x) (-1) = S 144 (-1)) (hC : w_CL S) (hm : 0 ≤ m ∧ m ≤ S 144 (-1)) (hz : S 144 (-1) ≤ 1000000) (hth : ∀ x : Nat, x < 10 → S (127 + x) (-1) = S 127 (-1)) (hn : S 72 3 = n) (hn1 : 0 ≤ n ∧ n ≤ S 127 (-1)) (hn2 : S 127 (-1) ≤ 1000000) (hs : ∀ k : Int, 0 ≤ k → k < n → pq k → 0 ≤ S 128 k ∧ S 128 k < m ∧ (S 144 (S 128 k) = -1 ∨ (0 ≤ S 144 (S 128 k) ∧ S 144 (S 128 k) < n ∧ pq (S 144 (S 128 k))))) (hho : -2147483648 ≤ ho ∧ ho ≤ 2147483647) (hsi : -2147483648 ≤ si ∧ si ≤ 2147483647) (hsh : si ≠ -1 → si ≠ S 72 11 → 0 ≤ sh ∧ sh < m ∧ (S 144 sh = -1 ∨ (0 ≤ S 144 sh ∧ S 144 sh < n ∧ pq (S 144 sh)))) (hsr : -2147483648 ≤ sh ∧ sh ≤ 2147483647) : wJ (pe_GA xs) wY0 M (d + 1) t_XH_isStale ((pe_at t_XH_isStale.bl 0).getD (0, [])).2 [(0, (2, 72)), (1, (0, sh)), (2, (0, ho)), (3, (0, si))] [] S (fun o Z => S = Z ∧ o = .inl (some (0, if si = -1 ∨ si = S 72 11 then 0 else hSt (fun k => S 144 (S 128 k)) (S 131) ho si n.toNat (S 144 sh)))) := by
  refine wa_iload_n (n := 3) rfl ?_
  refine wa_iconst ?_
  refine wa_icmpeq (w_rg0 (by omega) (by omega)) (w_rg0 (by omega) (by omega)) ⟨_, rfl⟩ (fun c1 => ?_) (fun c1 => ?_)
  · skip
    refine wa_iconst ?_
    refine wa_zreturn rfl (Or.inl rfl) ?_
    rw [if_pos (by omega)]
    exact ⟨rfl, rfl⟩
  · skip
    refine wa_iload_n (n := 3) rfl ?_
    refine wa_aload_n (n := 0) rfl ?_
    refine wb_gfi 72 rfl (wy_pr rfl) wt_72 wf_2_11 (v := (S 72 11)) rfl (fun r2 => ?_)
    refine wa_icmpne (w_rg0 (by omega) (by omega)) (w_rg0 (by omega) (by omega)) ⟨_, rfl⟩ (fun c3 => ?_) (fun c3 => ?_)
    · skip
      obtain ⟨hs1, hs2, hs3⟩ := hsh (by omega) (by omega)
      refine wa_aload_n (n := 0) rfl ?_
      refine wb_gf4 72 rfl (wy_pr rfl) wt_72 wf_2_7 (v := 143) wl_72_7 ?_
      refine wa_iconst ?_
      refine wb_aald5 143 0 rfl rfl (wy_pr rfl) wt_143 (by rw [show _ = _ from ((cl_143 hC))]; omega) wl_143_0 ?_
      refine wa_iload_n (n := 1) rfl ?_
      refine wb_iald 144 rfl (wy_pr rfl) wt_144 (n := (S 144 (-1))) (rfl) (by omega) (by omega) (v := (S 144 sh)) rfl (fun r4 => ?_)
      refine wa_istore (n := 4) rfl ?_
      refine wa_iconst ?_
      refine wa_istore (n := 5) rfl ?_
      refine wa_fall ⟨_, rfl⟩ ?_
      rw [if_neg (by omega)]
      exact wJ_S (isS_l hl hC hm hz hth hn hn1 hn2 hs hho hsi n.toNat (S 144 sh) 0 (by omega) (by omega) hs3) ⟨rfl, rfl, rfl, rfl, rfl, rfl, trivial⟩
    · skip
      refine wa_fall ⟨_, rfl⟩ ?_
      refine wa_iconst ?_
      refine wa_zreturn rfl (Or.inl rfl) ?_
      rw [if_pos (by omega)]
      exact ⟨rfl, rfl⟩
theorem sb_l {sh nm : Int} (hl : ∀ x : Nat, x < 5 → S (144 + x) (-1) = S 144 (-1)) (hC : w_CL S) (hm : 0 ≤ m ∧ m ≤ S 144 (-1)) (hz : S 144 (-1) ≤ 1000000) (h8 : S 72 8 = m) (hx : ∀ k : Int, 0 ≤ k → k < m → 0 ≤ S 148 k ∧ S 148 k ≤ m) (hsr : -2147483648 ≤ sh ∧ sh ≤ 2147483647) (hnr : -2147483648 ≤ nm ∧ nm ≤ 2147483647) : ∀ (f : Nat) (s i : Int), i + (f : Int) = m → 0 ≤ i → (-1 ≤ s ∧ s < m) → wJ (pe_GA xs) wY0 M d t_XH_shapeBehind ((pe_at t_XH_shapeBehind.bl 1).getD (0, [])).2 [(0, (2, 72)), (1, (0, sh)), (2, (0, nm)), (3, (0, s)), (4, (0, i))] [] S (fun o Z => S = Z ∧ o = .inl (some (0, hBe (S 147) (S 146) (S 148) sh nm f s))) := by
  intro f
  induction f with
  | zero =>
    intro s i h1 h2 h3
    refine wa_iload (n := 4) rfl ?_
    refine wa_aload_n (n := 0) rfl ?_
    refine wb_gfi 72 rfl (wy_pr rfl) wt_72 wf_2_8 (v := m) (h8) (fun r101 => ?_)
    refine wa_icmpge (w_rg0 (by omega) (by omega)) (w_rg0 (by omega) (by omega)) ⟨_, rfl⟩ (fun c102 => ?_) (fun c102 => ?_)
    · skip
      refine wa_iconst ?_
      refine wa_ireturn rfl ?_
      exact ⟨rfl, rfl⟩
    · skip
      exfalso; omega
  | succ f ih =>
    intro s i h1 h2 h3
    refine wa_iload (n := 4) rfl ?_
    refine wa_aload_n (n := 0) rfl ?_
    refine wb_gfi 72 rfl (wy_pr rfl) wt_72 wf_2_8 (v := m) (h8) (fun r101 => ?_)
    refine wa_icmpge (w_rg0 (by omega) (by omega)) (w_rg0 (by omega) (by omega)) ⟨_, rfl⟩ (fun c102 => ?_) (fun c102 => ?_)
    · skip
      exfalso; omega
    · skip
      refine wa_iload_n (n := 3) rfl ?_
      refine wa_iflt (w_rg0 (by omega) (by omega)) ⟨_, rfl⟩ (fun c103 => ?_) (fun c103 => ?_)
      · skip
        refine wa_iconst ?_
        refine wa_ireturn rfl ?_
        have e : hBe (S 147) (S 146) (S 148) sh nm (f + 1) s = -1 := if_pos (by omega)
        rw [e]
        exact ⟨rfl, rfl⟩
      · skip
        refine wa_aload_n (n := 0) rfl ?_
        refine wb_gf4 72 rfl (wy_pr rfl) wt_72 wf_2_7 (v := 143) wl_72_7 ?_
        refine wa_iconst ?_
        refine wb_aald5 143 3 rfl rfl (wy_pr rfl) wt_143 (by rw [show _ = _ from ((cl_143 hC))]; omega) wl_143_3 ?_
        refine wa_iload_n (n := 3) rfl ?_
        refine wb_iald 147 rfl (wy_pr rfl) wt_147 (n := (S 144 (-1))) ((hl 3 (by decide))) (by omega) (by omega) (v := (S 147 s)) rfl (fun r104 => ?_)
        refine wa_iload_n (n := 1) rfl ?_
        refine wa_icmpne (w_rg0 (by omega) (by omega)) (w_rg0 (by omega) (by omega)) ⟨_, rfl⟩ (fun c105 => ?_) (fun c105 => ?_)
        · skip
          refine wa_aload_n (n := 0) rfl ?_
          refine wb_gf4 72 rfl (wy_pr rfl) wt_72 wf_2_7 (v := 143) wl_72_7 ?_
          refine wa_iconst ?_
          refine wb_aald5 143 4 rfl rfl (wy_pr rfl) wt_143 (by rw [show _ = _ from ((cl_143 hC))]; omega) wl_143_4 ?_
          refine wa_iload_n (n := 3) rfl ?_
          refine wb_iald 148 rfl (wy_pr rfl) wt_148 (n := (S 144 (-1))) ((hl 4 (by decide))) (by omega) (by omega) (v := (S 148 s)) rfl (fun r106 => ?_)
          refine wa_iconst ?_
          refine wa_isub ?_
          refine wa_istore_n (n := 3) rfl ?_
          refine wa_iinc rfl rfl ?_
          refine wa_goto ⟨_, rfl⟩ ?_
          have hx1 := hx s (by omega) (by omega)
          have e : hBe (S 147) (S 146) (S 148) sh nm (f + 1) s = hBe (S 147) (S 146) (S 148) sh nm f (S 148 s - 1) := (if_neg (by omega)).trans (if_neg (by omega))
          rw [e]
          exact wJ_S (ih (S 148 s - 1) (i + 1) (by omega) (by omega) ⟨by omega, by omega⟩) ⟨rfl, rfl, rfl, rfl, rfl, trivial⟩
        · skip
          refine wa_aload_n (n := 0) rfl ?_
          refine wb_gf4 72 rfl (wy_pr rfl) wt_72 wf_2_7 (v := 143) wl_72_7 ?_
          refine wa_iconst ?_
          refine wb_aald5 143 2 rfl rfl (wy_pr rfl) wt_143 (by rw [show _ = _ from ((cl_143 hC))]; omega) wl_143_2 ?_
          refine wa_iload_n (n := 3) rfl ?_
          refine wb_iald 146 rfl (wy_pr rfl) wt_146 (n := (S 144 (-1))) ((hl 2 (by decide))) (by omega) (by omega) (v := (S 146 s)) rfl (fun r107 => ?_)
          refine wa_iload_n (n := 2) rfl ?_
          refine wa_icmpne (w_rg0 (by omega) (by omega)) (w_rg0 (by omega) (by omega)) ⟨_, rfl⟩ (fun c108 => ?_) (fun c108 => ?_)
          · skip
            refine wa_aload_n (n := 0) rfl ?_
            refine wb_gf4 72 rfl (wy_pr rfl) wt_72 wf_2_7 (v := 143) wl_72_7 ?_
            refine wa_iconst ?_
            refine wb_aald5 143 4 rfl rfl (wy_pr rfl) wt_143 (by rw [show _ = _ from ((cl_143 hC))]; omega) wl_143_4 ?_
            refine wa_iload_n (n := 3) rfl ?_
            refine wb_iald 148 rfl (wy_pr rfl) wt_148 (n := (S 144 (-1))) ((hl 4 (by decide))) (by omega) (by omega) (v := (S 148 s)) rfl (fun r109 => ?_)
            refine wa_iconst ?_
            refine wa_isub ?_
            refine wa_istore_n (n := 3) rfl ?_
            refine wa_iinc rfl rfl ?_
            refine wa_goto ⟨_, rfl⟩ ?_
            have hx1 := hx s (by omega) (by omega)
            have e : hBe (S 147) (S 146) (S 148) sh nm (f + 1) s = hBe (S 147) (S 146) (S 148) sh nm f (S 148 s - 1) := (if_neg (by omega)).trans (if_neg (by omega))
            rw [e]
            exact wJ_S (ih (S 148 s - 1) (i + 1) (by omega) (by omega) ⟨by omega, by omega⟩) ⟨rfl, rfl, rfl, rfl, rfl, trivial⟩
          · skip
            refine wa_iload_n (n := 3) rfl ?_
            refine wa_ireturn rfl ?_
            have e : hBe (S 147) (S 146) (S 148) sh nm (f + 1) s = s := (if_neg (by omega)).trans (if_pos ⟨by omega, by omega⟩)
            rw [e]
            exact ⟨rfl, rfl⟩
theorem sb_ok {sh nm : Int} (hl : ∀ x : Nat, x < 5 → S (144 + x) (-1) = S 144 (-1)) (hC : w_CL S) (hm : 0 ≤ m ∧ m ≤ S 144 (-1)) (hz : S 144 (-1) ≤ 1000000) (h8 : S 72 8 = m) (hx : ∀ k : Int, 0 ≤ k → k < m → 0 ≤ S 148 k ∧ S 148 k ≤ m) (hsr : -2147483648 ≤ sh ∧ sh ≤ 2147483647) (hnr : -2147483648 ≤ nm ∧ nm ≤ 2147483647) (hh : ∀ x : Int, 0 ≤ x → x ≤ 1023 → 0 ≤ S 149 x ∧ S 149 x ≤ m) (hs : 0 ≤ sh ∧ sh ≤ 100000) (hnm : 0 ≤ nm ∧ nm ≤ 100000) : wJ (pe_GA xs) wY0 M (d + 1) t_XH_shapeBehind ((pe_at t_XH_shapeBehind.bl 0).getD (0, [])).2 [(0, (2, 72)), (1, (0, sh)), (2, (0, nm))] [] S (fun o Z => S = Z ∧ o = .inl (some (0, hBe (S 147) (S 146) (S 148) sh nm m.toNat (S 149 (hsH sh nm) - 1)))) := by
  have hr := hsH_rg sh nm
  have hr2 := hh (hsH sh nm) hr.1 hr.2
  refine wa_aload_n (n := 0) rfl ?_
  refine wb_gf4 72 rfl (wy_pr rfl) wt_72 wf_2_9 (v := 149) wl_72_9 ?_
  refine wa_iload_n (n := 1) rfl ?_
  refine wa_iload_n (n := 2) rfl ?_
  refine wa_cs (M2 := fun _ => False) rfl at_XH_shapeHead ⟨_, rfl⟩ rfl rfl ⟨(Or.inr ⟨wy_pr rfl, fun q => q⟩), trivial, trivial, trivial⟩ ⟨(Or.inr ⟨wy_pr rfl, fun q => q⟩), trivial⟩ (fun _ _ q => False.elim q) ?_ (fun _ _ _ q => q)
  refine wa_iload_n (n := 0) rfl ?_
  refine wa_sipush (by omega) ?_
  refine wa_imul ?_
  refine wa_iload_n (n := 1) rfl ?_
  refine wa_iadd ?_
  refine wa_istore_n (n := 2) rfl ?_
  refine wa_iload_n (n := 2) rfl ?_
  refine wa_iload_n (n := 2) rfl ?_
  refine wa_bipush (w_rg2 (by omega) (by omega)) ?_
  refine wa_iushr ?_
  refine wa_ixor ?_
  refine wa_sipush (by omega) ?_
  refine wa_iand ?_
  refine wa_ireturn rfl ?_
  show wJ _ _ _ _ _ _ _ _ _ _
  show wJ _ _ _ _ _ _ _ ((0, hsH sh nm) :: _) _ _
  refine wb_iald 149 rfl (wy_pr rfl) wt_149 (n := 1024) ((cl_149 hC)) (by omega) (by omega) (v := (S 149 (hsH sh nm))) rfl (fun r1 => ?_)
  refine wa_iconst ?_
  refine wa_isub ?_
  refine wa_istore_n (n := 3) rfl ?_
  refine wa_iconst ?_
  refine wa_istore (n := 4) rfl ?_
  refine wa_fall ⟨_, rfl⟩ ?_
  exact wJ_S (sb_l hl hC hm hz h8 hx hsr hnr m.toNat (S 149 (hsH sh nm) - 1) 0 (by omega) (by omega) ⟨by omega, by omega⟩) ⟨rfl, rfl, rfl, rfl, rfl, trivial⟩
theorem as_b {pr : Int} (hl : ∀ x : Nat, x < 5 → S (144 + x) (-1) = S 144 (-1)) (hC : w_CL S) (hm : 0 ≤ m ∧ m ≤ S 144 (-1)) (hz : S 144 (-1) ≤ 1000000) (h8 : S 72 8 = m) (hm2 : m < S 144 (-1)) (hpr : -2147483648 ≤ pr ∧ pr ≤ 2147483647) : wJ (pe_GA xs) wY0 M (d + 1) t_XH_addShape ((pe_at t_XH_addShape.bl 0).getD (0, [])).2 [(0, (2, 72)), (1, (0, pr)), (2, (0, -1)), (3, (0, -1))] [] S (fun o Z => o = .inl (some (0, m)) ∧ (w_up (w_up (w_up (w_up (w_up S 144 m pr) 146 m (-1)) 147 m (-1)) 145 m 0) 72 8 (m + 1)) = Z) := by
  refine wa_aload_n (n := 0) rfl ?_
  refine wb_gfi 72 rfl (wy_pr rfl) wt_72 wf_2_8 (v := m) (h8) (fun r1 => ?_)
  refine wa_istore (n := 4) rfl ?_
  refine wa_aload_n (n := 0) rfl ?_
  refine wb_gf4 72 rfl (wy_pr rfl) wt_72 wf_2_7 (v := 143) wl_72_7 ?_
  refine wa_iconst ?_
  refine wb_aald5 143 0 rfl rfl (wy_pr rfl) wt_143 (by rw [show _ = _ from ((cl_143 hC))]; omega) wl_143_0 ?_
  refine wa_iload (n := 4) rfl ?_
  refine wa_iload_n (n := 1) rfl ?_
  refine wb_iast 144 rfl (wy_pr rfl) wt_144 (n := (S 144 (-1))) (rfl) (by omega) (by omega) ⟨(by omega), (by omega)⟩ ?_
  refine wa_aload_n (n := 0) rfl ?_
  refine wb_gf4 72 rfl (wy_pr rfl) wt_72 wf_2_7 (v := 143) wl_72_7 ?_
  refine wa_iconst ?_
  refine wb_aald5 143 2 rfl rfl (wy_pr rfl) wt_143 (by rw [show _ = _ from ((w_up_slot (by decide)).trans ((cl_143 hC)))]; omega) wl_143_2 ?_
  refine wa_iload (n := 4) rfl ?_
  refine wa_iload_n (n := 3) rfl ?_
  refine wb_iast 146 rfl (wy_pr rfl) wt_146 (n := (S 144 (-1))) ((w_up_slot (by decide)).trans ((hl 2 (by decide)))) (by omega) (by omega) ⟨(by omega), (by omega)⟩ ?_
  refine wa_aload_n (n := 0) rfl ?_
  refine wb_gf4 72 rfl (wy_pr rfl) wt_72 wf_2_7 (v := 143) wl_72_7 ?_
  refine wa_iconst ?_
  refine wb_aald5 143 3 rfl rfl (wy_pr rfl) wt_143 (by rw [show _ = _ from ((w_up_slot (by decide)).trans ((w_up_slot (by decide)).trans ((cl_143 hC))))]; omega) wl_143_3 ?_
  refine wa_iload (n := 4) rfl ?_
  refine wa_iload_n (n := 2) rfl ?_
  refine wb_iast 147 rfl (wy_pr rfl) wt_147 (n := (S 144 (-1))) ((w_up_slot (by decide)).trans ((w_up_slot (by decide)).trans ((hl 3 (by decide))))) (by omega) (by omega) ⟨(by omega), (by omega)⟩ ?_
  refine wa_aload_n (n := 0) rfl ?_
  refine wb_gf4 72 rfl (wy_pr rfl) wt_72 wf_2_7 (v := 143) wl_72_7 ?_
  refine wa_iconst ?_
  refine wb_aald5 143 1 rfl rfl (wy_pr rfl) wt_143 (by rw [show _ = _ from ((w_up_slot (by decide)).trans ((w_up_slot (by decide)).trans ((w_up_slot (by decide)).trans ((cl_143 hC)))))]; omega) wl_143_1 ?_
  refine wa_iload (n := 4) rfl ?_
  refine wa_iload_n (n := 2) rfl ?_
  refine wa_iconst ?_
  refine wa_icmpne (w_rg0 (by omega) (by omega)) (w_rg0 (by omega) (by omega)) ⟨_, rfl⟩ (fun c2 => ?_) (fun c2 => ?_)
  · skip
    exact absurd c2 (by omega)
  · skip
    refine wa_iconst ?_
    refine wa_goto ⟨_, rfl⟩ ?_
    refine wb_iast 145 rfl (wy_pr rfl) wt_145 (n := (S 144 (-1))) ((w_up_slot (by decide)).trans ((w_up_slot (by decide)).trans ((w_up_slot (by decide)).trans ((hl 1 (by decide)))))) (by omega) (by omega) ⟨(by omega), (by omega)⟩ ?_
    refine wa_iload_n (n := 2) rfl ?_
    refine wa_iconst ?_
    refine wa_icmpeq (w_rg0 (by omega) (by omega)) (w_rg0 (by omega) (by omega)) ⟨_, rfl⟩ (fun c3 => ?_) (fun c3 => ?_)
    · skip
      refine wa_aload_n (n := 0) rfl ?_
      refine wa_dup (by decide) ?_
      refine wb_gfi 72 rfl (wy_pr rfl) wt_72 wf_2_8 (v := m) ((w_up_slot (by decide)).trans ((w_up_slot (by decide)).trans ((w_up_slot (by decide)).trans ((w_up_slot (by decide)).trans (h8))))) (fun r4 => ?_)
      refine wa_iconst ?_
      refine wa_iadd ?_
      refine wb_pfi 72 rfl (wy_pr rfl) wt_72 wf_2_8 (n := 8) rfl ⟨(by omega), (by omega)⟩ ?_
      refine wa_iload (n := 4) rfl ?_
      refine wa_ireturn rfl ?_
      exact ⟨rfl, rfl⟩
    · skip
      exact absurd c3 (by omega)
theorem as_n {pr be nm : Int} (hl : ∀ x : Nat, x < 5 → S (144 + x) (-1) = S 144 (-1)) (hC : w_CL S) (hm : 0 ≤ m ∧ m ≤ S 144 (-1)) (hz : S 144 (-1) ≤ 1000000) (h8 : S 72 8 = m) (hm2 : m < S 144 (-1)) (hpr : -2147483648 ≤ pr ∧ pr ≤ 2147483647) (hbe : 0 ≤ be ∧ be < m ∧ m ≤ 100000) (hbs : 0 ≤ S 145 be ∧ S 145 be ≤ 100000) (hnm : 0 ≤ nm ∧ nm ≤ 100000) : wJ (pe_GA xs) wY0 M (d + 1) t_XH_addShape ((pe_at t_XH_addShape.bl 0).getD (0, [])).2 [(0, (2, 72)), (1, (0, pr)), (2, (0, be)), (3, (0, nm))] [] S (fun o Z => o = .inl (some (0, m)) ∧ (w_up (w_up (w_up (w_up (w_up (w_up (w_up S 144 m pr) 146 m nm) 147 m be) 145 m (S 145 be + 1)) 148 m (S 149 (hsH be nm))) 149 (hsH be nm) (m + 1)) 72 8 (m + 1)) = Z) := by
  have hr := hsH_rg be nm
  refine wa_aload_n (n := 0) rfl ?_
  refine wb_gfi 72 rfl (wy_pr rfl) wt_72 wf_2_8 (v := m) (h8) (fun r1 => ?_)
  refine wa_istore (n := 4) rfl ?_
  refine wa_aload_n (n := 0) rfl ?_
  refine wb_gf4 72 rfl (wy_pr rfl) wt_72 wf_2_7 (v := 143) wl_72_7 ?_
  refine wa_iconst ?_
  refine wb_aald5 143 0 rfl rfl (wy_pr rfl) wt_143 (by rw [show _ = _ from ((cl_143 hC))]; omega) wl_143_0 ?_
  refine wa_iload (n := 4) rfl ?_
  refine wa_iload_n (n := 1) rfl ?_
  refine wb_iast 144 rfl (wy_pr rfl) wt_144 (n := (S 144 (-1))) (rfl) (by omega) (by omega) ⟨(by omega), (by omega)⟩ ?_
  refine wa_aload_n (n := 0) rfl ?_
  refine wb_gf4 72 rfl (wy_pr rfl) wt_72 wf_2_7 (v := 143) wl_72_7 ?_
  refine wa_iconst ?_
  refine wb_aald5 143 2 rfl rfl (wy_pr rfl) wt_143 (by rw [show _ = _ from ((w_up_slot (by decide)).trans ((cl_143 hC)))]; omega) wl_143_2 ?_
  refine wa_iload (n := 4) rfl ?_
  refine wa_iload_n (n := 3) rfl ?_
  refine wb_iast 146 rfl (wy_pr rfl) wt_146 (n := (S 144 (-1))) ((w_up_slot (by decide)).trans ((hl 2 (by decide)))) (by omega) (by omega) ⟨(by omega), (by omega)⟩ ?_
  refine wa_aload_n (n := 0) rfl ?_
  refine wb_gf4 72 rfl (wy_pr rfl) wt_72 wf_2_7 (v := 143) wl_72_7 ?_
  refine wa_iconst ?_
  refine wb_aald5 143 3 rfl rfl (wy_pr rfl) wt_143 (by rw [show _ = _ from ((w_up_slot (by decide)).trans ((w_up_slot (by decide)).trans ((cl_143 hC))))]; omega) wl_143_3 ?_
  refine wa_iload (n := 4) rfl ?_
  refine wa_iload_n (n := 2) rfl ?_
  refine wb_iast 147 rfl (wy_pr rfl) wt_147 (n := (S 144 (-1))) ((w_up_slot (by decide)).trans ((w_up_slot (by decide)).trans ((hl 3 (by decide))))) (by omega) (by omega) ⟨(by omega), (by omega)⟩ ?_
  refine wa_aload_n (n := 0) rfl ?_
  refine wb_gf4 72 rfl (wy_pr rfl) wt_72 wf_2_7 (v := 143) wl_72_7 ?_
  refine wa_iconst ?_
  refine wb_aald5 143 1 rfl rfl (wy_pr rfl) wt_143 (by rw [show _ = _ from ((w_up_slot (by decide)).trans ((w_up_slot (by decide)).trans ((w_up_slot (by decide)).trans ((cl_143 hC)))))]; omega) wl_143_1 ?_
  refine wa_iload (n := 4) rfl ?_
  refine wa_iload_n (n := 2) rfl ?_
  refine wa_iconst ?_
  refine wa_icmpne (w_rg0 (by omega) (by omega)) (w_rg0 (by omega) (by omega)) ⟨_, rfl⟩ (fun c2 => ?_) (fun c2 => ?_)
  · skip
    refine wa_aload_n (n := 0) rfl ?_
    refine wb_gf4 72 rfl (wy_pr rfl) wt_72 wf_2_7 (v := 143) wl_72_7 ?_
    refine wa_iconst ?_
    refine wb_aald5 143 1 rfl rfl (wy_pr rfl) wt_143 (by rw [show _ = _ from ((w_up_slot (by decide)).trans ((w_up_slot (by decide)).trans ((w_up_slot (by decide)).trans ((cl_143 hC)))))]; omega) wl_143_1 ?_
    refine wa_iload_n (n := 2) rfl ?_
    refine wb_iald 145 rfl (wy_pr rfl) wt_145 (n := (S 144 (-1))) ((w_up_slot (by decide)).trans ((w_up_slot (by decide)).trans ((w_up_slot (by decide)).trans ((hl 1 (by decide)))))) (by omega) (by omega) (v := (S 145 be)) ((w_up_slot (by decide)).trans ((w_up_slot (by decide)).trans (w_up_slot (by decide)))) (fun r3 => ?_)
    refine wa_iconst ?_
    refine wa_iadd ?_
    refine wa_fall ⟨_, rfl⟩ ?_
    refine wb_iast 145 rfl (wy_pr rfl) wt_145 (n := (S 144 (-1))) ((w_up_slot (by decide)).trans ((w_up_slot (by decide)).trans ((w_up_slot (by decide)).trans ((hl 1 (by decide)))))) (by omega) (by omega) ⟨(by omega), (by omega)⟩ ?_
    refine wa_iload_n (n := 2) rfl ?_
    refine wa_iconst ?_
    refine wa_icmpeq (w_rg0 (by omega) (by omega)) (w_rg0 (by omega) (by omega)) ⟨_, rfl⟩ (fun c4 => ?_) (fun c4 => ?_)
    · skip
      exact absurd c4 (by omega)
    · skip
      refine wa_iload_n (n := 2) rfl ?_
      refine wa_iload_n (n := 3) rfl ?_
      refine wa_cs (M2 := fun _ => False) rfl at_XH_shapeHead ⟨_, rfl⟩ rfl rfl ⟨trivial, (Or.inr ⟨wy_pr rfl, fun q => q⟩), trivial, trivial, trivial, trivial⟩ trivial (fun _ _ q => False.elim q) ?_ (fun _ _ _ q => q)
      refine wa_iload_n (n := 0) rfl ?_
      refine wa_sipush (by omega) ?_
      refine wa_imul ?_
      refine wa_iload_n (n := 1) rfl ?_
      refine wa_iadd ?_
      refine wa_istore_n (n := 2) rfl ?_
      refine wa_iload_n (n := 2) rfl ?_
      refine wa_iload_n (n := 2) rfl ?_
      refine wa_bipush (w_rg2 (by omega) (by omega)) ?_
      refine wa_iushr ?_
      refine wa_ixor ?_
      refine wa_sipush (by omega) ?_
      refine wa_iand ?_
      refine wa_ireturn rfl ?_
      show wJ _ _ _ _ _ _ _ _ _ _
      show wJ _ _ _ _ _ _ _ ((0, hsH be nm) :: _) _ _
      refine wa_istore (n := 5) rfl ?_
      refine wa_aload_n (n := 0) rfl ?_
      refine wb_gf4 72 rfl (wy_pr rfl) wt_72 wf_2_7 (v := 143) wl_72_7 ?_
      refine wa_iconst ?_
      refine wb_aald5 143 4 rfl rfl (wy_pr rfl) wt_143 (by rw [show _ = _ from ((w_up_slot (by decide)).trans ((w_up_slot (by decide)).trans ((w_up_slot (by decide)).trans ((w_up_slot (by decide)).trans ((cl_143 hC))))))]; omega) wl_143_4 ?_
      refine wa_iload (n := 4) rfl ?_
      refine wa_aload_n (n := 0) rfl ?_
      refine wb_gf4 72 rfl (wy_pr rfl) wt_72 wf_2_9 (v := 149) wl_72_9 ?_
      refine wa_iload (n := 5) rfl ?_
      refine wb_iald 149 rfl (wy_pr rfl) wt_149 (n := 1024) ((w_up_slot (by decide)).trans ((w_up_slot (by decide)).trans ((w_up_slot (by decide)).trans ((w_up_slot (by decide)).trans ((cl_149 hC)))))) (by omega) (by omega) (v := (S 149 (hsH be nm))) ((w_up_slot (by decide)).trans ((w_up_slot (by decide)).trans ((w_up_slot (by decide)).trans (w_up_slot (by decide))))) (fun r5 => ?_)
      refine wb_iast 148 rfl (wy_pr rfl) wt_148 (n := (S 144 (-1))) ((w_up_slot (by decide)).trans ((w_up_slot (by decide)).trans ((w_up_slot (by decide)).trans ((w_up_slot (by decide)).trans ((hl 4 (by decide))))))) (by omega) (by omega) ⟨(by omega), (by omega)⟩ ?_
      refine wa_aload_n (n := 0) rfl ?_
      refine wb_gf4 72 rfl (wy_pr rfl) wt_72 wf_2_9 (v := 149) wl_72_9 ?_
      refine wa_iload (n := 5) rfl ?_
      refine wa_iload (n := 4) rfl ?_
      refine wa_iconst ?_
      refine wa_iadd ?_
      refine wb_iast 149 rfl (wy_pr rfl) wt_149 (n := 1024) ((w_up_slot (by decide)).trans ((w_up_slot (by decide)).trans ((w_up_slot (by decide)).trans ((w_up_slot (by decide)).trans ((w_up_slot (by decide)).trans ((cl_149 hC))))))) (by omega) (by omega) ⟨(by omega), (by omega)⟩ ?_
      refine wa_fall ⟨_, rfl⟩ ?_
      refine wa_aload_n (n := 0) rfl ?_
      refine wa_dup (by decide) ?_
      refine wb_gfi 72 rfl (wy_pr rfl) wt_72 wf_2_8 (v := m) ((w_up_slot (by decide)).trans ((w_up_slot (by decide)).trans ((w_up_slot (by decide)).trans ((w_up_slot (by decide)).trans ((w_up_slot (by decide)).trans ((w_up_slot (by decide)).trans (h8))))))) (fun r6 => ?_)
      refine wa_iconst ?_
      refine wa_iadd ?_
      refine wb_pfi 72 rfl (wy_pr rfl) wt_72 wf_2_8 (n := 8) rfl ⟨(by omega), (by omega)⟩ ?_
      refine wa_iload (n := 4) rfl ?_
      refine wa_ireturn rfl ?_
      exact ⟨rfl, rfl⟩
  · skip
    exfalso; omega
end We9
