/-! PART e8: the class's shapes: indexIn, holderOf, isStale, shapeBehind. -/
section We8
variable {xs : List (Nat × List Int32)} {M : Nat → Prop} {d : Nat} {S Z : wS} {m n : Int}
/-- the last place of a name along a chain of shapes -/
def hIx (B N : Int → Int) (nm : Int) : Nat → Int → Int
  | 0, _ => -1
  | f + 1, s => if N s = nm then (f : Int) else hIx B N nm f (B s)
theorem hIx_rg {B N : Int → Int} {nm : Int} : ∀ (f : Nat) (s : Int), -1 ≤ hIx B N nm f s ∧ hIx B N nm f s < (f : Int)
  | 0, s => by show (-1 : Int) ≤ -1 ∧ (-1 : Int) < ((0 : Nat) : Int); omega
  | f + 1, s => by
    have := hIx_rg (B := B) (N := N) (nm := nm) f (B s)
    show -1 ≤ (if N s = nm then (f : Int) else hIx B N nm f (B s)) ∧ (if N s = nm then (f : Int) else hIx B N nm f (B s)) < ((f + 1 : Nat) : Int)
    split <;> omega
/-- up the prototypes to the first one that has it -/
def hUp (Pr ix : Int → Int) : Nat → Int → Int
  | 0, _ => -1
  | f + 1, u => if u = -1 then -1 else if ix u ≠ -1 then u else hUp Pr ix f (Pr u)
theorem ix_l {k nm : Int} (hl : ∀ x : Nat, x < 5 → S (144 + x) (-1) = S 144 (-1)) (hC : w_CL S) (hm : 0 ≤ m ∧ m ≤ S 144 (-1)) (hz : S 144 (-1) ≤ 1000000) (hc : hcF (S 147) (S 145) m) (hnm : -2147483648 ≤ nm ∧ nm ≤ 2147483647) : ∀ (f : Nat) (s i : Int), i = (f : Int) - 1 → (0 < f → 0 ≤ s ∧ s < m ∧ S 145 s = (f : Int)) → f ≤ 5000 → wJ (pe_GA xs) wY0 M d t_XH_indexIn ((pe_at t_XH_indexIn.bl 1).getD (0, [])).2 [(0, (2, 72)), (1, (0, k)), (2, (0, nm)), (3, (0, s)), (4, (0, i))] [] S (fun o Z => S = Z ∧ o = .inl (some (0, hIx (S 147) (S 146) nm f s))) := by
  intro f
  induction f with
  | zero =>
    intro s i h1 h2 h3
    refine wa_iload (n := 4) rfl ?_
    refine wa_iflt (w_rg0 (by omega) (by omega)) ⟨_, rfl⟩ (fun c1 => ?_) (fun c1 => ?_)
    · skip
      refine wa_iconst ?_
      refine wa_ireturn rfl ?_
      exact ⟨rfl, rfl⟩
    · skip
      exfalso; omega
  | succ f ih =>
    intro s i h1 h2 h3
    obtain ⟨s0, s1, s2⟩ := h2 (by omega)
    obtain ⟨c1, c2⟩ := hc s s0 s1
    obtain ⟨a1, a2, a3⟩ := c2 (by omega)
    refine wa_iload (n := 4) rfl ?_
    refine wa_iflt (w_rg0 (by omega) (by omega)) ⟨_, rfl⟩ (fun c1 => ?_) (fun c1 => ?_)
    · skip
      exfalso; omega
    · skip
      refine wa_aload_n (n := 0) rfl ?_
      refine wb_gf4 72 rfl (wy_pr rfl) wt_72 wf_2_7 (v := 143) wl_72_7 ?_
      refine wa_iconst ?_
      refine wb_aald5 143 2 rfl rfl (wy_pr rfl) wt_143 (by rw [show _ = _ from ((cl_143 hC))]; omega) wl_143_2 ?_
      refine wa_iload_n (n := 3) rfl ?_
      refine wb_iald 146 rfl (wy_pr rfl) wt_146 (n := (S 144 (-1))) ((hl 2 (by decide))) (by omega) (by omega) (v := (S 146 s)) rfl (fun r2 => ?_)
      refine wa_iload_n (n := 2) rfl ?_
      refine wa_icmpne (w_rg0 (by omega) (by omega)) (w_rg0 (by omega) (by omega)) ⟨_, rfl⟩ (fun c3 => ?_) (fun c3 => ?_)
      · skip
        refine wa_aload_n (n := 0) rfl ?_
        refine wb_gf4 72 rfl (wy_pr rfl) wt_72 wf_2_7 (v := 143) wl_72_7 ?_
        refine wa_iconst ?_
        refine wb_aald5 143 3 rfl rfl (wy_pr rfl) wt_143 (by rw [show _ = _ from ((cl_143 hC))]; omega) wl_143_3 ?_
        refine wa_iload_n (n := 3) rfl ?_
        refine wb_iald 147 rfl (wy_pr rfl) wt_147 (n := (S 144 (-1))) ((hl 3 (by decide))) (by omega) (by omega) (v := (S 147 s)) rfl (fun r4 => ?_)
        refine wa_istore_n (n := 3) rfl ?_
        refine wa_iinc rfl rfl ?_
        refine wa_goto ⟨_, rfl⟩ ?_
        have e : hIx (S 147) (S 146) nm (f + 1) s = hIx (S 147) (S 146) nm f (S 147 s) := if_neg (by omega)
        rw [e]
        exact wJ_S (ih (S 147 s) (i - 1) (by omega) (fun _ => ⟨a1, by omega, by omega⟩) (by omega)) ⟨rfl, rfl, rfl, rfl, rfl, trivial⟩
      · skip
        refine wa_iload (n := 4) rfl ?_
        refine wa_ireturn rfl ?_
        have e : hIx (S 147) (S 146) nm (f + 1) s = (f : Int) := if_pos (by omega)
        rw [e]
        exact ⟨rfl, by rw [show i = (f : Int) by omega]⟩
theorem ix_ok {k nm : Int} (hl : ∀ x : Nat, x < 5 → S (144 + x) (-1) = S 144 (-1)) (hC : w_CL S) (hm : 0 ≤ m ∧ m ≤ S 144 (-1)) (hz : S 144 (-1) ≤ 1000000) (hc : hcF (S 147) (S 145) m) (hk : 0 ≤ k ∧ k < m) (hnm : -2147483648 ≤ nm ∧ nm ≤ 2147483647) : wJ (pe_GA xs) wY0 M d t_XH_indexIn ((pe_at t_XH_indexIn.bl 0).getD (0, [])).2 [(0, (2, 72)), (1, (0, k)), (2, (0, nm))] [] S (fun o Z => S = Z ∧ o = .inl (some (0, hIx (S 147) (S 146) nm (S 145 k).toNat k))) := by
  have c1 := (hc k hk.1 hk.2).1
  refine wa_iload_n (n := 1) rfl ?_
  refine wa_istore_n (n := 3) rfl ?_
  refine wa_aload_n (n := 0) rfl ?_
  refine wb_gf4 72 rfl (wy_pr rfl) wt_72 wf_2_7 (v := 143) wl_72_7 ?_
  refine wa_iconst ?_
  refine wb_aald5 143 1 rfl rfl (wy_pr rfl) wt_143 (by rw [show _ = _ from ((cl_143 hC))]; omega) wl_143_1 ?_
  refine wa_iload_n (n := 1) rfl ?_
  refine wb_iald 145 rfl (wy_pr rfl) wt_145 (n := (S 144 (-1))) ((hl 1 (by decide))) (by omega) (by omega) (v := (S 145 k)) rfl (fun r1 => ?_)
  refine wa_iconst ?_
  refine wa_isub ?_
  refine wa_istore (n := 4) rfl ?_
  refine wa_fall ⟨_, rfl⟩ ?_
  exact wJ_S (ix_l hl hC hm hz hc hnm (S 145 k).toNat k (S 145 k - 1) (by omega) (fun _ => ⟨hk.1, hk.2, by omega⟩) (by omega)) ⟨rfl, rfl, rfl, rfl, rfl, trivial⟩
theorem ho_l {k nm : Int} {pq : Int → Prop} (hl : ∀ x : Nat, x < 5 → S (144 + x) (-1) = S 144 (-1)) (hC : w_CL S) (hm : 0 ≤ m ∧ m ≤ S 144 (-1)) (hz : S 144 (-1) ≤ 1000000) (hc : hcF (S 147) (S 145) m) (hth : ∀ x : Nat, x < 10 → S (127 + x) (-1) = S 127 (-1)) (hn : S 72 3 = n) (hn1 : 0 ≤ n ∧ n ≤ S 127 (-1)) (hn2 : S 127 (-1) ≤ 1000000) (hs : ∀ k : Int, 0 ≤ k → k < n → pq k → 0 ≤ S 128 k ∧ S 128 k < m ∧ (S 144 (S 128 k) = -1 ∨ (0 ≤ S 144 (S 128 k) ∧ S 144 (S 128 k) < n ∧ pq (S 144 (S 128 k))))) (hnm : -2147483648 ≤ nm ∧ nm ≤ 2147483647) : ∀ (f : Nat) (u i : Int), i + (f : Int) = n + 1 → 0 ≤ i → (u = -1 ∨ (0 ≤ u ∧ u < n ∧ pq u)) → wJ (pe_GA xs) wY0 M (d + 1) t_XH_holderOf ((pe_at t_XH_holderOf.bl 1).getD (0, [])).2 [(0, (2, 72)), (1, (0, k)), (2, (0, nm)), (3, (0, u)), (4, (0, i))] [] S (fun o Z => S = Z ∧ o = .inl (some (0, hUp (fun k => S 144 (S 128 k)) (fun k => hIx (S 147) (S 146) nm (S 145 (S 128 k)).toNat (S 128 k)) f u))) := by
  intro f
  induction f with
  | zero =>
    intro u i h1 h2 h3
    refine wa_iload (n := 4) rfl ?_
    refine wa_aload_n (n := 0) rfl ?_
    refine wb_gfi 72 rfl (wy_pr rfl) wt_72 wf_2_3 (v := n) (hn) (fun r101 => ?_)
    refine wa_icmpgt (w_rg0 (by omega) (by omega)) (w_rg0 (by omega) (by omega)) ⟨_, rfl⟩ (fun c102 => ?_) (fun c102 => ?_)
    · skip
      refine wa_iconst ?_
      refine wa_ireturn rfl ?_
      exact ⟨rfl, rfl⟩
    · skip
      exfalso; omega
  | succ f ih =>
    intro u i h1 h2 h3
    refine wa_iload (n := 4) rfl ?_
    refine wa_aload_n (n := 0) rfl ?_
    refine wb_gfi 72 rfl (wy_pr rfl) wt_72 wf_2_3 (v := n) (hn) (fun r101 => ?_)
    refine wa_icmpgt (w_rg0 (by omega) (by omega)) (w_rg0 (by omega) (by omega)) ⟨_, rfl⟩ (fun c102 => ?_) (fun c102 => ?_)
    · skip
      exfalso; omega
    · skip
      refine wa_iload_n (n := 3) rfl ?_
      refine wa_iconst ?_
      refine wa_icmpeq (w_rg0 (by omega) (by omega)) (w_rg0 (by omega) (by omega)) ⟨_, rfl⟩ (fun c103 => ?_) (fun c103 => ?_)
      · skip
        refine wa_iconst ?_
        refine wa_ireturn rfl ?_
        have e : hUp (fun k => S 144 (S 128 k)) (fun k => hIx (S 147) (S 146) nm (S 145 (S 128 k)).toNat (S 128 k)) (f + 1) u = -1 := if_pos (by omega)
        rw [e]
        exact ⟨rfl, rfl⟩
      · skip
        have hu1 : 0 ≤ u ∧ u < n ∧ pq u := by rcases h3 with h3 | h3; exact absurd h3 (by omega); exact h3
        have hu2 := hs u hu1.1 hu1.2.1 hu1.2.2
        obtain ⟨hu3, hu4, -⟩ := hu1
        refine wa_aload_n (n := 0) rfl ?_
        refine wa_aload_n (n := 0) rfl ?_
        refine wb_gf4 72 rfl (wy_pr rfl) wt_72 wf_2_2 (v := 126) wl_72_2 ?_
        refine wa_iconst ?_
        refine wb_aald5 126 1 rfl rfl (wy_pr rfl) wt_126 (by rw [show _ = _ from ((cl_126 hC))]; omega) wl_126_1 ?_
        refine wa_iload_n (n := 3) rfl ?_
        refine wb_iald 128 rfl (wy_pr rfl) wt_128 (n := (S 127 (-1))) ((hth 1 (by decide))) (by omega) (by omega) (v := (S 128 u)) rfl (fun r104 => ?_)
        refine wa_iload_n (n := 2) rfl ?_
        refine wa_cv 72 rfl (wy_pr rfl) wt_72 (M2 := fun _ => False) rfl at_XH_indexIn ⟨_, rfl⟩ rfl rfl ⟨(Or.inr ⟨wy_pr rfl, fun q => q⟩), trivial, trivial, trivial, trivial, trivial⟩ trivial (fun _ _ q => False.elim q) (ix_ok hl hC hm hz hc ⟨hu2.1, hu2.2.1⟩ hnm) (fun oq105 Sq105 hp106 q105 => ?_)
        rcases q105 with ⟨rfl, rfl⟩
        show wJ _ _ _ _ _ _ _ _ _ _
        have hvr := hIx_rg (B := S 147) (N := S 146) (nm := nm) (S 145 (S 128 u)).toNat (S 128 u)
        have hvs := (hc (S 128 u) hu2.1 hu2.2.1).1
        refine wa_iconst ?_
        refine wa_icmpeq (w_rg0 (by omega) (by omega)) (w_rg0 (by omega) (by omega)) ⟨_, rfl⟩ (fun c107 => ?_) (fun c107 => ?_)
        · skip
          refine wa_aload_n (n := 0) rfl ?_
          refine wa_iload_n (n := 3) rfl ?_
          refine wa_cv 72 rfl (wy_pr rfl) wt_72 (M2 := fun _ => False) rfl at_XH_protoOf ⟨_, rfl⟩ rfl rfl ⟨(Or.inr ⟨wy_pr rfl, fun q => q⟩), trivial, trivial, trivial, trivial, trivial⟩ trivial (fun _ _ q => False.elim q) ?_ (fun _ _ _ q => q)
          refine wa_aload_n (n := 0) rfl ?_
          refine wb_gf4 72 rfl (wy_pr rfl) wt_72 wf_2_7 (v := 143) wl_72_7 ?_
          refine wa_iconst ?_
          refine wb_aald5 143 0 rfl rfl (wy_pr rfl) wt_143 (by rw [show _ = _ from ((cl_143 hC))]; omega) wl_143_0 ?_
          refine wa_aload_n (n := 0) rfl ?_
          refine wb_gf4 72 rfl (wy_pr rfl) wt_72 wf_2_2 (v := 126) wl_72_2 ?_
          refine wa_iconst ?_
          refine wb_aald5 126 1 rfl rfl (wy_pr rfl) wt_126 (by rw [show _ = _ from ((cl_126 hC))]; omega) wl_126_1 ?_
          refine wa_iload_n (n := 1) rfl ?_
          refine wb_iald 128 rfl (wy_pr rfl) wt_128 (n := (S 127 (-1))) ((hth 1 (by decide))) (by omega) (by omega) (v := (S 128 u)) rfl (fun r108 => ?_)
          refine wb_iald 144 rfl (wy_pr rfl) wt_144 (n := (S 144 (-1))) (rfl) (by omega) (by omega) (v := (S 144 (S 128 u))) rfl (fun r109 => ?_)
          refine wa_ireturn rfl ?_
          show wJ _ _ _ _ _ _ _ _ _ _
          refine wa_istore_n (n := 3) rfl ?_
          refine wa_iinc rfl rfl ?_
          refine wa_goto ⟨_, rfl⟩ ?_
          have e : hUp (fun k => S 144 (S 128 k)) (fun k => hIx (S 147) (S 146) nm (S 145 (S 128 k)).toNat (S 128 k)) (f + 1) u = hUp (fun k => S 144 (S 128 k)) (fun k => hIx (S 147) (S 146) nm (S 145 (S 128 k)).toNat (S 128 k)) f (S 144 (S 128 u)) := (if_neg (by omega)).trans (if_neg (by show ¬ (hIx (S 147) (S 146) nm (S 145 (S 128 u)).toNat (S 128 u) ≠ -1); omega))
          rw [e]
          exact wJ_S (ih (S 144 (S 128 u)) (i + 1) (by omega) (by omega) hu2.2.2) ⟨rfl, rfl, rfl, rfl, rfl, trivial⟩
        · skip
          refine wa_iload_n (n := 3) rfl ?_
          refine wa_ireturn rfl ?_
          have e : hUp (fun k => S 144 (S 128 k)) (fun k => hIx (S 147) (S 146) nm (S 145 (S 128 k)).toNat (S 128 k)) (f + 1) u = u := (if_neg (by omega)).trans (if_pos (by show hIx (S 147) (S 146) nm (S 145 (S 128 u)).toNat (S 128 u) ≠ -1; omega))
          rw [e]
          exact ⟨rfl, rfl⟩
theorem ho_ok {k nm : Int} {pq : Int → Prop} (hl : ∀ x : Nat, x < 5 → S (144 + x) (-1) = S 144 (-1)) (hC : w_CL S) (hm : 0 ≤ m ∧ m ≤ S 144 (-1)) (hz : S 144 (-1) ≤ 1000000) (hc : hcF (S 147) (S 145) m) (hth : ∀ x : Nat, x < 10 → S (127 + x) (-1) = S 127 (-1)) (hn : S 72 3 = n) (hn1 : 0 ≤ n ∧ n ≤ S 127 (-1)) (hn2 : S 127 (-1) ≤ 1000000) (hs : ∀ k : Int, 0 ≤ k → k < n → pq k → 0 ≤ S 128 k ∧ S 128 k < m ∧ (S 144 (S 128 k) = -1 ∨ (0 ≤ S 144 (S 128 k) ∧ S 144 (S 128 k) < n ∧ pq (S 144 (S 128 k))))) (hnm : -2147483648 ≤ nm ∧ nm ≤ 2147483647) (hk : 0 ≤ k ∧ k < n ∧ pq k) : wJ (pe_GA xs) wY0 M (d + 1) t_XH_holderOf ((pe_at t_XH_holderOf.bl 0).getD (0, [])).2 [(0, (2, 72)), (1, (0, k)), (2, (0, nm))] [] S (fun o Z => S = Z ∧ o = .inl (some (0, hUp (fun k => S 144 (S 128 k)) (fun k => hIx (S 147) (S 146) nm (S 145 (S 128 k)).toNat (S 128 k)) (n.toNat + 1) k))) := by
  obtain ⟨hk0, hk1, -⟩ := id hk
  refine wa_iload_n (n := 1) rfl ?_
  refine wa_istore_n (n := 3) rfl ?_
  refine wa_iconst ?_
  refine wa_istore (n := 4) rfl ?_
  refine wa_fall ⟨_, rfl⟩ ?_
  exact wJ_S (ho_l hl hC hm hz hc hth hn hn1 hn2 hs hnm (n.toNat + 1) k 0 (by omega) (by omega) (Or.inr hk)) ⟨rfl, rfl, rfl, rfl, rfl, trivial⟩
end We8
