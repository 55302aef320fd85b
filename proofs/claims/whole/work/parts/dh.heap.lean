/-! PART dh: shapes, things, calls as both have them; output, trace. -/
section Wdh
variable {xs : List (Nat × List Int32)} {M : Nat → Prop} {d : Nat} {S Z : wS}
/-- a shape: prototype, the one ahead of it, name, how many names -/
abbrev aH : Type := Int × Int × Int × Int
/-- a thing: kind, shape, of (function, class), around, epoch (-1: none asks), when it changed, its properties (name, value) -/
abbrev aO : Type := Int × Int × Int × Int × Int × Int × List (Int × aV)
/-- a call: around, variables -/
abbrev aC : Type := Int × List aV
/-- shapes of both -/
def cHs (S : wS) (L : List aH) : Prop := S 72 8 = (L.length : Int) ∧ 0 < L.length ∧ ∀ k : Nat, k < L.length → S 144 k = (L.getD k (0, 0, 0, 0)).1 ∧ S 147 k = (L.getD k (0, 0, 0, 0)).2.1 ∧ S 146 k = (L.getD k (0, 0, 0, 0)).2.2.1 ∧ S 145 k = (L.getD k (0, 0, 0, 0)).2.2.2
def rHs (S : wS) (L : List aH) : Prop := S 237 87 = (L.length : Int) ∧ ∀ k : Nat, k < L.length → S 329 k = (L.getD k (0, 0, 0, 0)).1 ∧ S 330 k = (L.getD k (0, 0, 0, 0)).2.1 ∧ S 331 k = (L.getD k (0, 0, 0, 0)).2.2.1 ∧ S 332 k = (L.getD k (0, 0, 0, 0)).2.2.2
/-- shapes as such: the first is bare; each other one is bare of a prototype, or has one name more than one ahead of it; none is there twice -/
def wHs (L : List aH) (n : Int) : Prop := L.getD 0 (0, 0, 0, 0) = (-1, -1, -1, 0) ∧ (L.length : Int) ≤ 4001 ∧ (∀ k : Nat, 0 < k → k < L.length → ((L.getD k (0, 0, 0, 0)).2.1 = -1 ∧ (L.getD k (0, 0, 0, 0)).2.2.1 = -1 ∧ (L.getD k (0, 0, 0, 0)).2.2.2 = 0 ∧ 0 ≤ (L.getD k (0, 0, 0, 0)).1 ∧ (L.getD k (0, 0, 0, 0)).1 < n) ∨ (0 ≤ (L.getD k (0, 0, 0, 0)).2.1 ∧ (L.getD k (0, 0, 0, 0)).2.1 < (k : Int) ∧ 0 ≤ (L.getD k (0, 0, 0, 0)).2.2.1 ∧ (L.getD k (0, 0, 0, 0)).1 = (L.getD (L.getD k (0, 0, 0, 0)).2.1.toNat (0, 0, 0, 0)).1 ∧ (L.getD k (0, 0, 0, 0)).2.2.2 = (L.getD (L.getD k (0, 0, 0, 0)).2.1.toNat (0, 0, 0, 0)).2.2.2 + 1)) ∧ ∀ k q : Nat, k < L.length → q < L.length → (L.getD k (0, 0, 0, 0)).1 = (L.getD q (0, 0, 0, 0)).1 → (L.getD k (0, 0, 0, 0)).2.1 = (L.getD q (0, 0, 0, 0)).2.1 → (L.getD k (0, 0, 0, 0)).2.2.1 = (L.getD q (0, 0, 0, 0)).2.2.1 → k = q
/-- things of the class: their values lie among the cells -/
def cTh (S : wS) (T : List aO) : Prop := S 72 3 = (T.length : Int) ∧ ∀ k : Nat, k < T.length → (S 127 k = (T.getD k (0, 0, 0, 0, 0, 0, [])).1 ∧ S 128 k = (T.getD k (0, 0, 0, 0, 0, 0, [])).2.1 ∧ S 129 k = (T.getD k (0, 0, 0, 0, 0, 0, [])).2.2.1 ∧ S 136 k = (T.getD k (0, 0, 0, 0, 0, 0, [])).2.2.2.1 ∧ S 130 k = (T.getD k (0, 0, 0, 0, 0, 0, [])).2.2.2.2.1 ∧ S 131 k = (T.getD k (0, 0, 0, 0, 0, 0, [])).2.2.2.2.2.1) ∧ (S 134 k = ((T.getD k (0, 0, 0, 0, 0, 0, [])).2.2.2.2.2.2.length : Int) ∧ S 134 k ≤ S 135 k ∧ 0 ≤ S 133 k ∧ S 133 k + S 135 k ≤ S 140 2) ∧ cR1 S 141 142 (S 133 k) ((T.getD k (0, 0, 0, 0, 0, 0, [])).2.2.2.2.2.2.map (fun x => x.2))
/-- things of the reference: sl are the slots of each -/
def rTh (S : wS) (sl : Nat → List Int) (T : List aO) : Prop := S 237 68 = (T.length : Int) ∧ ∀ k : Nat, k < T.length → (S 314 k = (T.getD k (0, 0, 0, 0, 0, 0, [])).1 ∧ S 315 k = (T.getD k (0, 0, 0, 0, 0, 0, [])).2.1 ∧ S 319 k = (if (T.getD k (0, 0, 0, 0, 0, 0, [])).1 = 5 then (T.getD k (0, 0, 0, 0, 0, 0, [])).2.2.1 else -1) ∧ S 321 k = (if (T.getD k (0, 0, 0, 0, 0, 0, [])).1 = 7 then (T.getD k (0, 0, 0, 0, 0, 0, [])).2.2.1 else -1) ∧ S 320 k = (T.getD k (0, 0, 0, 0, 0, 0, [])).2.2.2.1 ∧ S 322 k = (if (T.getD k (0, 0, 0, 0, 0, 0, [])).2.2.2.2.1 = -1 then 0 else 1) ∧ ((T.getD k (0, 0, 0, 0, 0, 0, [])).2.2.2.2.1 ≠ -1 → S 323 k = (T.getD k (0, 0, 0, 0, 0, 0, [])).2.2.2.2.1) ∧ S 324 k = (T.getD k (0, 0, 0, 0, 0, 0, [])).2.2.2.2.2.1) ∧ (S 317 k = ((T.getD k (0, 0, 0, 0, 0, 0, [])).2.2.2.2.2.2.length : Int) ∧ (sl k).length = (T.getD k (0, 0, 0, 0, 0, 0, [])).2.2.2.2.2.2.length) ∧ (0 < (sl k).length → S 316 k = (sl k).getD 0 0 ∧ S 318 k = (sl k).getD ((sl k).length - 1) 0) ∧ (∀ i : Nat, i < (sl k).length → (0 ≤ (sl k).getD i 0 ∧ (sl k).getD i 0 < S 237 82) ∧ S 327 ((sl k).getD i 0) = ((T.getD k (0, 0, 0, 0, 0, 0, [])).2.2.2.2.2.2.getD i (0, (0, 0, []))).1 ∧ rVl S (S 325 ((sl k).getD i 0)) (S 326 ((sl k).getD i 0)) ((T.getD k (0, 0, 0, 0, 0, 0, [])).2.2.2.2.2.2.getD i (0, (0, 0, []))).2 ∧ (i + 1 < (sl k).length → S 328 ((sl k).getD i 0) = (sl k).getD (i + 1) 0)) ∧ ∀ q i j : Nat, q < T.length → i < (sl k).length → j < (sl q).length → (sl k).getD i 0 = (sl q).getD j 0 → k = q ∧ i = j
/-- calls of both -/
def cCa (S : wS) (L : List aC) : Prop := S 72 5 = (L.length : Int) ∧ ∀ k : Nat, k < L.length → S 139 k = (L.getD k (0, [])).1 ∧ (0 ≤ S 138 k ∧ S 138 k + ((L.getD k (0, [])).2.length : Int) ≤ S 140 2) ∧ cR1 S 141 142 (S 138 k) (L.getD k (0, [])).2
def rCa (S : wS) (L : List aC) : Prop := S 237 69 = (L.length : Int) ∧ ∀ k : Nat, k < L.length → S 333 k = (L.getD k (0, [])).1 ∧ (0 ≤ S 334 k ∧ S 334 k + ((L.getD k (0, [])).2.length : Int) ≤ S 237 94) ∧ rR1 S 335 336 (S 334 k) (L.getD k (0, [])).2
/-- the class's cells of things and calls lie apart -/
def cAp (S : wS) (n : Nat) (L : List aC) : Prop := (∀ k q : Nat, k < n → q < n → k ≠ q → S 135 k = 0 ∨ S 135 q = 0 ∨ S 133 k + S 135 k ≤ S 133 q ∨ S 133 q + S 135 q ≤ S 133 k) ∧ (∀ k q : Nat, k < n → q < L.length → S 135 k = 0 ∨ (L.getD q (0, [])).2 = [] ∨ S 133 k + S 135 k ≤ S 138 q ∨ S 138 q + ((L.getD q (0, [])).2.length : Int) ≤ S 133 k) ∧ (∀ k q : Nat, k < L.length → q < L.length → k ≠ q → (L.getD k (0, [])).2 = [] ∨ (L.getD q (0, [])).2 = [] ∨ S 138 k + ((L.getD k (0, [])).2.length : Int) ≤ S 138 q ∨ S 138 q + ((L.getD q (0, [])).2.length : Int) ≤ S 138 k)
/-- a list of numbers that are told one by one -/
def ls_v (l : List Int) (i : Int) : Int := if 0 ≤ i ∧ i < (l.length : Int) then l.getD i.toNat 0 else -1
theorem ls_e {l : List Int} {i : Int} {f : Int → Int} (h : ∀ k : Nat, k < l.length → f k = l.getD k 0) (hi : 0 ≤ i ∧ i < (l.length : Int)) : f i = ls_v l i := by
  unfold ls_v
  rw [if_pos hi]
  have := h i.toNat (by omega)
  rw [show ((i.toNat : Nat) : Int) = i by omega] at this
  exact this
theorem ls_n {l : List Int} {i : Int} (hi : ¬ (0 ≤ i ∧ i < (l.length : Int))) : -1 = ls_v l i := by
  unfold ls_v
  rw [if_neg hi]
theorem xou {i : Int} {l : List Int} (h1 : S 72 13 = (l.length : Int)) (h2 : (l.length : Int) ≤ S 151 (-1)) (hz : S 151 (-1) ≤ 1000000) (h3 : ∀ k : Nat, k < l.length → S 151 k = l.getD k 0) (hi : -2147483648 ≤ i ∧ i ≤ 2147483647) : wJ (pe_GA xs) wY0 M d t_X_output ((pe_at t_X_output.bl 0).getD (0, [])).2 [(0, (2, 0)), (1, (0, i))] [] S (fun o Z => S = Z ∧ o = .inl (some (0, ls_v l i))) := by
  refine wa_iload_n (n := 1) rfl ?_
  refine wa_iflt (w_rg0 (by omega) (by omega)) ⟨_, rfl⟩ (fun c1 => ?_) (fun c1 => ?_)
  · skip
    refine wa_iconst ?_
    refine wa_goto ⟨_, rfl⟩ ?_
    refine wa_ireturn rfl ?_
    refine ⟨rfl, congrArg (fun z => Sum.inl (some (0, z))) ?_⟩
    exact ls_n (by omega)
  · skip
    refine wa_iload_n (n := 1) rfl ?_
    refine wa_aload_n (n := 0) rfl ?_
    refine wb_gf4 0 rfl (wy_pr rfl) wt_0 wf_10_7 (v := 72) wl_0_7 ?_
    refine wb_gfi 72 rfl (wy_pr rfl) wt_72 wf_2_13 (v := (l.length : Int)) (h1) (fun r2 => ?_)
    refine wa_icmplt (w_rg0 (by omega) (by omega)) (w_rg0 (by omega) (by omega)) ⟨_, rfl⟩ (fun c3 => ?_) (fun c3 => ?_)
    · skip
      refine wa_aload_n (n := 0) rfl ?_
      refine wb_gf4 0 rfl (wy_pr rfl) wt_0 wf_10_7 (v := 72) wl_0_7 ?_
      refine wb_gf4 72 rfl (wy_pr rfl) wt_72 wf_2_12 (v := 151) wl_72_12 ?_
      refine wa_iload_n (n := 1) rfl ?_
      refine wb_bald 151 rfl (wy_pr rfl) wt_151 (n := (S 151 (-1))) (rfl) (by omega) (by omega) (v := (S 151 i)) rfl (fun r4 => ?_)
      refine wa_fall ⟨_, rfl⟩ ?_
      refine wa_ireturn rfl ?_
      refine ⟨rfl, congrArg (fun z => Sum.inl (some (0, z))) ?_⟩
      exact ls_e (f := S 151) h3 (by omega)
    · skip
      refine wa_fall ⟨_, rfl⟩ ?_
      refine wa_iconst ?_
      refine wa_goto ⟨_, rfl⟩ ?_
      refine wa_ireturn rfl ?_
      refine ⟨rfl, congrArg (fun z => Sum.inl (some (0, z))) ?_⟩
      exact ls_n (by omega)
theorem mou {i : Int} {l : List Int} (hM : w_ML S) (h1 : S 237 104 = (l.length : Int)) (h2 : (l.length : Int) ≤ 65536) (h3 : ∀ k : Nat, k < l.length → S 342 k = l.getD k 0) (hi : -2147483648 ≤ i ∧ i ≤ 2147483647) : wJ (pe_GA xs) wY0 M (d + 1) t_M_output ((pe_at t_M_output.bl 0).getD (0, [])).2 [(0, (2, 237)), (1, (0, i))] [] S (fun o Z => w_up S 237 0 0 = Z ∧ o = .inl (some (0, ls_v l i))) := by
  refine wa_aload_n (n := 0) rfl ?_
  refine wa_iconst ?_
  refine wb_pfi 237 rfl (wy_pr rfl) wt_237 wf_15_0 (n := 0) rfl ⟨(by omega), (by omega)⟩ ?_
  refine wa_iload_n (n := 1) rfl ?_
  refine wa_i2l (w_rg0 (by omega) (by omega)) ?_
  refine wa_lconst ?_
  refine wa_aload_n (n := 0) rfl ?_
  refine wb_gfi 237 rfl (wy_pr rfl) wt_237 wf_15_104 (v := (l.length : Int)) ((w_up_at (by decide)).trans (h1)) (fun r1 => ?_)
  refine wa_iconst ?_
  refine wa_isub ?_
  refine wa_i2l (w_rg0 (by omega) (by omega)) ?_
  refine wa_cs (M2 := fun _ => False) rfl at_M_in ⟨_, rfl⟩ rfl rfl ⟨(Or.inr ⟨wy_pr rfl, fun q => q⟩), trivial, trivial⟩ trivial (fun _ _ q => False.elim q) (in_ok (S := (w_up S 237 0 0)) (a := i) (lo := 0) (hi := ((l.length : Int) - 1)) ⟨by omega, by omega⟩ ⟨by omega, by omega⟩ ⟨by omega, by omega⟩) (fun oq3 Sq3 hp4 q3 => ?_)
  rcases q3 with ⟨rfl, ⟨rfl, hin2⟩ | ⟨rfl, hin2⟩⟩
  · skip
    show wJ _ _ _ _ _ _ _ _ _ _
    refine wa_ifeq (w_rg0 (by omega) (by omega)) ⟨_, rfl⟩ (fun c5 => ?_) (fun c5 => ?_)
    · skip
      exact absurd c5 (by omega)
    · skip
      refine wa_aload_n (n := 0) rfl ?_
      refine wb_gf4 237 rfl (wy_pr rfl) wt_237 wf_15_105 (v := 342) wl_237_105 ?_
      refine wa_iload_n (n := 1) rfl ?_
      refine wb_bald 342 rfl (wy_pr rfl) wt_342 (n := 65536) ((w_up_slot (by decide)).trans ((ml_342 hM))) (by omega) (by omega) (v := (S 342 i)) (w_up_slot (by decide)) (fun r6 => ?_)
      refine wa_goto ⟨_, rfl⟩ ?_
      refine wa_ireturn rfl ?_
      refine ⟨rfl, congrArg (fun z => Sum.inl (some (0, z))) ?_⟩
      exact ls_e (f := S 342) h3 (by omega)
  · skip
    show wJ _ _ _ _ _ _ _ _ _ _
    refine wa_ifeq (w_rg0 (by omega) (by omega)) ⟨_, rfl⟩ (fun c7 => ?_) (fun c7 => ?_)
    · skip
      refine wa_iconst ?_
      refine wa_fall ⟨_, rfl⟩ ?_
      refine wa_ireturn rfl ?_
      refine ⟨rfl, congrArg (fun z => Sum.inl (some (0, z))) ?_⟩
      exact ls_n (by omega)
    · skip
      exact absurd c7 (by omega)
theorem xtr {i : Int} {l : List Int} (h1 : S 72 15 = (l.length : Int)) (h2 : (l.length : Int) ≤ S 152 (-1)) (hz : S 152 (-1) ≤ 1000000) (h3 : ∀ k : Nat, k < l.length → S 152 k = l.getD k 0) (hi : -2147483648 ≤ i ∧ i ≤ 2147483647) : wJ (pe_GA xs) wY0 M d t_X_trace ((pe_at t_X_trace.bl 0).getD (0, [])).2 [(0, (2, 0)), (1, (0, i))] [] S (fun o Z => S = Z ∧ o = .inl (some (0, ls_v l i))) := by
  refine wa_iload_n (n := 1) rfl ?_
  refine wa_iflt (w_rg0 (by omega) (by omega)) ⟨_, rfl⟩ (fun c1 => ?_) (fun c1 => ?_)
  · skip
    refine wa_iconst ?_
    refine wa_goto ⟨_, rfl⟩ ?_
    refine wa_ireturn rfl ?_
    refine ⟨rfl, congrArg (fun z => Sum.inl (some (0, z))) ?_⟩
    exact ls_n (by omega)
  · skip
    refine wa_iload_n (n := 1) rfl ?_
    refine wa_aload_n (n := 0) rfl ?_
    refine wb_gf4 0 rfl (wy_pr rfl) wt_0 wf_10_7 (v := 72) wl_0_7 ?_
    refine wb_gfi 72 rfl (wy_pr rfl) wt_72 wf_2_15 (v := (l.length : Int)) (h1) (fun r2 => ?_)
    refine wa_icmplt (w_rg0 (by omega) (by omega)) (w_rg0 (by omega) (by omega)) ⟨_, rfl⟩ (fun c3 => ?_) (fun c3 => ?_)
    · skip
      refine wa_aload_n (n := 0) rfl ?_
      refine wb_gf4 0 rfl (wy_pr rfl) wt_0 wf_10_7 (v := 72) wl_0_7 ?_
      refine wb_gf4 72 rfl (wy_pr rfl) wt_72 wf_2_14 (v := 152) wl_72_14 ?_
      refine wa_iload_n (n := 1) rfl ?_
      refine wb_iald 152 rfl (wy_pr rfl) wt_152 (n := (S 152 (-1))) (rfl) (by omega) (by omega) (v := (S 152 i)) rfl (fun r4 => ?_)
      refine wa_fall ⟨_, rfl⟩ ?_
      refine wa_ireturn rfl ?_
      refine ⟨rfl, congrArg (fun z => Sum.inl (some (0, z))) ?_⟩
      exact ls_e (f := S 152) h3 (by omega)
    · skip
      refine wa_fall ⟨_, rfl⟩ ?_
      refine wa_iconst ?_
      refine wa_goto ⟨_, rfl⟩ ?_
      refine wa_ireturn rfl ?_
      refine ⟨rfl, congrArg (fun z => Sum.inl (some (0, z))) ?_⟩
      exact ls_n (by omega)
theorem mtr {i : Int} {l : List Int} (hM : w_ML S) (h1 : S 237 106 = (l.length : Int)) (h2 : (l.length : Int) ≤ 100000) (h3 : ∀ k : Nat, k < l.length → S 343 k = l.getD k 0) (hi : -2147483648 ≤ i ∧ i ≤ 2147483647) : wJ (pe_GA xs) wY0 M (d + 1) t_M_trace ((pe_at t_M_trace.bl 0).getD (0, [])).2 [(0, (2, 237)), (1, (0, i))] [] S (fun o Z => w_up S 237 0 0 = Z ∧ o = .inl (some (0, ls_v l i))) := by
  refine wa_aload_n (n := 0) rfl ?_
  refine wa_iconst ?_
  refine wb_pfi 237 rfl (wy_pr rfl) wt_237 wf_15_0 (n := 0) rfl ⟨(by omega), (by omega)⟩ ?_
  refine wa_iload_n (n := 1) rfl ?_
  refine wa_i2l (w_rg0 (by omega) (by omega)) ?_
  refine wa_lconst ?_
  refine wa_aload_n (n := 0) rfl ?_
  refine wb_gfi 237 rfl (wy_pr rfl) wt_237 wf_15_106 (v := (l.length : Int)) ((w_up_at (by decide)).trans (h1)) (fun r1 => ?_)
  refine wa_iconst ?_
  refine wa_isub ?_
  refine wa_i2l (w_rg0 (by omega) (by omega)) ?_
  refine wa_cs (M2 := fun _ => False) rfl at_M_in ⟨_, rfl⟩ rfl rfl ⟨(Or.inr ⟨wy_pr rfl, fun q => q⟩), trivial, trivial⟩ trivial (fun _ _ q => False.elim q) (in_ok (S := (w_up S 237 0 0)) (a := i) (lo := 0) (hi := ((l.length : Int) - 1)) ⟨by omega, by omega⟩ ⟨by omega, by omega⟩ ⟨by omega, by omega⟩) (fun oq3 Sq3 hp4 q3 => ?_)
  rcases q3 with ⟨rfl, ⟨rfl, hin2⟩ | ⟨rfl, hin2⟩⟩
  · skip
    show wJ _ _ _ _ _ _ _ _ _ _
    refine wa_ifeq (w_rg0 (by omega) (by omega)) ⟨_, rfl⟩ (fun c5 => ?_) (fun c5 => ?_)
    · skip
      exact absurd c5 (by omega)
    · skip
      refine wa_aload_n (n := 0) rfl ?_
      refine wb_gf4 237 rfl (wy_pr rfl) wt_237 wf_15_107 (v := 343) wl_237_107 ?_
      refine wa_iload_n (n := 1) rfl ?_
      refine wb_iald 343 rfl (wy_pr rfl) wt_343 (n := 100000) ((w_up_slot (by decide)).trans ((ml_343 hM))) (by omega) (by omega) (v := (S 343 i)) (w_up_slot (by decide)) (fun r6 => ?_)
      refine wa_goto ⟨_, rfl⟩ ?_
      refine wa_ireturn rfl ?_
      refine ⟨rfl, congrArg (fun z => Sum.inl (some (0, z))) ?_⟩
      exact ls_e (f := S 343) h3 (by omega)
  · skip
    show wJ _ _ _ _ _ _ _ _ _ _
    refine wa_ifeq (w_rg0 (by omega) (by omega)) ⟨_, rfl⟩ (fun c7 => ?_) (fun c7 => ?_)
    · skip
      refine wa_iconst ?_
      refine wa_fall ⟨_, rfl⟩ ?_
      refine wa_ireturn rfl ?_
      refine ⟨rfl, congrArg (fun z => Sum.inl (some (0, z))) ?_⟩
      exact ls_n (by omega)
    · skip
      exact absurd c7 (by omega)
end Wdh
