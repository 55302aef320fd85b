/-! PART 56: the reference's findName over slots. -/
section W56
def w_sub : wL → wL → Prop
  | [], _ => True
  | (i, v) :: r, L => w_lk i L = some v ∧ w_sub r L
theorem w_sub_ok {L2 L : wL} (h : w_sub L2 L) : ∀ i v, w_lk i L2 = some v → w_lk i L = some v := by
  induction L2 with
  | nil => intro i v q; cases q
  | cons a r ih =>
    obtain ⟨a, u⟩ := a
    intro i v q
    unfold w_lk at q
    cases hb : Nat.beq a i
    · rw [hb] at q; exact ih h.2 i v q
    · rw [hb] at q
      cases q
      have := Nat.eq_of_beq_eq_true hb
      subst this
      exact h.1
theorem wJ_S {G : pe_G} {Y : wY} {M : Nat → Prop} {d : Nat} {mt : pe_Mt} {is : List pe_I} {L L2 : wL} {st : List wv} {S : wS} {Q : wO → wS → Prop} (h : wJ G Y M d mt is L2 st S Q) (hs : w_sub L2 L) : wJ G Y M d mt is L st S Q := wJ_L (w_sub_ok hs) h
/-- the name k is the n signs at `at` of slot jb -/
def fn_eq (S : wS) (jb : Nat) (at0 n k : Int) : Prop := S 282 k = n ∧ ∀ i, 0 ≤ i → i < n → S 281 (60 * k + i) = S jb (at0 + i)
def fn_Q (S : wS) (jb : Nat) (at0 n : Int) (o : wO) (S2 : wS) : Prop := S2 = S ∧ ∃ r : Int, o = .inl (some (0, r)) ∧ ((0 ≤ r ∧ r < S 237 16 ∧ fn_eq S jb at0 n r ∧ ∀ k, 0 ≤ k → k < r → ¬ fn_eq S jb at0 n k) ∨ (r = -1 ∧ ∀ k, 0 ≤ k → k < S 237 16 → ¬ fn_eq S jb at0 n k))
variable {G : pe_G} {M : Nat → Prop} {d : Nat} {S : wS}
theorem fn_inner {jb : Nat} {at0 n k : Int} (hjp : w_pr wY0 S jb) (hjt : wY0.ty jb = 2) (hN : 0 ≤ S 237 16 ∧ S 237 16 ≤ 4000) (hz : S 237 16 ≤ S 282 (-1)) (hg : 60 * S 237 16 ≤ S 281 (-1)) (hn : 0 ≤ n ∧ n ≤ 60) (ha : 0 ≤ at0 ∧ at0 + n ≤ S jb (-1)) (hjl : S jb (-1) ≤ 2147483647) (hk : 0 ≤ k ∧ k < S 237 16) (hbef : ∀ q, 0 ≤ q → q < k → ¬ fn_eq S jb at0 n q) (hout : (∀ q, 0 ≤ q → q < k + 1 → ¬ fn_eq S jb at0 n q) → wJ G wY0 M d tn_67 ((pe_at tn_67.bl 1).getD (0, [])).2 [(0, (2, 237)), (1, (2, (jb : Int))), (2, (0, at0)), (3, (0, n)), (4, (0, (k + 1)))] [] S (fn_Q S jb at0 n)) : ∀ (m : Nat) (i b : Int), n - i ≤ m → 0 ≤ i → i ≤ n → (b = 0 ∨ b = 1) → (b = 1 → S 282 k = n ∧ ∀ q, 0 ≤ q → q < i → S 281 (60 * k + q) = S jb (at0 + q)) → (b = 0 → ¬ fn_eq S jb at0 n k) → wJ G wY0 M d tn_67 ((pe_at tn_67.bl 4).getD (0, [])).2 [(0, (2, 237)), (1, (2, (jb : Int))), (2, (0, at0)), (3, (0, n)), (4, (0, k)), (5, (0, b)), (6, (0, i))] [] S (fn_Q S jb at0 n) := by
  intro m
  induction m with
  | zero =>
    intro i b hm h0 hin hb h1 hb0
    refine wa_iload (n := 6) rfl ?_
    refine wa_iload_n (n := 3) rfl ?_
    refine wa_icmpge (w_rg0 (by omega) (by omega)) (w_rg0 (by omega) (by omega)) ⟨_, rfl⟩ (fun c1 => ?_) (fun c1 => ?_)
    · skip
      refine wa_iload (n := 5) rfl ?_
      refine wa_ifeq (w_rg0 (by omega) (by omega)) ⟨_, rfl⟩ (fun c2 => ?_) (fun c2 => ?_)
      · skip
        refine wa_iinc rfl rfl ?_
        refine wa_goto ⟨_, rfl⟩ ?_
        refine wJ_S (hout (fun q a e => by
          by_cases e2 : q = k
          · subst e2; exact hb0 (by omega)
          · exact hbef q a (by omega))) ⟨rfl, rfl, rfl, rfl, rfl, trivial⟩
      · skip
        refine wa_iload (n := 4) rfl ?_
        refine wa_ireturn rfl ?_
        exact ⟨rfl, k, rfl, Or.inl ⟨hk.1, hk.2, ⟨(h1 (by omega)).1, fun q a e => (h1 (by omega)).2 q a (by omega)⟩, hbef⟩⟩
    · skip
      refine wa_iload (n := 5) rfl ?_
      refine wa_ifeq (w_rg0 (by omega) (by omega)) ⟨_, rfl⟩ (fun c3 => ?_) (fun c3 => ?_)
      · skip
        refine wa_iload (n := 5) rfl ?_
        refine wa_ifeq (w_rg0 (by omega) (by omega)) ⟨_, rfl⟩ (fun c4 => ?_) (fun c4 => ?_)
        · skip
          refine wa_iinc rfl rfl ?_
          refine wa_goto ⟨_, rfl⟩ ?_
          refine wJ_S (hout (fun q a e => by
          by_cases e2 : q = k
          · subst e2; exact hb0 (by omega)
          · exact hbef q a (by omega))) ⟨rfl, rfl, rfl, rfl, rfl, trivial⟩
        · skip
          refine wa_iload (n := 4) rfl ?_
          refine wa_ireturn rfl ?_
          exact ⟨rfl, k, rfl, Or.inl ⟨hk.1, hk.2, ⟨(h1 (by omega)).1, fun q a e => (h1 (by omega)).2 q a (by omega)⟩, hbef⟩⟩
      · skip
        refine wa_aload_n (n := 0) rfl ?_
        refine wa_gf 237 rfl (wy_pr rfl) wt_237 wf_15_17 (fun q => absurd q (by decide)) (v := (2, 281)) (congrArg (fun q => ((2 : Nat), q)) wl_237_17) (fun _ _ => ?_)
        refine wa_bipush (w_rg2 (by omega) (by omega)) ?_
        refine wa_iload (n := 4) rfl ?_
        refine wa_imul ?_
        refine wa_iload (n := 6) rfl ?_
        refine wa_iadd ?_
        refine wa_bald 281 rfl (wy_pr rfl) wt_281 (by omega) (by omega) (fun (r5 : -128 ≤ (S 281 ((60 * k) + i)) ∧ (S 281 ((60 * k) + i)) ≤ 127) => ?_)
        refine wa_aload_n (n := 1) rfl ?_
        refine wa_iload_n (n := 2) rfl ?_
        refine wa_iload (n := 6) rfl ?_
        refine wa_iadd ?_
        refine wa_bald jb rfl hjp hjt (by omega) (by omega) (fun (r6 : -128 ≤ (S jb (at0 + i)) ∧ (S jb (at0 + i)) ≤ 127) => ?_)
        refine wa_icmpne (w_rg0 (by omega) (by omega)) (w_rg0 (by omega) (by omega)) ⟨_, rfl⟩ (fun c7 => ?_) (fun c7 => ?_)
        · skip
          refine wa_iconst ?_
          refine wa_fall ⟨_, rfl⟩ ?_
          refine wa_istore (n := 5) rfl ?_
          refine wa_iinc rfl rfl ?_
          refine wa_goto ⟨_, rfl⟩ ?_
          omega
        · skip
          refine wa_iconst ?_
          refine wa_goto ⟨_, rfl⟩ ?_
          refine wa_istore (n := 5) rfl ?_
          refine wa_iinc rfl rfl ?_
          refine wa_goto ⟨_, rfl⟩ ?_
          omega
  | succ m ih =>
    intro i b hm h0 hin hb h1 hb0
    refine wa_iload (n := 6) rfl ?_
    refine wa_iload_n (n := 3) rfl ?_
    refine wa_icmpge (w_rg0 (by omega) (by omega)) (w_rg0 (by omega) (by omega)) ⟨_, rfl⟩ (fun c1 => ?_) (fun c1 => ?_)
    · skip
      refine wa_iload (n := 5) rfl ?_
      refine wa_ifeq (w_rg0 (by omega) (by omega)) ⟨_, rfl⟩ (fun c2 => ?_) (fun c2 => ?_)
      · skip
        refine wa_iinc rfl rfl ?_
        refine wa_goto ⟨_, rfl⟩ ?_
        refine wJ_S (hout (fun q a e => by
          by_cases e2 : q = k
          · subst e2; exact hb0 (by omega)
          · exact hbef q a (by omega))) ⟨rfl, rfl, rfl, rfl, rfl, trivial⟩
      · skip
        refine wa_iload (n := 4) rfl ?_
        refine wa_ireturn rfl ?_
        exact ⟨rfl, k, rfl, Or.inl ⟨hk.1, hk.2, ⟨(h1 (by omega)).1, fun q a e => (h1 (by omega)).2 q a (by omega)⟩, hbef⟩⟩
    · skip
      refine wa_iload (n := 5) rfl ?_
      refine wa_ifeq (w_rg0 (by omega) (by omega)) ⟨_, rfl⟩ (fun c3 => ?_) (fun c3 => ?_)
      · skip
        refine wa_iload (n := 5) rfl ?_
        refine wa_ifeq (w_rg0 (by omega) (by omega)) ⟨_, rfl⟩ (fun c4 => ?_) (fun c4 => ?_)
        · skip
          refine wa_iinc rfl rfl ?_
          refine wa_goto ⟨_, rfl⟩ ?_
          refine wJ_S (hout (fun q a e => by
          by_cases e2 : q = k
          · subst e2; exact hb0 (by omega)
          · exact hbef q a (by omega))) ⟨rfl, rfl, rfl, rfl, rfl, trivial⟩
        · skip
          refine wa_iload (n := 4) rfl ?_
          refine wa_ireturn rfl ?_
          exact ⟨rfl, k, rfl, Or.inl ⟨hk.1, hk.2, ⟨(h1 (by omega)).1, fun q a e => (h1 (by omega)).2 q a (by omega)⟩, hbef⟩⟩
      · skip
        refine wa_aload_n (n := 0) rfl ?_
        refine wa_gf 237 rfl (wy_pr rfl) wt_237 wf_15_17 (fun q => absurd q (by decide)) (v := (2, 281)) (congrArg (fun q => ((2 : Nat), q)) wl_237_17) (fun _ _ => ?_)
        refine wa_bipush (w_rg2 (by omega) (by omega)) ?_
        refine wa_iload (n := 4) rfl ?_
        refine wa_imul ?_
        refine wa_iload (n := 6) rfl ?_
        refine wa_iadd ?_
        refine wa_bald 281 rfl (wy_pr rfl) wt_281 (by omega) (by omega) (fun (r5 : -128 ≤ (S 281 ((60 * k) + i)) ∧ (S 281 ((60 * k) + i)) ≤ 127) => ?_)
        refine wa_aload_n (n := 1) rfl ?_
        refine wa_iload_n (n := 2) rfl ?_
        refine wa_iload (n := 6) rfl ?_
        refine wa_iadd ?_
        refine wa_bald jb rfl hjp hjt (by omega) (by omega) (fun (r6 : -128 ≤ (S jb (at0 + i)) ∧ (S jb (at0 + i)) ≤ 127) => ?_)
        refine wa_icmpne (w_rg0 (by omega) (by omega)) (w_rg0 (by omega) (by omega)) ⟨_, rfl⟩ (fun c7 => ?_) (fun c7 => ?_)
        · skip
          refine wa_iconst ?_
          refine wa_fall ⟨_, rfl⟩ ?_
          refine wa_istore (n := 5) rfl ?_
          refine wa_iinc rfl rfl ?_
          refine wa_goto ⟨_, rfl⟩ ?_
          refine wJ_S (ih (i + 1) 0 (by omega) (by omega) (by omega) (Or.inl rfl) (fun q => by omega) (fun _ q => by have := q.2 i h0 (by omega); omega)) ⟨rfl, rfl, rfl, rfl, rfl, rfl, rfl, trivial⟩
        · skip
          refine wa_iconst ?_
          refine wa_goto ⟨_, rfl⟩ ?_
          refine wa_istore (n := 5) rfl ?_
          refine wa_iinc rfl rfl ?_
          refine wa_goto ⟨_, rfl⟩ ?_
          refine wJ_S (ih (i + 1) 1 (by omega) (by omega) (by omega) (Or.inr rfl) (fun _ => ⟨(h1 (by omega)).1, fun q a e => by
          by_cases e2 : q = i
          · subst e2; omega
          · exact (h1 (by omega)).2 q a (by omega)⟩) (fun q => by omega)) ⟨rfl, rfl, rfl, rfl, rfl, rfl, rfl, trivial⟩
theorem fn_outer {jb : Nat} {at0 n : Int} (hjp : w_pr wY0 S jb) (hjt : wY0.ty jb = 2) (hN : 0 ≤ S 237 16 ∧ S 237 16 ≤ 4000) (hz : S 237 16 ≤ S 282 (-1)) (hg : 60 * S 237 16 ≤ S 281 (-1)) (hn : 0 ≤ n ∧ n ≤ 60) (ha : 0 ≤ at0 ∧ at0 + n ≤ S jb (-1)) (hjl : S jb (-1) ≤ 2147483647) : ∀ (m : Nat) (k : Int), S 237 16 - k ≤ m → 0 ≤ k → k ≤ S 237 16 → (∀ q, 0 ≤ q → q < k → ¬ fn_eq S jb at0 n q) → wJ G wY0 M d tn_67 ((pe_at tn_67.bl 1).getD (0, [])).2 [(0, (2, 237)), (1, (2, (jb : Int))), (2, (0, at0)), (3, (0, n)), (4, (0, k))] [] S (fn_Q S jb at0 n) := by
  intro m
  induction m with
  | zero =>
    intro k hm h0 hkN hbef
    refine wa_iload (n := 4) rfl ?_
    refine wa_aload_n (n := 0) rfl ?_
    refine wa_gf 237 rfl (wy_pr rfl) wt_237 wf_15_16 (fun q => absurd q (by decide)) (v := (0, (S 237 16))) rfl (fun (r1 : -2147483648 ≤ (S 237 16) ∧ (S 237 16) ≤ 2147483647) _ => ?_)
    refine wa_icmpge (w_rg0 (by omega) (by omega)) (w_rg0 (by omega) (by omega)) ⟨_, rfl⟩ (fun c2 => ?_) (fun c2 => ?_)
    · skip
      refine wa_iconst ?_
      refine wa_ireturn rfl ?_
      exact ⟨rfl, -1, rfl, Or.inr ⟨rfl, fun q a e => hbef q a (by omega)⟩⟩
    · skip
      refine wa_aload_n (n := 0) rfl ?_
      refine wa_gf 237 rfl (wy_pr rfl) wt_237 wf_15_18 (fun q => absurd q (by decide)) (v := (2, 282)) (congrArg (fun q => ((2 : Nat), q)) wl_237_18) (fun _ _ => ?_)
      refine wa_iload (n := 4) rfl ?_
      refine wa_iald 282 rfl (wy_pr rfl) wt_282 (by omega) (by omega) (fun (r3 : -2147483648 ≤ (S 282 k) ∧ (S 282 k) ≤ 2147483647) => ?_)
      refine wa_iload_n (n := 3) rfl ?_
      refine wa_icmpne (w_rg0 (by omega) (by omega)) (w_rg0 (by omega) (by omega)) ⟨_, rfl⟩ (fun c4 => ?_) (fun c4 => ?_)
      · skip
        refine wa_iconst ?_
        refine wa_fall ⟨_, rfl⟩ ?_
        refine wa_istore (n := 5) rfl ?_
        refine wa_iconst ?_
        refine wa_istore (n := 6) rfl ?_
        refine wa_fall ⟨_, rfl⟩ ?_
        omega
      · skip
        refine wa_iconst ?_
        refine wa_goto ⟨_, rfl⟩ ?_
        refine wa_istore (n := 5) rfl ?_
        refine wa_iconst ?_
        refine wa_istore (n := 6) rfl ?_
        refine wa_fall ⟨_, rfl⟩ ?_
        omega
  | succ m ih =>
    intro k hm h0 hkN hbef
    refine wa_iload (n := 4) rfl ?_
    refine wa_aload_n (n := 0) rfl ?_
    refine wa_gf 237 rfl (wy_pr rfl) wt_237 wf_15_16 (fun q => absurd q (by decide)) (v := (0, (S 237 16))) rfl (fun (r1 : -2147483648 ≤ (S 237 16) ∧ (S 237 16) ≤ 2147483647) _ => ?_)
    refine wa_icmpge (w_rg0 (by omega) (by omega)) (w_rg0 (by omega) (by omega)) ⟨_, rfl⟩ (fun c2 => ?_) (fun c2 => ?_)
    · skip
      refine wa_iconst ?_
      refine wa_ireturn rfl ?_
      exact ⟨rfl, -1, rfl, Or.inr ⟨rfl, fun q a e => hbef q a (by omega)⟩⟩
    · skip
      refine wa_aload_n (n := 0) rfl ?_
      refine wa_gf 237 rfl (wy_pr rfl) wt_237 wf_15_18 (fun q => absurd q (by decide)) (v := (2, 282)) (congrArg (fun q => ((2 : Nat), q)) wl_237_18) (fun _ _ => ?_)
      refine wa_iload (n := 4) rfl ?_
      refine wa_iald 282 rfl (wy_pr rfl) wt_282 (by omega) (by omega) (fun (r3 : -2147483648 ≤ (S 282 k) ∧ (S 282 k) ≤ 2147483647) => ?_)
      refine wa_iload_n (n := 3) rfl ?_
      refine wa_icmpne (w_rg0 (by omega) (by omega)) (w_rg0 (by omega) (by omega)) ⟨_, rfl⟩ (fun c4 => ?_) (fun c4 => ?_)
      · skip
        refine wa_iconst ?_
        refine wa_fall ⟨_, rfl⟩ ?_
        refine wa_istore (n := 5) rfl ?_
        refine wa_iconst ?_
        refine wa_istore (n := 6) rfl ?_
        refine wa_fall ⟨_, rfl⟩ ?_
        refine wJ_S (fn_inner hjp hjt hN hz hg hn ha hjl (by omega) hbef (fun hh => ih (k + 1) (by omega) (by omega) (by omega) hh) n.toNat 0 0 (by omega) (by omega) (by omega) (by omega) (fun q => by omega) (fun _ q => by have := q.1; omega)) ⟨rfl, rfl, rfl, rfl, rfl, rfl, rfl, trivial⟩
      · skip
        refine wa_iconst ?_
        refine wa_goto ⟨_, rfl⟩ ?_
        refine wa_istore (n := 5) rfl ?_
        refine wa_iconst ?_
        refine wa_istore (n := 6) rfl ?_
        refine wa_fall ⟨_, rfl⟩ ?_
        refine wJ_S (fn_inner hjp hjt hN hz hg hn ha hjl (by omega) hbef (fun hh => ih (k + 1) (by omega) (by omega) (by omega) hh) n.toNat 0 1 (by omega) (by omega) (by omega) (by omega) (fun _ => ⟨by omega, fun q a e => by omega⟩) (fun q => by omega)) ⟨rfl, rfl, rfl, rfl, rfl, rfl, rfl, trivial⟩
end W56
