/-! PART 59: the class's Words.headOf over slots. -/
section W59
variable {G : pe_G} {M : Nat → Prop} {d : Nat} {S : wS}
/-- the slots of the three Words -/
def w_isW (b : Nat) : Prop := b = 2 ∨ b = 74 ∨ b = 163
theorem w_W_ty {b : Nat} (h : w_isW b) : wY0.ty b = 109 := by rcases h with h | h | h <;> subst h <;> decide +kernel
theorem w_W_pr {b : Nat} (h : w_isW b) : w_pr wY0 S b := by rcases h with h | h | h <;> subst h <;> exact wy_pr rfl
theorem w_W_pq {b : Nat} (h : w_isW b) (o : Nat) (ho : o ≤ 10) : w_pr wY0 S (b + o) := ⟨Or.inl (by show b + o < 388; rcases h with h | h | h <;> omega), by unfold wG; rcases h with h | h | h <;> omega⟩
theorem w_W_l8 {b : Nat} (h : w_isW b) : wY0.ln b 8 = ((b + 10 : Nat) : Int) := by rcases h with h | h | h <;> subst h <;> decide +kernel
theorem w_W_t8 {b : Nat} (h : w_isW b) : wY0.ty (b + 10) = 0 := by rcases h with h | h | h <;> subst h <;> decide +kernel
/-- the mix of the first i bytes -/
def hd_mix (f : Int → Int) (at0 size : Int) : Nat → Int
  | 0 => size
  | i + 1 => hd_mix f at0 size i * 31 + f (at0 + i)
def hd_of (f : Int → Int) (at0 size len : Int) : Int := wb_iand (wb_ixor (hd_mix f at0 size size.toNat) (wb_iushr (hd_mix f at0 size size.toNat) 11)) (len - 1)
theorem hd_loop {b jb : Nat} {at0 size : Int} (hb : w_isW b) (hjp : w_pr wY0 S jb) (hjt : wY0.ty jb = 2) (hn : 0 ≤ size ∧ size ≤ 100000) (ha : 0 ≤ at0 ∧ at0 + size ≤ S jb (-1)) (hjl : S jb (-1) ≤ 2147483647) : ∀ (m i : Nat), size - i < m → (i : Int) ≤ size → wJ G wY0 M d tn_48 ((pe_at tn_48.bl 1).getD (0, [])).2 [(0, (2, (b : Int))), (1, (2, (jb : Int))), (2, (0, at0)), (3, (0, size)), (4, (0, hd_mix (S jb) at0 size i)), (5, (0, (i : Int)))] [] S (fun o S2 => S2 = S ∧ o = .inl (some (0, hd_of (S jb) at0 size (S (b + 10) (-1))))) := by
  intro m
  induction m with
  | zero => intro i h1 h2; omega
  | succ m ih =>
    intro i h1 h2
    refine wa_iload (n := 5) rfl ?_
    refine wa_iload_n (n := 3) rfl ?_
    refine wa_icmpge (w_rg0 (by omega) (by omega)) (w_rg0 (by omega) (by omega)) ⟨_, rfl⟩ (fun c1 => ?_) (fun c1 => ?_)
    · skip
      refine wa_iload (n := 4) rfl ?_
      refine wa_iload (n := 4) rfl ?_
      refine wa_bipush (w_rg2 (by omega) (by omega)) ?_
      refine wa_iushr ?_
      refine wa_ixor ?_
      refine wa_aload_n (n := 0) rfl ?_
      refine wa_gf b rfl (w_W_pr hb) (w_W_ty hb) wf_9_8 (fun q => absurd q (by decide)) (v := (2, ((b + 10 : Nat) : Int))) (congrArg (fun q => ((2 : Nat), q)) (w_W_l8 hb)) (fun _ _ => ?_)
      refine wa_alen (b + 10) rfl (w_W_pq hb 10 (by omega)) (by rw [(w_W_t8 hb)]; rfl) (fun (r2 : 0 ≤ (S (b + 10) (-1)) ∧ (S (b + 10) (-1)) ≤ 2147483647) => ?_)
      refine wa_iconst ?_
      refine wa_isub ?_
      refine wa_iand ?_
      refine wa_ireturn rfl ?_
      refine ⟨rfl, ?_⟩
      unfold hd_of
      rw [show size.toNat = i by omega]
    · skip
      refine wa_iload (n := 4) rfl ?_
      refine wa_bipush (w_rg2 (by omega) (by omega)) ?_
      refine wa_imul ?_
      refine wa_aload_n (n := 1) rfl ?_
      refine wa_iload_n (n := 2) rfl ?_
      refine wa_iload (n := 5) rfl ?_
      refine wa_iadd ?_
      refine wa_bald jb rfl hjp hjt (by omega) (by omega) (fun (r3 : -128 ≤ (S jb (at0 + (i : Int))) ∧ (S jb (at0 + (i : Int))) ≤ 127) => ?_)
      refine wa_iadd ?_
      refine wa_istore (n := 4) rfl ?_
      refine wa_iinc rfl rfl ?_
      refine wa_goto ⟨_, rfl⟩ ?_
      exact wJ_S (ih (i + 1) (by omega) (by omega)) ⟨rfl, rfl, rfl, rfl, rfl, rfl, trivial⟩
theorem hd_ok {b jb : Nat} {at0 size : Int} (hb : w_isW b) (hjp : w_pr wY0 S jb) (hjt : wY0.ty jb = 2) (hn : 0 ≤ size ∧ size ≤ 100000) (ha : 0 ≤ at0 ∧ at0 + size ≤ S jb (-1)) (hjl : S jb (-1) ≤ 2147483647) : wJ G wY0 M d tn_48 ((pe_at tn_48.bl 0).getD (0, [])).2 [(0, (2, (b : Int))), (1, (2, (jb : Int))), (2, (0, at0)), (3, (0, size))] [] S (fun o S2 => S2 = S ∧ o = .inl (some (0, hd_of (S jb) at0 size (S (b + 10) (-1))))) := by
  refine wa_iload_n (n := 3) rfl ?_
  refine wa_istore (n := 4) rfl ?_
  refine wa_iconst ?_
  refine wa_istore (n := 5) rfl ?_
  refine wa_fall ⟨_, rfl⟩ ?_
  exact wJ_S (hd_loop hb hjp hjt hn ha hjl (size.toNat + 1) 0 (by omega) (by omega)) ⟨rfl, rfl, rfl, rfl, rfl, rfl, trivial⟩
end W59
