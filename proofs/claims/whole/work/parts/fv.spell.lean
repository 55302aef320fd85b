/-! PART fv: texts that the reference spells and makes. -/
section Wfv
variable {xs : List (Nat × List Int32)} {M : Nat → Prop} {d : Nat} {S S0 Z A B : wS} {tx : List Int32} {j : Nat} {n0 : Int} {l : List Int} {n : Int}
/-- signs have come to what is spelled -/
def spI (n0 : Int) (tx : List Int32) (i : Nat) (S0 S : wS) : Prop := (∀ k : Nat, k < i → S 345 (n0 + (k : Int)) = w_tx tx (k : Int)) ∧ (∀ (j : Nat) (x : Int), (j ≠ 345 ∨ x < n0 ∨ n0 + (i : Int) ≤ x) → S j x = S0 j x) ∧ w_ML S
def spA (n0 : Int) (tx : List Int32) (S Z : wS) : Prop := (∀ k : Nat, k < tx.length → Z 345 (n0 + (k : Int)) = w_tx tx (k : Int)) ∧ Z 237 113 = n0 + (tx.length : Int) ∧ (∀ (j : Nat) (x : Int), (j ≠ 345 ∨ x < n0 ∨ n0 + (tx.length : Int) ≤ x) → (j ≠ 237 ∨ x ≠ 113) → Z j x = S j x) ∧ w_ML Z
theorem spI_s {i : Nat} (h : spI n0 tx i S0 S) (hn : 0 ≤ n0) : spI n0 tx (i + 1) S0 (w_up S 345 (n0 + (i : Int)) (w_tx tx (i : Int))) := by
  obtain ⟨h1, h2, h3⟩ := h
  refine ⟨fun k hk => ?_, fun j x hx => (w_up_no (by omega)).trans (h2 j x (by omega)), w_ML_up h3 (by omega)⟩
  by_cases c : k = i
  · rw [c]; exact w_up_same _ _ _ _
  · exact (w_up_at (by omega)).trans (h1 k (by omega))
/-- bytes of what is spelled have come to a text -/
def mtI (p0 : Int) (i : Nat) (S0 S : wS) : Prop := (∀ k : Nat, k < i → S 283 (p0 + (k : Int)) = S0 345 (k : Int)) ∧ (∀ (j : Nat) (x : Int), (j ≠ 283 ∨ x < p0 ∨ p0 + (i : Int) ≤ x) → S j x = S0 j x) ∧ w_ML S
theorem mtI_s {p0 v : Int} {i : Nat} (h : mtI p0 i S0 S) (hp : 0 ≤ p0) (hv : v = S0 345 (i : Int)) : mtI p0 (i + 1) S0 (w_up S 283 (p0 + (i : Int)) v) := by
  obtain ⟨h1, h2, h3⟩ := h
  refine ⟨fun k hk => ?_, fun j x hx => (w_up_no (by omega)).trans (h2 j x (by omega)), w_ML_up h3 (by omega)⟩
  by_cases c : k = i
  · rw [c]; exact (w_up_same _ _ _ _).trans hv
  · exact (w_up_at (by omega)).trans (h1 k (by omega))
/-- a text without its bytes has come -/
def nxZ (n m bt u2 u3 : Int) (S : wS) : wS := w_up (w_up (w_up (w_up (w_up (w_up S 284 (4000 + m) (69632 + bt)) 285 (4000 + m) n) 237 102 (m + 1)) 237 103 (bt + n)) 237 64 (u2 + 1)) 237 65 (u3 + n)
theorem nxZ_e {m bt u2 u3 : Int} (j : Nat) (x : Int) (h1 : (j ≠ 284 ∧ j ≠ 285) ∨ x ≠ 4000 + m) (h2 : j ≠ 237 ∨ (x ≠ 102 ∧ x ≠ 103 ∧ x ≠ 64 ∧ x ≠ 65)) : nxZ n m bt u2 u3 S j x = S j x := (w_up_no (by omega)).trans ((w_up_no (by omega)).trans ((w_up_no (by omega)).trans ((w_up_no (by omega)).trans ((w_up_no (by omega)).trans (w_up_no (by omega))))))
theorem nxZ_v {m bt u2 u3 : Int} : nxZ n m bt u2 u3 S 284 (4000 + m) = 69632 + bt ∧ nxZ n m bt u2 u3 S 285 (4000 + m) = n ∧ nxZ n m bt u2 u3 S 237 102 = m + 1 ∧ nxZ n m bt u2 u3 S 237 103 = bt + n ∧ nxZ n m bt u2 u3 S 237 64 = u2 + 1 ∧ nxZ n m bt u2 u3 S 237 65 = u3 + n := by
  refine ⟨?_, ?_, ?_, ?_, ?_, w_up_same _ _ _ _⟩
  · exact (w_up_slot (by first | decide | omega)).trans ((w_up_slot (by first | decide | omega)).trans ((w_up_slot (by first | decide | omega)).trans ((w_up_slot (by first | decide | omega)).trans ((w_up_slot (by first | decide | omega)).trans (w_up_same _ _ _ _)))))
  · exact (w_up_slot (by first | decide | omega)).trans ((w_up_slot (by first | decide | omega)).trans ((w_up_slot (by first | decide | omega)).trans ((w_up_slot (by first | decide | omega)).trans (w_up_same _ _ _ _))))
  · exact (w_up_at (by first | decide | omega)).trans ((w_up_at (by first | decide | omega)).trans ((w_up_at (by first | decide | omega)).trans (w_up_same _ _ _ _)))
  · exact (w_up_at (by first | decide | omega)).trans ((w_up_at (by first | decide | omega)).trans (w_up_same _ _ _ _))
  · exact (w_up_at (by first | decide | omega)).trans (w_up_same _ _ _ _)
theorem nxZ_m {m bt u2 u3 : Int} (h : w_ML S) (hm : 0 ≤ m) : w_ML (nxZ n m bt u2 u3 S) := w_ML_up (w_ML_up (w_ML_up (w_ML_up (w_ML_up (w_ML_up h (by omega)) (by omega)) (by first | decide | omega)) (by first | decide | omega)) (by first | decide | omega)) (by first | decide | omega)
/-- what madeText leaves: the text spelled is the newest one -/
def mtA (n m bt u2 u3 : Int) (S Z : wS) : Prop := (∀ k : Nat, (k : Int) < n → Z 283 (69632 + bt + (k : Int)) = S 345 (k : Int)) ∧ (Z 284 (4000 + m) = 69632 + bt ∧ Z 285 (4000 + m) = n) ∧ (Z 237 102 = m + 1 ∧ Z 237 103 = bt + n ∧ Z 237 64 = u2 + 1 ∧ Z 237 65 = u3 + n) ∧ (∀ (j : Nat) (x : Int), (j ≠ 283 ∨ x < 69632 + bt ∨ 69632 + bt + n ≤ x) → ((j ≠ 284 ∧ j ≠ 285) ∨ x ≠ 4000 + m) → (j ≠ 237 ∨ (x ≠ 102 ∧ x ≠ 103 ∧ x ≠ 64 ∧ x ≠ 65)) → Z j x = S j x) ∧ w_ML Z
/-- the reference's texts lie ahead of the next byte -/
def rTb (S : wS) : Prop := (0 ≤ S 237 103 ∧ S 237 103 ≤ S 237 65) ∧ (S 237 102 ≤ S 237 64 ∧ ∀ x : Int, 4000 ≤ x → x < 4000 + S 237 102 → 69632 ≤ S 284 x) ∧ ∀ x : Int, ((0 ≤ x ∧ x < S 237 19) ∨ (4000 ≤ x ∧ x < 4000 + S 237 102)) → S 284 x + S 285 x ≤ 69632 + S 237 103
theorem mtA_x {m bt u2 u3 : Int} (h : mtA n m bt u2 u3 S Z) (hn : 0 ≤ n) (ht : rTt S) (hb : rTb S) (hm : S 237 102 = m) (hbt : S 237 103 = bt) : rTx S Z := by
  obtain ⟨h1, ⟨h2, h3⟩, ⟨h4, h5, h6, h7⟩, fr, -⟩ := h
  have e9 : Z 237 19 = S 237 19 := fr 237 19 (Or.inl (by first | decide | omega)) (Or.inl (by first | decide | omega)) (by first | decide | omega)
  have t1 := ht.1
  have t2 := ht.2.1
  refine ⟨by omega, by omega, fun x hx => ?_⟩
  have y1 := ht.2.2 x hx
  have y2 := hb.2.2 x hx
  have nx : x ≠ 4000 + m := by omega
  refine ⟨fr 284 x (Or.inl (by first | decide | omega)) (Or.inr nx) (Or.inl (by first | decide | omega)), fr 285 x (Or.inl (by first | decide | omega)) (Or.inr nx) (Or.inl (by first | decide | omega)), fun i i0 i1 => fr 283 _ (by omega) (Or.inl (by first | decide | omega)) (Or.inl (by first | decide | omega))⟩
theorem mtA_t {m bt u2 u3 : Int} (h : mtA n m bt u2 u3 S Z) (hn : 0 ≤ n) (ht : rTt S) (hb : rTb S) (hm : S 237 102 = m) (hbt : S 237 103 = bt) (hu2 : S 237 64 = u2) (hu3 : S 237 65 = u3) (hr : u2 < 12000 ∧ u3 + n ≤ 200000) : rTt Z ∧ rTb Z := by
  have hx := mtA_x h hn ht hb hm hbt
  obtain ⟨h1, ⟨h2, h3⟩, ⟨h4, h5, h6, h7⟩, fr, -⟩ := h
  have e9 : Z 237 19 = S 237 19 := fr 237 19 (Or.inl (by first | decide | omega)) (Or.inl (by first | decide | omega)) (by first | decide | omega)
  obtain ⟨t1, t2, t3⟩ := ht
  obtain ⟨b1, b2, b3⟩ := hb
  have key : ∀ x : Int, ((0 ≤ x ∧ x < Z 237 19) ∨ (4000 ≤ x ∧ x < 4000 + Z 237 102)) → (0 ≤ Z 284 x ∧ 0 ≤ Z 285 x ∧ Z 284 x + Z 285 x ≤ 269632) ∧ Z 284 x + Z 285 x ≤ 69632 + Z 237 103 := fun x hx2 => by
    by_cases c : x = 4000 + m
    · rw [c, h2, h3]; omega
    · have hx3 : (0 ≤ x ∧ x < S 237 19) ∨ (4000 ≤ x ∧ x < 4000 + S 237 102) := by omega
      obtain ⟨y1, y2, -⟩ := hx.2.2 x hx3
      have y3 := t3 x hx3
      have y4 := b3 x hx3
      rw [y1, y2]; omega
  exact ⟨⟨by omega, by omega, fun x hx2 => (key x hx2).1⟩, ⟨by omega, by omega⟩, ⟨by omega, fun x x0 x1 => by
    by_cases c : x = 4000 + m
    · rw [c, h2]; omega
    · rw [(hx.2.2 x (by omega)).1]
      exact b2.2 x x0 (by omega)⟩, fun x hx2 => (key x hx2).2⟩
theorem mtA_v {m bt u2 u3 : Int} (h : mtA n m bt u2 u3 S Z) (hm : 0 ≤ m) (hl : n = (l.length : Int)) (he : ∀ k : Nat, k < l.length → S 345 (k : Int) = l.getD k 0) : rVl Z 3 (4000 + m) (3, 0, l) := by
  obtain ⟨h1, ⟨h2, h3⟩, ⟨h4, h5, h6, h7⟩, fr, -⟩ := h
  refine ⟨rfl, fun z => absurd rfl z, fun _ => ⟨rfl, Or.inr ⟨by omega, by omega⟩, by rw [h3]; exact hl, fun i hi => ?_⟩⟩
  rw [h2, h1 i (by have : i < l.length := hi; omega)]
  exact he i hi
theorem sp_l (ht : pe_at (pe_GA xs).xs j = some (0, tx)) (htl : (tx.length : Int) ≤ 200) (hb : ∀ i : Nat, i < tx.length → 0 ≤ w_tx tx (i : Int) ∧ w_tx tx (i : Int) ≤ 127) (hn : 0 ≤ n0 ∧ n0 + (tx.length : Int) ≤ 256) (h13 : S0 237 113 = n0) : ∀ (f i : Nat) (S : wS), i + f = tx.length → spI n0 tx i S0 S → wJ (pe_GA xs) wY0 M (d + 4) t_M_spell ((pe_at t_M_spell.bl 1).getD (0, [])).2 [(0, (2, 237)), (1, (2, -10 - (j : Int))), (2, (0, (i : Int)))] [] S (fun o Z => o = .inl none ∧ spA n0 tx S0 Z) := by
  intro f
  induction f with
  | zero =>
    intro i S hi hs
    have hM := hs.2.2
    have e13 : S 237 113 = n0 := (hs.2.1 237 113 (Or.inl (by first | decide | omega))).trans h13
    refine wa_iload_n (n := 2) rfl ?_
    refine wa_aload_n (n := 1) rfl ?_
    refine wa_sl j rfl ht rfl rfl ?_
    refine wa_icmpge (w_rg0 (by omega) (by omega)) (w_rg0 (by omega) (by omega)) ⟨_, rfl⟩ (fun c1 => ?_) (fun c1 => ?_)
    · skip
      refine wa_aload_n (n := 0) rfl ?_
      refine wa_dup (by decide) ?_
      refine wb_gfi 237 rfl (wy_pr rfl) wt_237 wf_15_113 (v := n0) (e13) (fun r2 => ?_)
      refine wa_aload_n (n := 1) rfl ?_
      refine wa_sl j rfl ht rfl rfl ?_
      refine wa_iadd ?_
      refine wb_pfi 237 rfl (wy_pr rfl) wt_237 wf_15_113 (n := 113) rfl ⟨(by omega), (by omega)⟩ ?_
      refine wa_return rfl ?_
      obtain ⟨h1, h2, h3⟩ := hs
      have ei : i = tx.length := by omega
      subst ei
      exact ⟨rfl, fun k hk => (w_up_slot (by first | decide | omega)).trans (h1 k hk), w_up_same _ _ _ _, fun j2 x j0 j1 => (w_up_no (by omega)).trans (h2 j2 x j0), w_ML_up h3 (by first | decide | omega)⟩
    · skip
      exfalso; omega
  | succ f ih =>
    intro i S hi hs
    have hM := hs.2.2
    have e13 : S 237 113 = n0 := (hs.2.1 237 113 (Or.inl (by first | decide | omega))).trans h13
    have hbi := hb i (by omega)
    have htl2 : tx.length ≤ 2147483647 := by omega
    refine wa_iload_n (n := 2) rfl ?_
    refine wa_aload_n (n := 1) rfl ?_
    refine wa_sl j rfl ht rfl rfl ?_
    refine wa_icmpge (w_rg0 (by omega) (by omega)) (w_rg0 (by omega) (by omega)) ⟨_, rfl⟩ (fun c51 => ?_) (fun c51 => ?_)
    · skip
      exfalso; omega
    · skip
      refine wa_aload_n (n := 0) rfl ?_
      refine wb_gf4 237 rfl (wy_pr rfl) wt_237 wf_15_112 (v := 345) wl_237_112 ?_
      refine wa_aload_n (n := 0) rfl ?_
      refine wb_gfi 237 rfl (wy_pr rfl) wt_237 wf_15_113 (v := n0) (e13) (fun r52 => ?_)
      refine wa_iload_n (n := 2) rfl ?_
      refine wa_iadd ?_
      refine wa_aload_n (n := 1) rfl ?_
      refine wa_iload_n (n := 2) rfl ?_
      refine wa_sc j rfl ht (by omega) rfl rfl (by omega) (by omega) ?_
      refine wb_i2b_r (wb_i2b_id ⟨(by omega), (by omega)⟩) ?_
      refine wb_bast 345 rfl (wy_pr rfl) wt_345 (n := 256) ((ml_345 hM)) (by omega) (by omega) ⟨(by omega), (by omega)⟩ ?_
      refine wa_iinc rfl rfl ?_
      refine wa_goto ⟨_, rfl⟩ ?_
      exact wJ_S (ih (i + 1) _ (by omega) (spI_s hs hn.1)) ⟨rfl, rfl, rfl, trivial⟩
theorem sp_ok (ht : pe_at (pe_GA xs).xs j = some (0, tx)) (htl : (tx.length : Int) ≤ 200) (hb : ∀ i : Nat, i < tx.length → 0 ≤ w_tx tx (i : Int) ∧ w_tx tx (i : Int) ≤ 127) (hn : 0 ≤ n0 ∧ n0 + (tx.length : Int) ≤ 256) (hM : w_ML S) (h13 : S 237 113 = n0) : wJ (pe_GA xs) wY0 M (d + 4) t_M_spell ((pe_at t_M_spell.bl 0).getD (0, [])).2 [(0, (2, 237)), (1, (2, -10 - (j : Int)))] [] S (fun o Z => o = .inl none ∧ spA n0 tx S Z) := by
  refine wa_iconst ?_
  refine wa_istore_n (n := 2) rfl ?_
  refine wa_fall ⟨_, rfl⟩ ?_
  exact wJ_S (sp_l ht htl hb hn h13 tx.length 0 S (by omega) ⟨fun k hk => absurd hk (Nat.not_lt_zero _), fun _ _ _ => rfl, hM⟩) ⟨rfl, rfl, rfl, trivial⟩
theorem ntx_ok {m bt u2 u3 : Int} (hM : w_ML S) (h102 : S 237 102 = m) (h103 : S 237 103 = bt) (h64 : S 237 64 = u2) (h65 : S 237 65 = u3) (hm : 0 ≤ m ∧ m ≤ u2) (hbt : 0 ≤ bt ∧ bt ≤ u3) (hu2 : u2 ≤ 12000) (hu3 : u3 ≤ 200000) (hn : 0 ≤ n ∧ n ≤ 60000) : wJ (pe_GA xs) wY0 M (d + 3) t_M_newText ((pe_at t_M_newText.bl 0).getD (0, [])).2 [(0, (2, 237)), (1, (0, n))] [] S (fun o Z => ((12000 ≤ u2 ∨ 200000 < u3 + n) ∧ o = .inr 238 ∧ hZ 99 S = Z) ∨ (u2 < 12000 ∧ u3 + n ≤ 200000 ∧ o = .inl (some (0, 4000 + m)) ∧ nxZ n m bt u2 u3 S = Z)) := by
  refine wa_aload_n (n := 0) rfl ?_
  refine wa_aload_n (n := 0) rfl ?_
  refine wa_iload_n (n := 1) rfl ?_
  refine wa_cv 237 rfl (wy_pr rfl) wt_237 (M2 := fun _ => False) rfl at_M_hasRoomForText ⟨_, rfl⟩ rfl rfl ⟨(Or.inr ⟨wy_pr rfl, fun q => q⟩), trivial, trivial⟩ ⟨(Or.inr ⟨wy_pr rfl, fun q => q⟩), trivial⟩ (fun _ _ q => False.elim q) ?_ (fun _ _ _ q => q)
  refine wa_aload_n (n := 0) rfl ?_
  refine wb_gfi 237 rfl (wy_pr rfl) wt_237 wf_15_64 (v := u2) (h64) (fun r1 => ?_)
  refine wa_sipush (by omega) ?_
  refine wa_icmpge (w_rg0 (by omega) (by omega)) (w_rg0 (by omega) (by omega)) ⟨_, rfl⟩ (fun c2 => ?_) (fun c2 => ?_)
  · skip
    refine wa_iconst ?_
    refine wa_fall ⟨_, rfl⟩ ?_
    refine wa_zreturn rfl (Or.inl rfl) ?_
    show wJ _ _ _ _ _ _ _ _ _ _
    refine wa_cv 237 rfl (wy_pr rfl) wt_237 (M2 := fun _ => False) rfl at_M_room ⟨_, rfl⟩ rfl rfl ⟨(Or.inr ⟨wy_pr rfl, fun q => q⟩), trivial, trivial⟩ trivial (fun _ _ q => False.elim q) ?_ (fun _ _ _ q => q)
    refine wa_iload_n (n := 1) rfl ?_
    refine wa_ifne (w_rg0 (by omega) (by omega)) ⟨_, rfl⟩ (fun c3 => ?_) (fun c3 => ?_)
    · skip
      exact absurd c3 (by omega)
    · skip
      refine wa_aload_n (n := 0) rfl ?_
      refine wb_gf4 237 rfl (wy_pr rfl) wt_237 wf_15_1 (v := 238) wl_237_1 ?_
      refine wa_bipush (w_rg2 (by omega) (by omega)) ?_
      refine wa_iconst ?_
      refine wa_cv 238 rfl (wy_pr rfl) wt_238 (M2 := fun _ => False) rfl at_MH_of ⟨_, rfl⟩ rfl rfl ⟨(Or.inr ⟨wy_pr rfl, fun q => q⟩), trivial, trivial⟩ trivial (fun _ _ q => False.elim q) ?_ (fun _ _ _ q => q)
      refine wa_aload_n (n := 0) rfl ?_
      refine wa_iload_n (n := 1) rfl ?_
      refine wb_pfi 238 rfl (wy_pr rfl) wt_238 wf_11_5 (n := 5) rfl ⟨(by omega), (by omega)⟩ ?_
      refine wa_aload_n (n := 0) rfl ?_
      refine wa_iload_n (n := 2) rfl ?_
      refine wb_pfi 238 rfl (wy_pr rfl) wt_238 wf_11_6 (n := 6) rfl ⟨(by omega), (by omega)⟩ ?_
      refine wa_aload_n (n := 0) rfl ?_
      refine wa_oreturn rfl ?_
      show wJ _ _ _ _ _ _ _ _ _ _
      refine wa_th (j := 238) ?_
      refine ⟨rfl, ?_⟩
      exact Or.inl ⟨by omega, rfl, rfl⟩
  · skip
    refine wa_aload_n (n := 0) rfl ?_
    refine wb_gfi 237 rfl (wy_pr rfl) wt_237 wf_15_65 (v := u3) (h65) (fun r4 => ?_)
    refine wa_iload_n (n := 1) rfl ?_
    refine wa_iadd ?_
    refine wb_ki (n := 200000) rfl ?_
    refine wa_icmpgt (w_rg0 (by omega) (by omega)) (w_rg0 (by omega) (by omega)) ⟨_, rfl⟩ (fun c5 => ?_) (fun c5 => ?_)
    · skip
      refine wa_iconst ?_
      refine wa_fall ⟨_, rfl⟩ ?_
      refine wa_zreturn rfl (Or.inl rfl) ?_
      show wJ _ _ _ _ _ _ _ _ _ _
      refine wa_cv 237 rfl (wy_pr rfl) wt_237 (M2 := fun _ => False) rfl at_M_room ⟨_, rfl⟩ rfl rfl ⟨(Or.inr ⟨wy_pr rfl, fun q => q⟩), trivial, trivial⟩ trivial (fun _ _ q => False.elim q) ?_ (fun _ _ _ q => q)
      refine wa_iload_n (n := 1) rfl ?_
      refine wa_ifne (w_rg0 (by omega) (by omega)) ⟨_, rfl⟩ (fun c6 => ?_) (fun c6 => ?_)
      · skip
        exact absurd c6 (by omega)
      · skip
        refine wa_aload_n (n := 0) rfl ?_
        refine wb_gf4 237 rfl (wy_pr rfl) wt_237 wf_15_1 (v := 238) wl_237_1 ?_
        refine wa_bipush (w_rg2 (by omega) (by omega)) ?_
        refine wa_iconst ?_
        refine wa_cv 238 rfl (wy_pr rfl) wt_238 (M2 := fun _ => False) rfl at_MH_of ⟨_, rfl⟩ rfl rfl ⟨(Or.inr ⟨wy_pr rfl, fun q => q⟩), trivial, trivial⟩ trivial (fun _ _ q => False.elim q) ?_ (fun _ _ _ q => q)
        refine wa_aload_n (n := 0) rfl ?_
        refine wa_iload_n (n := 1) rfl ?_
        refine wb_pfi 238 rfl (wy_pr rfl) wt_238 wf_11_5 (n := 5) rfl ⟨(by omega), (by omega)⟩ ?_
        refine wa_aload_n (n := 0) rfl ?_
        refine wa_iload_n (n := 2) rfl ?_
        refine wb_pfi 238 rfl (wy_pr rfl) wt_238 wf_11_6 (n := 6) rfl ⟨(by omega), (by omega)⟩ ?_
        refine wa_aload_n (n := 0) rfl ?_
        refine wa_oreturn rfl ?_
        show wJ _ _ _ _ _ _ _ _ _ _
        refine wa_th (j := 238) ?_
        refine ⟨rfl, ?_⟩
        exact Or.inl ⟨by omega, rfl, rfl⟩
    · skip
      refine wa_iconst ?_
      refine wa_goto ⟨_, rfl⟩ ?_
      refine wa_zreturn rfl (Or.inr rfl) ?_
      show wJ _ _ _ _ _ _ _ _ _ _
      refine wa_cv 237 rfl (wy_pr rfl) wt_237 (M2 := fun _ => False) rfl at_M_room ⟨_, rfl⟩ rfl rfl ⟨(Or.inr ⟨wy_pr rfl, fun q => q⟩), trivial, trivial⟩ trivial (fun _ _ q => False.elim q) ?_ (fun _ _ _ q => q)
      refine wa_iload_n (n := 1) rfl ?_
      refine wa_ifne (w_rg0 (by omega) (by omega)) ⟨_, rfl⟩ (fun c7 => ?_) (fun c7 => ?_)
      · skip
        refine wa_return rfl ?_
        show wJ _ _ _ _ _ _ _ _ _ _
        refine wa_sipush (by omega) ?_
        refine wa_aload_n (n := 0) rfl ?_
        refine wb_gfi 237 rfl (wy_pr rfl) wt_237 wf_15_102 (v := m) (h102) (fun r8 => ?_)
        refine wa_iadd ?_
        refine wa_istore_n (n := 2) rfl ?_
        refine wa_aload_n (n := 0) rfl ?_
        refine wb_gf4 237 rfl (wy_pr rfl) wt_237 wf_15_22 (v := 284) wl_237_22 ?_
        refine wa_iload_n (n := 2) rfl ?_
        refine wb_ki (n := 69632) rfl ?_
        refine wa_aload_n (n := 0) rfl ?_
        refine wb_gfi 237 rfl (wy_pr rfl) wt_237 wf_15_103 (v := bt) (h103) (fun r9 => ?_)
        refine wa_iadd ?_
        refine wb_iast 284 rfl (wy_pr rfl) wt_284 (n := 16000) ((ml_284 hM)) (by omega) (by omega) ⟨(by omega), (by omega)⟩ ?_
        refine wa_aload_n (n := 0) rfl ?_
        refine wb_gf4 237 rfl (wy_pr rfl) wt_237 wf_15_23 (v := 285) wl_237_23 ?_
        refine wa_iload_n (n := 2) rfl ?_
        refine wa_iload_n (n := 1) rfl ?_
        refine wb_iast 285 rfl (wy_pr rfl) wt_285 (n := 16000) ((w_up_slot (by decide)).trans ((ml_285 hM))) (by omega) (by omega) ⟨(by omega), (by omega)⟩ ?_
        refine wa_aload_n (n := 0) rfl ?_
        refine wa_dup (by decide) ?_
        refine wb_gfi 237 rfl (wy_pr rfl) wt_237 wf_15_102 (v := m) ((w_up_slot (by decide)).trans ((w_up_slot (by decide)).trans (h102))) (fun r10 => ?_)
        refine wa_iconst ?_
        refine wa_iadd ?_
        refine wb_pfi 237 rfl (wy_pr rfl) wt_237 wf_15_102 (n := 102) rfl ⟨(by omega), (by omega)⟩ ?_
        refine wa_aload_n (n := 0) rfl ?_
        refine wa_dup (by decide) ?_
        refine wb_gfi 237 rfl (wy_pr rfl) wt_237 wf_15_103 (v := bt) ((w_up_at (by decide)).trans ((w_up_slot (by decide)).trans ((w_up_slot (by decide)).trans (h103)))) (fun r11 => ?_)
        refine wa_iload_n (n := 1) rfl ?_
        refine wa_iadd ?_
        refine wb_pfi 237 rfl (wy_pr rfl) wt_237 wf_15_103 (n := 103) rfl ⟨(by omega), (by omega)⟩ ?_
        refine wa_aload_n (n := 0) rfl ?_
        refine wa_dup (by decide) ?_
        refine wb_gfi 237 rfl (wy_pr rfl) wt_237 wf_15_64 (v := u2) ((w_up_at (by decide)).trans ((w_up_at (by decide)).trans ((w_up_slot (by decide)).trans ((w_up_slot (by decide)).trans (h64))))) (fun r12 => ?_)
        refine wa_iconst ?_
        refine wa_iadd ?_
        refine wb_pfi 237 rfl (wy_pr rfl) wt_237 wf_15_64 (n := 64) rfl ⟨(by omega), (by omega)⟩ ?_
        refine wa_aload_n (n := 0) rfl ?_
        refine wa_dup (by decide) ?_
        refine wb_gfi 237 rfl (wy_pr rfl) wt_237 wf_15_65 (v := u3) ((w_up_at (by decide)).trans ((w_up_at (by decide)).trans ((w_up_at (by decide)).trans ((w_up_slot (by decide)).trans ((w_up_slot (by decide)).trans (h65)))))) (fun r13 => ?_)
        refine wa_iload_n (n := 1) rfl ?_
        refine wa_iadd ?_
        refine wb_pfi 237 rfl (wy_pr rfl) wt_237 wf_15_65 (n := 65) rfl ⟨(by omega), (by omega)⟩ ?_
        refine wa_iload_n (n := 2) rfl ?_
        refine wa_ireturn rfl ?_
        exact Or.inr ⟨by omega, by omega, rfl, rfl⟩
      · skip
        exact absurd c7 (by omega)
theorem mt_l {p0 v : Int} (h13 : S0 237 113 = n) (h84 : S0 284 v = p0) (hv : 0 ≤ v ∧ v < 16000) (hp : 0 ≤ p0 ∧ p0 + n ≤ 269632) (hn : n ≤ 256) : ∀ (f i : Nat) (S : wS), (i : Int) + (f : Int) = n → mtI p0 i S0 S → wJ (pe_GA xs) wY0 M d t_M_madeText ((pe_at t_M_madeText.bl 1).getD (0, [])).2 [(0, (2, 237)), (1, (0, v)), (2, (0, (i : Int)))] [] S (fun o Z => o = .inl (some (0, v)) ∧ ∃ q : Nat, (q : Int) = n ∧ mtI p0 q S0 Z) := by
  intro f
  induction f with
  | zero =>
    intro i S hi hs
    have hM := hs.2.2
    have e13 : S 237 113 = n := (hs.2.1 237 113 (Or.inl (by first | decide | omega))).trans h13
    refine wa_iload_n (n := 2) rfl ?_
    refine wa_aload_n (n := 0) rfl ?_
    refine wb_gfi 237 rfl (wy_pr rfl) wt_237 wf_15_113 (v := n) (e13) (fun r1 => ?_)
    refine wa_icmpge (w_rg0 (by omega) (by omega)) (w_rg0 (by omega) (by omega)) ⟨_, rfl⟩ (fun c2 => ?_) (fun c2 => ?_)
    · skip
      refine wa_iload_n (n := 1) rfl ?_
      refine wa_ireturn rfl ?_
      exact ⟨rfl, i, by omega, hs⟩
    · skip
      exfalso; omega
  | succ f ih =>
    intro i S hi hs
    have hM := hs.2.2
    have e13 : S 237 113 = n := (hs.2.1 237 113 (Or.inl (by first | decide | omega))).trans h13
    have e84 : S 284 v = p0 := (hs.2.1 284 v (Or.inl (by first | decide | omega))).trans h84
    have e45 : S 345 (i : Int) = S0 345 (i : Int) := hs.2.1 345 (i : Int) (Or.inl (by first | decide | omega))
    refine wa_iload_n (n := 2) rfl ?_
    refine wa_aload_n (n := 0) rfl ?_
    refine wb_gfi 237 rfl (wy_pr rfl) wt_237 wf_15_113 (v := n) (e13) (fun r51 => ?_)
    refine wa_icmpge (w_rg0 (by omega) (by omega)) (w_rg0 (by omega) (by omega)) ⟨_, rfl⟩ (fun c52 => ?_) (fun c52 => ?_)
    · skip
      exfalso; omega
    · skip
      refine wa_aload_n (n := 0) rfl ?_
      refine wb_gf4 237 rfl (wy_pr rfl) wt_237 wf_15_21 (v := 283) wl_237_21 ?_
      refine wa_aload_n (n := 0) rfl ?_
      refine wb_gf4 237 rfl (wy_pr rfl) wt_237 wf_15_22 (v := 284) wl_237_22 ?_
      refine wa_iload_n (n := 1) rfl ?_
      refine wb_iald 284 rfl (wy_pr rfl) wt_284 (n := 16000) ((ml_284 hM)) (by omega) (by omega) (v := p0) (e84) (fun r53 => ?_)
      refine wa_iload_n (n := 2) rfl ?_
      refine wa_iadd ?_
      refine wa_aload_n (n := 0) rfl ?_
      refine wb_gf4 237 rfl (wy_pr rfl) wt_237 wf_15_112 (v := 345) wl_237_112 ?_
      refine wa_iload_n (n := 2) rfl ?_
      refine wb_bald 345 rfl (wy_pr rfl) wt_345 (n := 256) ((ml_345 hM)) (by omega) (by omega) (v := (S0 345 (i : Int))) (e45) (fun r54 => ?_)
      refine wb_bast 283 rfl (wy_pr rfl) wt_283 (n := 269632) ((ml_283 hM)) (by omega) (by omega) ⟨(by omega), (by omega)⟩ ?_
      refine wa_iinc rfl rfl ?_
      refine wa_goto ⟨_, rfl⟩ ?_
      exact wJ_S (ih (i + 1) _ (by omega) (mtI_s hs hp.1 rfl)) ⟨rfl, rfl, rfl, trivial⟩
theorem mt_ok {m bt u2 u3 : Int} (hM : w_ML S) (h102 : S 237 102 = m) (h103 : S 237 103 = bt) (h64 : S 237 64 = u2) (h65 : S 237 65 = u3) (hm : 0 ≤ m ∧ m ≤ u2) (hbt : 0 ≤ bt ∧ bt ≤ u3) (hu2 : u2 ≤ 12000) (hu3 : u3 ≤ 200000) (hn : 0 ≤ n ∧ n ≤ 60000) (h13 : S 237 113 = n) (hn2 : n ≤ 256) : wJ (pe_GA xs) wY0 M (d + 4) t_M_madeText ((pe_at t_M_madeText.bl 0).getD (0, [])).2 [(0, (2, 237))] [] S (fun o Z => ((12000 ≤ u2 ∨ 200000 < u3 + n) ∧ o = .inr 238 ∧ hZ 99 S = Z) ∨ (u2 < 12000 ∧ u3 + n ≤ 200000 ∧ o = .inl (some (0, 4000 + m)) ∧ mtA n m bt u2 u3 S Z)) := by
  refine wa_aload_n (n := 0) rfl ?_
  refine wa_aload_n (n := 0) rfl ?_
  refine wb_gfi 237 rfl (wy_pr rfl) wt_237 wf_15_113 (v := n) (h13) (fun r1 => ?_)
  refine wa_cv 237 rfl (wy_pr rfl) wt_237 (M2 := fun _ => False) rfl at_M_newText ⟨_, rfl⟩ rfl rfl ⟨(Or.inr ⟨wy_pr rfl, fun q => q⟩), trivial⟩ trivial (fun _ _ q => False.elim q) (ntx_ok hM h102 h103 h64 h65 hm hbt hu2 hu3 hn) (fun oq2 Sq2 hp3 q2 => ?_)
  rcases q2 with ⟨hno, rfl, rfl⟩ | ⟨hy1, hy2, rfl, rfl⟩
  · skip
    refine ⟨rfl, ?_⟩
    exact Or.inl ⟨hno, rfl, rfl⟩
  · skip
    show wJ _ _ _ _ _ _ _ _ _ _
    refine wa_istore_n (n := 1) rfl ?_
    refine wa_iconst ?_
    refine wa_istore_n (n := 2) rfl ?_
    refine wa_fall ⟨_, rfl⟩ ?_
    have hv := nxZ_v (S := S) (n := n) (m := m) (bt := bt) (u2 := u2) (u3 := u3)
    refine wJ_S (wJ_mono (mt_l (S0 := nxZ n m bt u2 u3 S) (n := n) (p0 := 69632 + bt) (v := 4000 + m) ((nxZ_e 237 113 (Or.inl (by first | decide | omega)) (by first | decide | omega)).trans h13) hv.1 ⟨by omega, by omega⟩ ⟨by omega, by omega⟩ hn2 n.toNat 0 _ (by omega) ⟨fun k hk => absurd hk (Nat.not_lt_zero _), fun _ _ _ => rfl, nxZ_m hM hm.1⟩) (fun o Z hz => ?_)) ⟨rfl, rfl, rfl, trivial⟩
    obtain ⟨rfl, q, hq, ⟨z1, z2, z3⟩⟩ := hz
    refine Or.inr ⟨hy1, hy2, rfl, fun k hk => (z1 k (by omega)).trans (nxZ_e 345 _ (Or.inl (by first | decide | omega)) (Or.inl (by first | decide | omega))), ⟨(z2 284 _ (Or.inl (by first | decide | omega))).trans hv.1, (z2 285 _ (Or.inl (by first | decide | omega))).trans hv.2.1⟩, ⟨(z2 237 102 (Or.inl (by first | decide | omega))).trans hv.2.2.1, (z2 237 103 (Or.inl (by first | decide | omega))).trans hv.2.2.2.1, (z2 237 64 (Or.inl (by first | decide | omega))).trans hv.2.2.2.2.1, (z2 237 65 (Or.inl (by first | decide | omega))).trans hv.2.2.2.2.2⟩, fun j x j0 j1 j2 => (z2 j x (by omega)).trans (nxZ_e j x j1 j2), z3⟩
end Wfv
