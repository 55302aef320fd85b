/-! PART gt: guards of the reference. -/
section Wgt
variable {xs : List (Nat × List Int32)} {M : Nat → Prop} {d : Nat} {S Z A : wS} {H : List aH} {T : List aO} {sl : Nat → List Int} {e : aE} {r kd gk gb en rw : Int} {ty cl : List Int}
theorem land_127 {x : Int} (hx : 0 ≤ x ∧ x < 72057594037927936) : wb_land x 127 = x % 128 := by
  have a2 : (Int64.ofInt x &&& Int64.ofInt 127).toBitVec.toNat = x.toNat % 128 := by
    rw [Int64.toBitVec_and, BitVec.toNat_and, nat64 (x := x) (by omega), nat64 (x := 127) (by first | decide | omega)]
    exact Nat.and_two_pow_sub_one_eq_mod x.toNat 7
  show (Int64.ofInt x &&& Int64.ofInt 127).toBitVec.toInt = _
  rw [BitVec.toInt_eq_toNat_of_lt (by rw [a2]; omega), a2]
  omega
theorem es_dg {n : Nat} (hn : n < ty.length) (h8 : ty.length ≤ 8) (h : esOk ty) : wb_land (wb_lushr (esV ty) (7 * (n : Int))) 127 = ty.getD n 0 := by
  have h1 := esV_rg ty h
  have h2 := p7_le (n := ty.length) h8
  have h3 := p7_pos n
  rw [es_sh (by omega) ⟨h1.1, by omega⟩, land_127 ⟨Int.ediv_nonneg h1.1 (by omega), Int.lt_of_le_of_lt (Int.ediv_le_self _ h1.1) (by omega)⟩]
  exact esV_dg ty n h hn
/-- the guard of an entry holds, as the reference asks it -/
abbrev hoR (T : List aO) (kd gk gb en : Int) (ty cl : List Int) (e : aE) : Prop := ((gk = 4 ∨ gk = 5) ∧ e.1 = 0 ∧ (((kd = 4 ∨ kd = 6) ∧ gk = 5 ∧ (tO T gb).2.2.1 = e.2.1) ∨ (kd ≠ 4 ∧ kd ≠ 6 ∧ (tO T gb).2.1 = e.2.1 ∧ e.2.2.1 = en))) ∨ (¬ (gk = 4 ∨ gk = 5) ∧ ((gk = 7 ∧ e.1 = 1 ∧ e.2.1 = (tO T gb).2.2.1) ∨ (gk = 8 ∧ e.1 = 2 ∧ e.2.1 = gb) ∨ (gk = 6 ∧ e.1 = 3 ∧ e.2.1 = 0) ∨ (gk = 3 ∧ e.1 = 3 ∧ e.2.1 = 1)) ∧ ty = cl.take ty.length)
/-- the classes of the values on the pile -/
def rCl (S : wS) (r : Int) (cl : List Int) : Prop := ∀ i : Nat, i < cl.length → clR S (S 363 (r + 1 + (i : Int))) (S 364 (r + 1 + (i : Int))) = cl.getD i 0 ∧ (0 ≤ S 363 (r + 1 + (i : Int)) ∧ S 363 (r + 1 + (i : Int)) ≤ 8) ∧ (S 363 (r + 1 + (i : Int)) = 7 → 0 ≤ S 364 (r + 1 + (i : Int)) ∧ S 364 (r + 1 + (i : Int)) < 8000 ∧ 0 ≤ S 321 (S 364 (r + 1 + (i : Int))) ∧ S 321 (S 364 (r + 1 + (i : Int))) < 60)
theorem tk_ex {k : Nat} (hl : ty.length ≤ cl.length) (hk : k < ty.length) (hne : ty.getD k 0 ≠ cl.getD k 0) : ty ≠ cl.take ty.length := fun h => hne (by
  have e : (cl.take ty.length).getD k 0 = cl.getD k 0 := by
    rw [List.getD_eq_getElem?_getD, List.getElem?_take_of_lt hk, ← List.getD_eq_getElem?_getD]
  rw [← h] at e
  exact e)
theorem tk_eq (hl : ty.length ≤ cl.length) (h : ∀ i : Nat, i < ty.length → ty.getD i 0 = cl.getD i 0) : ty = cl.take ty.length := ls_ext (by rw [List.length_take]; omega) (fun i hi => by
  rw [h i hi, List.getD_eq_getElem?_getD, List.getD_eq_getElem?_getD, List.getElem?_take_of_lt hi])
theorem clR_rg {k v : Int} (hk : 0 ≤ k ∧ k ≤ 8) (h7 : k = 7 → 0 ≤ v ∧ v < 8000 ∧ 0 ≤ S 321 v ∧ S 321 v < 60) : -2147483648 ≤ clR S k v ∧ clR S k v ≤ 2147483647 := by
  unfold clR
  by_cases c : k = 7
  · have := h7 c
    rw [if_neg (by omega), if_neg (by omega), if_neg (by omega), if_neg (by omega), if_pos c]
    omega
  · rw [if_neg c]
    repeat (first | (constructor <;> decide) | split)
theorem gdl {l g : Int} (hM : w_ML S) (hrw : 0 ≤ rw ∧ rw < 20000) (h84 : S 384 rw = (ty.length : Int)) (h85 : S 385 rw = esV ty) (hty : esOk ty) (hl8 : ty.length ≤ 8) (hlc : ty.length ≤ cl.length) (h73 : S 237 173 = r) (hr : 0 ≤ r ∧ r + 1 + (cl.length : Int) ≤ 4200) (hcl : rCl S r cl) : ∀ (f k : Nat), k + f = ty.length → (∀ i : Nat, i < k → ty.getD i 0 = cl.getD i 0) → wJ (pe_GA xs) wY0 M (d + 1) t_M_guards ((pe_at t_M_guards.bl 20).getD (0, [])).2 [(0, (2, 237)), (1, (0, rw)), (2, (0, kd)), (3, (0, l)), (4, (0, g)), (5, (0, 1)), (6, (0, (k : Int)))] [] S (fun o Z => S = Z ∧ o = .inl (some (0, if ty = cl.take ty.length then 1 else 0))) := by
  intro f
  induction f with
  | zero =>
    intro k hk hi
    have ek : k = ty.length := by omega
    rw [if_pos (tk_eq hlc (by rw [← ek]; exact hi))]
    refine wa_iload (n := 6) rfl ?_
    refine wa_aload_n (n := 0) rfl ?_
    refine wb_gf4 237 rfl (wy_pr rfl) wt_237 wf_15_164 (v := 384) wl_237_164 ?_
    refine wa_iload_n (n := 1) rfl ?_
    refine wb_iald 384 rfl (wy_pr rfl) wt_384 (n := 20000) ((ml_384 hM)) (by omega) (by omega) (v := (ty.length : Int)) (h84) (fun r1 => ?_)
    refine wa_icmpge (w_rg0 (by omega) (by omega)) (w_rg0 (by omega) (by omega)) ⟨_, rfl⟩ (fun c2 => ?_) (fun c2 => ?_)
    · skip
      refine wa_iload (n := 5) rfl ?_
      refine wa_zreturn rfl (Or.inr rfl) ?_
      exact ⟨rfl, rfl⟩
    · skip
      exfalso; omega
  | succ f ih =>
    intro k hk hi
    obtain ⟨q1, q2, q3⟩ := hcl k (by omega)
    obtain ⟨dk, hdk⟩ : ∃ v : Int, v = ty.getD k 0 := ⟨_, rfl⟩
    have hdr : 0 ≤ dk ∧ dk < 128 := by rw [hdk]; exact hty _ (by rw [List.getD_eq_getElem?_getD, List.getElem?_eq_getElem (by omega)]; exact List.getElem_mem _)
    have hdg := es_dg (n := k) (by omega) hl8 hty
    rw [← hdk] at hdg
    obtain ⟨ck, hck⟩ : ∃ v : Int, v = cl.getD k 0 := ⟨_, rfl⟩
    rw [← hck] at q1
    obtain ⟨ev, hev⟩ : ∃ v : Int, v = esV ty := ⟨_, rfl⟩
    rw [← hev] at hdg h85
    refine wa_iload (n := 6) rfl ?_
    refine wa_aload_n (n := 0) rfl ?_
    refine wb_gf4 237 rfl (wy_pr rfl) wt_237 wf_15_164 (v := 384) wl_237_164 ?_
    refine wa_iload_n (n := 1) rfl ?_
    refine wb_iald 384 rfl (wy_pr rfl) wt_384 (n := 20000) ((ml_384 hM)) (by omega) (by omega) (v := (ty.length : Int)) (h84) (fun r101 => ?_)
    refine wa_icmpge (w_rg0 (by omega) (by omega)) (w_rg0 (by omega) (by omega)) ⟨_, rfl⟩ (fun c102 => ?_) (fun c102 => ?_)
    · skip
      exfalso; omega
    · skip
      refine wa_iload (n := 5) rfl ?_
      refine wa_ifeq (w_rg0 (by omega) (by omega)) ⟨_, rfl⟩ (fun c103 => ?_) (fun c103 => ?_)
      · skip
        exact absurd c103 (by omega)
      · skip
        refine wa_aload_n (n := 0) rfl ?_
        refine wb_gf4 237 rfl (wy_pr rfl) wt_237 wf_15_165 (v := 385) wl_237_165 ?_
        refine wa_iload_n (n := 1) rfl ?_
        refine wb_lald 385 rfl (wy_pr rfl) wt_385 (n := 20000) ((ml_385 hM)) (by omega) (by omega) (v := ev) (h85) (fun r104 => ?_)
        refine wa_bipush (w_rg2 (by omega) (by omega)) ?_
        refine wa_iload (n := 6) rfl ?_
        refine wa_imul ?_
        refine wa_lushr ?_
        refine wb_kl (n := 127) rfl ?_
        refine wa_land ?_
        rw [hdg]
        refine wa_aload_n (n := 0) rfl ?_
        refine wa_aload_n (n := 0) rfl ?_
        refine wb_gf4 237 rfl (wy_pr rfl) wt_237 wf_15_138 (v := 363) wl_237_138 ?_
        refine wa_aload_n (n := 0) rfl ?_
        refine wb_gfi 237 rfl (wy_pr rfl) wt_237 wf_15_173 (v := r) (h73) (fun r105 => ?_)
        refine wa_iconst ?_
        refine wa_iadd ?_
        refine wa_iload (n := 6) rfl ?_
        refine wa_iadd ?_
        refine wb_iald 363 rfl (wy_pr rfl) wt_363 (n := 4200) ((ml_363 hM)) (by omega) (by omega) (v := (S 363 ((r + 1) + (k : Int)))) rfl (fun r106 => ?_)
        refine wa_aload_n (n := 0) rfl ?_
        refine wb_gf4 237 rfl (wy_pr rfl) wt_237 wf_15_139 (v := 364) wl_237_139 ?_
        refine wa_aload_n (n := 0) rfl ?_
        refine wb_gfi 237 rfl (wy_pr rfl) wt_237 wf_15_173 (v := r) (h73) (fun r107 => ?_)
        refine wa_iconst ?_
        refine wa_iadd ?_
        refine wa_iload (n := 6) rfl ?_
        refine wa_iadd ?_
        refine wb_lald 364 rfl (wy_pr rfl) wt_364 (n := 4200) ((ml_364 hM)) (by omega) (by omega) (v := (S 364 ((r + 1) + (k : Int)))) rfl (fun r108 => ?_)
        refine wa_cv 237 rfl (wy_pr rfl) wt_237 (M2 := fun _ => False) rfl at_M_typeOf ⟨_, rfl⟩ rfl rfl ⟨(Or.inr ⟨wy_pr rfl, fun q => q⟩), trivial, trivial, trivial, trivial, trivial, trivial, trivial⟩ ⟨trivial, trivial⟩ (fun _ _ q => False.elim q) (wJ_mono (mty_ok hM q2 q3 ⟨by omega, by omega⟩) (fun o Z hz => (⟨hz.1, by rw [← q1]; exact hz.2⟩ : S = Z ∧ o = .inl (some (0, ck))))) (fun oq109 Sq109 hp110 q109 => ?_)
        rcases q109 with ⟨rfl, rfl⟩
        show wJ _ _ _ _ _ _ _ _ _ _
        have hcr : -2147483648 ≤ ck ∧ ck ≤ 2147483647 := by rw [← q1]; exact clR_rg q2 q3
        refine wa_i2l (w_rg0 (by omega) (by omega)) ?_
        refine wa_lcmp (w_rg1 (by omega) (by omega)) (w_rg1 (by omega) (by omega)) ?_
        refine wa_fall ⟨_, rfl⟩ ?_
        refine wa_ifne (by have := @wb_lcmp_cases; exact w_lcmp_rg) ⟨_, rfl⟩ (fun c111 => ?_) (fun c111 => ?_)
        · skip
          have c111x := @wb_lcmp_cases dk ck
          refine wa_iconst ?_
          refine wa_fall ⟨_, rfl⟩ ?_
          refine wa_istore (n := 5) rfl ?_
          refine wa_iinc rfl rfl ?_
          refine wa_goto ⟨_, rfl⟩ ?_
          rw [if_neg (tk_ex hlc (show k < ty.length by omega) (by rw [← hdk, ← hck]; omega))]
          refine wa_iload (n := 6) rfl ?_
          refine wa_aload_n (n := 0) rfl ?_
          refine wb_gf4 237 rfl (wy_pr rfl) wt_237 wf_15_164 (v := 384) wl_237_164 ?_
          refine wa_iload_n (n := 1) rfl ?_
          refine wb_iald 384 rfl (wy_pr rfl) wt_384 (n := 20000) ((ml_384 hM)) (by omega) (by omega) (v := (ty.length : Int)) (h84) (fun r112 => ?_)
          refine wa_icmpge (w_rg0 (by omega) (by omega)) (w_rg0 (by omega) (by omega)) ⟨_, rfl⟩ (fun c113 => ?_) (fun c113 => ?_)
          · skip
            refine wa_iload (n := 5) rfl ?_
            refine wa_zreturn rfl (Or.inl rfl) ?_
            exact ⟨rfl, rfl⟩
          · skip
            refine wa_iload (n := 5) rfl ?_
            refine wa_ifeq (w_rg0 (by omega) (by omega)) ⟨_, rfl⟩ (fun c114 => ?_) (fun c114 => ?_)
            · skip
              refine wa_iload (n := 5) rfl ?_
              refine wa_zreturn rfl (Or.inl rfl) ?_
              exact ⟨rfl, rfl⟩
            · skip
              exact absurd c114 (by omega)
        · skip
          have c111x := @wb_lcmp_cases dk ck
          refine wa_iconst ?_
          refine wa_goto ⟨_, rfl⟩ ?_
          refine wa_istore (n := 5) rfl ?_
          refine wa_iinc rfl rfl ?_
          refine wa_goto ⟨_, rfl⟩ ?_
          exact wJ_S (ih (k + 1) (by omega) (fun i hi2 => by
            by_cases c : i = k
            · rw [c, ← hdk, ← hck]; omega
            · exact hi i (by omega))) ⟨rfl, rfl, rfl, rfl, rfl, rfl, rfl, trivial⟩
set_option maxHeartbeats 4000000 in
theorem gd_ok (hM : w_ML S) (hrw : 0 ≤ rw ∧ rw < 20000) (h84 : S 384 rw = (ty.length : Int)) (h85 : S 385 rw = esV ty) (hty : esOk ty) (hl8 : ty.length ≤ 8) (hlc : ty.length ≤ cl.length) (h73 : S 237 173 = r) (hr : 0 ≤ r ∧ r + 1 + (cl.length : Int) ≤ 4200) (hcl : rCl S r cl) (ht : rTh S sl T) (hT : (T.length : Int) ≤ 8000) (he : rEc S e rw) (hkd : 0 ≤ kd ∧ kd ≤ 6) (h74 : S 237 174 = gk) (h75 : S 237 175 = gb) (h77 : S 237 177 = en) (hgk : 0 ≤ gk ∧ gk ≤ 8) (hgo : (gk = 4 ∨ gk = 5) → isO T gb ∧ (tO T gb).1 = gk) (hg7 : gk = 7 → (0 ≤ gb ∧ gb < (T.length : Int)) ∧ (tO T gb).1 = 7) (hg8 : gk = 8 → 0 ≤ gb ∧ gb < 60) (hwl : 0 ≤ e.1) : wJ (pe_GA xs) wY0 M (d + 2) t_M_guards ((pe_at t_M_guards.bl 0).getD (0, [])).2 [(0, (2, 237)), (1, (0, rw)), (2, (0, kd))] [] S (fun o Z => S = Z ∧ o = .inl (some (0, if hoR T kd gk gb en ty cl e then 1 else 0))) := by
  obtain ⟨⟨a1, a2, a3, a4, a5, a6⟩, a7, a8, a9⟩ := id he
  obtain ⟨fn, hfn⟩ : ∃ v : Int, v = (tO T gb).2.2.1 := ⟨_, rfl⟩
  obtain ⟨sh, hsh⟩ : ∃ v : Int, v = (tO T gb).2.1 := ⟨_, rfl⟩
  have e15 : (gk = 4 ∨ gk = 5) → (0 ≤ gb ∧ gb < 8000) ∧ S 315 gb = sh ∧ (gk = 5 → S 319 gb = fn) := fun z => by
    obtain ⟨y, y2⟩ := hgo z
    have yy := r_th ht y.1.1 y.1.2
    have y3 := y.1
    exact ⟨⟨by omega, by omega⟩, by rw [hsh]; exact yy.2.1, fun q => by rw [hfn, yy.2.2.1, y2, if_pos q]⟩
  have e21 : gk = 7 → (0 ≤ gb ∧ gb < 8000) ∧ S 321 gb = fn := fun z => by
    obtain ⟨y, y2⟩ := hg7 z
    have yy := r_th ht y.1 y.2
    exact ⟨⟨by omega, by omega⟩, by rw [hfn, yy.2.2.2.1, if_pos y2]⟩
  have hpe : ∀ _ : Nat, hoR T kd gk gb en ty cl e ↔ (((gk = 4 ∨ gk = 5) ∧ e.1 = 0 ∧ (((kd = 4 ∨ kd = 6) ∧ gk = 5 ∧ fn = e.2.1) ∨ (kd ≠ 4 ∧ kd ≠ 6 ∧ sh = e.2.1 ∧ e.2.2.1 = en))) ∨ (¬ (gk = 4 ∨ gk = 5) ∧ ((gk = 7 ∧ e.1 = 1 ∧ e.2.1 = fn) ∨ (gk = 8 ∧ e.1 = 2 ∧ e.2.1 = gb) ∨ (gk = 6 ∧ e.1 = 3 ∧ e.2.1 = 0) ∨ (gk = 3 ∧ e.1 = 3 ∧ e.2.1 = 1)) ∧ ty = cl.take ty.length)) := by
    intro _; subst hfn; subst hsh; exact Iff.rfl
  obtain ⟨b1, hb1⟩ : ∃ b : Bool, b = decide (ty = cl.take ty.length) := ⟨_, rfl⟩
  have hif : ∀ c : Prop, ∀ _ : Decidable c, (c ↔ ty = cl.take ty.length) → (if ty = cl.take ty.length then (1 : Int) else 0) = if c then 1 else 0 := fun c _ hc => by
    by_cases q : c
    · rw [if_pos q, if_pos (hc.mp q)]
    · rw [if_neg q, if_neg (fun z => q (hc.mpr z))]
  refine wa_aload_n (n := 0) rfl ?_
  refine wa_aload_n (n := 0) rfl ?_
  refine wb_gfi 237 rfl (wy_pr rfl) wt_237 wf_15_174 (v := gk) (h74) (fun r401 => ?_)
  refine wa_cv 237 rfl (wy_pr rfl) wt_237 (M2 := fun _ => False) rfl at_M_hasShape ⟨_, rfl⟩ rfl rfl ⟨(Or.inr ⟨wy_pr rfl, fun q => q⟩), trivial, trivial, trivial⟩ trivial (fun _ _ q => False.elim q) ?_ (fun _ _ _ q => q)
  refine wa_iload_n (n := 1) rfl ?_
  refine wa_iconst ?_
  refine wa_icmpeq (w_rg0 (by omega) (by omega)) (w_rg0 (by omega) (by omega)) ⟨_, rfl⟩ (fun c402 => ?_) (fun c402 => ?_)
  · skip
    refine wa_iconst ?_
    refine wa_goto ⟨_, rfl⟩ ?_
    refine wa_zreturn rfl (Or.inr rfl) ?_
    show wJ _ _ _ _ _ _ _ _ _ _
    refine wa_ifeq (w_rg0 (by omega) (by omega)) ⟨_, rfl⟩ (fun c403 => ?_) (fun c403 => ?_)
    · skip
      exact absurd c403 (by omega)
    · skip
      refine wa_aload_n (n := 0) rfl ?_
      refine wb_gf4 237 rfl (wy_pr rfl) wt_237 wf_15_157 (v := 377) wl_237_157 ?_
      refine wa_iload_n (n := 1) rfl ?_
      refine wb_iald 377 rfl (wy_pr rfl) wt_377 (n := 20000) ((ml_377 hM)) (by omega) (by omega) (v := (e.1)) (a1) (fun r404 => ?_)
      refine wa_ifeq (w_rg0 (by omega) (by omega)) ⟨_, rfl⟩ (fun c405 => ?_) (fun c405 => ?_)
      · skip
        refine wa_iload_n (n := 2) rfl ?_
        refine wa_iconst ?_
        refine wa_icmpeq (w_rg0 (by omega) (by omega)) (w_rg0 (by omega) (by omega)) ⟨_, rfl⟩ (fun c406 => ?_) (fun c406 => ?_)
        · skip
          refine wa_aload_n (n := 0) rfl ?_
          refine wb_gfi 237 rfl (wy_pr rfl) wt_237 wf_15_174 (v := gk) (h74) (fun r407 => ?_)
          refine wa_iconst ?_
          refine wa_icmpne (w_rg0 (by omega) (by omega)) (w_rg0 (by omega) (by omega)) ⟨_, rfl⟩ (fun c408 => ?_) (fun c408 => ?_)
          · skip
            refine wa_iconst ?_
            refine wa_fall ⟨_, rfl⟩ ?_
            refine wa_zreturn rfl (Or.inl rfl) ?_
            exact ⟨rfl, by rw [if_neg (fun z => by rcases (hpe 0).mp z with y | y <;> omega)]⟩
          · skip
            exact absurd c408 (by omega)
        · skip
          refine wa_iload_n (n := 2) rfl ?_
          refine wa_bipush (w_rg2 (by omega) (by omega)) ?_
          refine wa_icmpne (w_rg0 (by omega) (by omega)) (w_rg0 (by omega) (by omega)) ⟨_, rfl⟩ (fun c409 => ?_) (fun c409 => ?_)
          · skip
            refine wa_aload_n (n := 0) rfl ?_
            refine wb_gf4 237 rfl (wy_pr rfl) wt_237 wf_15_71 (v := 315) wl_237_71 ?_
            refine wa_aload_n (n := 0) rfl ?_
            refine wb_gfl 237 rfl (wy_pr rfl) wt_237 wf_15_175 (v := gb) (h75) (fun r410 => ?_)
            refine wb_l2i_r (wb_l2i_id ⟨(by omega), (by omega)⟩) ?_
            refine wb_iald 315 rfl (wy_pr rfl) wt_315 (n := 8000) ((ml_315 hM)) (by omega) (by omega) (v := sh) ((e15 (by omega)).2.1) (fun r411 => ?_)
            refine wa_aload_n (n := 0) rfl ?_
            refine wb_gf4 237 rfl (wy_pr rfl) wt_237 wf_15_158 (v := 378) wl_237_158 ?_
            refine wa_iload_n (n := 1) rfl ?_
            refine wb_iald 378 rfl (wy_pr rfl) wt_378 (n := 20000) ((ml_378 hM)) (by omega) (by omega) (v := (e.2.1)) (a2) (fun r412 => ?_)
            refine wa_icmpne (w_rg0 (by omega) (by omega)) (w_rg0 (by omega) (by omega)) ⟨_, rfl⟩ (fun c413 => ?_) (fun c413 => ?_)
            · skip
              refine wa_iconst ?_
              refine wa_fall ⟨_, rfl⟩ ?_
              refine wa_zreturn rfl (Or.inl rfl) ?_
              exact ⟨rfl, by rw [if_neg (fun z => by rcases (hpe 0).mp z with y | y <;> omega)]⟩
            · skip
              refine wa_aload_n (n := 0) rfl ?_
              refine wb_gf4 237 rfl (wy_pr rfl) wt_237 wf_15_159 (v := 379) wl_237_159 ?_
              refine wa_iload_n (n := 1) rfl ?_
              refine wb_iald 379 rfl (wy_pr rfl) wt_379 (n := 20000) ((ml_379 hM)) (by omega) (by omega) (v := (e.2.2.1)) (a3) (fun r414 => ?_)
              refine wa_aload_n (n := 0) rfl ?_
              refine wb_gfi 237 rfl (wy_pr rfl) wt_237 wf_15_177 (v := en) (h77) (fun r415 => ?_)
              refine wa_icmpne (w_rg0 (by omega) (by omega)) (w_rg0 (by omega) (by omega)) ⟨_, rfl⟩ (fun c416 => ?_) (fun c416 => ?_)
              · skip
                refine wa_iconst ?_
                refine wa_fall ⟨_, rfl⟩ ?_
                refine wa_zreturn rfl (Or.inl rfl) ?_
                exact ⟨rfl, by rw [if_neg (fun z => by rcases (hpe 0).mp z with y | y <;> omega)]⟩
              · skip
                refine wa_iconst ?_
                refine wa_goto ⟨_, rfl⟩ ?_
                refine wa_zreturn rfl (Or.inr rfl) ?_
                exact ⟨rfl, by rw [if_pos ((hpe 0).mpr (by omega))]⟩
          · skip
            refine wa_fall ⟨_, rfl⟩ ?_
            refine wa_aload_n (n := 0) rfl ?_
            refine wb_gfi 237 rfl (wy_pr rfl) wt_237 wf_15_174 (v := gk) (h74) (fun r417 => ?_)
            refine wa_iconst ?_
            refine wa_icmpne (w_rg0 (by omega) (by omega)) (w_rg0 (by omega) (by omega)) ⟨_, rfl⟩ (fun c418 => ?_) (fun c418 => ?_)
            · skip
              refine wa_iconst ?_
              refine wa_fall ⟨_, rfl⟩ ?_
              refine wa_zreturn rfl (Or.inl rfl) ?_
              exact ⟨rfl, by rw [if_neg (fun z => by rcases (hpe 0).mp z with y | y <;> omega)]⟩
            · skip
              exact absurd c418 (by omega)
      · skip
        refine wa_iconst ?_
        refine wa_zreturn rfl (Or.inl rfl) ?_
        exact ⟨rfl, by rw [if_neg (fun z => by rcases (hpe 0).mp z with y | y <;> omega)]⟩
  · skip
    refine wa_iload_n (n := 1) rfl ?_
    refine wa_iconst ?_
    refine wa_icmpne (w_rg0 (by omega) (by omega)) (w_rg0 (by omega) (by omega)) ⟨_, rfl⟩ (fun c419 => ?_) (fun c419 => ?_)
    · skip
      refine wa_iconst ?_
      refine wa_fall ⟨_, rfl⟩ ?_
      refine wa_zreturn rfl (Or.inl rfl) ?_
      show wJ _ _ _ _ _ _ _ _ _ _
      refine wa_ifeq (w_rg0 (by omega) (by omega)) ⟨_, rfl⟩ (fun c420 => ?_) (fun c420 => ?_)
      · skip
        refine wa_aload_n (n := 0) rfl ?_
        refine wb_gfi 237 rfl (wy_pr rfl) wt_237 wf_15_174 (v := gk) (h74) (fun r421 => ?_)
        refine wa_bipush (w_rg2 (by omega) (by omega)) ?_
        refine wa_icmpne (w_rg0 (by omega) (by omega)) (w_rg0 (by omega) (by omega)) ⟨_, rfl⟩ (fun c422 => ?_) (fun c422 => ?_)
        · skip
          refine wa_aload_n (n := 0) rfl ?_
          refine wb_gfi 237 rfl (wy_pr rfl) wt_237 wf_15_174 (v := gk) (h74) (fun r423 => ?_)
          refine wa_bipush (w_rg2 (by omega) (by omega)) ?_
          refine wa_icmpne (w_rg0 (by omega) (by omega)) (w_rg0 (by omega) (by omega)) ⟨_, rfl⟩ (fun c424 => ?_) (fun c424 => ?_)
          · skip
            refine wa_aload_n (n := 0) rfl ?_
            refine wb_gfi 237 rfl (wy_pr rfl) wt_237 wf_15_174 (v := gk) (h74) (fun r425 => ?_)
            refine wa_bipush (w_rg2 (by omega) (by omega)) ?_
            refine wa_icmpeq (w_rg0 (by omega) (by omega)) (w_rg0 (by omega) (by omega)) ⟨_, rfl⟩ (fun c426 => ?_) (fun c426 => ?_)
            · skip
              refine wa_iconst ?_
              refine wa_goto ⟨_, rfl⟩ ?_
              refine wa_istore_n (n := 3) rfl ?_
              refine wa_aload_n (n := 0) rfl ?_
              refine wb_gfi 237 rfl (wy_pr rfl) wt_237 wf_15_174 (v := gk) (h74) (fun r427 => ?_)
              refine wa_bipush (w_rg2 (by omega) (by omega)) ?_
              refine wa_icmpne (w_rg0 (by omega) (by omega)) (w_rg0 (by omega) (by omega)) ⟨_, rfl⟩ (fun c428 => ?_) (fun c428 => ?_)
              · skip
                refine wa_aload_n (n := 0) rfl ?_
                refine wb_gfi 237 rfl (wy_pr rfl) wt_237 wf_15_174 (v := gk) (h74) (fun r429 => ?_)
                refine wa_bipush (w_rg2 (by omega) (by omega)) ?_
                refine wa_icmpne (w_rg0 (by omega) (by omega)) (w_rg0 (by omega) (by omega)) ⟨_, rfl⟩ (fun c430 => ?_) (fun c430 => ?_)
                · skip
                  refine wa_aload_n (n := 0) rfl ?_
                  refine wb_gfi 237 rfl (wy_pr rfl) wt_237 wf_15_174 (v := gk) (h74) (fun r431 => ?_)
                  refine wa_bipush (w_rg2 (by omega) (by omega)) ?_
                  refine wa_icmpne (w_rg0 (by omega) (by omega)) (w_rg0 (by omega) (by omega)) ⟨_, rfl⟩ (fun c432 => ?_) (fun c432 => ?_)
                  · skip
                    exact absurd c432 (by omega)
                  · skip
                    refine wa_iconst ?_
                    refine wa_goto ⟨_, rfl⟩ ?_
                    refine wa_istore (n := 4) rfl ?_
                    refine wa_aload_n (n := 0) rfl ?_
                    refine wb_gf4 237 rfl (wy_pr rfl) wt_237 wf_15_157 (v := 377) wl_237_157 ?_
                    refine wa_iload_n (n := 1) rfl ?_
                    refine wb_iald 377 rfl (wy_pr rfl) wt_377 (n := 20000) ((ml_377 hM)) (by omega) (by omega) (v := (e.1)) (a1) (fun r433 => ?_)
                    refine wa_iload_n (n := 3) rfl ?_
                    refine wa_icmpne (w_rg0 (by omega) (by omega)) (w_rg0 (by omega) (by omega)) ⟨_, rfl⟩ (fun c434 => ?_) (fun c434 => ?_)
                    · skip
                      refine wa_iconst ?_
                      refine wa_fall ⟨_, rfl⟩ ?_
                      rw [if_neg (fun z => by rcases (hpe 0).mp z with y | y <;> omega)]
                      refine wa_istore (n := 5) rfl ?_
                      refine wa_iconst ?_
                      refine wa_istore (n := 6) rfl ?_
                      refine wa_fall ⟨_, rfl⟩ ?_
                      refine wa_iload (n := 6) rfl ?_
                      refine wa_aload_n (n := 0) rfl ?_
                      refine wb_gf4 237 rfl (wy_pr rfl) wt_237 wf_15_164 (v := 384) wl_237_164 ?_
                      refine wa_iload_n (n := 1) rfl ?_
                      refine wb_iald 384 rfl (wy_pr rfl) wt_384 (n := 20000) ((ml_384 hM)) (by omega) (by omega) (v := (ty.length : Int)) (h84) (fun r435 => ?_)
                      refine wa_icmpge (w_rg0 (by omega) (by omega)) (w_rg0 (by omega) (by omega)) ⟨_, rfl⟩ (fun c436 => ?_) (fun c436 => ?_)
                      · skip
                        refine wa_iload (n := 5) rfl ?_
                        refine wa_zreturn rfl (Or.inl rfl) ?_
                        exact ⟨rfl, rfl⟩
                      · skip
                        refine wa_iload (n := 5) rfl ?_
                        refine wa_ifeq (w_rg0 (by omega) (by omega)) ⟨_, rfl⟩ (fun c437 => ?_) (fun c437 => ?_)
                        · skip
                          refine wa_iload (n := 5) rfl ?_
                          refine wa_zreturn rfl (Or.inl rfl) ?_
                          exact ⟨rfl, rfl⟩
                        · skip
                          exact absurd c437 (by omega)
                    · skip
                      refine wa_aload_n (n := 0) rfl ?_
                      refine wb_gf4 237 rfl (wy_pr rfl) wt_237 wf_15_158 (v := 378) wl_237_158 ?_
                      refine wa_iload_n (n := 1) rfl ?_
                      refine wb_iald 378 rfl (wy_pr rfl) wt_378 (n := 20000) ((ml_378 hM)) (by omega) (by omega) (v := (e.2.1)) (a2) (fun r438 => ?_)
                      refine wa_iload (n := 4) rfl ?_
                      refine wa_icmpne (w_rg0 (by omega) (by omega)) (w_rg0 (by omega) (by omega)) ⟨_, rfl⟩ (fun c439 => ?_) (fun c439 => ?_)
                      · skip
                        refine wa_iconst ?_
                        refine wa_fall ⟨_, rfl⟩ ?_
                        rw [if_neg (fun z => by rcases (hpe 0).mp z with y | y <;> omega)]
                        refine wa_istore (n := 5) rfl ?_
                        refine wa_iconst ?_
                        refine wa_istore (n := 6) rfl ?_
                        refine wa_fall ⟨_, rfl⟩ ?_
                        refine wa_iload (n := 6) rfl ?_
                        refine wa_aload_n (n := 0) rfl ?_
                        refine wb_gf4 237 rfl (wy_pr rfl) wt_237 wf_15_164 (v := 384) wl_237_164 ?_
                        refine wa_iload_n (n := 1) rfl ?_
                        refine wb_iald 384 rfl (wy_pr rfl) wt_384 (n := 20000) ((ml_384 hM)) (by omega) (by omega) (v := (ty.length : Int)) (h84) (fun r440 => ?_)
                        refine wa_icmpge (w_rg0 (by omega) (by omega)) (w_rg0 (by omega) (by omega)) ⟨_, rfl⟩ (fun c441 => ?_) (fun c441 => ?_)
                        · skip
                          refine wa_iload (n := 5) rfl ?_
                          refine wa_zreturn rfl (Or.inl rfl) ?_
                          exact ⟨rfl, rfl⟩
                        · skip
                          refine wa_iload (n := 5) rfl ?_
                          refine wa_ifeq (w_rg0 (by omega) (by omega)) ⟨_, rfl⟩ (fun c442 => ?_) (fun c442 => ?_)
                          · skip
                            refine wa_iload (n := 5) rfl ?_
                            refine wa_zreturn rfl (Or.inl rfl) ?_
                            exact ⟨rfl, rfl⟩
                          · skip
                            exact absurd c442 (by omega)
                      · skip
                        refine wa_iconst ?_
                        refine wa_goto ⟨_, rfl⟩ ?_
                        have hq : ∀ _ : Nat, (hoR T kd gk gb en ty cl e) ↔ ty = cl.take ty.length := fun _ => (hpe 0).trans ⟨fun z => (z.resolve_left (fun y => by omega)).2.2, fun z => Or.inr ⟨by omega, by omega, z⟩⟩
                        refine wa_istore (n := 5) rfl ?_
                        refine wa_iconst ?_
                        refine wa_istore (n := 6) rfl ?_
                        refine wa_fall ⟨_, rfl⟩ ?_
                        refine wJ_mono (wJ_S (gdl hM hrw h84 h85 hty hl8 hlc h73 hr hcl ty.length 0 (by omega) (fun i hi => absurd hi (Nat.not_lt_zero _))) ⟨rfl, rfl, rfl, rfl, rfl, rfl, rfl, trivial⟩) (fun o Z hz => ⟨hz.1, ?_⟩)
                        rw [hz.2, hif _ _ (hq 0)]
                · skip
                  exact absurd c430 (by omega)
              · skip
                exact absurd c428 (by omega)
            · skip
              refine wa_aload_n (n := 0) rfl ?_
              refine wb_gfi 237 rfl (wy_pr rfl) wt_237 wf_15_174 (v := gk) (h74) (fun r443 => ?_)
              refine wa_iconst ?_
              refine wa_icmpne (w_rg0 (by omega) (by omega)) (w_rg0 (by omega) (by omega)) ⟨_, rfl⟩ (fun c444 => ?_) (fun c444 => ?_)
              · skip
                refine wa_iconst ?_
                refine wa_fall ⟨_, rfl⟩ ?_
                refine wa_istore_n (n := 3) rfl ?_
                refine wa_aload_n (n := 0) rfl ?_
                refine wb_gfi 237 rfl (wy_pr rfl) wt_237 wf_15_174 (v := gk) (h74) (fun r445 => ?_)
                refine wa_bipush (w_rg2 (by omega) (by omega)) ?_
                refine wa_icmpne (w_rg0 (by omega) (by omega)) (w_rg0 (by omega) (by omega)) ⟨_, rfl⟩ (fun c446 => ?_) (fun c446 => ?_)
                · skip
                  refine wa_aload_n (n := 0) rfl ?_
                  refine wb_gfi 237 rfl (wy_pr rfl) wt_237 wf_15_174 (v := gk) (h74) (fun r447 => ?_)
                  refine wa_bipush (w_rg2 (by omega) (by omega)) ?_
                  refine wa_icmpne (w_rg0 (by omega) (by omega)) (w_rg0 (by omega) (by omega)) ⟨_, rfl⟩ (fun c448 => ?_) (fun c448 => ?_)
                  · skip
                    refine wa_aload_n (n := 0) rfl ?_
                    refine wb_gfi 237 rfl (wy_pr rfl) wt_237 wf_15_174 (v := gk) (h74) (fun r449 => ?_)
                    refine wa_bipush (w_rg2 (by omega) (by omega)) ?_
                    refine wa_icmpne (w_rg0 (by omega) (by omega)) (w_rg0 (by omega) (by omega)) ⟨_, rfl⟩ (fun c450 => ?_) (fun c450 => ?_)
                    · skip
                      refine wa_iconst ?_
                      refine wa_fall ⟨_, rfl⟩ ?_
                      refine wa_istore (n := 4) rfl ?_
                      refine wa_aload_n (n := 0) rfl ?_
                      refine wb_gf4 237 rfl (wy_pr rfl) wt_237 wf_15_157 (v := 377) wl_237_157 ?_
                      refine wa_iload_n (n := 1) rfl ?_
                      refine wb_iald 377 rfl (wy_pr rfl) wt_377 (n := 20000) ((ml_377 hM)) (by omega) (by omega) (v := (e.1)) (a1) (fun r451 => ?_)
                      refine wa_iload_n (n := 3) rfl ?_
                      refine wa_icmpne (w_rg0 (by omega) (by omega)) (w_rg0 (by omega) (by omega)) ⟨_, rfl⟩ (fun c452 => ?_) (fun c452 => ?_)
                      · skip
                        refine wa_iconst ?_
                        refine wa_fall ⟨_, rfl⟩ ?_
                        rw [if_neg (fun z => by rcases (hpe 0).mp z with y | y <;> omega)]
                        refine wa_istore (n := 5) rfl ?_
                        refine wa_iconst ?_
                        refine wa_istore (n := 6) rfl ?_
                        refine wa_fall ⟨_, rfl⟩ ?_
                        refine wa_iload (n := 6) rfl ?_
                        refine wa_aload_n (n := 0) rfl ?_
                        refine wb_gf4 237 rfl (wy_pr rfl) wt_237 wf_15_164 (v := 384) wl_237_164 ?_
                        refine wa_iload_n (n := 1) rfl ?_
                        refine wb_iald 384 rfl (wy_pr rfl) wt_384 (n := 20000) ((ml_384 hM)) (by omega) (by omega) (v := (ty.length : Int)) (h84) (fun r453 => ?_)
                        refine wa_icmpge (w_rg0 (by omega) (by omega)) (w_rg0 (by omega) (by omega)) ⟨_, rfl⟩ (fun c454 => ?_) (fun c454 => ?_)
                        · skip
                          refine wa_iload (n := 5) rfl ?_
                          refine wa_zreturn rfl (Or.inl rfl) ?_
                          exact ⟨rfl, rfl⟩
                        · skip
                          refine wa_iload (n := 5) rfl ?_
                          refine wa_ifeq (w_rg0 (by omega) (by omega)) ⟨_, rfl⟩ (fun c455 => ?_) (fun c455 => ?_)
                          · skip
                            refine wa_iload (n := 5) rfl ?_
                            refine wa_zreturn rfl (Or.inl rfl) ?_
                            exact ⟨rfl, rfl⟩
                          · skip
                            exact absurd c455 (by omega)
                      · skip
                        refine wa_aload_n (n := 0) rfl ?_
                        refine wb_gf4 237 rfl (wy_pr rfl) wt_237 wf_15_158 (v := 378) wl_237_158 ?_
                        refine wa_iload_n (n := 1) rfl ?_
                        refine wb_iald 378 rfl (wy_pr rfl) wt_378 (n := 20000) ((ml_378 hM)) (by omega) (by omega) (v := (e.2.1)) (a2) (fun r456 => ?_)
                        refine wa_iload (n := 4) rfl ?_
                        refine wa_icmpne (w_rg0 (by omega) (by omega)) (w_rg0 (by omega) (by omega)) ⟨_, rfl⟩ (fun c457 => ?_) (fun c457 => ?_)
                        · skip
                          refine wa_iconst ?_
                          refine wa_fall ⟨_, rfl⟩ ?_
                          rw [if_neg (fun z => by rcases (hpe 0).mp z with y | y <;> omega)]
                          refine wa_istore (n := 5) rfl ?_
                          refine wa_iconst ?_
                          refine wa_istore (n := 6) rfl ?_
                          refine wa_fall ⟨_, rfl⟩ ?_
                          refine wa_iload (n := 6) rfl ?_
                          refine wa_aload_n (n := 0) rfl ?_
                          refine wb_gf4 237 rfl (wy_pr rfl) wt_237 wf_15_164 (v := 384) wl_237_164 ?_
                          refine wa_iload_n (n := 1) rfl ?_
                          refine wb_iald 384 rfl (wy_pr rfl) wt_384 (n := 20000) ((ml_384 hM)) (by omega) (by omega) (v := (ty.length : Int)) (h84) (fun r458 => ?_)
                          refine wa_icmpge (w_rg0 (by omega) (by omega)) (w_rg0 (by omega) (by omega)) ⟨_, rfl⟩ (fun c459 => ?_) (fun c459 => ?_)
                          · skip
                            refine wa_iload (n := 5) rfl ?_
                            refine wa_zreturn rfl (Or.inl rfl) ?_
                            exact ⟨rfl, rfl⟩
                          · skip
                            refine wa_iload (n := 5) rfl ?_
                            refine wa_ifeq (w_rg0 (by omega) (by omega)) ⟨_, rfl⟩ (fun c460 => ?_) (fun c460 => ?_)
                            · skip
                              refine wa_iload (n := 5) rfl ?_
                              refine wa_zreturn rfl (Or.inl rfl) ?_
                              exact ⟨rfl, rfl⟩
                            · skip
                              exact absurd c460 (by omega)
                        · skip
                          refine wa_iconst ?_
                          refine wa_goto ⟨_, rfl⟩ ?_
                          have hq : ∀ _ : Nat, (hoR T kd gk gb en ty cl e) ↔ ty = cl.take ty.length := fun _ => (hpe 0).trans ⟨fun z => (z.resolve_left (fun y => by omega)).2.2, fun z => Or.inr ⟨by omega, by omega, z⟩⟩
                          refine wa_istore (n := 5) rfl ?_
                          refine wa_iconst ?_
                          refine wa_istore (n := 6) rfl ?_
                          refine wa_fall ⟨_, rfl⟩ ?_
                          refine wJ_mono (wJ_S (gdl hM hrw h84 h85 hty hl8 hlc h73 hr hcl ty.length 0 (by omega) (fun i hi => absurd hi (Nat.not_lt_zero _))) ⟨rfl, rfl, rfl, rfl, rfl, rfl, rfl, trivial⟩) (fun o Z hz => ⟨hz.1, ?_⟩)
                          rw [hz.2, hif _ _ (hq 0)]
                    · skip
                      exact absurd c450 (by omega)
                  · skip
                    exact absurd c448 (by omega)
                · skip
                  exact absurd c446 (by omega)
              · skip
                refine wa_fall ⟨_, rfl⟩ ?_
                refine wa_iconst ?_
                refine wa_goto ⟨_, rfl⟩ ?_
                refine wa_istore_n (n := 3) rfl ?_
                refine wa_aload_n (n := 0) rfl ?_
                refine wb_gfi 237 rfl (wy_pr rfl) wt_237 wf_15_174 (v := gk) (h74) (fun r461 => ?_)
                refine wa_bipush (w_rg2 (by omega) (by omega)) ?_
                refine wa_icmpne (w_rg0 (by omega) (by omega)) (w_rg0 (by omega) (by omega)) ⟨_, rfl⟩ (fun c462 => ?_) (fun c462 => ?_)
                · skip
                  refine wa_aload_n (n := 0) rfl ?_
                  refine wb_gfi 237 rfl (wy_pr rfl) wt_237 wf_15_174 (v := gk) (h74) (fun r463 => ?_)
                  refine wa_bipush (w_rg2 (by omega) (by omega)) ?_
                  refine wa_icmpne (w_rg0 (by omega) (by omega)) (w_rg0 (by omega) (by omega)) ⟨_, rfl⟩ (fun c464 => ?_) (fun c464 => ?_)
                  · skip
                    refine wa_aload_n (n := 0) rfl ?_
                    refine wb_gfi 237 rfl (wy_pr rfl) wt_237 wf_15_174 (v := gk) (h74) (fun r465 => ?_)
                    refine wa_bipush (w_rg2 (by omega) (by omega)) ?_
                    refine wa_icmpne (w_rg0 (by omega) (by omega)) (w_rg0 (by omega) (by omega)) ⟨_, rfl⟩ (fun c466 => ?_) (fun c466 => ?_)
                    · skip
                      refine wa_iconst ?_
                      refine wa_fall ⟨_, rfl⟩ ?_
                      refine wa_istore (n := 4) rfl ?_
                      refine wa_aload_n (n := 0) rfl ?_
                      refine wb_gf4 237 rfl (wy_pr rfl) wt_237 wf_15_157 (v := 377) wl_237_157 ?_
                      refine wa_iload_n (n := 1) rfl ?_
                      refine wb_iald 377 rfl (wy_pr rfl) wt_377 (n := 20000) ((ml_377 hM)) (by omega) (by omega) (v := (e.1)) (a1) (fun r467 => ?_)
                      refine wa_iload_n (n := 3) rfl ?_
                      refine wa_icmpne (w_rg0 (by omega) (by omega)) (w_rg0 (by omega) (by omega)) ⟨_, rfl⟩ (fun c468 => ?_) (fun c468 => ?_)
                      · skip
                        refine wa_iconst ?_
                        refine wa_fall ⟨_, rfl⟩ ?_
                        rw [if_neg (fun z => by rcases (hpe 0).mp z with y | y <;> omega)]
                        refine wa_istore (n := 5) rfl ?_
                        refine wa_iconst ?_
                        refine wa_istore (n := 6) rfl ?_
                        refine wa_fall ⟨_, rfl⟩ ?_
                        refine wa_iload (n := 6) rfl ?_
                        refine wa_aload_n (n := 0) rfl ?_
                        refine wb_gf4 237 rfl (wy_pr rfl) wt_237 wf_15_164 (v := 384) wl_237_164 ?_
                        refine wa_iload_n (n := 1) rfl ?_
                        refine wb_iald 384 rfl (wy_pr rfl) wt_384 (n := 20000) ((ml_384 hM)) (by omega) (by omega) (v := (ty.length : Int)) (h84) (fun r469 => ?_)
                        refine wa_icmpge (w_rg0 (by omega) (by omega)) (w_rg0 (by omega) (by omega)) ⟨_, rfl⟩ (fun c470 => ?_) (fun c470 => ?_)
                        · skip
                          refine wa_iload (n := 5) rfl ?_
                          refine wa_zreturn rfl (Or.inl rfl) ?_
                          exact ⟨rfl, rfl⟩
                        · skip
                          refine wa_iload (n := 5) rfl ?_
                          refine wa_ifeq (w_rg0 (by omega) (by omega)) ⟨_, rfl⟩ (fun c471 => ?_) (fun c471 => ?_)
                          · skip
                            refine wa_iload (n := 5) rfl ?_
                            refine wa_zreturn rfl (Or.inl rfl) ?_
                            exact ⟨rfl, rfl⟩
                          · skip
                            exact absurd c471 (by omega)
                      · skip
                        refine wa_aload_n (n := 0) rfl ?_
                        refine wb_gf4 237 rfl (wy_pr rfl) wt_237 wf_15_158 (v := 378) wl_237_158 ?_
                        refine wa_iload_n (n := 1) rfl ?_
                        refine wb_iald 378 rfl (wy_pr rfl) wt_378 (n := 20000) ((ml_378 hM)) (by omega) (by omega) (v := (e.2.1)) (a2) (fun r472 => ?_)
                        refine wa_iload (n := 4) rfl ?_
                        refine wa_icmpne (w_rg0 (by omega) (by omega)) (w_rg0 (by omega) (by omega)) ⟨_, rfl⟩ (fun c473 => ?_) (fun c473 => ?_)
                        · skip
                          refine wa_iconst ?_
                          refine wa_fall ⟨_, rfl⟩ ?_
                          rw [if_neg (fun z => by rcases (hpe 0).mp z with y | y <;> omega)]
                          refine wa_istore (n := 5) rfl ?_
                          refine wa_iconst ?_
                          refine wa_istore (n := 6) rfl ?_
                          refine wa_fall ⟨_, rfl⟩ ?_
                          refine wa_iload (n := 6) rfl ?_
                          refine wa_aload_n (n := 0) rfl ?_
                          refine wb_gf4 237 rfl (wy_pr rfl) wt_237 wf_15_164 (v := 384) wl_237_164 ?_
                          refine wa_iload_n (n := 1) rfl ?_
                          refine wb_iald 384 rfl (wy_pr rfl) wt_384 (n := 20000) ((ml_384 hM)) (by omega) (by omega) (v := (ty.length : Int)) (h84) (fun r474 => ?_)
                          refine wa_icmpge (w_rg0 (by omega) (by omega)) (w_rg0 (by omega) (by omega)) ⟨_, rfl⟩ (fun c475 => ?_) (fun c475 => ?_)
                          · skip
                            refine wa_iload (n := 5) rfl ?_
                            refine wa_zreturn rfl (Or.inl rfl) ?_
                            exact ⟨rfl, rfl⟩
                          · skip
                            refine wa_iload (n := 5) rfl ?_
                            refine wa_ifeq (w_rg0 (by omega) (by omega)) ⟨_, rfl⟩ (fun c476 => ?_) (fun c476 => ?_)
                            · skip
                              refine wa_iload (n := 5) rfl ?_
                              refine wa_zreturn rfl (Or.inl rfl) ?_
                              exact ⟨rfl, rfl⟩
                            · skip
                              exact absurd c476 (by omega)
                        · skip
                          refine wa_iconst ?_
                          refine wa_goto ⟨_, rfl⟩ ?_
                          have hq : ∀ _ : Nat, (hoR T kd gk gb en ty cl e) ↔ ty = cl.take ty.length := fun _ => (hpe 0).trans ⟨fun z => (z.resolve_left (fun y => by omega)).2.2, fun z => Or.inr ⟨by omega, by omega, z⟩⟩
                          refine wa_istore (n := 5) rfl ?_
                          refine wa_iconst ?_
                          refine wa_istore (n := 6) rfl ?_
                          refine wa_fall ⟨_, rfl⟩ ?_
                          refine wJ_mono (wJ_S (gdl hM hrw h84 h85 hty hl8 hlc h73 hr hcl ty.length 0 (by omega) (fun i hi => absurd hi (Nat.not_lt_zero _))) ⟨rfl, rfl, rfl, rfl, rfl, rfl, rfl, trivial⟩) (fun o Z hz => ⟨hz.1, ?_⟩)
                          rw [hz.2, hif _ _ (hq 0)]
                    · skip
                      exact absurd c466 (by omega)
                  · skip
                    exact absurd c464 (by omega)
                · skip
                  exact absurd c462 (by omega)
          · skip
            refine wa_iconst ?_
            refine wa_goto ⟨_, rfl⟩ ?_
            refine wa_istore_n (n := 3) rfl ?_
            refine wa_aload_n (n := 0) rfl ?_
            refine wb_gfi 237 rfl (wy_pr rfl) wt_237 wf_15_174 (v := gk) (h74) (fun r477 => ?_)
            refine wa_bipush (w_rg2 (by omega) (by omega)) ?_
            refine wa_icmpne (w_rg0 (by omega) (by omega)) (w_rg0 (by omega) (by omega)) ⟨_, rfl⟩ (fun c478 => ?_) (fun c478 => ?_)
            · skip
              refine wa_aload_n (n := 0) rfl ?_
              refine wb_gfi 237 rfl (wy_pr rfl) wt_237 wf_15_174 (v := gk) (h74) (fun r479 => ?_)
              refine wa_bipush (w_rg2 (by omega) (by omega)) ?_
              refine wa_icmpne (w_rg0 (by omega) (by omega)) (w_rg0 (by omega) (by omega)) ⟨_, rfl⟩ (fun c480 => ?_) (fun c480 => ?_)
              · skip
                exact absurd c480 (by omega)
              · skip
                refine wa_aload_n (n := 0) rfl ?_
                refine wb_gfl 237 rfl (wy_pr rfl) wt_237 wf_15_175 (v := gb) (h75) (fun r481 => ?_)
                refine wb_l2i_r (wb_l2i_id ⟨(by omega), (by omega)⟩) ?_
                refine wa_goto ⟨_, rfl⟩ ?_
                refine wa_istore (n := 4) rfl ?_
                refine wa_aload_n (n := 0) rfl ?_
                refine wb_gf4 237 rfl (wy_pr rfl) wt_237 wf_15_157 (v := 377) wl_237_157 ?_
                refine wa_iload_n (n := 1) rfl ?_
                refine wb_iald 377 rfl (wy_pr rfl) wt_377 (n := 20000) ((ml_377 hM)) (by omega) (by omega) (v := (e.1)) (a1) (fun r482 => ?_)
                refine wa_iload_n (n := 3) rfl ?_
                refine wa_icmpne (w_rg0 (by omega) (by omega)) (w_rg0 (by omega) (by omega)) ⟨_, rfl⟩ (fun c483 => ?_) (fun c483 => ?_)
                · skip
                  refine wa_iconst ?_
                  refine wa_fall ⟨_, rfl⟩ ?_
                  rw [if_neg (fun z => by rcases (hpe 0).mp z with y | y <;> omega)]
                  refine wa_istore (n := 5) rfl ?_
                  refine wa_iconst ?_
                  refine wa_istore (n := 6) rfl ?_
                  refine wa_fall ⟨_, rfl⟩ ?_
                  refine wa_iload (n := 6) rfl ?_
                  refine wa_aload_n (n := 0) rfl ?_
                  refine wb_gf4 237 rfl (wy_pr rfl) wt_237 wf_15_164 (v := 384) wl_237_164 ?_
                  refine wa_iload_n (n := 1) rfl ?_
                  refine wb_iald 384 rfl (wy_pr rfl) wt_384 (n := 20000) ((ml_384 hM)) (by omega) (by omega) (v := (ty.length : Int)) (h84) (fun r484 => ?_)
                  refine wa_icmpge (w_rg0 (by omega) (by omega)) (w_rg0 (by omega) (by omega)) ⟨_, rfl⟩ (fun c485 => ?_) (fun c485 => ?_)
                  · skip
                    refine wa_iload (n := 5) rfl ?_
                    refine wa_zreturn rfl (Or.inl rfl) ?_
                    exact ⟨rfl, rfl⟩
                  · skip
                    refine wa_iload (n := 5) rfl ?_
                    refine wa_ifeq (w_rg0 (by omega) (by omega)) ⟨_, rfl⟩ (fun c486 => ?_) (fun c486 => ?_)
                    · skip
                      refine wa_iload (n := 5) rfl ?_
                      refine wa_zreturn rfl (Or.inl rfl) ?_
                      exact ⟨rfl, rfl⟩
                    · skip
                      exact absurd c486 (by omega)
                · skip
                  refine wa_aload_n (n := 0) rfl ?_
                  refine wb_gf4 237 rfl (wy_pr rfl) wt_237 wf_15_158 (v := 378) wl_237_158 ?_
                  refine wa_iload_n (n := 1) rfl ?_
                  refine wb_iald 378 rfl (wy_pr rfl) wt_378 (n := 20000) ((ml_378 hM)) (by omega) (by omega) (v := (e.2.1)) (a2) (fun r487 => ?_)
                  refine wa_iload (n := 4) rfl ?_
                  refine wa_icmpne (w_rg0 (by omega) (by omega)) (w_rg0 (by omega) (by omega)) ⟨_, rfl⟩ (fun c488 => ?_) (fun c488 => ?_)
                  · skip
                    refine wa_iconst ?_
                    refine wa_fall ⟨_, rfl⟩ ?_
                    rw [if_neg (fun z => by rcases (hpe 0).mp z with y | y <;> omega)]
                    refine wa_istore (n := 5) rfl ?_
                    refine wa_iconst ?_
                    refine wa_istore (n := 6) rfl ?_
                    refine wa_fall ⟨_, rfl⟩ ?_
                    refine wa_iload (n := 6) rfl ?_
                    refine wa_aload_n (n := 0) rfl ?_
                    refine wb_gf4 237 rfl (wy_pr rfl) wt_237 wf_15_164 (v := 384) wl_237_164 ?_
                    refine wa_iload_n (n := 1) rfl ?_
                    refine wb_iald 384 rfl (wy_pr rfl) wt_384 (n := 20000) ((ml_384 hM)) (by omega) (by omega) (v := (ty.length : Int)) (h84) (fun r489 => ?_)
                    refine wa_icmpge (w_rg0 (by omega) (by omega)) (w_rg0 (by omega) (by omega)) ⟨_, rfl⟩ (fun c490 => ?_) (fun c490 => ?_)
                    · skip
                      refine wa_iload (n := 5) rfl ?_
                      refine wa_zreturn rfl (Or.inl rfl) ?_
                      exact ⟨rfl, rfl⟩
                    · skip
                      refine wa_iload (n := 5) rfl ?_
                      refine wa_ifeq (w_rg0 (by omega) (by omega)) ⟨_, rfl⟩ (fun c491 => ?_) (fun c491 => ?_)
                      · skip
                        refine wa_iload (n := 5) rfl ?_
                        refine wa_zreturn rfl (Or.inl rfl) ?_
                        exact ⟨rfl, rfl⟩
                      · skip
                        exact absurd c491 (by omega)
                  · skip
                    refine wa_iconst ?_
                    refine wa_goto ⟨_, rfl⟩ ?_
                    have hq : ∀ _ : Nat, (hoR T kd gk gb en ty cl e) ↔ ty = cl.take ty.length := fun _ => (hpe 0).trans ⟨fun z => (z.resolve_left (fun y => by omega)).2.2, fun z => Or.inr ⟨by omega, by omega, z⟩⟩
                    refine wa_istore (n := 5) rfl ?_
                    refine wa_iconst ?_
                    refine wa_istore (n := 6) rfl ?_
                    refine wa_fall ⟨_, rfl⟩ ?_
                    refine wJ_mono (wJ_S (gdl hM hrw h84 h85 hty hl8 hlc h73 hr hcl ty.length 0 (by omega) (fun i hi => absurd hi (Nat.not_lt_zero _))) ⟨rfl, rfl, rfl, rfl, rfl, rfl, rfl, trivial⟩) (fun o Z hz => ⟨hz.1, ?_⟩)
                    rw [hz.2, hif _ _ (hq 0)]
            · skip
              exact absurd c478 (by omega)
        · skip
          refine wa_iconst ?_
          refine wa_goto ⟨_, rfl⟩ ?_
          refine wa_istore_n (n := 3) rfl ?_
          refine wa_aload_n (n := 0) rfl ?_
          refine wb_gfi 237 rfl (wy_pr rfl) wt_237 wf_15_174 (v := gk) (h74) (fun r492 => ?_)
          refine wa_bipush (w_rg2 (by omega) (by omega)) ?_
          refine wa_icmpne (w_rg0 (by omega) (by omega)) (w_rg0 (by omega) (by omega)) ⟨_, rfl⟩ (fun c493 => ?_) (fun c493 => ?_)
          · skip
            exact absurd c493 (by omega)
          · skip
            refine wa_aload_n (n := 0) rfl ?_
            refine wb_gf4 237 rfl (wy_pr rfl) wt_237 wf_15_77 (v := 321) wl_237_77 ?_
            refine wa_aload_n (n := 0) rfl ?_
            refine wb_gfl 237 rfl (wy_pr rfl) wt_237 wf_15_175 (v := gb) (h75) (fun r494 => ?_)
            refine wb_l2i_r (wb_l2i_id ⟨(by omega), (by omega)⟩) ?_
            refine wb_iald 321 rfl (wy_pr rfl) wt_321 (n := 8000) ((ml_321 hM)) (by omega) (by omega) (v := fn) ((e21 (by omega)).2) (fun r495 => ?_)
            refine wa_goto ⟨_, rfl⟩ ?_
            refine wa_istore (n := 4) rfl ?_
            refine wa_aload_n (n := 0) rfl ?_
            refine wb_gf4 237 rfl (wy_pr rfl) wt_237 wf_15_157 (v := 377) wl_237_157 ?_
            refine wa_iload_n (n := 1) rfl ?_
            refine wb_iald 377 rfl (wy_pr rfl) wt_377 (n := 20000) ((ml_377 hM)) (by omega) (by omega) (v := (e.1)) (a1) (fun r496 => ?_)
            refine wa_iload_n (n := 3) rfl ?_
            refine wa_icmpne (w_rg0 (by omega) (by omega)) (w_rg0 (by omega) (by omega)) ⟨_, rfl⟩ (fun c497 => ?_) (fun c497 => ?_)
            · skip
              refine wa_iconst ?_
              refine wa_fall ⟨_, rfl⟩ ?_
              rw [if_neg (fun z => by rcases (hpe 0).mp z with y | y <;> omega)]
              refine wa_istore (n := 5) rfl ?_
              refine wa_iconst ?_
              refine wa_istore (n := 6) rfl ?_
              refine wa_fall ⟨_, rfl⟩ ?_
              refine wa_iload (n := 6) rfl ?_
              refine wa_aload_n (n := 0) rfl ?_
              refine wb_gf4 237 rfl (wy_pr rfl) wt_237 wf_15_164 (v := 384) wl_237_164 ?_
              refine wa_iload_n (n := 1) rfl ?_
              refine wb_iald 384 rfl (wy_pr rfl) wt_384 (n := 20000) ((ml_384 hM)) (by omega) (by omega) (v := (ty.length : Int)) (h84) (fun r498 => ?_)
              refine wa_icmpge (w_rg0 (by omega) (by omega)) (w_rg0 (by omega) (by omega)) ⟨_, rfl⟩ (fun c499 => ?_) (fun c499 => ?_)
              · skip
                refine wa_iload (n := 5) rfl ?_
                refine wa_zreturn rfl (Or.inl rfl) ?_
                exact ⟨rfl, rfl⟩
              · skip
                refine wa_iload (n := 5) rfl ?_
                refine wa_ifeq (w_rg0 (by omega) (by omega)) ⟨_, rfl⟩ (fun c500 => ?_) (fun c500 => ?_)
                · skip
                  refine wa_iload (n := 5) rfl ?_
                  refine wa_zreturn rfl (Or.inl rfl) ?_
                  exact ⟨rfl, rfl⟩
                · skip
                  exact absurd c500 (by omega)
            · skip
              refine wa_aload_n (n := 0) rfl ?_
              refine wb_gf4 237 rfl (wy_pr rfl) wt_237 wf_15_158 (v := 378) wl_237_158 ?_
              refine wa_iload_n (n := 1) rfl ?_
              refine wb_iald 378 rfl (wy_pr rfl) wt_378 (n := 20000) ((ml_378 hM)) (by omega) (by omega) (v := (e.2.1)) (a2) (fun r501 => ?_)
              refine wa_iload (n := 4) rfl ?_
              refine wa_icmpne (w_rg0 (by omega) (by omega)) (w_rg0 (by omega) (by omega)) ⟨_, rfl⟩ (fun c502 => ?_) (fun c502 => ?_)
              · skip
                refine wa_iconst ?_
                refine wa_fall ⟨_, rfl⟩ ?_
                rw [if_neg (fun z => by rcases (hpe 0).mp z with y | y <;> omega)]
                refine wa_istore (n := 5) rfl ?_
                refine wa_iconst ?_
                refine wa_istore (n := 6) rfl ?_
                refine wa_fall ⟨_, rfl⟩ ?_
                refine wa_iload (n := 6) rfl ?_
                refine wa_aload_n (n := 0) rfl ?_
                refine wb_gf4 237 rfl (wy_pr rfl) wt_237 wf_15_164 (v := 384) wl_237_164 ?_
                refine wa_iload_n (n := 1) rfl ?_
                refine wb_iald 384 rfl (wy_pr rfl) wt_384 (n := 20000) ((ml_384 hM)) (by omega) (by omega) (v := (ty.length : Int)) (h84) (fun r503 => ?_)
                refine wa_icmpge (w_rg0 (by omega) (by omega)) (w_rg0 (by omega) (by omega)) ⟨_, rfl⟩ (fun c504 => ?_) (fun c504 => ?_)
                · skip
                  refine wa_iload (n := 5) rfl ?_
                  refine wa_zreturn rfl (Or.inl rfl) ?_
                  exact ⟨rfl, rfl⟩
                · skip
                  refine wa_iload (n := 5) rfl ?_
                  refine wa_ifeq (w_rg0 (by omega) (by omega)) ⟨_, rfl⟩ (fun c505 => ?_) (fun c505 => ?_)
                  · skip
                    refine wa_iload (n := 5) rfl ?_
                    refine wa_zreturn rfl (Or.inl rfl) ?_
                    exact ⟨rfl, rfl⟩
                  · skip
                    exact absurd c505 (by omega)
              · skip
                refine wa_iconst ?_
                refine wa_goto ⟨_, rfl⟩ ?_
                have hq : ∀ _ : Nat, (hoR T kd gk gb en ty cl e) ↔ ty = cl.take ty.length := fun _ => (hpe 0).trans ⟨fun z => (z.resolve_left (fun y => by omega)).2.2, fun z => Or.inr ⟨by omega, by omega, z⟩⟩
                refine wa_istore (n := 5) rfl ?_
                refine wa_iconst ?_
                refine wa_istore (n := 6) rfl ?_
                refine wa_fall ⟨_, rfl⟩ ?_
                refine wJ_mono (wJ_S (gdl hM hrw h84 h85 hty hl8 hlc h73 hr hcl ty.length 0 (by omega) (fun i hi => absurd hi (Nat.not_lt_zero _))) ⟨rfl, rfl, rfl, rfl, rfl, rfl, rfl, trivial⟩) (fun o Z hz => ⟨hz.1, ?_⟩)
                rw [hz.2, hif _ _ (hq 0)]
      · skip
        exact absurd c420 (by omega)
    · skip
      refine wa_fall ⟨_, rfl⟩ ?_
      refine wa_iconst ?_
      refine wa_goto ⟨_, rfl⟩ ?_
      refine wa_zreturn rfl (Or.inr rfl) ?_
      show wJ _ _ _ _ _ _ _ _ _ _
      refine wa_ifeq (w_rg0 (by omega) (by omega)) ⟨_, rfl⟩ (fun c506 => ?_) (fun c506 => ?_)
      · skip
        exact absurd c506 (by omega)
      · skip
        refine wa_aload_n (n := 0) rfl ?_
        refine wb_gf4 237 rfl (wy_pr rfl) wt_237 wf_15_157 (v := 377) wl_237_157 ?_
        refine wa_iload_n (n := 1) rfl ?_
        refine wb_iald 377 rfl (wy_pr rfl) wt_377 (n := 20000) ((ml_377 hM)) (by omega) (by omega) (v := (e.1)) (a1) (fun r507 => ?_)
        refine wa_ifeq (w_rg0 (by omega) (by omega)) ⟨_, rfl⟩ (fun c508 => ?_) (fun c508 => ?_)
        · skip
          refine wa_iload_n (n := 2) rfl ?_
          refine wa_iconst ?_
          refine wa_icmpeq (w_rg0 (by omega) (by omega)) (w_rg0 (by omega) (by omega)) ⟨_, rfl⟩ (fun c509 => ?_) (fun c509 => ?_)
          · skip
            refine wa_aload_n (n := 0) rfl ?_
            refine wb_gfi 237 rfl (wy_pr rfl) wt_237 wf_15_174 (v := gk) (h74) (fun r510 => ?_)
            refine wa_iconst ?_
            refine wa_icmpne (w_rg0 (by omega) (by omega)) (w_rg0 (by omega) (by omega)) ⟨_, rfl⟩ (fun c511 => ?_) (fun c511 => ?_)
            · skip
              exact absurd c511 (by omega)
            · skip
              refine wa_aload_n (n := 0) rfl ?_
              refine wb_gf4 237 rfl (wy_pr rfl) wt_237 wf_15_75 (v := 319) wl_237_75 ?_
              refine wa_aload_n (n := 0) rfl ?_
              refine wb_gfl 237 rfl (wy_pr rfl) wt_237 wf_15_175 (v := gb) (h75) (fun r512 => ?_)
              refine wb_l2i_r (wb_l2i_id ⟨(by omega), (by omega)⟩) ?_
              refine wb_iald 319 rfl (wy_pr rfl) wt_319 (n := 8000) ((ml_319 hM)) (by omega) (by omega) (v := fn) (((e15 (by omega)).2.2 (by omega))) (fun r513 => ?_)
              refine wa_aload_n (n := 0) rfl ?_
              refine wb_gf4 237 rfl (wy_pr rfl) wt_237 wf_15_158 (v := 378) wl_237_158 ?_
              refine wa_iload_n (n := 1) rfl ?_
              refine wb_iald 378 rfl (wy_pr rfl) wt_378 (n := 20000) ((ml_378 hM)) (by omega) (by omega) (v := (e.2.1)) (a2) (fun r514 => ?_)
              refine wa_icmpne (w_rg0 (by omega) (by omega)) (w_rg0 (by omega) (by omega)) ⟨_, rfl⟩ (fun c515 => ?_) (fun c515 => ?_)
              · skip
                refine wa_iconst ?_
                refine wa_fall ⟨_, rfl⟩ ?_
                refine wa_zreturn rfl (Or.inl rfl) ?_
                exact ⟨rfl, by rw [if_neg (fun z => by rcases (hpe 0).mp z with y | y <;> omega)]⟩
              · skip
                refine wa_iconst ?_
                refine wa_goto ⟨_, rfl⟩ ?_
                refine wa_zreturn rfl (Or.inr rfl) ?_
                exact ⟨rfl, by rw [if_pos ((hpe 0).mpr (by omega))]⟩
          · skip
            refine wa_iload_n (n := 2) rfl ?_
            refine wa_bipush (w_rg2 (by omega) (by omega)) ?_
            refine wa_icmpne (w_rg0 (by omega) (by omega)) (w_rg0 (by omega) (by omega)) ⟨_, rfl⟩ (fun c516 => ?_) (fun c516 => ?_)
            · skip
              refine wa_aload_n (n := 0) rfl ?_
              refine wb_gf4 237 rfl (wy_pr rfl) wt_237 wf_15_71 (v := 315) wl_237_71 ?_
              refine wa_aload_n (n := 0) rfl ?_
              refine wb_gfl 237 rfl (wy_pr rfl) wt_237 wf_15_175 (v := gb) (h75) (fun r517 => ?_)
              refine wb_l2i_r (wb_l2i_id ⟨(by omega), (by omega)⟩) ?_
              refine wb_iald 315 rfl (wy_pr rfl) wt_315 (n := 8000) ((ml_315 hM)) (by omega) (by omega) (v := sh) ((e15 (by omega)).2.1) (fun r518 => ?_)
              refine wa_aload_n (n := 0) rfl ?_
              refine wb_gf4 237 rfl (wy_pr rfl) wt_237 wf_15_158 (v := 378) wl_237_158 ?_
              refine wa_iload_n (n := 1) rfl ?_
              refine wb_iald 378 rfl (wy_pr rfl) wt_378 (n := 20000) ((ml_378 hM)) (by omega) (by omega) (v := (e.2.1)) (a2) (fun r519 => ?_)
              refine wa_icmpne (w_rg0 (by omega) (by omega)) (w_rg0 (by omega) (by omega)) ⟨_, rfl⟩ (fun c520 => ?_) (fun c520 => ?_)
              · skip
                refine wa_iconst ?_
                refine wa_fall ⟨_, rfl⟩ ?_
                refine wa_zreturn rfl (Or.inl rfl) ?_
                exact ⟨rfl, by rw [if_neg (fun z => by rcases (hpe 0).mp z with y | y <;> omega)]⟩
              · skip
                refine wa_aload_n (n := 0) rfl ?_
                refine wb_gf4 237 rfl (wy_pr rfl) wt_237 wf_15_159 (v := 379) wl_237_159 ?_
                refine wa_iload_n (n := 1) rfl ?_
                refine wb_iald 379 rfl (wy_pr rfl) wt_379 (n := 20000) ((ml_379 hM)) (by omega) (by omega) (v := (e.2.2.1)) (a3) (fun r521 => ?_)
                refine wa_aload_n (n := 0) rfl ?_
                refine wb_gfi 237 rfl (wy_pr rfl) wt_237 wf_15_177 (v := en) (h77) (fun r522 => ?_)
                refine wa_icmpne (w_rg0 (by omega) (by omega)) (w_rg0 (by omega) (by omega)) ⟨_, rfl⟩ (fun c523 => ?_) (fun c523 => ?_)
                · skip
                  refine wa_iconst ?_
                  refine wa_fall ⟨_, rfl⟩ ?_
                  refine wa_zreturn rfl (Or.inl rfl) ?_
                  exact ⟨rfl, by rw [if_neg (fun z => by rcases (hpe 0).mp z with y | y <;> omega)]⟩
                · skip
                  refine wa_iconst ?_
                  refine wa_goto ⟨_, rfl⟩ ?_
                  refine wa_zreturn rfl (Or.inr rfl) ?_
                  exact ⟨rfl, by rw [if_pos ((hpe 0).mpr (by omega))]⟩
            · skip
              refine wa_fall ⟨_, rfl⟩ ?_
              refine wa_aload_n (n := 0) rfl ?_
              refine wb_gfi 237 rfl (wy_pr rfl) wt_237 wf_15_174 (v := gk) (h74) (fun r524 => ?_)
              refine wa_iconst ?_
              refine wa_icmpne (w_rg0 (by omega) (by omega)) (w_rg0 (by omega) (by omega)) ⟨_, rfl⟩ (fun c525 => ?_) (fun c525 => ?_)
              · skip
                exact absurd c525 (by omega)
              · skip
                refine wa_aload_n (n := 0) rfl ?_
                refine wb_gf4 237 rfl (wy_pr rfl) wt_237 wf_15_75 (v := 319) wl_237_75 ?_
                refine wa_aload_n (n := 0) rfl ?_
                refine wb_gfl 237 rfl (wy_pr rfl) wt_237 wf_15_175 (v := gb) (h75) (fun r526 => ?_)
                refine wb_l2i_r (wb_l2i_id ⟨(by omega), (by omega)⟩) ?_
                refine wb_iald 319 rfl (wy_pr rfl) wt_319 (n := 8000) ((ml_319 hM)) (by omega) (by omega) (v := fn) (((e15 (by omega)).2.2 (by omega))) (fun r527 => ?_)
                refine wa_aload_n (n := 0) rfl ?_
                refine wb_gf4 237 rfl (wy_pr rfl) wt_237 wf_15_158 (v := 378) wl_237_158 ?_
                refine wa_iload_n (n := 1) rfl ?_
                refine wb_iald 378 rfl (wy_pr rfl) wt_378 (n := 20000) ((ml_378 hM)) (by omega) (by omega) (v := (e.2.1)) (a2) (fun r528 => ?_)
                refine wa_icmpne (w_rg0 (by omega) (by omega)) (w_rg0 (by omega) (by omega)) ⟨_, rfl⟩ (fun c529 => ?_) (fun c529 => ?_)
                · skip
                  refine wa_iconst ?_
                  refine wa_fall ⟨_, rfl⟩ ?_
                  refine wa_zreturn rfl (Or.inl rfl) ?_
                  exact ⟨rfl, by rw [if_neg (fun z => by rcases (hpe 0).mp z with y | y <;> omega)]⟩
                · skip
                  refine wa_iconst ?_
                  refine wa_goto ⟨_, rfl⟩ ?_
                  refine wa_zreturn rfl (Or.inr rfl) ?_
                  exact ⟨rfl, by rw [if_pos ((hpe 0).mpr (by omega))]⟩
        · skip
          refine wa_iconst ?_
          refine wa_zreturn rfl (Or.inl rfl) ?_
          exact ⟨rfl, by rw [if_neg (fun z => by rcases (hpe 0).mp z with y | y <;> omega)]⟩
end Wgt
