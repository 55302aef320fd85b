/-! PART hp: the class: firstUnset; the last loop of construct. -/
section Whp
variable {xs : List (Nat × List Int32)} {M : Nat → Prop} {d : Nat} {S Z A : wS} {T : Int → Int} {cs : List hCR} {ms : List hMR} {os : Int → List Int} {Q : wO → wS → Prop}
/-- the lowest place that has what is asked for -/
def fuD (st : Int) (pr : Nat → Bool) : Nat → Int → Int
  | 0, a => a
  | n + 1, a => fuD st pr n (if pr n = true then st + (n : Int) else a)
/-- the kind that a field has at first -/
def fkI (ty : Int) : Int := if ty = 1 ∨ ty = 2 then 2 else if ty = 3 then 1 else 0
/-- the fields that no argument has set have got their first values -/
def fvR (st : Int) (ty : Nat → Int) (n : Nat) (S Z : wS) : Prop := (∀ i : Nat, i < n → Z 141 (st + (i : Int)) = (if S 141 (st + (i : Int)) = -1 then fkI (ty i) else S 141 (st + (i : Int))) ∧ Z 142 (st + (i : Int)) = (if S 141 (st + (i : Int)) = -1 then 0 else S 142 (st + (i : Int)))) ∧ (∀ (j : Nat) (i : Int), ((j ≠ 141 ∧ j ≠ 142) ∨ i < st ∨ st + (n : Int) ≤ i) → Z j i = S j i)
theorem fi_0 {st : Int} {ty : Nat → Int} : fvR st ty 0 S S := ⟨fun i hi => absurd hi (by omega), fun j i _ => rfl⟩
theorem fi_n {st : Int} {ty : Nat → Int} {n : Nat} (h : fvR st ty n S Z) (hk : S 141 (st + (n : Int)) ≠ -1) : fvR st ty (n + 1) S Z := by
  refine ⟨fun i hi => ?_, fun j i q => h.2 j i (by omega)⟩
  by_cases c : i < n
  · exact h.1 i c
  · obtain rfl : i = n := by omega
    rw [if_neg hk, if_neg hk]
    exact ⟨h.2 141 _ (by omega), h.2 142 _ (by omega)⟩
theorem fi_u {st : Int} {ty : Nat → Int} {n : Nat} (h : fvR st ty n (w_up (w_up S 141 (st + (n : Int)) (fkI (ty n))) 142 (st + (n : Int)) 0) Z) (hk : S 141 (st + (n : Int)) = -1) : fvR st ty (n + 1) S Z := by
  refine ⟨fun i hi => ?_, fun j i q => (h.2 j i (by omega)).trans ((w_up_no (by omega)).trans (w_up_no (by omega)))⟩
  by_cases c : i < n
  · have z := h.1 i c
    rw [show (w_up (w_up S 141 (st + (n : Int)) (fkI (ty n))) 142 (st + (n : Int)) 0) 141 (st + (i : Int)) = S 141 (st + (i : Int)) from (w_up_no (by omega)).trans (w_up_no (by omega)), show (w_up (w_up S 141 (st + (n : Int)) (fkI (ty n))) 142 (st + (n : Int)) 0) 142 (st + (i : Int)) = S 142 (st + (i : Int)) from (w_up_no (by omega)).trans (w_up_no (by omega))] at z
    exact z
  · obtain rfl : i = n := by omega
    rw [if_pos hk, if_pos hk]
    exact ⟨(h.2 141 _ (by omega)).trans ((w_up_no (by omega)).trans (w_up_same _ _ _ _)), (h.2 142 _ (by omega)).trans (w_up_same _ _ _ _)⟩
theorem ful_73 {g wt st : Int} {nf : Nat} {fd ty : Nat → Int} (hC : w_CL S) (h72 : S 72 1 = 73) (hl14 : S 142 (-1) = S 141 (-1)) (hz14 : 16 ≤ S 141 (-1) ∧ S 141 (-1) ≤ 480400) (hst : 0 ≤ st ∧ st + (nf : Int) ≤ S 141 (-1)) (hfd : ∀ i : Nat, i < nf → 0 ≤ fd i ∧ fd i < 400) (hft : ∀ i : Nat, i < nf → S 100 (fd i) = ty i) (hfb : ∀ i : Nat, i + 1 < nf → S 113 (fd (i + 1)) = fd i) (hwt : 0 ≤ wt ∧ wt ≤ 1000) : ∀ (n : Nat), n ≤ nf → ∀ x a y : Int, (0 < n → x = fd (n - 1)) → y = st + (n : Int) - 1 → wJ (pe_GA xs) wY0 M (d + 1) t_XL_firstUnset ((pe_at t_XL_firstUnset.bl 1).getD (0, [])).2 [(0, (2, 158)), (1, (0, g)), (2, (0, wt)), (3, (2, 73)), (4, (0, st)), (5, (0, a)), (6, (0, x)), (7, (0, y))] [] S (fun o Z => S = Z ∧ o = .inl (some (0, fuD st (fun i => decide (S 141 (st + (i : Int)) = -1 ∧ ty i = wt)) n a))) := by
  intro n
  induction n with
  | zero =>
    intro hn x a y hx hy
    refine wa_iload (n := 7) rfl ?_
    refine wa_iload (n := 4) rfl ?_
    refine wa_icmplt (w_rg0 (by omega) (by omega)) (w_rg0 (by omega) (by omega)) ⟨_, rfl⟩ (fun c1 => ?_) (fun c1 => ?_)
    · skip
      refine wa_iload (n := 5) rfl ?_
      refine wa_ireturn rfl ?_
      exact ⟨rfl, rfl⟩
    · skip
      exfalso; omega
  | succ n ih =>
    intro hn x a y hx hy
    obtain rfl : x = fd n := hx (by omega)
    obtain rfl : y = st + (n : Int) := by omega
    have f1 := hfd n (by omega)
    have f2 : S 100 (fd n) = ty n := hft n (by omega)
    have f3 : 0 < n → S 113 (fd n) = fd (n - 1) := fun z => by
      have z2 := hfb (n - 1) (by omega)
      rw [show n - 1 + 1 = n by omega] at z2
      exact z2
    refine wa_iload (n := 7) rfl ?_
    refine wa_iload (n := 4) rfl ?_
    refine wa_icmplt (w_rg0 (by omega) (by omega)) (w_rg0 (by omega) (by omega)) ⟨_, rfl⟩ (fun c51 => ?_) (fun c51 => ?_)
    · skip
      exfalso; omega
    · skip
      refine wa_aload_n (n := 0) rfl ?_
      refine wb_gf4 158 rfl (wy_pr rfl) wt_158 wf_5_0 (v := 72) wl_158_0 ?_
      refine wb_gf4 72 rfl (wy_pr rfl) wt_72 wf_2_6 (v := 140) wl_72_6 ?_
      refine wb_gf4 140 rfl (wy_pr rfl) wt_140 wf_7_0 (v := 141) wl_140_0 ?_
      refine wa_iload (n := 7) rfl ?_
      refine wb_bald 141 rfl (wy_pr rfl) wt_141 (n := (S 141 (-1))) (rfl) (by omega) (by omega) (v := (S 141 (st + (n : Int)))) rfl (fun r52 => ?_)
      refine wa_iconst ?_
      refine wa_icmpne (w_rg0 (by omega) (by omega)) (w_rg0 (by omega) (by omega)) ⟨_, rfl⟩ (fun c53 => ?_) (fun c53 => ?_)
      · skip
        refine wa_aload_n (n := 3) rfl ?_
        refine wb_gf4 73 rfl (wy_pr rfl) wt_73 wf_3_3 (v := 96) wl_73_3 ?_
        refine wa_bipush (w_rg2 (by omega) (by omega)) ?_
        refine wb_aald5 96 16 rfl rfl (wy_pr rfl) wt_96 (by rw [show _ = _ from ((cl_96 hC))]; omega) wl_96_16 ?_
        refine wa_iload (n := 6) rfl ?_
        refine wb_iald 113 rfl (wy_pr rfl) wt_113 (n := 400) ((cl_113 hC)) (by omega) (by omega) (v := (S 113 (fd n))) rfl (fun r54 => ?_)
        refine wa_istore (n := 6) rfl ?_
        refine wa_iinc rfl rfl ?_
        refine wa_goto ⟨_, rfl⟩ ?_
        have ea : fuD st (fun i => decide (S 141 (st + (i : Int)) = -1 ∧ ty i = wt)) (n + 1) a = fuD st (fun i => decide (S 141 (st + (i : Int)) = -1 ∧ ty i = wt)) n a := by
          show fuD st (fun i => decide (S 141 (st + (i : Int)) = -1 ∧ ty i = wt)) n (if decide (S 141 (st + (n : Int)) = -1 ∧ ty n = wt) = true then st + (n : Int) else a) = _
          first | rw [if_pos (decide_eq_true ⟨by omega, by omega⟩)] | rw [if_neg (fun z => by have z2 := of_decide_eq_true z; omega)]
        rw [ea]
        exact wJ_S (ih (by omega) (S 113 (fd n)) a ((st + (n : Int)) + (-1)) f3 (by omega)) ⟨rfl, rfl, rfl, rfl, rfl, rfl, rfl, rfl, trivial⟩
      · skip
        refine wa_aload_n (n := 3) rfl ?_
        refine wb_gf4 73 rfl (wy_pr rfl) wt_73 wf_3_3 (v := 96) wl_73_3 ?_
        refine wa_iconst ?_
        refine wb_aald5 96 3 rfl rfl (wy_pr rfl) wt_96 (by rw [show _ = _ from ((cl_96 hC))]; omega) wl_96_3 ?_
        refine wa_iload (n := 6) rfl ?_
        refine wb_iald 100 rfl (wy_pr rfl) wt_100 (n := 400) ((cl_100 hC)) (by omega) (by omega) (v := (ty n)) (f2) (fun r55 => ?_)
        refine wa_iload_n (n := 2) rfl ?_
        refine wa_icmpne (w_rg0 (by omega) (by omega)) (w_rg0 (by omega) (by omega)) ⟨_, rfl⟩ (fun c56 => ?_) (fun c56 => ?_)
        · skip
          refine wa_aload_n (n := 3) rfl ?_
          refine wb_gf4 73 rfl (wy_pr rfl) wt_73 wf_3_3 (v := 96) wl_73_3 ?_
          refine wa_bipush (w_rg2 (by omega) (by omega)) ?_
          refine wb_aald5 96 16 rfl rfl (wy_pr rfl) wt_96 (by rw [show _ = _ from ((cl_96 hC))]; omega) wl_96_16 ?_
          refine wa_iload (n := 6) rfl ?_
          refine wb_iald 113 rfl (wy_pr rfl) wt_113 (n := 400) ((cl_113 hC)) (by omega) (by omega) (v := (S 113 (fd n))) rfl (fun r57 => ?_)
          refine wa_istore (n := 6) rfl ?_
          refine wa_iinc rfl rfl ?_
          refine wa_goto ⟨_, rfl⟩ ?_
          have ea : fuD st (fun i => decide (S 141 (st + (i : Int)) = -1 ∧ ty i = wt)) (n + 1) a = fuD st (fun i => decide (S 141 (st + (i : Int)) = -1 ∧ ty i = wt)) n a := by
            show fuD st (fun i => decide (S 141 (st + (i : Int)) = -1 ∧ ty i = wt)) n (if decide (S 141 (st + (n : Int)) = -1 ∧ ty n = wt) = true then st + (n : Int) else a) = _
            first | rw [if_pos (decide_eq_true ⟨by omega, by omega⟩)] | rw [if_neg (fun z => by have z2 := of_decide_eq_true z; omega)]
          rw [ea]
          exact wJ_S (ih (by omega) (S 113 (fd n)) a ((st + (n : Int)) + (-1)) f3 (by omega)) ⟨rfl, rfl, rfl, rfl, rfl, rfl, rfl, rfl, trivial⟩
        · skip
          refine wa_iload (n := 7) rfl ?_
          refine wa_istore (n := 5) rfl ?_
          refine wa_fall ⟨_, rfl⟩ ?_
          refine wa_aload_n (n := 3) rfl ?_
          refine wb_gf4 73 rfl (wy_pr rfl) wt_73 wf_3_3 (v := 96) wl_73_3 ?_
          refine wa_bipush (w_rg2 (by omega) (by omega)) ?_
          refine wb_aald5 96 16 rfl rfl (wy_pr rfl) wt_96 (by rw [show _ = _ from ((cl_96 hC))]; omega) wl_96_16 ?_
          refine wa_iload (n := 6) rfl ?_
          refine wb_iald 113 rfl (wy_pr rfl) wt_113 (n := 400) ((cl_113 hC)) (by omega) (by omega) (v := (S 113 (fd n))) rfl (fun r58 => ?_)
          refine wa_istore (n := 6) rfl ?_
          refine wa_iinc rfl rfl ?_
          refine wa_goto ⟨_, rfl⟩ ?_
          have ea : fuD st (fun i => decide (S 141 (st + (i : Int)) = -1 ∧ ty i = wt)) (n + 1) a = fuD st (fun i => decide (S 141 (st + (i : Int)) = -1 ∧ ty i = wt)) n (st + (n : Int)) := by
            show fuD st (fun i => decide (S 141 (st + (i : Int)) = -1 ∧ ty i = wt)) n (if decide (S 141 (st + (n : Int)) = -1 ∧ ty n = wt) = true then st + (n : Int) else a) = _
            first | rw [if_pos (decide_eq_true ⟨by omega, by omega⟩)] | rw [if_neg (fun z => by have z2 := of_decide_eq_true z; omega)]
          rw [ea]
          exact wJ_S (ih (by omega) (S 113 (fd n)) (st + (n : Int)) ((st + (n : Int)) + (-1)) f3 (by omega)) ⟨rfl, rfl, rfl, rfl, rfl, rfl, rfl, rfl, trivial⟩
theorem fun_73 {g wt st k : Int} {nf : Nat} {fd ty : Nat → Int} (hC : w_CL S) (h72 : S 72 1 = 73) (hl14 : S 142 (-1) = S 141 (-1)) (hz14 : 16 ≤ S 141 (-1) ∧ S 141 (-1) ≤ 480400) (hst : 0 ≤ st ∧ st + (nf : Int) ≤ S 141 (-1)) (hfd : ∀ i : Nat, i < nf → 0 ≤ fd i ∧ fd i < 400) (hft : ∀ i : Nat, i < nf → S 100 (fd i) = ty i) (hfb : ∀ i : Nat, i + 1 < nf → S 113 (fd (i + 1)) = fd i) (hwt : 0 ≤ wt ∧ wt ≤ 1000) (hnf : nf ≤ 1000) (hth : ∀ x : Nat, x < 10 → S (127 + x) (-1) = S 127 (-1)) (hn2 : S 127 (-1) ≤ 16383) (hg : 0 ≤ g ∧ g < S 127 (-1)) (hk : S 129 g = k) (hk1 : 0 ≤ k ∧ k < 60) (h133 : S 133 g = st) (h134 : S 134 g = (nf : Int)) (hla : 0 < nf → S 95 k = fd (nf - 1)) : wJ (pe_GA xs) wY0 M (d + 1) t_XL_firstUnset ((pe_at t_XL_firstUnset.bl 0).getD (0, [])).2 [(0, (2, 158)), (1, (0, g)), (2, (0, wt))] [] S (fun o Z => S = Z ∧ o = .inl (some (0, fuD st (fun i => decide (S 141 (st + (i : Int)) = -1 ∧ ty i = wt)) nf (-1)))) := by
  refine wa_aload_n (n := 0) rfl ?_
  refine wb_gf4 158 rfl (wy_pr rfl) wt_158 wf_5_0 (v := 72) wl_158_0 ?_
  refine wb_gf5 72 rfl (wy_pr rfl) wt_72 wf_2_1 (v := 73) (h72) (fun r1 => ?_)
  refine wa_astore_n (n := 3) rfl ?_
  refine wa_aload_n (n := 0) rfl ?_
  refine wb_gf4 158 rfl (wy_pr rfl) wt_158 wf_5_0 (v := 72) wl_158_0 ?_
  refine wb_gf4 72 rfl (wy_pr rfl) wt_72 wf_2_2 (v := 126) wl_72_2 ?_
  refine wa_bipush (w_rg2 (by omega) (by omega)) ?_
  refine wb_aald5 126 6 rfl rfl (wy_pr rfl) wt_126 (by rw [show _ = _ from ((cl_126 hC))]; omega) wl_126_6 ?_
  refine wa_iload_n (n := 1) rfl ?_
  refine wb_iald 133 rfl (wy_pr rfl) wt_133 (n := (S 127 (-1))) ((hth 6 (by decide))) (by omega) (by omega) (v := st) (h133) (fun r2 => ?_)
  refine wa_istore (n := 4) rfl ?_
  refine wa_iconst ?_
  refine wa_istore (n := 5) rfl ?_
  refine wa_aload_n (n := 3) rfl ?_
  refine wb_gf4 73 rfl (wy_pr rfl) wt_73 wf_3_1 (v := 86) wl_73_1 ?_
  refine wa_bipush (w_rg2 (by omega) (by omega)) ?_
  refine wb_aald5 86 8 rfl rfl (wy_pr rfl) wt_86 (by rw [show _ = _ from ((cl_86 hC))]; omega) wl_86_8 ?_
  refine wa_aload_n (n := 0) rfl ?_
  refine wb_gf4 158 rfl (wy_pr rfl) wt_158 wf_5_0 (v := 72) wl_158_0 ?_
  refine wb_gf4 72 rfl (wy_pr rfl) wt_72 wf_2_2 (v := 126) wl_72_2 ?_
  refine wa_iconst ?_
  refine wb_aald5 126 2 rfl rfl (wy_pr rfl) wt_126 (by rw [show _ = _ from ((cl_126 hC))]; omega) wl_126_2 ?_
  refine wa_iload_n (n := 1) rfl ?_
  refine wb_iald 129 rfl (wy_pr rfl) wt_129 (n := (S 127 (-1))) ((hth 2 (by decide))) (by omega) (by omega) (v := k) (hk) (fun r3 => ?_)
  refine wb_iald 95 rfl (wy_pr rfl) wt_95 (n := 60) ((cl_95 hC)) (by omega) (by omega) (v := (S 95 k)) rfl (fun r4 => ?_)
  refine wa_istore (n := 6) rfl ?_
  refine wa_iload (n := 4) rfl ?_
  refine wa_aload_n (n := 0) rfl ?_
  refine wb_gf4 158 rfl (wy_pr rfl) wt_158 wf_5_0 (v := 72) wl_158_0 ?_
  refine wb_gf4 72 rfl (wy_pr rfl) wt_72 wf_2_2 (v := 126) wl_72_2 ?_
  refine wa_bipush (w_rg2 (by omega) (by omega)) ?_
  refine wb_aald5 126 7 rfl rfl (wy_pr rfl) wt_126 (by rw [show _ = _ from ((cl_126 hC))]; omega) wl_126_7 ?_
  refine wa_iload_n (n := 1) rfl ?_
  refine wb_iald 134 rfl (wy_pr rfl) wt_134 (n := (S 127 (-1))) ((hth 7 (by decide))) (by omega) (by omega) (v := (nf : Int)) (h134) (fun r5 => ?_)
  refine wa_iadd ?_
  refine wa_iconst ?_
  refine wa_isub ?_
  refine wa_istore (n := 7) rfl ?_
  refine wa_fall ⟨_, rfl⟩ ?_
  exact wJ_S (ful_73 hC h72 hl14 hz14 hst hfd hft hfb hwt nf (by omega) (S 95 k) (-1) ((st + (nf : Int)) - 1) hla (by omega)) ⟨rfl, rfl, rfl, rfl, rfl, rfl, rfl, rfl, trivial⟩
theorem cfl_73 {m k g st : Int} {nf : Nat} {fd ty : Nat → Int} (hfd : ∀ i : Nat, i < nf → 0 ≤ fd i ∧ fd i < 400) (hnf : nf ≤ 1000) (hg : 0 ≤ g ∧ g ≤ 100000) : ∀ (n : Nat), n ≤ nf → ∀ (S : wS) (x y : Int), w_CL S → S 72 1 = 73 → S 142 (-1) = S 141 (-1) → 16 ≤ S 141 (-1) ∧ S 141 (-1) ≤ 480400 → 0 ≤ st ∧ st + (nf : Int) ≤ S 141 (-1) → (∀ i : Nat, i < nf → S 100 (fd i) = ty i) → (∀ i : Nat, i + 1 < nf → S 113 (fd (i + 1)) = fd i) → (0 < n → x = fd (n - 1)) → y = st + (n : Int) - 1 → wJ (pe_GA xs) wY0 M (d + 2) t_XL_construct ((pe_at t_XL_construct.bl 6).getD (0, [])).2 [(0, (2, 158)), (1, (0, m)), (2, (2, 73)), (3, (0, k)), (4, (0, (nf : Int))), (5, (0, g)), (6, (0, st)), (7, (0, x)), (8, (0, y))] [] S (fun o Z => o = .inl none ∧ ∃ A : wS, fvR st ty n S A ∧ w_up (w_up A 158 16 7) 158 17 g = Z) := by
  intro n
  induction n with
  | zero =>
    intro hn S x y hC h72 hl14 hz14 hst hft hfb hx hy
    refine wa_iload (n := 8) rfl ?_
    refine wa_iload (n := 6) rfl ?_
    refine wa_icmplt (w_rg0 (by omega) (by omega)) (w_rg0 (by omega) (by omega)) ⟨_, rfl⟩ (fun c1 => ?_) (fun c1 => ?_)
    · skip
      refine wa_aload_n (n := 0) rfl ?_
      refine wa_bipush (w_rg2 (by omega) (by omega)) ?_
      refine wb_pfi 158 rfl (wy_pr rfl) wt_158 wf_5_16 (n := 16) rfl ⟨(by omega), (by omega)⟩ ?_
      refine wa_aload_n (n := 0) rfl ?_
      refine wa_iload (n := 5) rfl ?_
      refine wa_i2l (w_rg0 (by omega) (by omega)) ?_
      refine wb_pfl 158 rfl (wy_pr rfl) wt_158 wf_5_17 (n := 17) rfl ⟨(by omega), (by omega)⟩ ?_
      refine wa_return rfl ?_
      exact ⟨rfl, S, fi_0, rfl⟩
    · skip
      exfalso; omega
  | succ n ih =>
    intro hn S x y hC h72 hl14 hz14 hst hft hfb hx hy
    obtain rfl : x = fd n := hx (by omega)
    obtain rfl : y = st + (n : Int) := by omega
    have f1 := hfd n (by omega)
    have f2 : S 100 (fd n) = ty n := hft n (by omega)
    have f3 : 0 < n → S 113 (fd n) = fd (n - 1) := fun z => by
      have z2 := hfb (n - 1) (by omega)
      rw [show n - 1 + 1 = n by omega] at z2
      exact z2
    refine wa_iload (n := 8) rfl ?_
    refine wa_iload (n := 6) rfl ?_
    refine wa_icmplt (w_rg0 (by omega) (by omega)) (w_rg0 (by omega) (by omega)) ⟨_, rfl⟩ (fun c51 => ?_) (fun c51 => ?_)
    · skip
      exfalso; omega
    · skip
      refine wa_aload_n (n := 0) rfl ?_
      refine wb_gf4 158 rfl (wy_pr rfl) wt_158 wf_5_0 (v := 72) wl_158_0 ?_
      refine wb_gf4 72 rfl (wy_pr rfl) wt_72 wf_2_6 (v := 140) wl_72_6 ?_
      refine wb_gf4 140 rfl (wy_pr rfl) wt_140 wf_7_0 (v := 141) wl_140_0 ?_
      refine wa_iload (n := 8) rfl ?_
      refine wb_bald 141 rfl (wy_pr rfl) wt_141 (n := (S 141 (-1))) (rfl) (by omega) (by omega) (v := (S 141 (st + (n : Int)))) rfl (fun r52 => ?_)
      refine wa_iconst ?_
      refine wa_icmpne (w_rg0 (by omega) (by omega)) (w_rg0 (by omega) (by omega)) ⟨_, rfl⟩ (fun c53 => ?_) (fun c53 => ?_)
      · skip
        refine wa_aload_n (n := 2) rfl ?_
        refine wb_gf4 73 rfl (wy_pr rfl) wt_73 wf_3_3 (v := 96) wl_73_3 ?_
        refine wa_bipush (w_rg2 (by omega) (by omega)) ?_
        refine wb_aald5 96 16 rfl rfl (wy_pr rfl) wt_96 (by rw [show _ = _ from ((cl_96 hC))]; omega) wl_96_16 ?_
        refine wa_iload (n := 7) rfl ?_
        refine wb_iald 113 rfl (wy_pr rfl) wt_113 (n := 400) ((cl_113 hC)) (by omega) (by omega) (v := (S 113 (fd n))) rfl (fun r54 => ?_)
        refine wa_istore (n := 7) rfl ?_
        refine wa_iinc rfl rfl ?_
        refine wa_goto ⟨_, rfl⟩ ?_
        refine wJ_mono (wJ_S (ih (by omega) S (S 113 (fd n)) ((st + (n : Int)) + (-1)) hC h72 hl14 hz14 hst hft hfb f3 (by omega)) ⟨rfl, rfl, rfl, rfl, rfl, rfl, rfl, rfl, rfl, trivial⟩) (fun o Z hz => ⟨hz.1, ?_⟩)
        obtain ⟨A, z1, z2⟩ := hz.2
        exact ⟨A, fi_n z1 (by omega), z2⟩
      · skip
        refine wa_aload_n (n := 0) rfl ?_
        refine wb_gf4 158 rfl (wy_pr rfl) wt_158 wf_5_0 (v := 72) wl_158_0 ?_
        refine wb_gf4 72 rfl (wy_pr rfl) wt_72 wf_2_6 (v := 140) wl_72_6 ?_
        refine wa_iload (n := 8) rfl ?_
        refine wa_aload_n (n := 2) rfl ?_
        refine wb_gf4 73 rfl (wy_pr rfl) wt_73 wf_3_3 (v := 96) wl_73_3 ?_
        refine wa_iconst ?_
        refine wb_aald5 96 3 rfl rfl (wy_pr rfl) wt_96 (by rw [show _ = _ from ((cl_96 hC))]; omega) wl_96_3 ?_
        refine wa_iload (n := 7) rfl ?_
        refine wb_iald 100 rfl (wy_pr rfl) wt_100 (n := 400) ((cl_100 hC)) (by omega) (by omega) (v := (ty n)) (f2) (fun r55 => ?_)
        refine wa_cs (M2 := fun _ => False) rfl at_XO_firstKind ⟨_, rfl⟩ rfl rfl ⟨(Or.inr ⟨wy_pr rfl, fun q => q⟩), trivial, (Or.inr ⟨wy_pr rfl, fun q => q⟩), trivial, trivial, trivial, trivial, trivial, trivial, trivial⟩ ⟨trivial, (Or.inr ⟨wy_pr rfl, fun q => q⟩), trivial⟩ (fun _ _ q => False.elim q) ?_ (fun _ _ _ q => q)
        refine wa_iload_n (n := 0) rfl ?_
        refine wa_iconst ?_
        refine wa_icmpeq (w_rg0 (by omega) (by omega)) (w_rg0 (by omega) (by omega)) ⟨_, rfl⟩ (fun c56 => ?_) (fun c56 => ?_)
        · skip
          refine wa_iconst ?_
          refine wa_ireturn rfl ?_
          show wJ _ _ _ _ _ _ _ _ _ _
          refine wb_lconst (m := 0) rfl ?_
          refine wa_cv 140 rfl (wy_pr rfl) wt_140 (M2 := fun _ => False) rfl at_XV_put ⟨_, rfl⟩ rfl rfl ⟨(Or.inr ⟨wy_pr rfl, fun q => q⟩), trivial, (Or.inr ⟨wy_pr rfl, fun q => q⟩), trivial, trivial, trivial, trivial, trivial, trivial, trivial⟩ trivial (fun _ _ q => False.elim q) ?_ (fun _ _ _ q => q)
          refine wa_aload_n (n := 0) rfl ?_
          refine wb_gf4 140 rfl (wy_pr rfl) wt_140 wf_7_0 (v := 141) wl_140_0 ?_
          refine wa_iload_n (n := 1) rfl ?_
          refine wa_iload_n (n := 2) rfl ?_
          refine wb_i2b_r (wb_i2b_id ⟨(by omega), (by omega)⟩) ?_
          refine wb_bast 141 rfl (wy_pr rfl) wt_141 (n := (S 141 (-1))) (rfl) (by omega) (by omega) ⟨(by omega), (by omega)⟩ ?_
          refine wa_aload_n (n := 0) rfl ?_
          refine wb_gf4 140 rfl (wy_pr rfl) wt_140 wf_7_1 (v := 142) wl_140_1 ?_
          refine wa_iload_n (n := 1) rfl ?_
          refine wa_lload_n (n := 3) rfl ?_
          refine wb_last 142 rfl (wy_pr rfl) wt_142 (n := (S 141 (-1))) ((w_up_slot (by decide)).trans (hl14)) (by omega) (by omega) ⟨(by omega), (by omega)⟩ ?_
          refine wa_return rfl ?_
          show wJ _ _ _ _ _ _ _ _ _ _
          refine wa_fall ⟨_, rfl⟩ ?_
          refine wa_aload_n (n := 2) rfl ?_
          refine wb_gf4 73 rfl (wy_pr rfl) wt_73 wf_3_3 (v := 96) wl_73_3 ?_
          refine wa_bipush (w_rg2 (by omega) (by omega)) ?_
          refine wb_aald5 96 16 rfl rfl (wy_pr rfl) wt_96 (by rw [show _ = _ from ((w_up_slot (by decide)).trans ((w_up_slot (by decide)).trans ((cl_96 hC))))]; omega) wl_96_16 ?_
          refine wa_iload (n := 7) rfl ?_
          refine wb_iald 113 rfl (wy_pr rfl) wt_113 (n := 400) ((w_up_slot (by decide)).trans ((w_up_slot (by decide)).trans ((cl_113 hC)))) (by omega) (by omega) (v := (S 113 (fd n))) ((w_up_slot (by decide)).trans (w_up_slot (by decide))) (fun r57 => ?_)
          refine wa_istore (n := 7) rfl ?_
          refine wa_iinc rfl rfl ?_
          refine wa_goto ⟨_, rfl⟩ ?_
          have efk : 2 = fkI (ty n) := by unfold fkI; first | rw [if_pos (by omega)] | (rw [if_neg (by omega)]; first | rw [if_pos (by omega)] | rw [if_neg (by omega)])
          have g1 : (w_up (w_up S 141 (st + (n : Int)) 2) 142 (st + (n : Int)) 0) 141 (-1) = S 141 (-1) := (w_up_no (by omega)).trans ((w_up_no (by omega)).trans (rfl))
          have g2 : (w_up (w_up S 141 (st + (n : Int)) 2) 142 (st + (n : Int)) 0) 142 (-1) = S 142 (-1) := (w_up_no (by omega)).trans ((w_up_no (by omega)).trans (rfl))
          refine wJ_mono (wJ_S (ih (by omega) (w_up (w_up S 141 (st + (n : Int)) 2) 142 (st + (n : Int)) 0) (S 113 (fd n)) ((st + (n : Int)) + (-1)) (w_CL_up (w_CL_up hC (by omega)) (by omega)) ((w_up_no (by omega)).trans ((w_up_no (by omega)).trans (h72))) (by rw [g1, g2]; exact hl14) (by rw [g1]; exact hz14) (by rw [g1]; exact hst) (fun i hi => (w_up_no (by omega)).trans ((w_up_no (by omega)).trans (hft i hi))) (fun i hi => (w_up_no (by omega)).trans ((w_up_no (by omega)).trans (hfb i hi))) f3 (by omega)) ⟨rfl, rfl, rfl, rfl, rfl, rfl, rfl, rfl, rfl, trivial⟩) (fun o Z hz => ⟨hz.1, ?_⟩)
          obtain ⟨A, z1, z2⟩ := hz.2
          rw [show (w_up (w_up S 141 (st + (n : Int)) 2) 142 (st + (n : Int)) 0) = w_up (w_up S 141 (st + (n : Int)) (fkI (ty n))) 142 (st + (n : Int)) 0 from by rw [← efk]] at z1
          exact ⟨A, fi_u z1 (by omega), z2⟩
        · skip
          refine wa_iload_n (n := 0) rfl ?_
          refine wa_iconst ?_
          refine wa_icmpne (w_rg0 (by omega) (by omega)) (w_rg0 (by omega) (by omega)) ⟨_, rfl⟩ (fun c58 => ?_) (fun c58 => ?_)
          · skip
            refine wa_iload_n (n := 0) rfl ?_
            refine wa_iconst ?_
            refine wa_icmpne (w_rg0 (by omega) (by omega)) (w_rg0 (by omega) (by omega)) ⟨_, rfl⟩ (fun c59 => ?_) (fun c59 => ?_)
            · skip
              refine wa_iconst ?_
              refine wa_fall ⟨_, rfl⟩ ?_
              refine wa_ireturn rfl ?_
              show wJ _ _ _ _ _ _ _ _ _ _
              refine wb_lconst (m := 0) rfl ?_
              refine wa_cv 140 rfl (wy_pr rfl) wt_140 (M2 := fun _ => False) rfl at_XV_put ⟨_, rfl⟩ rfl rfl ⟨(Or.inr ⟨wy_pr rfl, fun q => q⟩), trivial, (Or.inr ⟨wy_pr rfl, fun q => q⟩), trivial, trivial, trivial, trivial, trivial, trivial, trivial⟩ trivial (fun _ _ q => False.elim q) ?_ (fun _ _ _ q => q)
              refine wa_aload_n (n := 0) rfl ?_
              refine wb_gf4 140 rfl (wy_pr rfl) wt_140 wf_7_0 (v := 141) wl_140_0 ?_
              refine wa_iload_n (n := 1) rfl ?_
              refine wa_iload_n (n := 2) rfl ?_
              refine wb_i2b_r (wb_i2b_id ⟨(by omega), (by omega)⟩) ?_
              refine wb_bast 141 rfl (wy_pr rfl) wt_141 (n := (S 141 (-1))) (rfl) (by omega) (by omega) ⟨(by omega), (by omega)⟩ ?_
              refine wa_aload_n (n := 0) rfl ?_
              refine wb_gf4 140 rfl (wy_pr rfl) wt_140 wf_7_1 (v := 142) wl_140_1 ?_
              refine wa_iload_n (n := 1) rfl ?_
              refine wa_lload_n (n := 3) rfl ?_
              refine wb_last 142 rfl (wy_pr rfl) wt_142 (n := (S 141 (-1))) ((w_up_slot (by decide)).trans (hl14)) (by omega) (by omega) ⟨(by omega), (by omega)⟩ ?_
              refine wa_return rfl ?_
              show wJ _ _ _ _ _ _ _ _ _ _
              refine wa_fall ⟨_, rfl⟩ ?_
              refine wa_aload_n (n := 2) rfl ?_
              refine wb_gf4 73 rfl (wy_pr rfl) wt_73 wf_3_3 (v := 96) wl_73_3 ?_
              refine wa_bipush (w_rg2 (by omega) (by omega)) ?_
              refine wb_aald5 96 16 rfl rfl (wy_pr rfl) wt_96 (by rw [show _ = _ from ((w_up_slot (by decide)).trans ((w_up_slot (by decide)).trans ((cl_96 hC))))]; omega) wl_96_16 ?_
              refine wa_iload (n := 7) rfl ?_
              refine wb_iald 113 rfl (wy_pr rfl) wt_113 (n := 400) ((w_up_slot (by decide)).trans ((w_up_slot (by decide)).trans ((cl_113 hC)))) (by omega) (by omega) (v := (S 113 (fd n))) ((w_up_slot (by decide)).trans (w_up_slot (by decide))) (fun r60 => ?_)
              refine wa_istore (n := 7) rfl ?_
              refine wa_iinc rfl rfl ?_
              refine wa_goto ⟨_, rfl⟩ ?_
              have efk : 0 = fkI (ty n) := by unfold fkI; first | rw [if_pos (by omega)] | (rw [if_neg (by omega)]; first | rw [if_pos (by omega)] | rw [if_neg (by omega)])
              have g1 : (w_up (w_up S 141 (st + (n : Int)) 0) 142 (st + (n : Int)) 0) 141 (-1) = S 141 (-1) := (w_up_no (by omega)).trans ((w_up_no (by omega)).trans (rfl))
              have g2 : (w_up (w_up S 141 (st + (n : Int)) 0) 142 (st + (n : Int)) 0) 142 (-1) = S 142 (-1) := (w_up_no (by omega)).trans ((w_up_no (by omega)).trans (rfl))
              refine wJ_mono (wJ_S (ih (by omega) (w_up (w_up S 141 (st + (n : Int)) 0) 142 (st + (n : Int)) 0) (S 113 (fd n)) ((st + (n : Int)) + (-1)) (w_CL_up (w_CL_up hC (by omega)) (by omega)) ((w_up_no (by omega)).trans ((w_up_no (by omega)).trans (h72))) (by rw [g1, g2]; exact hl14) (by rw [g1]; exact hz14) (by rw [g1]; exact hst) (fun i hi => (w_up_no (by omega)).trans ((w_up_no (by omega)).trans (hft i hi))) (fun i hi => (w_up_no (by omega)).trans ((w_up_no (by omega)).trans (hfb i hi))) f3 (by omega)) ⟨rfl, rfl, rfl, rfl, rfl, rfl, rfl, rfl, rfl, trivial⟩) (fun o Z hz => ⟨hz.1, ?_⟩)
              obtain ⟨A, z1, z2⟩ := hz.2
              rw [show (w_up (w_up S 141 (st + (n : Int)) 0) 142 (st + (n : Int)) 0) = w_up (w_up S 141 (st + (n : Int)) (fkI (ty n))) 142 (st + (n : Int)) 0 from by rw [← efk]] at z1
              exact ⟨A, fi_u z1 (by omega), z2⟩
            · skip
              refine wa_iconst ?_
              refine wa_goto ⟨_, rfl⟩ ?_
              refine wa_ireturn rfl ?_
              show wJ _ _ _ _ _ _ _ _ _ _
              refine wb_lconst (m := 0) rfl ?_
              refine wa_cv 140 rfl (wy_pr rfl) wt_140 (M2 := fun _ => False) rfl at_XV_put ⟨_, rfl⟩ rfl rfl ⟨(Or.inr ⟨wy_pr rfl, fun q => q⟩), trivial, (Or.inr ⟨wy_pr rfl, fun q => q⟩), trivial, trivial, trivial, trivial, trivial, trivial, trivial⟩ trivial (fun _ _ q => False.elim q) ?_ (fun _ _ _ q => q)
              refine wa_aload_n (n := 0) rfl ?_
              refine wb_gf4 140 rfl (wy_pr rfl) wt_140 wf_7_0 (v := 141) wl_140_0 ?_
              refine wa_iload_n (n := 1) rfl ?_
              refine wa_iload_n (n := 2) rfl ?_
              refine wb_i2b_r (wb_i2b_id ⟨(by omega), (by omega)⟩) ?_
              refine wb_bast 141 rfl (wy_pr rfl) wt_141 (n := (S 141 (-1))) (rfl) (by omega) (by omega) ⟨(by omega), (by omega)⟩ ?_
              refine wa_aload_n (n := 0) rfl ?_
              refine wb_gf4 140 rfl (wy_pr rfl) wt_140 wf_7_1 (v := 142) wl_140_1 ?_
              refine wa_iload_n (n := 1) rfl ?_
              refine wa_lload_n (n := 3) rfl ?_
              refine wb_last 142 rfl (wy_pr rfl) wt_142 (n := (S 141 (-1))) ((w_up_slot (by decide)).trans (hl14)) (by omega) (by omega) ⟨(by omega), (by omega)⟩ ?_
              refine wa_return rfl ?_
              show wJ _ _ _ _ _ _ _ _ _ _
              refine wa_fall ⟨_, rfl⟩ ?_
              refine wa_aload_n (n := 2) rfl ?_
              refine wb_gf4 73 rfl (wy_pr rfl) wt_73 wf_3_3 (v := 96) wl_73_3 ?_
              refine wa_bipush (w_rg2 (by omega) (by omega)) ?_
              refine wb_aald5 96 16 rfl rfl (wy_pr rfl) wt_96 (by rw [show _ = _ from ((w_up_slot (by decide)).trans ((w_up_slot (by decide)).trans ((cl_96 hC))))]; omega) wl_96_16 ?_
              refine wa_iload (n := 7) rfl ?_
              refine wb_iald 113 rfl (wy_pr rfl) wt_113 (n := 400) ((w_up_slot (by decide)).trans ((w_up_slot (by decide)).trans ((cl_113 hC)))) (by omega) (by omega) (v := (S 113 (fd n))) ((w_up_slot (by decide)).trans (w_up_slot (by decide))) (fun r61 => ?_)
              refine wa_istore (n := 7) rfl ?_
              refine wa_iinc rfl rfl ?_
              refine wa_goto ⟨_, rfl⟩ ?_
              have efk : 1 = fkI (ty n) := by unfold fkI; first | rw [if_pos (by omega)] | (rw [if_neg (by omega)]; first | rw [if_pos (by omega)] | rw [if_neg (by omega)])
              have g1 : (w_up (w_up S 141 (st + (n : Int)) 1) 142 (st + (n : Int)) 0) 141 (-1) = S 141 (-1) := (w_up_no (by omega)).trans ((w_up_no (by omega)).trans (rfl))
              have g2 : (w_up (w_up S 141 (st + (n : Int)) 1) 142 (st + (n : Int)) 0) 142 (-1) = S 142 (-1) := (w_up_no (by omega)).trans ((w_up_no (by omega)).trans (rfl))
              refine wJ_mono (wJ_S (ih (by omega) (w_up (w_up S 141 (st + (n : Int)) 1) 142 (st + (n : Int)) 0) (S 113 (fd n)) ((st + (n : Int)) + (-1)) (w_CL_up (w_CL_up hC (by omega)) (by omega)) ((w_up_no (by omega)).trans ((w_up_no (by omega)).trans (h72))) (by rw [g1, g2]; exact hl14) (by rw [g1]; exact hz14) (by rw [g1]; exact hst) (fun i hi => (w_up_no (by omega)).trans ((w_up_no (by omega)).trans (hft i hi))) (fun i hi => (w_up_no (by omega)).trans ((w_up_no (by omega)).trans (hfb i hi))) f3 (by omega)) ⟨rfl, rfl, rfl, rfl, rfl, rfl, rfl, rfl, rfl, trivial⟩) (fun o Z hz => ⟨hz.1, ?_⟩)
              obtain ⟨A, z1, z2⟩ := hz.2
              rw [show (w_up (w_up S 141 (st + (n : Int)) 1) 142 (st + (n : Int)) 0) = w_up (w_up S 141 (st + (n : Int)) (fkI (ty n))) 142 (st + (n : Int)) 0 from by rw [← efk]] at z1
              exact ⟨A, fi_u z1 (by omega), z2⟩
          · skip
            refine wa_fall ⟨_, rfl⟩ ?_
            refine wa_iconst ?_
            refine wa_ireturn rfl ?_
            show wJ _ _ _ _ _ _ _ _ _ _
            refine wb_lconst (m := 0) rfl ?_
            refine wa_cv 140 rfl (wy_pr rfl) wt_140 (M2 := fun _ => False) rfl at_XV_put ⟨_, rfl⟩ rfl rfl ⟨(Or.inr ⟨wy_pr rfl, fun q => q⟩), trivial, (Or.inr ⟨wy_pr rfl, fun q => q⟩), trivial, trivial, trivial, trivial, trivial, trivial, trivial⟩ trivial (fun _ _ q => False.elim q) ?_ (fun _ _ _ q => q)
            refine wa_aload_n (n := 0) rfl ?_
            refine wb_gf4 140 rfl (wy_pr rfl) wt_140 wf_7_0 (v := 141) wl_140_0 ?_
            refine wa_iload_n (n := 1) rfl ?_
            refine wa_iload_n (n := 2) rfl ?_
            refine wb_i2b_r (wb_i2b_id ⟨(by omega), (by omega)⟩) ?_
            refine wb_bast 141 rfl (wy_pr rfl) wt_141 (n := (S 141 (-1))) (rfl) (by omega) (by omega) ⟨(by omega), (by omega)⟩ ?_
            refine wa_aload_n (n := 0) rfl ?_
            refine wb_gf4 140 rfl (wy_pr rfl) wt_140 wf_7_1 (v := 142) wl_140_1 ?_
            refine wa_iload_n (n := 1) rfl ?_
            refine wa_lload_n (n := 3) rfl ?_
            refine wb_last 142 rfl (wy_pr rfl) wt_142 (n := (S 141 (-1))) ((w_up_slot (by decide)).trans (hl14)) (by omega) (by omega) ⟨(by omega), (by omega)⟩ ?_
            refine wa_return rfl ?_
            show wJ _ _ _ _ _ _ _ _ _ _
            refine wa_fall ⟨_, rfl⟩ ?_
            refine wa_aload_n (n := 2) rfl ?_
            refine wb_gf4 73 rfl (wy_pr rfl) wt_73 wf_3_3 (v := 96) wl_73_3 ?_
            refine wa_bipush (w_rg2 (by omega) (by omega)) ?_
            refine wb_aald5 96 16 rfl rfl (wy_pr rfl) wt_96 (by rw [show _ = _ from ((w_up_slot (by decide)).trans ((w_up_slot (by decide)).trans ((cl_96 hC))))]; omega) wl_96_16 ?_
            refine wa_iload (n := 7) rfl ?_
            refine wb_iald 113 rfl (wy_pr rfl) wt_113 (n := 400) ((w_up_slot (by decide)).trans ((w_up_slot (by decide)).trans ((cl_113 hC)))) (by omega) (by omega) (v := (S 113 (fd n))) ((w_up_slot (by decide)).trans (w_up_slot (by decide))) (fun r62 => ?_)
            refine wa_istore (n := 7) rfl ?_
            refine wa_iinc rfl rfl ?_
            refine wa_goto ⟨_, rfl⟩ ?_
            have efk : 2 = fkI (ty n) := by unfold fkI; first | rw [if_pos (by omega)] | (rw [if_neg (by omega)]; first | rw [if_pos (by omega)] | rw [if_neg (by omega)])
            have g1 : (w_up (w_up S 141 (st + (n : Int)) 2) 142 (st + (n : Int)) 0) 141 (-1) = S 141 (-1) := (w_up_no (by omega)).trans ((w_up_no (by omega)).trans (rfl))
            have g2 : (w_up (w_up S 141 (st + (n : Int)) 2) 142 (st + (n : Int)) 0) 142 (-1) = S 142 (-1) := (w_up_no (by omega)).trans ((w_up_no (by omega)).trans (rfl))
            refine wJ_mono (wJ_S (ih (by omega) (w_up (w_up S 141 (st + (n : Int)) 2) 142 (st + (n : Int)) 0) (S 113 (fd n)) ((st + (n : Int)) + (-1)) (w_CL_up (w_CL_up hC (by omega)) (by omega)) ((w_up_no (by omega)).trans ((w_up_no (by omega)).trans (h72))) (by rw [g1, g2]; exact hl14) (by rw [g1]; exact hz14) (by rw [g1]; exact hst) (fun i hi => (w_up_no (by omega)).trans ((w_up_no (by omega)).trans (hft i hi))) (fun i hi => (w_up_no (by omega)).trans ((w_up_no (by omega)).trans (hfb i hi))) f3 (by omega)) ⟨rfl, rfl, rfl, rfl, rfl, rfl, rfl, rfl, rfl, trivial⟩) (fun o Z hz => ⟨hz.1, ?_⟩)
            obtain ⟨A, z1, z2⟩ := hz.2
            rw [show (w_up (w_up S 141 (st + (n : Int)) 2) 142 (st + (n : Int)) 0) = w_up (w_up S 141 (st + (n : Int)) (fkI (ty n))) 142 (st + (n : Int)) 0 from by rw [← efk]] at z1
            exact ⟨A, fi_u z1 (by omega), z2⟩
theorem ful_162 {g wt st : Int} {nf : Nat} {fd ty : Nat → Int} (hC : w_CL S) (h72 : S 72 1 = 162) (hl14 : S 142 (-1) = S 141 (-1)) (hz14 : 16 ≤ S 141 (-1) ∧ S 141 (-1) ≤ 480400) (hst : 0 ≤ st ∧ st + (nf : Int) ≤ S 141 (-1)) (hfd : ∀ i : Nat, i < nf → 0 ≤ fd i ∧ fd i < 400) (hft : ∀ i : Nat, i < nf → S 189 (fd i) = ty i) (hfb : ∀ i : Nat, i + 1 < nf → S 202 (fd (i + 1)) = fd i) (hwt : 0 ≤ wt ∧ wt ≤ 1000) : ∀ (n : Nat), n ≤ nf → ∀ x a y : Int, (0 < n → x = fd (n - 1)) → y = st + (n : Int) - 1 → wJ (pe_GA xs) wY0 M (d + 1) t_XL_firstUnset ((pe_at t_XL_firstUnset.bl 1).getD (0, [])).2 [(0, (2, 158)), (1, (0, g)), (2, (0, wt)), (3, (2, 162)), (4, (0, st)), (5, (0, a)), (6, (0, x)), (7, (0, y))] [] S (fun o Z => S = Z ∧ o = .inl (some (0, fuD st (fun i => decide (S 141 (st + (i : Int)) = -1 ∧ ty i = wt)) n a))) := by
  intro n
  induction n with
  | zero =>
    intro hn x a y hx hy
    refine wa_iload (n := 7) rfl ?_
    refine wa_iload (n := 4) rfl ?_
    refine wa_icmplt (w_rg0 (by omega) (by omega)) (w_rg0 (by omega) (by omega)) ⟨_, rfl⟩ (fun c1 => ?_) (fun c1 => ?_)
    · skip
      refine wa_iload (n := 5) rfl ?_
      refine wa_ireturn rfl ?_
      exact ⟨rfl, rfl⟩
    · skip
      exfalso; omega
  | succ n ih =>
    intro hn x a y hx hy
    obtain rfl : x = fd n := hx (by omega)
    obtain rfl : y = st + (n : Int) := by omega
    have f1 := hfd n (by omega)
    have f2 : S 189 (fd n) = ty n := hft n (by omega)
    have f3 : 0 < n → S 202 (fd n) = fd (n - 1) := fun z => by
      have z2 := hfb (n - 1) (by omega)
      rw [show n - 1 + 1 = n by omega] at z2
      exact z2
    refine wa_iload (n := 7) rfl ?_
    refine wa_iload (n := 4) rfl ?_
    refine wa_icmplt (w_rg0 (by omega) (by omega)) (w_rg0 (by omega) (by omega)) ⟨_, rfl⟩ (fun c51 => ?_) (fun c51 => ?_)
    · skip
      exfalso; omega
    · skip
      refine wa_aload_n (n := 0) rfl ?_
      refine wb_gf4 158 rfl (wy_pr rfl) wt_158 wf_5_0 (v := 72) wl_158_0 ?_
      refine wb_gf4 72 rfl (wy_pr rfl) wt_72 wf_2_6 (v := 140) wl_72_6 ?_
      refine wb_gf4 140 rfl (wy_pr rfl) wt_140 wf_7_0 (v := 141) wl_140_0 ?_
      refine wa_iload (n := 7) rfl ?_
      refine wb_bald 141 rfl (wy_pr rfl) wt_141 (n := (S 141 (-1))) (rfl) (by omega) (by omega) (v := (S 141 (st + (n : Int)))) rfl (fun r52 => ?_)
      refine wa_iconst ?_
      refine wa_icmpne (w_rg0 (by omega) (by omega)) (w_rg0 (by omega) (by omega)) ⟨_, rfl⟩ (fun c53 => ?_) (fun c53 => ?_)
      · skip
        refine wa_aload_n (n := 3) rfl ?_
        refine wb_gf4 162 rfl (wy_pr rfl) wt_162 wf_3_3 (v := 185) wl_162_3 ?_
        refine wa_bipush (w_rg2 (by omega) (by omega)) ?_
        refine wb_aald5 185 16 rfl rfl (wy_pr rfl) wt_185 (by rw [show _ = _ from ((cl_185 hC))]; omega) wl_185_16 ?_
        refine wa_iload (n := 6) rfl ?_
        refine wb_iald 202 rfl (wy_pr rfl) wt_202 (n := 400) ((cl_202 hC)) (by omega) (by omega) (v := (S 202 (fd n))) rfl (fun r54 => ?_)
        refine wa_istore (n := 6) rfl ?_
        refine wa_iinc rfl rfl ?_
        refine wa_goto ⟨_, rfl⟩ ?_
        have ea : fuD st (fun i => decide (S 141 (st + (i : Int)) = -1 ∧ ty i = wt)) (n + 1) a = fuD st (fun i => decide (S 141 (st + (i : Int)) = -1 ∧ ty i = wt)) n a := by
          show fuD st (fun i => decide (S 141 (st + (i : Int)) = -1 ∧ ty i = wt)) n (if decide (S 141 (st + (n : Int)) = -1 ∧ ty n = wt) = true then st + (n : Int) else a) = _
          first | rw [if_pos (decide_eq_true ⟨by omega, by omega⟩)] | rw [if_neg (fun z => by have z2 := of_decide_eq_true z; omega)]
        rw [ea]
        exact wJ_S (ih (by omega) (S 202 (fd n)) a ((st + (n : Int)) + (-1)) f3 (by omega)) ⟨rfl, rfl, rfl, rfl, rfl, rfl, rfl, rfl, trivial⟩
      · skip
        refine wa_aload_n (n := 3) rfl ?_
        refine wb_gf4 162 rfl (wy_pr rfl) wt_162 wf_3_3 (v := 185) wl_162_3 ?_
        refine wa_iconst ?_
        refine wb_aald5 185 3 rfl rfl (wy_pr rfl) wt_185 (by rw [show _ = _ from ((cl_185 hC))]; omega) wl_185_3 ?_
        refine wa_iload (n := 6) rfl ?_
        refine wb_iald 189 rfl (wy_pr rfl) wt_189 (n := 400) ((cl_189 hC)) (by omega) (by omega) (v := (ty n)) (f2) (fun r55 => ?_)
        refine wa_iload_n (n := 2) rfl ?_
        refine wa_icmpne (w_rg0 (by omega) (by omega)) (w_rg0 (by omega) (by omega)) ⟨_, rfl⟩ (fun c56 => ?_) (fun c56 => ?_)
        · skip
          refine wa_aload_n (n := 3) rfl ?_
          refine wb_gf4 162 rfl (wy_pr rfl) wt_162 wf_3_3 (v := 185) wl_162_3 ?_
          refine wa_bipush (w_rg2 (by omega) (by omega)) ?_
          refine wb_aald5 185 16 rfl rfl (wy_pr rfl) wt_185 (by rw [show _ = _ from ((cl_185 hC))]; omega) wl_185_16 ?_
          refine wa_iload (n := 6) rfl ?_
          refine wb_iald 202 rfl (wy_pr rfl) wt_202 (n := 400) ((cl_202 hC)) (by omega) (by omega) (v := (S 202 (fd n))) rfl (fun r57 => ?_)
          refine wa_istore (n := 6) rfl ?_
          refine wa_iinc rfl rfl ?_
          refine wa_goto ⟨_, rfl⟩ ?_
          have ea : fuD st (fun i => decide (S 141 (st + (i : Int)) = -1 ∧ ty i = wt)) (n + 1) a = fuD st (fun i => decide (S 141 (st + (i : Int)) = -1 ∧ ty i = wt)) n a := by
            show fuD st (fun i => decide (S 141 (st + (i : Int)) = -1 ∧ ty i = wt)) n (if decide (S 141 (st + (n : Int)) = -1 ∧ ty n = wt) = true then st + (n : Int) else a) = _
            first | rw [if_pos (decide_eq_true ⟨by omega, by omega⟩)] | rw [if_neg (fun z => by have z2 := of_decide_eq_true z; omega)]
          rw [ea]
          exact wJ_S (ih (by omega) (S 202 (fd n)) a ((st + (n : Int)) + (-1)) f3 (by omega)) ⟨rfl, rfl, rfl, rfl, rfl, rfl, rfl, rfl, trivial⟩
        · skip
          refine wa_iload (n := 7) rfl ?_
          refine wa_istore (n := 5) rfl ?_
          refine wa_fall ⟨_, rfl⟩ ?_
          refine wa_aload_n (n := 3) rfl ?_
          refine wb_gf4 162 rfl (wy_pr rfl) wt_162 wf_3_3 (v := 185) wl_162_3 ?_
          refine wa_bipush (w_rg2 (by omega) (by omega)) ?_
          refine wb_aald5 185 16 rfl rfl (wy_pr rfl) wt_185 (by rw [show _ = _ from ((cl_185 hC))]; omega) wl_185_16 ?_
          refine wa_iload (n := 6) rfl ?_
          refine wb_iald 202 rfl (wy_pr rfl) wt_202 (n := 400) ((cl_202 hC)) (by omega) (by omega) (v := (S 202 (fd n))) rfl (fun r58 => ?_)
          refine wa_istore (n := 6) rfl ?_
          refine wa_iinc rfl rfl ?_
          refine wa_goto ⟨_, rfl⟩ ?_
          have ea : fuD st (fun i => decide (S 141 (st + (i : Int)) = -1 ∧ ty i = wt)) (n + 1) a = fuD st (fun i => decide (S 141 (st + (i : Int)) = -1 ∧ ty i = wt)) n (st + (n : Int)) := by
            show fuD st (fun i => decide (S 141 (st + (i : Int)) = -1 ∧ ty i = wt)) n (if decide (S 141 (st + (n : Int)) = -1 ∧ ty n = wt) = true then st + (n : Int) else a) = _
            first | rw [if_pos (decide_eq_true ⟨by omega, by omega⟩)] | rw [if_neg (fun z => by have z2 := of_decide_eq_true z; omega)]
          rw [ea]
          exact wJ_S (ih (by omega) (S 202 (fd n)) (st + (n : Int)) ((st + (n : Int)) + (-1)) f3 (by omega)) ⟨rfl, rfl, rfl, rfl, rfl, rfl, rfl, rfl, trivial⟩
theorem fun_162 {g wt st k : Int} {nf : Nat} {fd ty : Nat → Int} (hC : w_CL S) (h72 : S 72 1 = 162) (hl14 : S 142 (-1) = S 141 (-1)) (hz14 : 16 ≤ S 141 (-1) ∧ S 141 (-1) ≤ 480400) (hst : 0 ≤ st ∧ st + (nf : Int) ≤ S 141 (-1)) (hfd : ∀ i : Nat, i < nf → 0 ≤ fd i ∧ fd i < 400) (hft : ∀ i : Nat, i < nf → S 189 (fd i) = ty i) (hfb : ∀ i : Nat, i + 1 < nf → S 202 (fd (i + 1)) = fd i) (hwt : 0 ≤ wt ∧ wt ≤ 1000) (hnf : nf ≤ 1000) (hth : ∀ x : Nat, x < 10 → S (127 + x) (-1) = S 127 (-1)) (hn2 : S 127 (-1) ≤ 16383) (hg : 0 ≤ g ∧ g < S 127 (-1)) (hk : S 129 g = k) (hk1 : 0 ≤ k ∧ k < 60) (h133 : S 133 g = st) (h134 : S 134 g = (nf : Int)) (hla : 0 < nf → S 184 k = fd (nf - 1)) : wJ (pe_GA xs) wY0 M (d + 1) t_XL_firstUnset ((pe_at t_XL_firstUnset.bl 0).getD (0, [])).2 [(0, (2, 158)), (1, (0, g)), (2, (0, wt))] [] S (fun o Z => S = Z ∧ o = .inl (some (0, fuD st (fun i => decide (S 141 (st + (i : Int)) = -1 ∧ ty i = wt)) nf (-1)))) := by
  refine wa_aload_n (n := 0) rfl ?_
  refine wb_gf4 158 rfl (wy_pr rfl) wt_158 wf_5_0 (v := 72) wl_158_0 ?_
  refine wb_gf5 72 rfl (wy_pr rfl) wt_72 wf_2_1 (v := 162) (h72) (fun r1 => ?_)
  refine wa_astore_n (n := 3) rfl ?_
  refine wa_aload_n (n := 0) rfl ?_
  refine wb_gf4 158 rfl (wy_pr rfl) wt_158 wf_5_0 (v := 72) wl_158_0 ?_
  refine wb_gf4 72 rfl (wy_pr rfl) wt_72 wf_2_2 (v := 126) wl_72_2 ?_
  refine wa_bipush (w_rg2 (by omega) (by omega)) ?_
  refine wb_aald5 126 6 rfl rfl (wy_pr rfl) wt_126 (by rw [show _ = _ from ((cl_126 hC))]; omega) wl_126_6 ?_
  refine wa_iload_n (n := 1) rfl ?_
  refine wb_iald 133 rfl (wy_pr rfl) wt_133 (n := (S 127 (-1))) ((hth 6 (by decide))) (by omega) (by omega) (v := st) (h133) (fun r2 => ?_)
  refine wa_istore (n := 4) rfl ?_
  refine wa_iconst ?_
  refine wa_istore (n := 5) rfl ?_
  refine wa_aload_n (n := 3) rfl ?_
  refine wb_gf4 162 rfl (wy_pr rfl) wt_162 wf_3_1 (v := 175) wl_162_1 ?_
  refine wa_bipush (w_rg2 (by omega) (by omega)) ?_
  refine wb_aald5 175 8 rfl rfl (wy_pr rfl) wt_175 (by rw [show _ = _ from ((cl_175 hC))]; omega) wl_175_8 ?_
  refine wa_aload_n (n := 0) rfl ?_
  refine wb_gf4 158 rfl (wy_pr rfl) wt_158 wf_5_0 (v := 72) wl_158_0 ?_
  refine wb_gf4 72 rfl (wy_pr rfl) wt_72 wf_2_2 (v := 126) wl_72_2 ?_
  refine wa_iconst ?_
  refine wb_aald5 126 2 rfl rfl (wy_pr rfl) wt_126 (by rw [show _ = _ from ((cl_126 hC))]; omega) wl_126_2 ?_
  refine wa_iload_n (n := 1) rfl ?_
  refine wb_iald 129 rfl (wy_pr rfl) wt_129 (n := (S 127 (-1))) ((hth 2 (by decide))) (by omega) (by omega) (v := k) (hk) (fun r3 => ?_)
  refine wb_iald 184 rfl (wy_pr rfl) wt_184 (n := 60) ((cl_184 hC)) (by omega) (by omega) (v := (S 184 k)) rfl (fun r4 => ?_)
  refine wa_istore (n := 6) rfl ?_
  refine wa_iload (n := 4) rfl ?_
  refine wa_aload_n (n := 0) rfl ?_
  refine wb_gf4 158 rfl (wy_pr rfl) wt_158 wf_5_0 (v := 72) wl_158_0 ?_
  refine wb_gf4 72 rfl (wy_pr rfl) wt_72 wf_2_2 (v := 126) wl_72_2 ?_
  refine wa_bipush (w_rg2 (by omega) (by omega)) ?_
  refine wb_aald5 126 7 rfl rfl (wy_pr rfl) wt_126 (by rw [show _ = _ from ((cl_126 hC))]; omega) wl_126_7 ?_
  refine wa_iload_n (n := 1) rfl ?_
  refine wb_iald 134 rfl (wy_pr rfl) wt_134 (n := (S 127 (-1))) ((hth 7 (by decide))) (by omega) (by omega) (v := (nf : Int)) (h134) (fun r5 => ?_)
  refine wa_iadd ?_
  refine wa_iconst ?_
  refine wa_isub ?_
  refine wa_istore (n := 7) rfl ?_
  refine wa_fall ⟨_, rfl⟩ ?_
  exact wJ_S (ful_162 hC h72 hl14 hz14 hst hfd hft hfb hwt nf (by omega) (S 184 k) (-1) ((st + (nf : Int)) - 1) hla (by omega)) ⟨rfl, rfl, rfl, rfl, rfl, rfl, rfl, rfl, trivial⟩
theorem cfl_162 {m k g st : Int} {nf : Nat} {fd ty : Nat → Int} (hfd : ∀ i : Nat, i < nf → 0 ≤ fd i ∧ fd i < 400) (hnf : nf ≤ 1000) (hg : 0 ≤ g ∧ g ≤ 100000) : ∀ (n : Nat), n ≤ nf → ∀ (S : wS) (x y : Int), w_CL S → S 72 1 = 162 → S 142 (-1) = S 141 (-1) → 16 ≤ S 141 (-1) ∧ S 141 (-1) ≤ 480400 → 0 ≤ st ∧ st + (nf : Int) ≤ S 141 (-1) → (∀ i : Nat, i < nf → S 189 (fd i) = ty i) → (∀ i : Nat, i + 1 < nf → S 202 (fd (i + 1)) = fd i) → (0 < n → x = fd (n - 1)) → y = st + (n : Int) - 1 → wJ (pe_GA xs) wY0 M (d + 2) t_XL_construct ((pe_at t_XL_construct.bl 6).getD (0, [])).2 [(0, (2, 158)), (1, (0, m)), (2, (2, 162)), (3, (0, k)), (4, (0, (nf : Int))), (5, (0, g)), (6, (0, st)), (7, (0, x)), (8, (0, y))] [] S (fun o Z => o = .inl none ∧ ∃ A : wS, fvR st ty n S A ∧ w_up (w_up A 158 16 7) 158 17 g = Z) := by
  intro n
  induction n with
  | zero =>
    intro hn S x y hC h72 hl14 hz14 hst hft hfb hx hy
    refine wa_iload (n := 8) rfl ?_
    refine wa_iload (n := 6) rfl ?_
    refine wa_icmplt (w_rg0 (by omega) (by omega)) (w_rg0 (by omega) (by omega)) ⟨_, rfl⟩ (fun c1 => ?_) (fun c1 => ?_)
    · skip
      refine wa_aload_n (n := 0) rfl ?_
      refine wa_bipush (w_rg2 (by omega) (by omega)) ?_
      refine wb_pfi 158 rfl (wy_pr rfl) wt_158 wf_5_16 (n := 16) rfl ⟨(by omega), (by omega)⟩ ?_
      refine wa_aload_n (n := 0) rfl ?_
      refine wa_iload (n := 5) rfl ?_
      refine wa_i2l (w_rg0 (by omega) (by omega)) ?_
      refine wb_pfl 158 rfl (wy_pr rfl) wt_158 wf_5_17 (n := 17) rfl ⟨(by omega), (by omega)⟩ ?_
      refine wa_return rfl ?_
      exact ⟨rfl, S, fi_0, rfl⟩
    · skip
      exfalso; omega
  | succ n ih =>
    intro hn S x y hC h72 hl14 hz14 hst hft hfb hx hy
    obtain rfl : x = fd n := hx (by omega)
    obtain rfl : y = st + (n : Int) := by omega
    have f1 := hfd n (by omega)
    have f2 : S 189 (fd n) = ty n := hft n (by omega)
    have f3 : 0 < n → S 202 (fd n) = fd (n - 1) := fun z => by
      have z2 := hfb (n - 1) (by omega)
      rw [show n - 1 + 1 = n by omega] at z2
      exact z2
    refine wa_iload (n := 8) rfl ?_
    refine wa_iload (n := 6) rfl ?_
    refine wa_icmplt (w_rg0 (by omega) (by omega)) (w_rg0 (by omega) (by omega)) ⟨_, rfl⟩ (fun c51 => ?_) (fun c51 => ?_)
    · skip
      exfalso; omega
    · skip
      refine wa_aload_n (n := 0) rfl ?_
      refine wb_gf4 158 rfl (wy_pr rfl) wt_158 wf_5_0 (v := 72) wl_158_0 ?_
      refine wb_gf4 72 rfl (wy_pr rfl) wt_72 wf_2_6 (v := 140) wl_72_6 ?_
      refine wb_gf4 140 rfl (wy_pr rfl) wt_140 wf_7_0 (v := 141) wl_140_0 ?_
      refine wa_iload (n := 8) rfl ?_
      refine wb_bald 141 rfl (wy_pr rfl) wt_141 (n := (S 141 (-1))) (rfl) (by omega) (by omega) (v := (S 141 (st + (n : Int)))) rfl (fun r52 => ?_)
      refine wa_iconst ?_
      refine wa_icmpne (w_rg0 (by omega) (by omega)) (w_rg0 (by omega) (by omega)) ⟨_, rfl⟩ (fun c53 => ?_) (fun c53 => ?_)
      · skip
        refine wa_aload_n (n := 2) rfl ?_
        refine wb_gf4 162 rfl (wy_pr rfl) wt_162 wf_3_3 (v := 185) wl_162_3 ?_
        refine wa_bipush (w_rg2 (by omega) (by omega)) ?_
        refine wb_aald5 185 16 rfl rfl (wy_pr rfl) wt_185 (by rw [show _ = _ from ((cl_185 hC))]; omega) wl_185_16 ?_
        refine wa_iload (n := 7) rfl ?_
        refine wb_iald 202 rfl (wy_pr rfl) wt_202 (n := 400) ((cl_202 hC)) (by omega) (by omega) (v := (S 202 (fd n))) rfl (fun r54 => ?_)
        refine wa_istore (n := 7) rfl ?_
        refine wa_iinc rfl rfl ?_
        refine wa_goto ⟨_, rfl⟩ ?_
        refine wJ_mono (wJ_S (ih (by omega) S (S 202 (fd n)) ((st + (n : Int)) + (-1)) hC h72 hl14 hz14 hst hft hfb f3 (by omega)) ⟨rfl, rfl, rfl, rfl, rfl, rfl, rfl, rfl, rfl, trivial⟩) (fun o Z hz => ⟨hz.1, ?_⟩)
        obtain ⟨A, z1, z2⟩ := hz.2
        exact ⟨A, fi_n z1 (by omega), z2⟩
      · skip
        refine wa_aload_n (n := 0) rfl ?_
        refine wb_gf4 158 rfl (wy_pr rfl) wt_158 wf_5_0 (v := 72) wl_158_0 ?_
        refine wb_gf4 72 rfl (wy_pr rfl) wt_72 wf_2_6 (v := 140) wl_72_6 ?_
        refine wa_iload (n := 8) rfl ?_
        refine wa_aload_n (n := 2) rfl ?_
        refine wb_gf4 162 rfl (wy_pr rfl) wt_162 wf_3_3 (v := 185) wl_162_3 ?_
        refine wa_iconst ?_
        refine wb_aald5 185 3 rfl rfl (wy_pr rfl) wt_185 (by rw [show _ = _ from ((cl_185 hC))]; omega) wl_185_3 ?_
        refine wa_iload (n := 7) rfl ?_
        refine wb_iald 189 rfl (wy_pr rfl) wt_189 (n := 400) ((cl_189 hC)) (by omega) (by omega) (v := (ty n)) (f2) (fun r55 => ?_)
        refine wa_cs (M2 := fun _ => False) rfl at_XO_firstKind ⟨_, rfl⟩ rfl rfl ⟨(Or.inr ⟨wy_pr rfl, fun q => q⟩), trivial, (Or.inr ⟨wy_pr rfl, fun q => q⟩), trivial, trivial, trivial, trivial, trivial, trivial, trivial⟩ ⟨trivial, (Or.inr ⟨wy_pr rfl, fun q => q⟩), trivial⟩ (fun _ _ q => False.elim q) ?_ (fun _ _ _ q => q)
        refine wa_iload_n (n := 0) rfl ?_
        refine wa_iconst ?_
        refine wa_icmpeq (w_rg0 (by omega) (by omega)) (w_rg0 (by omega) (by omega)) ⟨_, rfl⟩ (fun c56 => ?_) (fun c56 => ?_)
        · skip
          refine wa_iconst ?_
          refine wa_ireturn rfl ?_
          show wJ _ _ _ _ _ _ _ _ _ _
          refine wb_lconst (m := 0) rfl ?_
          refine wa_cv 140 rfl (wy_pr rfl) wt_140 (M2 := fun _ => False) rfl at_XV_put ⟨_, rfl⟩ rfl rfl ⟨(Or.inr ⟨wy_pr rfl, fun q => q⟩), trivial, (Or.inr ⟨wy_pr rfl, fun q => q⟩), trivial, trivial, trivial, trivial, trivial, trivial, trivial⟩ trivial (fun _ _ q => False.elim q) ?_ (fun _ _ _ q => q)
          refine wa_aload_n (n := 0) rfl ?_
          refine wb_gf4 140 rfl (wy_pr rfl) wt_140 wf_7_0 (v := 141) wl_140_0 ?_
          refine wa_iload_n (n := 1) rfl ?_
          refine wa_iload_n (n := 2) rfl ?_
          refine wb_i2b_r (wb_i2b_id ⟨(by omega), (by omega)⟩) ?_
          refine wb_bast 141 rfl (wy_pr rfl) wt_141 (n := (S 141 (-1))) (rfl) (by omega) (by omega) ⟨(by omega), (by omega)⟩ ?_
          refine wa_aload_n (n := 0) rfl ?_
          refine wb_gf4 140 rfl (wy_pr rfl) wt_140 wf_7_1 (v := 142) wl_140_1 ?_
          refine wa_iload_n (n := 1) rfl ?_
          refine wa_lload_n (n := 3) rfl ?_
          refine wb_last 142 rfl (wy_pr rfl) wt_142 (n := (S 141 (-1))) ((w_up_slot (by decide)).trans (hl14)) (by omega) (by omega) ⟨(by omega), (by omega)⟩ ?_
          refine wa_return rfl ?_
          show wJ _ _ _ _ _ _ _ _ _ _
          refine wa_fall ⟨_, rfl⟩ ?_
          refine wa_aload_n (n := 2) rfl ?_
          refine wb_gf4 162 rfl (wy_pr rfl) wt_162 wf_3_3 (v := 185) wl_162_3 ?_
          refine wa_bipush (w_rg2 (by omega) (by omega)) ?_
          refine wb_aald5 185 16 rfl rfl (wy_pr rfl) wt_185 (by rw [show _ = _ from ((w_up_slot (by decide)).trans ((w_up_slot (by decide)).trans ((cl_185 hC))))]; omega) wl_185_16 ?_
          refine wa_iload (n := 7) rfl ?_
          refine wb_iald 202 rfl (wy_pr rfl) wt_202 (n := 400) ((w_up_slot (by decide)).trans ((w_up_slot (by decide)).trans ((cl_202 hC)))) (by omega) (by omega) (v := (S 202 (fd n))) ((w_up_slot (by decide)).trans (w_up_slot (by decide))) (fun r57 => ?_)
          refine wa_istore (n := 7) rfl ?_
          refine wa_iinc rfl rfl ?_
          refine wa_goto ⟨_, rfl⟩ ?_
          have efk : 2 = fkI (ty n) := by unfold fkI; first | rw [if_pos (by omega)] | (rw [if_neg (by omega)]; first | rw [if_pos (by omega)] | rw [if_neg (by omega)])
          have g1 : (w_up (w_up S 141 (st + (n : Int)) 2) 142 (st + (n : Int)) 0) 141 (-1) = S 141 (-1) := (w_up_no (by omega)).trans ((w_up_no (by omega)).trans (rfl))
          have g2 : (w_up (w_up S 141 (st + (n : Int)) 2) 142 (st + (n : Int)) 0) 142 (-1) = S 142 (-1) := (w_up_no (by omega)).trans ((w_up_no (by omega)).trans (rfl))
          refine wJ_mono (wJ_S (ih (by omega) (w_up (w_up S 141 (st + (n : Int)) 2) 142 (st + (n : Int)) 0) (S 202 (fd n)) ((st + (n : Int)) + (-1)) (w_CL_up (w_CL_up hC (by omega)) (by omega)) ((w_up_no (by omega)).trans ((w_up_no (by omega)).trans (h72))) (by rw [g1, g2]; exact hl14) (by rw [g1]; exact hz14) (by rw [g1]; exact hst) (fun i hi => (w_up_no (by omega)).trans ((w_up_no (by omega)).trans (hft i hi))) (fun i hi => (w_up_no (by omega)).trans ((w_up_no (by omega)).trans (hfb i hi))) f3 (by omega)) ⟨rfl, rfl, rfl, rfl, rfl, rfl, rfl, rfl, rfl, trivial⟩) (fun o Z hz => ⟨hz.1, ?_⟩)
          obtain ⟨A, z1, z2⟩ := hz.2
          rw [show (w_up (w_up S 141 (st + (n : Int)) 2) 142 (st + (n : Int)) 0) = w_up (w_up S 141 (st + (n : Int)) (fkI (ty n))) 142 (st + (n : Int)) 0 from by rw [← efk]] at z1
          exact ⟨A, fi_u z1 (by omega), z2⟩
        · skip
          refine wa_iload_n (n := 0) rfl ?_
          refine wa_iconst ?_
          refine wa_icmpne (w_rg0 (by omega) (by omega)) (w_rg0 (by omega) (by omega)) ⟨_, rfl⟩ (fun c58 => ?_) (fun c58 => ?_)
          · skip
            refine wa_iload_n (n := 0) rfl ?_
            refine wa_iconst ?_
            refine wa_icmpne (w_rg0 (by omega) (by omega)) (w_rg0 (by omega) (by omega)) ⟨_, rfl⟩ (fun c59 => ?_) (fun c59 => ?_)
            · skip
              refine wa_iconst ?_
              refine wa_fall ⟨_, rfl⟩ ?_
              refine wa_ireturn rfl ?_
              show wJ _ _ _ _ _ _ _ _ _ _
              refine wb_lconst (m := 0) rfl ?_
              refine wa_cv 140 rfl (wy_pr rfl) wt_140 (M2 := fun _ => False) rfl at_XV_put ⟨_, rfl⟩ rfl rfl ⟨(Or.inr ⟨wy_pr rfl, fun q => q⟩), trivial, (Or.inr ⟨wy_pr rfl, fun q => q⟩), trivial, trivial, trivial, trivial, trivial, trivial, trivial⟩ trivial (fun _ _ q => False.elim q) ?_ (fun _ _ _ q => q)
              refine wa_aload_n (n := 0) rfl ?_
              refine wb_gf4 140 rfl (wy_pr rfl) wt_140 wf_7_0 (v := 141) wl_140_0 ?_
              refine wa_iload_n (n := 1) rfl ?_
              refine wa_iload_n (n := 2) rfl ?_
              refine wb_i2b_r (wb_i2b_id ⟨(by omega), (by omega)⟩) ?_
              refine wb_bast 141 rfl (wy_pr rfl) wt_141 (n := (S 141 (-1))) (rfl) (by omega) (by omega) ⟨(by omega), (by omega)⟩ ?_
              refine wa_aload_n (n := 0) rfl ?_
              refine wb_gf4 140 rfl (wy_pr rfl) wt_140 wf_7_1 (v := 142) wl_140_1 ?_
              refine wa_iload_n (n := 1) rfl ?_
              refine wa_lload_n (n := 3) rfl ?_
              refine wb_last 142 rfl (wy_pr rfl) wt_142 (n := (S 141 (-1))) ((w_up_slot (by decide)).trans (hl14)) (by omega) (by omega) ⟨(by omega), (by omega)⟩ ?_
              refine wa_return rfl ?_
              show wJ _ _ _ _ _ _ _ _ _ _
              refine wa_fall ⟨_, rfl⟩ ?_
              refine wa_aload_n (n := 2) rfl ?_
              refine wb_gf4 162 rfl (wy_pr rfl) wt_162 wf_3_3 (v := 185) wl_162_3 ?_
              refine wa_bipush (w_rg2 (by omega) (by omega)) ?_
              refine wb_aald5 185 16 rfl rfl (wy_pr rfl) wt_185 (by rw [show _ = _ from ((w_up_slot (by decide)).trans ((w_up_slot (by decide)).trans ((cl_185 hC))))]; omega) wl_185_16 ?_
              refine wa_iload (n := 7) rfl ?_
              refine wb_iald 202 rfl (wy_pr rfl) wt_202 (n := 400) ((w_up_slot (by decide)).trans ((w_up_slot (by decide)).trans ((cl_202 hC)))) (by omega) (by omega) (v := (S 202 (fd n))) ((w_up_slot (by decide)).trans (w_up_slot (by decide))) (fun r60 => ?_)
              refine wa_istore (n := 7) rfl ?_
              refine wa_iinc rfl rfl ?_
              refine wa_goto ⟨_, rfl⟩ ?_
              have efk : 0 = fkI (ty n) := by unfold fkI; first | rw [if_pos (by omega)] | (rw [if_neg (by omega)]; first | rw [if_pos (by omega)] | rw [if_neg (by omega)])
              have g1 : (w_up (w_up S 141 (st + (n : Int)) 0) 142 (st + (n : Int)) 0) 141 (-1) = S 141 (-1) := (w_up_no (by omega)).trans ((w_up_no (by omega)).trans (rfl))
              have g2 : (w_up (w_up S 141 (st + (n : Int)) 0) 142 (st + (n : Int)) 0) 142 (-1) = S 142 (-1) := (w_up_no (by omega)).trans ((w_up_no (by omega)).trans (rfl))
              refine wJ_mono (wJ_S (ih (by omega) (w_up (w_up S 141 (st + (n : Int)) 0) 142 (st + (n : Int)) 0) (S 202 (fd n)) ((st + (n : Int)) + (-1)) (w_CL_up (w_CL_up hC (by omega)) (by omega)) ((w_up_no (by omega)).trans ((w_up_no (by omega)).trans (h72))) (by rw [g1, g2]; exact hl14) (by rw [g1]; exact hz14) (by rw [g1]; exact hst) (fun i hi => (w_up_no (by omega)).trans ((w_up_no (by omega)).trans (hft i hi))) (fun i hi => (w_up_no (by omega)).trans ((w_up_no (by omega)).trans (hfb i hi))) f3 (by omega)) ⟨rfl, rfl, rfl, rfl, rfl, rfl, rfl, rfl, rfl, trivial⟩) (fun o Z hz => ⟨hz.1, ?_⟩)
              obtain ⟨A, z1, z2⟩ := hz.2
              rw [show (w_up (w_up S 141 (st + (n : Int)) 0) 142 (st + (n : Int)) 0) = w_up (w_up S 141 (st + (n : Int)) (fkI (ty n))) 142 (st + (n : Int)) 0 from by rw [← efk]] at z1
              exact ⟨A, fi_u z1 (by omega), z2⟩
            · skip
              refine wa_iconst ?_
              refine wa_goto ⟨_, rfl⟩ ?_
              refine wa_ireturn rfl ?_
              show wJ _ _ _ _ _ _ _ _ _ _
              refine wb_lconst (m := 0) rfl ?_
              refine wa_cv 140 rfl (wy_pr rfl) wt_140 (M2 := fun _ => False) rfl at_XV_put ⟨_, rfl⟩ rfl rfl ⟨(Or.inr ⟨wy_pr rfl, fun q => q⟩), trivial, (Or.inr ⟨wy_pr rfl, fun q => q⟩), trivial, trivial, trivial, trivial, trivial, trivial, trivial⟩ trivial (fun _ _ q => False.elim q) ?_ (fun _ _ _ q => q)
              refine wa_aload_n (n := 0) rfl ?_
              refine wb_gf4 140 rfl (wy_pr rfl) wt_140 wf_7_0 (v := 141) wl_140_0 ?_
              refine wa_iload_n (n := 1) rfl ?_
              refine wa_iload_n (n := 2) rfl ?_
              refine wb_i2b_r (wb_i2b_id ⟨(by omega), (by omega)⟩) ?_
              refine wb_bast 141 rfl (wy_pr rfl) wt_141 (n := (S 141 (-1))) (rfl) (by omega) (by omega) ⟨(by omega), (by omega)⟩ ?_
              refine wa_aload_n (n := 0) rfl ?_
              refine wb_gf4 140 rfl (wy_pr rfl) wt_140 wf_7_1 (v := 142) wl_140_1 ?_
              refine wa_iload_n (n := 1) rfl ?_
              refine wa_lload_n (n := 3) rfl ?_
              refine wb_last 142 rfl (wy_pr rfl) wt_142 (n := (S 141 (-1))) ((w_up_slot (by decide)).trans (hl14)) (by omega) (by omega) ⟨(by omega), (by omega)⟩ ?_
              refine wa_return rfl ?_
              show wJ _ _ _ _ _ _ _ _ _ _
              refine wa_fall ⟨_, rfl⟩ ?_
              refine wa_aload_n (n := 2) rfl ?_
              refine wb_gf4 162 rfl (wy_pr rfl) wt_162 wf_3_3 (v := 185) wl_162_3 ?_
              refine wa_bipush (w_rg2 (by omega) (by omega)) ?_
              refine wb_aald5 185 16 rfl rfl (wy_pr rfl) wt_185 (by rw [show _ = _ from ((w_up_slot (by decide)).trans ((w_up_slot (by decide)).trans ((cl_185 hC))))]; omega) wl_185_16 ?_
              refine wa_iload (n := 7) rfl ?_
              refine wb_iald 202 rfl (wy_pr rfl) wt_202 (n := 400) ((w_up_slot (by decide)).trans ((w_up_slot (by decide)).trans ((cl_202 hC)))) (by omega) (by omega) (v := (S 202 (fd n))) ((w_up_slot (by decide)).trans (w_up_slot (by decide))) (fun r61 => ?_)
              refine wa_istore (n := 7) rfl ?_
              refine wa_iinc rfl rfl ?_
              refine wa_goto ⟨_, rfl⟩ ?_
              have efk : 1 = fkI (ty n) := by unfold fkI; first | rw [if_pos (by omega)] | (rw [if_neg (by omega)]; first | rw [if_pos (by omega)] | rw [if_neg (by omega)])
              have g1 : (w_up (w_up S 141 (st + (n : Int)) 1) 142 (st + (n : Int)) 0) 141 (-1) = S 141 (-1) := (w_up_no (by omega)).trans ((w_up_no (by omega)).trans (rfl))
              have g2 : (w_up (w_up S 141 (st + (n : Int)) 1) 142 (st + (n : Int)) 0) 142 (-1) = S 142 (-1) := (w_up_no (by omega)).trans ((w_up_no (by omega)).trans (rfl))
              refine wJ_mono (wJ_S (ih (by omega) (w_up (w_up S 141 (st + (n : Int)) 1) 142 (st + (n : Int)) 0) (S 202 (fd n)) ((st + (n : Int)) + (-1)) (w_CL_up (w_CL_up hC (by omega)) (by omega)) ((w_up_no (by omega)).trans ((w_up_no (by omega)).trans (h72))) (by rw [g1, g2]; exact hl14) (by rw [g1]; exact hz14) (by rw [g1]; exact hst) (fun i hi => (w_up_no (by omega)).trans ((w_up_no (by omega)).trans (hft i hi))) (fun i hi => (w_up_no (by omega)).trans ((w_up_no (by omega)).trans (hfb i hi))) f3 (by omega)) ⟨rfl, rfl, rfl, rfl, rfl, rfl, rfl, rfl, rfl, trivial⟩) (fun o Z hz => ⟨hz.1, ?_⟩)
              obtain ⟨A, z1, z2⟩ := hz.2
              rw [show (w_up (w_up S 141 (st + (n : Int)) 1) 142 (st + (n : Int)) 0) = w_up (w_up S 141 (st + (n : Int)) (fkI (ty n))) 142 (st + (n : Int)) 0 from by rw [← efk]] at z1
              exact ⟨A, fi_u z1 (by omega), z2⟩
          · skip
            refine wa_fall ⟨_, rfl⟩ ?_
            refine wa_iconst ?_
            refine wa_ireturn rfl ?_
            show wJ _ _ _ _ _ _ _ _ _ _
            refine wb_lconst (m := 0) rfl ?_
            refine wa_cv 140 rfl (wy_pr rfl) wt_140 (M2 := fun _ => False) rfl at_XV_put ⟨_, rfl⟩ rfl rfl ⟨(Or.inr ⟨wy_pr rfl, fun q => q⟩), trivial, (Or.inr ⟨wy_pr rfl, fun q => q⟩), trivial, trivial, trivial, trivial, trivial, trivial, trivial⟩ trivial (fun _ _ q => False.elim q) ?_ (fun _ _ _ q => q)
            refine wa_aload_n (n := 0) rfl ?_
            refine wb_gf4 140 rfl (wy_pr rfl) wt_140 wf_7_0 (v := 141) wl_140_0 ?_
            refine wa_iload_n (n := 1) rfl ?_
            refine wa_iload_n (n := 2) rfl ?_
            refine wb_i2b_r (wb_i2b_id ⟨(by omega), (by omega)⟩) ?_
            refine wb_bast 141 rfl (wy_pr rfl) wt_141 (n := (S 141 (-1))) (rfl) (by omega) (by omega) ⟨(by omega), (by omega)⟩ ?_
            refine wa_aload_n (n := 0) rfl ?_
            refine wb_gf4 140 rfl (wy_pr rfl) wt_140 wf_7_1 (v := 142) wl_140_1 ?_
            refine wa_iload_n (n := 1) rfl ?_
            refine wa_lload_n (n := 3) rfl ?_
            refine wb_last 142 rfl (wy_pr rfl) wt_142 (n := (S 141 (-1))) ((w_up_slot (by decide)).trans (hl14)) (by omega) (by omega) ⟨(by omega), (by omega)⟩ ?_
            refine wa_return rfl ?_
            show wJ _ _ _ _ _ _ _ _ _ _
            refine wa_fall ⟨_, rfl⟩ ?_
            refine wa_aload_n (n := 2) rfl ?_
            refine wb_gf4 162 rfl (wy_pr rfl) wt_162 wf_3_3 (v := 185) wl_162_3 ?_
            refine wa_bipush (w_rg2 (by omega) (by omega)) ?_
            refine wb_aald5 185 16 rfl rfl (wy_pr rfl) wt_185 (by rw [show _ = _ from ((w_up_slot (by decide)).trans ((w_up_slot (by decide)).trans ((cl_185 hC))))]; omega) wl_185_16 ?_
            refine wa_iload (n := 7) rfl ?_
            refine wb_iald 202 rfl (wy_pr rfl) wt_202 (n := 400) ((w_up_slot (by decide)).trans ((w_up_slot (by decide)).trans ((cl_202 hC)))) (by omega) (by omega) (v := (S 202 (fd n))) ((w_up_slot (by decide)).trans (w_up_slot (by decide))) (fun r62 => ?_)
            refine wa_istore (n := 7) rfl ?_
            refine wa_iinc rfl rfl ?_
            refine wa_goto ⟨_, rfl⟩ ?_
            have efk : 2 = fkI (ty n) := by unfold fkI; first | rw [if_pos (by omega)] | (rw [if_neg (by omega)]; first | rw [if_pos (by omega)] | rw [if_neg (by omega)])
            have g1 : (w_up (w_up S 141 (st + (n : Int)) 2) 142 (st + (n : Int)) 0) 141 (-1) = S 141 (-1) := (w_up_no (by omega)).trans ((w_up_no (by omega)).trans (rfl))
            have g2 : (w_up (w_up S 141 (st + (n : Int)) 2) 142 (st + (n : Int)) 0) 142 (-1) = S 142 (-1) := (w_up_no (by omega)).trans ((w_up_no (by omega)).trans (rfl))
            refine wJ_mono (wJ_S (ih (by omega) (w_up (w_up S 141 (st + (n : Int)) 2) 142 (st + (n : Int)) 0) (S 202 (fd n)) ((st + (n : Int)) + (-1)) (w_CL_up (w_CL_up hC (by omega)) (by omega)) ((w_up_no (by omega)).trans ((w_up_no (by omega)).trans (h72))) (by rw [g1, g2]; exact hl14) (by rw [g1]; exact hz14) (by rw [g1]; exact hst) (fun i hi => (w_up_no (by omega)).trans ((w_up_no (by omega)).trans (hft i hi))) (fun i hi => (w_up_no (by omega)).trans ((w_up_no (by omega)).trans (hfb i hi))) f3 (by omega)) ⟨rfl, rfl, rfl, rfl, rfl, rfl, rfl, rfl, rfl, trivial⟩) (fun o Z hz => ⟨hz.1, ?_⟩)
            obtain ⟨A, z1, z2⟩ := hz.2
            rw [show (w_up (w_up S 141 (st + (n : Int)) 2) 142 (st + (n : Int)) 0) = w_up (w_up S 141 (st + (n : Int)) (fkI (ty n))) 142 (st + (n : Int)) 0 from by rw [← efk]] at z1
            exact ⟨A, fi_u z1 (by omega), z2⟩
end Whp
