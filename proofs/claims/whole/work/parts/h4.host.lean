/-! PART h4: the class's host: isSubtype, goesTo, parameterType, fits, isMoreSpecific, isHidden, plainMethod. -/
section Wh4
variable {xs : List (Nat × List Int32)} {M : Nat → Prop} {d : Nat} {S Z A : wS} {T : Int → Int} {cs : List hCR} {ms : List hMR} {os : Int → List Int} {Q : wO → wS → Prop}
def bI (b : Bool) : Int := if b = true then 1 else 0
theorem bI_t {b : Bool} (h : b = true) : bI b = 1 := if_pos h
theorem bI_f {b : Bool} (h : b = false) : bI b = 0 := if_neg (by rw [h]; decide)
theorem bI_rg (b : Bool) : bI b = 0 ∨ bI b = 1 := by cases b; exact Or.inl rfl; exact Or.inr rfl
theorem bI_1 {b : Bool} (h : bI b ≠ 0) : b = true := by cases b; exact absurd rfl h; rfl
theorem bI_0 {b : Bool} (h : bI b = 0) : b = false := by cases b; rfl; exact absurd h (by decide)
theorem iand_127 {x : Int} (hx : 0 ≤ x ∧ x < 72057594037927936) : wb_iand (wb_l2i x) 127 = x % 128 := by
  have e : Int32.ofInt (wb_l2i x) = (Int64.ofInt x).toInt32 := Int32.ofInt_toInt _
  have a2 : ((Int64.ofInt x).toInt32 &&& Int32.ofInt 127).toBitVec.toNat = x.toNat % 128 := by
    rw [Int32.toBitVec_and, BitVec.toNat_and, Int64.toBitVec_toInt32, BitVec.signExtend_eq_setWidth_of_le _ (by decide), BitVec.toNat_setWidth, nat64 (x := x) (by omega), show (Int32.ofInt 127).toBitVec.toNat = 2 ^ 7 - 1 by decide, Nat.and_two_pow_sub_one_eq_mod]
    omega
  show (Int32.ofInt (wb_l2i x) &&& Int32.ofInt 127).toBitVec.toInt = _
  rw [e, BitVec.toInt_eq_toNat_of_lt (by rw [a2]; omega), a2]
  omega
theorem es_di {tl : List Int} {n : Nat} (hn : n < tl.length) (h8 : tl.length ≤ 8) (h : esOk tl) : wb_iand (wb_l2i (wb_lushr (esV tl) (7 * (n : Int)))) 127 = tl.getD n 0 := by
  have h1 := esV_rg tl h
  have h2 := p7_le (n := tl.length) h8
  have h3 := p7_pos n
  rw [es_sh (by omega) ⟨h1.1, by omega⟩, iand_127 ⟨Int.ediv_nonneg h1.1 (by omega), Int.lt_of_le_of_lt (Int.ediv_le_self _ h1.1) (by omega)⟩]
  exact esV_dg tl n h hn
theorem KC_b {t0 m0 o6 oo ob w p : Nat} {k : Int} {x : Nat} (h : KC t0 m0 o6 oo ob w p T cs ms os S) (h0 : 0 ≤ k) (h1 : k < (cs.length : Int)) (hx : x < 60) : bb (S ob k) x = bb ((hcR cs k).2.2.2.2.2.1) x := by
  have z1 := (KC_o h h0 h1).2.2.2 x hx
  have z2 := (h.2.2.2.2.2.2 k.toNat _ (hcR_i h0 h1)).1 x hx
  rw [show ((k.toNat : Nat) : Int) = k by omega] at z2
  rw [z1, z2]
theorem sb_1 {a o : Int} (h : a = o ∨ (a = 1 ∧ o = 2) ∨ (o = 8 ∧ 3 < a) ∨ (o ≠ 8 ∧ 9 ≤ a ∧ 9 ≤ o ∧ bb ((hcR cs (a - 9)).2.2.2.2.2.1) (o - 9).toNat = true)) : bI (sbB cs a o) = 1 := bI_t (decide_eq_true h)
theorem sb_0 {a o : Int} (h : ¬ (a = o ∨ (a = 1 ∧ o = 2) ∨ (o = 8 ∧ 3 < a) ∨ (o ≠ 8 ∧ 9 ≤ a ∧ 9 ≤ o ∧ bb ((hcR cs (a - 9)).2.2.2.2.2.1) (o - 9).toNat = true))) : bI (sbB cs a o) = 0 := bI_f (decide_eq_false h)
abbrev lbI (l : Int) (lb : Bool) : Prop := (l = 0 ∧ lb = false) ∨ (l = 1 ∧ lb = true)
theorem gT_1 {f q : Int} {lb : Bool} (h : 3 < q) (h2 : f = 0) : bI (gTB cs f q lb) = 1 := bI_t (by unfold gTB; rw [if_pos h, decide_eq_true h2]; rfl)
theorem gT_2 {f q : Int} {lb : Bool} (h : 3 < q) (h2 : bI (sbB cs f q) ≠ 0) : bI (gTB cs f q lb) = 1 := bI_t (by unfold gTB; rw [if_pos h, bI_1 h2, Bool.or_true])
theorem gT_3 {f q l : Int} {lb : Bool} (hl : lbI l lb) (h : ¬ 3 < q) (h1 : l ≠ 0) (h2 : (f = 4 ∧ (q = 1 ∨ q = 2)) ∨ (f = 5 ∧ q = 2) ∨ (f = 6 ∧ q = 3)) : bI (gTB cs f q lb) = 1 := bI_t (by
  rcases hl with z | z
  · exact absurd z.1 h1
  · unfold gTB; rw [if_neg h, z.2, decide_eq_true h2]; rfl)
theorem gT_4 {f q : Int} {lb : Bool} (h : 3 < q) (h1 : f ≠ 0) (h2 : bI (sbB cs f q) = 0) : bI (gTB cs f q lb) = 0 := bI_f (by unfold gTB; rw [if_pos h, decide_eq_false h1, bI_0 h2]; rfl)
theorem gT_5 {f q l : Int} {lb : Bool} (hl : lbI l lb) (h : ¬ 3 < q) (h1 : l = 0 ∨ ¬ ((f = 4 ∧ (q = 1 ∨ q = 2)) ∨ (f = 5 ∧ q = 2) ∨ (f = 6 ∧ q = 3))) : bI (gTB cs f q lb) = 0 := bI_f (by
  unfold gTB
  rw [if_neg h]
  rcases hl with z | z
  · rw [z.2]; rfl
  · rw [decide_eq_false (h1.resolve_left (by omega)), Bool.and_false])
theorem ft_0 {ph m : Int} {tl : List Int} (h : ph = 3 → (hmR ms m).2.2.2.2.2.1 ≠ 1) (h2 : ph ≠ 3 → (hmR ms m).2.2.2.2.2.1 ≠ 0) : bI (ftA cs ms ph tl m) = 0 := bI_f (by unfold ftA; rw [decide_eq_false (by split; exact h (by assumption); exact h2 (by assumption))]; rfl)
theorem ft_0b {ph m : Int} {tl : List Int} (h : ph = 3 → ¬ (hmR ms m).2.2.2.2.1.length ≤ tl.length + 1) (h2 : ph ≠ 3 → ¬ (hmR ms m).2.2.2.2.1.length = tl.length) : bI (ftA cs ms ph tl m) = 0 := bI_f (by unfold ftA; rw [decide_eq_false (p := if ph = 3 then (hmR ms m).2.2.2.2.1.length ≤ tl.length + 1 else (hmR ms m).2.2.2.2.1.length = tl.length) (by split; exact h (by assumption); exact h2 (by assumption)), Bool.and_false]; rfl)
theorem hid_t {acc : List Int} {m : Int} {i : Nat} (hi : i < acc.length) (h : (hmR ms (acc.getD i 0)).2.2.2.2.1 = (hmR ms m).2.2.2.2.1) : hidM ms acc m = true := by
  unfold hidM
  rw [List.any_eq_true]
  refine ⟨acc.getD i 0, ?_, decide_eq_true h⟩
  rw [List.getD_eq_getElem?_getD, List.getElem?_eq_getElem hi]
  exact List.getElem_mem hi
theorem hid_f {acc : List Int} {m : Int} (h : ∀ i : Nat, i < acc.length → ¬ (hmR ms (acc.getD i 0)).2.2.2.2.1 = (hmR ms m).2.2.2.2.1) : hidM ms acc m = false := by
  unfold hidM
  rw [List.any_eq_false]
  intro x hx
  obtain ⟨i, hi, e⟩ := List.getElem_of_mem hx
  have z := h i hi
  rw [List.getD_eq_getElem?_getD, List.getElem?_eq_getElem hi] at z
  rw [← e]
  exact fun y => z (of_decide_eq_true y)
theorem sub_73 {a o : Int} (hC : w_CL S) (hK : KC 87 97 93 114 115 74 73 T cs ms os S) (hw : wHo cs ms os) (ha : 0 ≤ a ∧ a < 9 + (cs.length : Int)) (ho : 0 ≤ o ∧ o < 9 + (cs.length : Int)) : wJ (pe_GA xs) wY0 M d t_XO_isSubtype ((pe_at t_XO_isSubtype.bl 0).getD (0, [])).2 [(0, (2, 73)), (1, (0, a)), (2, (0, o))] [] S (fun z Z => S = Z ∧ z = .inl (some (0, bI (sbB cs a o)))) := by
  have hn := KC_n hK
  have hn2 := hn.2.2
  have hb2 : 9 ≤ a → 9 ≤ o → wb_land (wb_lushr (S 115 (a - 9)) (o - 9)) 1 = if bb ((hcR cs (a - 9)).2.2.2.2.2.1) (o - 9).toNat = true then 1 else 0 := fun h1 h2 => by rw [bb_sh (by omega), KC_b hK (by omega) (by omega) (by omega)]
  refine wa_iload_n (n := 1) rfl ?_
  refine wa_iload_n (n := 2) rfl ?_
  refine wa_icmpeq (w_rg0 (by omega) (by omega)) (w_rg0 (by omega) (by omega)) ⟨_, rfl⟩ (fun c1 => ?_) (fun c1 => ?_)
  · skip
    refine wa_iconst ?_
    refine wa_zreturn rfl (Or.inr rfl) ?_
    refine ⟨rfl, congrArg (fun z => Sum.inl (some (0, z))) (sb_1 ?_).symm⟩
    first | exact Or.inl (by omega) | exact Or.inr (Or.inl ⟨by omega, by omega⟩) | exact Or.inr (Or.inr (Or.inl ⟨by omega, by omega⟩)) | (refine Or.inr (Or.inr (Or.inr ⟨by omega, by omega, by omega, ?_⟩)); split at hb3 <;> rename_i hbq <;> first | exact hbq | omega)
  · skip
    refine wa_iload_n (n := 1) rfl ?_
    refine wa_iconst ?_
    refine wa_icmpne (w_rg0 (by omega) (by omega)) (w_rg0 (by omega) (by omega)) ⟨_, rfl⟩ (fun c2 => ?_) (fun c2 => ?_)
    · skip
      refine wa_iload_n (n := 2) rfl ?_
      refine wa_bipush (w_rg2 (by omega) (by omega)) ?_
      refine wa_icmpne (w_rg0 (by omega) (by omega)) (w_rg0 (by omega) (by omega)) ⟨_, rfl⟩ (fun c3 => ?_) (fun c3 => ?_)
      · skip
        refine wa_iload_n (n := 1) rfl ?_
        refine wa_bipush (w_rg2 (by omega) (by omega)) ?_
        refine wa_icmplt (w_rg0 (by omega) (by omega)) (w_rg0 (by omega) (by omega)) ⟨_, rfl⟩ (fun c4 => ?_) (fun c4 => ?_)
        · skip
          refine wa_iconst ?_
          refine wa_fall ⟨_, rfl⟩ ?_
          refine wa_zreturn rfl (Or.inl rfl) ?_
          refine ⟨rfl, congrArg (fun z => Sum.inl (some (0, z))) (sb_0 ?_).symm⟩
          rintro (q | q | q | q)
          · omega
          · omega
          · omega
          · first | omega | (rw [if_pos q.2.2.2] at hb3; omega)
        · skip
          refine wa_iload_n (n := 2) rfl ?_
          refine wa_bipush (w_rg2 (by omega) (by omega)) ?_
          refine wa_icmplt (w_rg0 (by omega) (by omega)) (w_rg0 (by omega) (by omega)) ⟨_, rfl⟩ (fun c5 => ?_) (fun c5 => ?_)
          · skip
            refine wa_iconst ?_
            refine wa_fall ⟨_, rfl⟩ ?_
            refine wa_zreturn rfl (Or.inl rfl) ?_
            refine ⟨rfl, congrArg (fun z => Sum.inl (some (0, z))) (sb_0 ?_).symm⟩
            rintro (q | q | q | q)
            · omega
            · omega
            · omega
            · first | omega | (rw [if_pos q.2.2.2] at hb3; omega)
          · skip
            refine wa_aload_n (n := 0) rfl ?_
            refine wb_gf4 73 rfl (wy_pr rfl) wt_73 wf_3_6 (v := 115) wl_73_6 ?_
            refine wa_iload_n (n := 1) rfl ?_
            refine wa_bipush (w_rg2 (by omega) (by omega)) ?_
            refine wa_isub ?_
            refine wb_lald 115 rfl (wy_pr rfl) wt_115 (n := 60) ((cl_115 hC)) (by omega) (by omega) (v := (S 115 (a - 9))) rfl (fun r6 => ?_)
            refine wa_iload_n (n := 2) rfl ?_
            refine wa_bipush (w_rg2 (by omega) (by omega)) ?_
            refine wa_isub ?_
            refine wa_lushr ?_
            refine wb_lconst (m := 1) rfl ?_
            refine wa_land ?_
            refine wb_lconst (m := 1) rfl ?_
            have hb3 := hb2 (by omega) (by omega)
            have hbx : 0 ≤ wb_land (wb_lushr (S 115 (a - 9)) (o - 9)) 1 ∧ wb_land (wb_lushr (S 115 (a - 9)) (o - 9)) 1 ≤ 1 := by rw [hb3]; split <;> omega
            refine wa_lcmp (w_rg1 (by omega) (by omega)) (w_rg1 (by omega) (by omega)) ?_
            refine wa_ifne (by have := @wb_lcmp_cases; exact w_lcmp_rg) ⟨_, rfl⟩ (fun c7 => ?_) (fun c7 => ?_)
            · skip
              have c7x := @wb_lcmp_cases (wb_land (wb_lushr (S 115 (a - 9)) (o - 9)) 1) 1
              refine wa_iconst ?_
              refine wa_fall ⟨_, rfl⟩ ?_
              refine wa_zreturn rfl (Or.inl rfl) ?_
              refine ⟨rfl, congrArg (fun z => Sum.inl (some (0, z))) (sb_0 ?_).symm⟩
              rintro (q | q | q | q)
              · omega
              · omega
              · omega
              · first | omega | (rw [if_pos q.2.2.2] at hb3; omega)
            · skip
              have c7x := @wb_lcmp_cases (wb_land (wb_lushr (S 115 (a - 9)) (o - 9)) 1) 1
              refine wa_iconst ?_
              refine wa_goto ⟨_, rfl⟩ ?_
              refine wa_zreturn rfl (Or.inr rfl) ?_
              refine ⟨rfl, congrArg (fun z => Sum.inl (some (0, z))) (sb_1 ?_).symm⟩
              first | exact Or.inl (by omega) | exact Or.inr (Or.inl ⟨by omega, by omega⟩) | exact Or.inr (Or.inr (Or.inl ⟨by omega, by omega⟩)) | (refine Or.inr (Or.inr (Or.inr ⟨by omega, by omega, by omega, ?_⟩)); split at hb3 <;> rename_i hbq <;> first | exact hbq | omega)
      · skip
        refine wa_iload_n (n := 1) rfl ?_
        refine wa_iconst ?_
        refine wa_icmple (w_rg0 (by omega) (by omega)) (w_rg0 (by omega) (by omega)) ⟨_, rfl⟩ (fun c8 => ?_) (fun c8 => ?_)
        · skip
          refine wa_iconst ?_
          refine wa_fall ⟨_, rfl⟩ ?_
          refine wa_zreturn rfl (Or.inl rfl) ?_
          refine ⟨rfl, congrArg (fun z => Sum.inl (some (0, z))) (sb_0 ?_).symm⟩
          rintro (q | q | q | q)
          · omega
          · omega
          · omega
          · first | omega | (rw [if_pos q.2.2.2] at hb3; omega)
        · skip
          refine wa_iconst ?_
          refine wa_goto ⟨_, rfl⟩ ?_
          refine wa_zreturn rfl (Or.inr rfl) ?_
          refine ⟨rfl, congrArg (fun z => Sum.inl (some (0, z))) (sb_1 ?_).symm⟩
          first | exact Or.inl (by omega) | exact Or.inr (Or.inl ⟨by omega, by omega⟩) | exact Or.inr (Or.inr (Or.inl ⟨by omega, by omega⟩)) | (refine Or.inr (Or.inr (Or.inr ⟨by omega, by omega, by omega, ?_⟩)); split at hb3 <;> rename_i hbq <;> first | exact hbq | omega)
    · skip
      refine wa_iload_n (n := 2) rfl ?_
      refine wa_iconst ?_
      refine wa_icmpne (w_rg0 (by omega) (by omega)) (w_rg0 (by omega) (by omega)) ⟨_, rfl⟩ (fun c9 => ?_) (fun c9 => ?_)
      · skip
        refine wa_iload_n (n := 2) rfl ?_
        refine wa_bipush (w_rg2 (by omega) (by omega)) ?_
        refine wa_icmpne (w_rg0 (by omega) (by omega)) (w_rg0 (by omega) (by omega)) ⟨_, rfl⟩ (fun c10 => ?_) (fun c10 => ?_)
        · skip
          refine wa_iload_n (n := 1) rfl ?_
          refine wa_bipush (w_rg2 (by omega) (by omega)) ?_
          refine wa_icmplt (w_rg0 (by omega) (by omega)) (w_rg0 (by omega) (by omega)) ⟨_, rfl⟩ (fun c11 => ?_) (fun c11 => ?_)
          · skip
            refine wa_iconst ?_
            refine wa_fall ⟨_, rfl⟩ ?_
            refine wa_zreturn rfl (Or.inl rfl) ?_
            refine ⟨rfl, congrArg (fun z => Sum.inl (some (0, z))) (sb_0 ?_).symm⟩
            rintro (q | q | q | q)
            · omega
            · omega
            · omega
            · first | omega | (rw [if_pos q.2.2.2] at hb3; omega)
          · skip
            exact absurd c11 (by omega)
        · skip
          refine wa_iload_n (n := 1) rfl ?_
          refine wa_iconst ?_
          refine wa_icmple (w_rg0 (by omega) (by omega)) (w_rg0 (by omega) (by omega)) ⟨_, rfl⟩ (fun c12 => ?_) (fun c12 => ?_)
          · skip
            refine wa_iconst ?_
            refine wa_fall ⟨_, rfl⟩ ?_
            refine wa_zreturn rfl (Or.inl rfl) ?_
            refine ⟨rfl, congrArg (fun z => Sum.inl (some (0, z))) (sb_0 ?_).symm⟩
            rintro (q | q | q | q)
            · omega
            · omega
            · omega
            · first | omega | (rw [if_pos q.2.2.2] at hb3; omega)
          · skip
            exact absurd c12 (by omega)
      · skip
        refine wa_fall ⟨_, rfl⟩ ?_
        refine wa_iconst ?_
        refine wa_zreturn rfl (Or.inr rfl) ?_
        refine ⟨rfl, congrArg (fun z => Sum.inl (some (0, z))) (sb_1 ?_).symm⟩
        first | exact Or.inl (by omega) | exact Or.inr (Or.inl ⟨by omega, by omega⟩) | exact Or.inr (Or.inr (Or.inl ⟨by omega, by omega⟩)) | (refine Or.inr (Or.inr (Or.inr ⟨by omega, by omega, by omega, ?_⟩)); split at hb3 <;> rename_i hbq <;> first | exact hbq | omega)
theorem gto_73 {f q l : Int} {lb : Bool} (hC : w_CL S) (hK : KC 87 97 93 114 115 74 73 T cs ms os S) (hw : wHo cs ms os) (hf : 0 ≤ f ∧ f < 9 + (cs.length : Int)) (hq : 0 ≤ q ∧ q < 9 + (cs.length : Int)) (hl : lbI l lb) : wJ (pe_GA xs) wY0 M (d + 1) t_XO_goesTo ((pe_at t_XO_goesTo.bl 0).getD (0, [])).2 [(0, (2, 73)), (1, (0, f)), (2, (0, q)), (3, (0, l))] [] S (fun z Z => S = Z ∧ z = .inl (some (0, bI (gTB cs f q lb)))) := by
  have hn := KC_n hK
  have hn2 := hn.2.2
  have hl2 : l = 0 ∨ l = 1 := by rcases hl with z | z; exact Or.inl z.1; exact Or.inr z.1
  refine wa_iload_n (n := 2) rfl ?_
  refine wa_iconst ?_
  refine wa_icmple (w_rg0 (by omega) (by omega)) (w_rg0 (by omega) (by omega)) ⟨_, rfl⟩ (fun c1 => ?_) (fun c1 => ?_)
  · skip
    refine wa_iload_n (n := 3) rfl ?_
    refine wa_ifeq (w_rg0 (by omega) (by omega)) ⟨_, rfl⟩ (fun c2 => ?_) (fun c2 => ?_)
    · skip
      refine wa_iconst ?_
      refine wa_fall ⟨_, rfl⟩ ?_
      refine wa_zreturn rfl (Or.inl rfl) ?_
      refine ⟨rfl, congrArg (fun z => Sum.inl (some (0, z))) ?_⟩
      first | exact (gT_4 (by omega) (by omega) (by omega)).symm | exact (gT_5 hl (by omega) (by omega)).symm
    · skip
      refine wa_iload_n (n := 1) rfl ?_
      refine wa_iconst ?_
      refine wa_icmpne (w_rg0 (by omega) (by omega)) (w_rg0 (by omega) (by omega)) ⟨_, rfl⟩ (fun c3 => ?_) (fun c3 => ?_)
      · skip
        refine wa_iload_n (n := 1) rfl ?_
        refine wa_iconst ?_
        refine wa_icmpne (w_rg0 (by omega) (by omega)) (w_rg0 (by omega) (by omega)) ⟨_, rfl⟩ (fun c4 => ?_) (fun c4 => ?_)
        · skip
          refine wa_iload_n (n := 1) rfl ?_
          refine wa_bipush (w_rg2 (by omega) (by omega)) ?_
          refine wa_icmpne (w_rg0 (by omega) (by omega)) (w_rg0 (by omega) (by omega)) ⟨_, rfl⟩ (fun c5 => ?_) (fun c5 => ?_)
          · skip
            refine wa_iconst ?_
            refine wa_fall ⟨_, rfl⟩ ?_
            refine wa_zreturn rfl (Or.inl rfl) ?_
            refine ⟨rfl, congrArg (fun z => Sum.inl (some (0, z))) ?_⟩
            first | exact (gT_4 (by omega) (by omega) (by omega)).symm | exact (gT_5 hl (by omega) (by omega)).symm
          · skip
            refine wa_iload_n (n := 2) rfl ?_
            refine wa_iconst ?_
            refine wa_icmpne (w_rg0 (by omega) (by omega)) (w_rg0 (by omega) (by omega)) ⟨_, rfl⟩ (fun c6 => ?_) (fun c6 => ?_)
            · skip
              refine wa_iconst ?_
              refine wa_fall ⟨_, rfl⟩ ?_
              refine wa_zreturn rfl (Or.inl rfl) ?_
              refine ⟨rfl, congrArg (fun z => Sum.inl (some (0, z))) ?_⟩
              first | exact (gT_4 (by omega) (by omega) (by omega)).symm | exact (gT_5 hl (by omega) (by omega)).symm
            · skip
              refine wa_fall ⟨_, rfl⟩ ?_
              refine wa_iconst ?_
              refine wa_goto ⟨_, rfl⟩ ?_
              refine wa_zreturn rfl (Or.inr rfl) ?_
              refine ⟨rfl, congrArg (fun z => Sum.inl (some (0, z))) ?_⟩
              first | exact (gT_1 (by omega) (by omega)).symm | exact (gT_2 (by omega) (by omega)).symm | exact (gT_3 hl (by omega) (by omega) (by omega)).symm
        · skip
          refine wa_iload_n (n := 2) rfl ?_
          refine wa_iconst ?_
          refine wa_icmpeq (w_rg0 (by omega) (by omega)) (w_rg0 (by omega) (by omega)) ⟨_, rfl⟩ (fun c7 => ?_) (fun c7 => ?_)
          · skip
            refine wa_iconst ?_
            refine wa_goto ⟨_, rfl⟩ ?_
            refine wa_zreturn rfl (Or.inr rfl) ?_
            refine ⟨rfl, congrArg (fun z => Sum.inl (some (0, z))) ?_⟩
            first | exact (gT_1 (by omega) (by omega)).symm | exact (gT_2 (by omega) (by omega)).symm | exact (gT_3 hl (by omega) (by omega) (by omega)).symm
          · skip
            refine wa_fall ⟨_, rfl⟩ ?_
            refine wa_iload_n (n := 1) rfl ?_
            refine wa_bipush (w_rg2 (by omega) (by omega)) ?_
            refine wa_icmpne (w_rg0 (by omega) (by omega)) (w_rg0 (by omega) (by omega)) ⟨_, rfl⟩ (fun c8 => ?_) (fun c8 => ?_)
            · skip
              refine wa_iconst ?_
              refine wa_fall ⟨_, rfl⟩ ?_
              refine wa_zreturn rfl (Or.inl rfl) ?_
              refine ⟨rfl, congrArg (fun z => Sum.inl (some (0, z))) ?_⟩
              first | exact (gT_4 (by omega) (by omega) (by omega)).symm | exact (gT_5 hl (by omega) (by omega)).symm
            · skip
              exact absurd c8 (by omega)
      · skip
        refine wa_iload_n (n := 2) rfl ?_
        refine wa_iconst ?_
        refine wa_icmpeq (w_rg0 (by omega) (by omega)) (w_rg0 (by omega) (by omega)) ⟨_, rfl⟩ (fun c9 => ?_) (fun c9 => ?_)
        · skip
          refine wa_iconst ?_
          refine wa_goto ⟨_, rfl⟩ ?_
          refine wa_zreturn rfl (Or.inr rfl) ?_
          refine ⟨rfl, congrArg (fun z => Sum.inl (some (0, z))) ?_⟩
          first | exact (gT_1 (by omega) (by omega)).symm | exact (gT_2 (by omega) (by omega)).symm | exact (gT_3 hl (by omega) (by omega) (by omega)).symm
        · skip
          refine wa_iload_n (n := 2) rfl ?_
          refine wa_iconst ?_
          refine wa_icmpeq (w_rg0 (by omega) (by omega)) (w_rg0 (by omega) (by omega)) ⟨_, rfl⟩ (fun c10 => ?_) (fun c10 => ?_)
          · skip
            refine wa_iconst ?_
            refine wa_goto ⟨_, rfl⟩ ?_
            refine wa_zreturn rfl (Or.inr rfl) ?_
            refine ⟨rfl, congrArg (fun z => Sum.inl (some (0, z))) ?_⟩
            first | exact (gT_1 (by omega) (by omega)).symm | exact (gT_2 (by omega) (by omega)).symm | exact (gT_3 hl (by omega) (by omega) (by omega)).symm
          · skip
            refine wa_fall ⟨_, rfl⟩ ?_
            refine wa_iload_n (n := 1) rfl ?_
            refine wa_iconst ?_
            refine wa_icmpne (w_rg0 (by omega) (by omega)) (w_rg0 (by omega) (by omega)) ⟨_, rfl⟩ (fun c11 => ?_) (fun c11 => ?_)
            · skip
              refine wa_iload_n (n := 1) rfl ?_
              refine wa_bipush (w_rg2 (by omega) (by omega)) ?_
              refine wa_icmpne (w_rg0 (by omega) (by omega)) (w_rg0 (by omega) (by omega)) ⟨_, rfl⟩ (fun c12 => ?_) (fun c12 => ?_)
              · skip
                refine wa_iconst ?_
                refine wa_fall ⟨_, rfl⟩ ?_
                refine wa_zreturn rfl (Or.inl rfl) ?_
                refine ⟨rfl, congrArg (fun z => Sum.inl (some (0, z))) ?_⟩
                first | exact (gT_4 (by omega) (by omega) (by omega)).symm | exact (gT_5 hl (by omega) (by omega)).symm
              · skip
                exact absurd c12 (by omega)
            · skip
              exact absurd c11 (by omega)
  · skip
    refine wa_iload_n (n := 1) rfl ?_
    refine wa_ifeq (w_rg0 (by omega) (by omega)) ⟨_, rfl⟩ (fun c13 => ?_) (fun c13 => ?_)
    · skip
      refine wa_iconst ?_
      refine wa_goto ⟨_, rfl⟩ ?_
      refine wa_zreturn rfl (Or.inr rfl) ?_
      refine ⟨rfl, congrArg (fun z => Sum.inl (some (0, z))) ?_⟩
      first | exact (gT_1 (by omega) (by omega)).symm | exact (gT_2 (by omega) (by omega)).symm | exact (gT_3 hl (by omega) (by omega) (by omega)).symm
    · skip
      refine wa_aload_n (n := 0) rfl ?_
      refine wa_iload_n (n := 1) rfl ?_
      refine wa_iload_n (n := 2) rfl ?_
      refine wa_cv 73 rfl (wy_pr rfl) wt_73 (M2 := fun _ => False) rfl at_XO_isSubtype ⟨_, rfl⟩ rfl rfl ⟨(Or.inr ⟨wy_pr rfl, fun q => q⟩), trivial, trivial, trivial, trivial⟩ trivial (fun _ _ q => False.elim q) (sub_73 (S := S) (a := f) (o := q) hC hK hw ⟨by omega, by omega⟩ ⟨by omega, by omega⟩) (fun oq14 Sq14 hp15 q14 => ?_)
      rcases q14 with ⟨rfl, rfl⟩
      show wJ _ _ _ _ _ _ _ _ _ _
      have hbr13 := bI_rg (sbB cs f q)
      refine wa_ifeq (w_rg0 (by omega) (by omega)) ⟨_, rfl⟩ (fun c16 => ?_) (fun c16 => ?_)
      · skip
        refine wa_iconst ?_
        refine wa_fall ⟨_, rfl⟩ ?_
        refine wa_zreturn rfl (Or.inl rfl) ?_
        refine ⟨rfl, congrArg (fun z => Sum.inl (some (0, z))) ?_⟩
        first | exact (gT_4 (by omega) (by omega) (by omega)).symm | exact (gT_5 hl (by omega) (by omega)).symm
      · skip
        refine wa_fall ⟨_, rfl⟩ ?_
        refine wa_iconst ?_
        refine wa_goto ⟨_, rfl⟩ ?_
        refine wa_zreturn rfl (Or.inr rfl) ?_
        refine ⟨rfl, congrArg (fun z => Sum.inl (some (0, z))) ?_⟩
        first | exact (gT_1 (by omega) (by omega)).symm | exact (gT_2 (by omega) (by omega)).symm | exact (gT_3 hl (by omega) (by omega) (by omega)).symm
theorem par_73 {m : Int} {i : Nat} (hC : w_CL S) (hK : KC 87 97 93 114 115 74 73 T cs ms os S) (hw : wHo cs ms os) (hm : 0 ≤ m ∧ m < (ms.length : Int)) (hn1 : 1 ≤ (hmR ms m).2.2.2.2.1.length) (hi : i ≤ 1000 := by omega) : wJ (pe_GA xs) wY0 M d t_XO_parameterType ((pe_at t_XO_parameterType.bl 0).getD (0, [])).2 [(0, (2, 73)), (1, (0, m)), (2, (0, (i : Int)))] [] S (fun z Z => S = Z ∧ z = .inl (some (0, prT (hmR ms m) i))) := by
  have hn := KC_n hK
  have hn2 := hn.2.2
  have eM := KC_m hK (m := m) (by omega) (by omega)
  have eW := hw.2.2.2 m (by omega) (by omega)
  have e1 : S 98 m = (hmR ms m).2.1 := eM.1.2.1
  have e2 : S 99 m = (hmR ms m).2.2.1 := eM.1.2.2.1
  have e3 : S 100 m = (hmR ms m).2.2.2.1 := eM.1.2.2.2
  have e4 : S 101 m = ((hmR ms m).2.2.2.2.1.length : Int) := eM.2.1.1
  have e5 : S 102 m = (hmR ms m).2.2.2.2.2.1 := eM.2.1.2.1
  have eq := eW.1.2.1
  have es := eW.1.2.2.1
  have ey := eW.1.2.2.2
  have ev := eW.2.1
  have el := eW.2.2.1
  refine wa_aload_n (n := 0) rfl ?_
  refine wb_gf4 73 rfl (wy_pr rfl) wt_73 wf_3_3 (v := 96) wl_73_3 ?_
  refine wa_bipush (w_rg2 (by omega) (by omega)) ?_
  refine wa_iload_n (n := 2) rfl ?_
  refine wa_aload_n (n := 0) rfl ?_
  refine wb_gf4 73 rfl (wy_pr rfl) wt_73 wf_3_3 (v := 96) wl_73_3 ?_
  refine wa_iconst ?_
  refine wb_aald5 96 4 rfl rfl (wy_pr rfl) wt_96 (by rw [show _ = _ from ((cl_96 hC))]; omega) wl_96_4 ?_
  refine wa_iload_n (n := 1) rfl ?_
  refine wb_iald 101 rfl (wy_pr rfl) wt_101 (n := 400) ((cl_101 hC)) (by omega) (by omega) (v := ((hmR ms m).2.2.2.2.1.length : Int)) (e4) (fun r1 => ?_)
  refine wa_icmpge (w_rg0 (by omega) (by omega)) (w_rg0 (by omega) (by omega)) ⟨_, rfl⟩ (fun c2 => ?_) (fun c2 => ?_)
  · skip
    refine wa_aload_n (n := 0) rfl ?_
    refine wb_gf4 73 rfl (wy_pr rfl) wt_73 wf_3_3 (v := 96) wl_73_3 ?_
    refine wa_iconst ?_
    refine wb_aald5 96 4 rfl rfl (wy_pr rfl) wt_96 (by rw [show _ = _ from ((cl_96 hC))]; omega) wl_96_4 ?_
    refine wa_iload_n (n := 1) rfl ?_
    refine wb_iald 101 rfl (wy_pr rfl) wt_101 (n := 400) ((cl_101 hC)) (by omega) (by omega) (v := ((hmR ms m).2.2.2.2.1.length : Int)) (e4) (fun r3 => ?_)
    refine wa_iconst ?_
    refine wa_isub ?_
    refine wa_fall ⟨_, rfl⟩ ?_
    obtain ⟨j, hj⟩ : ∃ j : Nat, j = (hmR ms m).2.2.2.2.1.length - 1 := ⟨_, rfl⟩
    have ejx : (if i < (hmR ms m).2.2.2.2.1.length then i else (hmR ms m).2.2.2.2.1.length - 1) = j := by rw [if_neg (by omega), hj]
    refine wJ_top (show (((hmR ms m).2.2.2.2.1.length : Int) - 1) = (j : Int) by omega) ?_
    have hj8 : j < 8 := by omega
    have hjv : S (103 + j) m = (hmR ms m).2.2.2.2.1.getD j 0 := eM.2.1.2.2.2 j (by omega)
    refine wa_iadd ?_
    refine wb_aald5 96 (6 + j) rfl (by omega) (wy_pr rfl) wt_96 (by rw [show _ = _ from ((cl_96 hC))]; omega) (mr_ln_73 (by omega)) ?_
    refine wa_iload_n (n := 1) rfl ?_
    refine wb_iald (103 + j) rfl (wy_p2 (by omega)) (mr_ty_73 (by omega)) (n := 400) ((cl_mr_73 hC (by omega))) (by omega) (by omega) (v := ((hmR ms m).2.2.2.2.1.getD j 0)) (hjv) (fun r4 => ?_)
    refine wa_ireturn rfl ?_
    refine ⟨rfl, congrArg (fun z => Sum.inl (some (0, z))) ?_⟩
    unfold prT; rw [ejx]
  · skip
    refine wa_iload_n (n := 2) rfl ?_
    refine wa_goto ⟨_, rfl⟩ ?_
    obtain ⟨j, hj⟩ : ∃ j : Nat, j = i := ⟨_, rfl⟩
    have ejx : (if i < (hmR ms m).2.2.2.2.1.length then i else (hmR ms m).2.2.2.2.1.length - 1) = j := by rw [if_pos (by omega), hj]
    refine wJ_top (show (i : Int) = (j : Int) by omega) ?_
    have hj8 : j < 8 := by omega
    have hjv : S (103 + j) m = (hmR ms m).2.2.2.2.1.getD j 0 := eM.2.1.2.2.2 j (by omega)
    refine wa_iadd ?_
    refine wb_aald5 96 (6 + j) rfl (by omega) (wy_pr rfl) wt_96 (by rw [show _ = _ from ((cl_96 hC))]; omega) (mr_ln_73 (by omega)) ?_
    refine wa_iload_n (n := 1) rfl ?_
    refine wb_iald (103 + j) rfl (wy_p2 (by omega)) (mr_ty_73 (by omega)) (n := 400) ((cl_mr_73 hC (by omega))) (by omega) (by omega) (v := ((hmR ms m).2.2.2.2.1.getD j 0)) (hjv) (fun r5 => ?_)
    refine wa_ireturn rfl ?_
    refine ⟨rfl, congrArg (fun z => Sum.inl (some (0, z))) ?_⟩
    unfold prT; rw [ejx]
theorem ftl_73 {m ph x6 x7 : Int} {tl : List Int} (hC : w_CL S) (hK : KC 87 97 93 114 115 74 73 T cs ms os S) (hw : wHo cs ms os) (hm : 0 ≤ m ∧ m < (ms.length : Int)) (hph : 1 ≤ ph ∧ ph ≤ 3) (htl : tl.length ≤ 8) (hes : esOk tl) (hty : ∀ c ∈ tl, c < 9 + (cs.length : Int)) (h1 : (hmR ms m).2.2.2.2.2.1 = (if ph = 3 then 1 else 0)) (h2 : if ph = 3 then (hmR ms m).2.2.2.2.1.length ≤ tl.length + 1 else (hmR ms m).2.2.2.2.1.length = tl.length) : ∀ (f i : Nat), tl.length - i < f → i ≤ tl.length → (∀ k : Nat, k < i → gTB cs (tl.getD k 0) (prT (hmR ms m) k) (decide (1 < ph)) = true) → wJ (pe_GA xs) wY0 M (d + 2) t_XO_fits ((pe_at t_XO_fits.bl 9).getD (0, [])).2 [(0, (2, 73)), (1, (0, m)), (2, (0, ph)), (3, (1, esV tl)), (5, (0, (tl.length : Int))), (6, (0, x6)), (7, (0, x7)), (8, (0, (i : Int)))] [] S (fun z Z => S = Z ∧ z = .inl (some (0, bI (ftA cs ms ph tl m)))) := by
  have hn := KC_n hK
  have hn2 := hn.2.2
  have eM := KC_m hK (m := m) (by omega) (by omega)
  have eW := hw.2.2.2 m (by omega) (by omega)
  have e1 : S 98 m = (hmR ms m).2.1 := eM.1.2.1
  have e2 : S 99 m = (hmR ms m).2.2.1 := eM.1.2.2.1
  have e3 : S 100 m = (hmR ms m).2.2.2.1 := eM.1.2.2.2
  have e4 : S 101 m = ((hmR ms m).2.2.2.2.1.length : Int) := eM.2.1.1
  have e5 : S 102 m = (hmR ms m).2.2.2.2.2.1 := eM.2.1.2.1
  have eq := eW.1.2.1
  have es := eW.1.2.2.1
  have ey := eW.1.2.2.2
  have ev := eW.2.1
  have el := eW.2.2.1
  intro f
  induction f with
  | zero => intro i h; exact absurd h (Nat.not_lt_zero _)
  | succ f ih =>
    intro i hf hi hk
    refine wa_iload (n := 8) rfl ?_
    refine wa_iload (n := 5) rfl ?_
    refine wa_icmpge (w_rg0 (by omega) (by omega)) (w_rg0 (by omega) (by omega)) ⟨_, rfl⟩ (fun c1 => ?_) (fun c1 => ?_)
    · skip
      refine wa_iconst ?_
      refine wa_zreturn rfl (Or.inr rfl) ?_
      refine ⟨rfl, congrArg (fun z => Sum.inl (some (0, z))) ?_⟩
      exact (bI_t (by unfold ftA; rw [decide_eq_true h1, decide_eq_true h2, alN_t.mpr (fun k hk1 => hk k (by omega))]; rfl)).symm
    · skip
      refine wa_lload_n (n := 3) rfl ?_
      refine wa_bipush (w_rg2 (by omega) (by omega)) ?_
      refine wa_iload (n := 8) rfl ?_
      refine wa_imul ?_
      refine wa_lushr ?_
      refine wa_l2i ?_
      refine wa_bipush (w_rg2 (by omega) (by omega)) ?_
      refine wa_iand ?_
      have hd9 := es_di (n := i) (by omega) htl hes
      refine wJ_top (show _ = tl.getD i 0 from hd9) ?_
      have hdm : tl.getD i 0 ∈ tl := by rw [List.getD_eq_getElem?_getD, List.getElem?_eq_getElem (show i < tl.length by omega)]; exact List.getElem_mem _
      have hdr := hes _ hdm
      have hdt := hty _ hdm
      have hlen1 : 1 ≤ (hmR ms m).2.2.2.2.1.length := by split at h2 <;> omega
      refine wa_istore (n := 9) rfl ?_
      refine wa_aload_n (n := 0) rfl ?_
      refine wa_iload (n := 9) rfl ?_
      refine wa_aload_n (n := 0) rfl ?_
      refine wa_iload_n (n := 1) rfl ?_
      refine wa_iload (n := 8) rfl ?_
      refine wa_cv 73 rfl (wy_pr rfl) wt_73 (M2 := fun _ => False) rfl at_XO_parameterType ⟨_, rfl⟩ rfl rfl ⟨trivial, (Or.inr ⟨wy_pr rfl, fun q => q⟩), trivial, trivial, trivial, trivial, trivial, trivial, trivial, trivial⟩ ⟨trivial, (Or.inr ⟨wy_pr rfl, fun q => q⟩), trivial⟩ (fun _ _ q => False.elim q) (par_73 (S := S) (m := m) (i := i) hC hK hw ⟨by omega, by omega⟩ (by omega)) (fun oq2 Sq2 hp3 q2 => ?_)
      rcases q2 with ⟨rfl, rfl⟩
      show wJ _ _ _ _ _ _ _ _ _ _
      have hpr1 := prT_rg (i := i) hw (m := m) (by omega) (by omega) (by omega)
      refine wa_iload_n (n := 2) rfl ?_
      refine wa_iconst ?_
      refine wa_icmple (w_rg0 (by omega) (by omega)) (w_rg0 (by omega) (by omega)) ⟨_, rfl⟩ (fun c4 => ?_) (fun c4 => ?_)
      · skip
        refine wa_iconst ?_
        refine wa_fall ⟨_, rfl⟩ ?_
        refine wa_cv 73 rfl (wy_pr rfl) wt_73 (M2 := fun _ => False) rfl at_XO_goesTo ⟨_, rfl⟩ rfl rfl ⟨trivial, (Or.inr ⟨wy_pr rfl, fun q => q⟩), trivial, trivial, trivial, trivial, trivial, trivial, trivial, trivial⟩ trivial (fun _ _ q => False.elim q) (gto_73 (S := S) (f := (tl.getD i 0)) (q := (prT (hmR ms m) i)) (l := 0) (lb := decide (1 < ph)) hC hK hw ⟨by omega, by omega⟩ ⟨by omega, by omega⟩ (Or.inl ⟨rfl, decide_eq_false (by omega)⟩)) (fun oq5 Sq5 hp6 q5 => ?_)
        rcases q5 with ⟨rfl, rfl⟩
        show wJ _ _ _ _ _ _ _ _ _ _
        have hbg := bI_rg (gTB cs (tl.getD i 0) (prT (hmR ms m) i) (decide (1 < ph)))
        refine wa_ifne (w_rg0 (by omega) (by omega)) ⟨_, rfl⟩ (fun c7 => ?_) (fun c7 => ?_)
        · skip
          refine wa_iinc rfl rfl ?_
          refine wa_goto ⟨_, rfl⟩ ?_
          refine wJ_S (ih (i + 1) (by omega) (by omega) (fun k hk1 => ?_)) ⟨rfl, rfl, rfl, rfl, rfl, rfl, rfl, rfl, trivial⟩
          by_cases hkq : k = i
          · rw [hkq]; exact bI_1 (by omega)
          · exact hk k (by omega)
        · skip
          refine wa_iconst ?_
          refine wa_zreturn rfl (Or.inl rfl) ?_
          refine ⟨rfl, congrArg (fun z => Sum.inl (some (0, z))) ?_⟩
          exact (bI_f (by unfold ftA; rw [alN_f (i := i) (by omega) (bI_0 (by omega)), Bool.and_false])).symm
      · skip
        refine wa_iconst ?_
        refine wa_goto ⟨_, rfl⟩ ?_
        refine wa_cv 73 rfl (wy_pr rfl) wt_73 (M2 := fun _ => False) rfl at_XO_goesTo ⟨_, rfl⟩ rfl rfl ⟨trivial, (Or.inr ⟨wy_pr rfl, fun q => q⟩), trivial, trivial, trivial, trivial, trivial, trivial, trivial, trivial⟩ trivial (fun _ _ q => False.elim q) (gto_73 (S := S) (f := (tl.getD i 0)) (q := (prT (hmR ms m) i)) (l := 1) (lb := decide (1 < ph)) hC hK hw ⟨by omega, by omega⟩ ⟨by omega, by omega⟩ (Or.inr ⟨rfl, decide_eq_true (by omega)⟩)) (fun oq8 Sq8 hp9 q8 => ?_)
        rcases q8 with ⟨rfl, rfl⟩
        show wJ _ _ _ _ _ _ _ _ _ _
        have hbg := bI_rg (gTB cs (tl.getD i 0) (prT (hmR ms m) i) (decide (1 < ph)))
        refine wa_ifne (w_rg0 (by omega) (by omega)) ⟨_, rfl⟩ (fun c10 => ?_) (fun c10 => ?_)
        · skip
          refine wa_iinc rfl rfl ?_
          refine wa_goto ⟨_, rfl⟩ ?_
          refine wJ_S (ih (i + 1) (by omega) (by omega) (fun k hk1 => ?_)) ⟨rfl, rfl, rfl, rfl, rfl, rfl, rfl, rfl, trivial⟩
          by_cases hkq : k = i
          · rw [hkq]; exact bI_1 (by omega)
          · exact hk k (by omega)
        · skip
          refine wa_iconst ?_
          refine wa_zreturn rfl (Or.inl rfl) ?_
          refine ⟨rfl, congrArg (fun z => Sum.inl (some (0, z))) ?_⟩
          exact (bI_f (by unfold ftA; rw [alN_f (i := i) (by omega) (bI_0 (by omega)), Bool.and_false])).symm
theorem fit_73 {m ph : Int} {tl : List Int} (hC : w_CL S) (hK : KC 87 97 93 114 115 74 73 T cs ms os S) (hw : wHo cs ms os) (hm : 0 ≤ m ∧ m < (ms.length : Int)) (hph : 1 ≤ ph ∧ ph ≤ 3) (htl : tl.length ≤ 8) (hes : esOk tl) (hty : ∀ c ∈ tl, c < 9 + (cs.length : Int)) : wJ (pe_GA xs) wY0 M (d + 2) t_XO_fits ((pe_at t_XO_fits.bl 0).getD (0, [])).2 [(0, (2, 73)), (1, (0, m)), (2, (0, ph)), (3, (1, esV tl)), (5, (0, (tl.length : Int)))] [] S (fun z Z => S = Z ∧ z = .inl (some (0, bI (ftA cs ms ph tl m)))) := by
  have hn := KC_n hK
  have hn2 := hn.2.2
  have eM := KC_m hK (m := m) (by omega) (by omega)
  have eW := hw.2.2.2 m (by omega) (by omega)
  have e1 : S 98 m = (hmR ms m).2.1 := eM.1.2.1
  have e2 : S 99 m = (hmR ms m).2.2.1 := eM.1.2.2.1
  have e3 : S 100 m = (hmR ms m).2.2.2.1 := eM.1.2.2.2
  have e4 : S 101 m = ((hmR ms m).2.2.2.2.1.length : Int) := eM.2.1.1
  have e5 : S 102 m = (hmR ms m).2.2.2.2.2.1 := eM.2.1.2.1
  have eq := eW.1.2.1
  have es := eW.1.2.2.1
  have ey := eW.1.2.2.2
  have ev := eW.2.1
  have el := eW.2.2.1
  refine wa_iload_n (n := 2) rfl ?_
  refine wa_iconst ?_
  refine wa_icmpne (w_rg0 (by omega) (by omega)) (w_rg0 (by omega) (by omega)) ⟨_, rfl⟩ (fun c1 => ?_) (fun c1 => ?_)
  · skip
    refine wa_iconst ?_
    refine wa_fall ⟨_, rfl⟩ ?_
    refine wa_istore (n := 6) rfl ?_
    refine wa_aload_n (n := 0) rfl ?_
    refine wb_gf4 73 rfl (wy_pr rfl) wt_73 wf_3_3 (v := 96) wl_73_3 ?_
    refine wa_iconst ?_
    refine wb_aald5 96 4 rfl rfl (wy_pr rfl) wt_96 (by rw [show _ = _ from ((cl_96 hC))]; omega) wl_96_4 ?_
    refine wa_iload_n (n := 1) rfl ?_
    refine wb_iald 101 rfl (wy_pr rfl) wt_101 (n := 400) ((cl_101 hC)) (by omega) (by omega) (v := ((hmR ms m).2.2.2.2.1.length : Int)) (e4) (fun r2 => ?_)
    refine wa_istore (n := 7) rfl ?_
    refine wa_aload_n (n := 0) rfl ?_
    refine wb_gf4 73 rfl (wy_pr rfl) wt_73 wf_3_3 (v := 96) wl_73_3 ?_
    refine wa_iconst ?_
    refine wb_aald5 96 5 rfl rfl (wy_pr rfl) wt_96 (by rw [show _ = _ from ((cl_96 hC))]; omega) wl_96_5 ?_
    refine wa_iload_n (n := 1) rfl ?_
    refine wb_iald 102 rfl (wy_pr rfl) wt_102 (n := 400) ((cl_102 hC)) (by omega) (by omega) (v := (hmR ms m).2.2.2.2.2.1) (e5) (fun r3 => ?_)
    refine wa_iload (n := 6) rfl ?_
    refine wa_ifeq (w_rg0 (by omega) (by omega)) ⟨_, rfl⟩ (fun c4 => ?_) (fun c4 => ?_)
    · skip
      refine wa_iconst ?_
      refine wa_fall ⟨_, rfl⟩ ?_
      refine wa_icmpeq (w_rg0 (by omega) (by omega)) (w_rg0 (by omega) (by omega)) ⟨_, rfl⟩ (fun c5 => ?_) (fun c5 => ?_)
      · skip
        refine wa_iload (n := 6) rfl ?_
        refine wa_ifeq (w_rg0 (by omega) (by omega)) ⟨_, rfl⟩ (fun c6 => ?_) (fun c6 => ?_)
        · skip
          refine wa_iload (n := 5) rfl ?_
          refine wa_iload (n := 7) rfl ?_
          refine wa_icmpeq (w_rg0 (by omega) (by omega)) (w_rg0 (by omega) (by omega)) ⟨_, rfl⟩ (fun c7 => ?_) (fun c7 => ?_)
          · skip
            refine wa_iconst ?_
            refine wa_istore (n := 8) rfl ?_
            refine wa_fall ⟨_, rfl⟩ ?_
            exact wJ_S (ftl_73 hC hK hw hm hph htl hes hty (by split <;> omega) (by split <;> omega) (tl.length + 1) 0 (by omega) (by omega) (fun k hk => absurd hk (Nat.not_lt_zero _))) ⟨rfl, rfl, rfl, rfl, rfl, rfl, rfl, rfl, trivial⟩
          · skip
            refine wa_fall ⟨_, rfl⟩ ?_
            refine wa_iconst ?_
            refine wa_zreturn rfl (Or.inl rfl) ?_
            refine ⟨rfl, congrArg (fun z => Sum.inl (some (0, z))) ?_⟩
            first | exact (ft_0 (fun _ => by omega) (fun _ => by omega)).symm | exact (ft_0b (fun _ => by omega) (fun _ => by omega)).symm
        · skip
          exact absurd c6 (by omega)
      · skip
        refine wa_iconst ?_
        refine wa_zreturn rfl (Or.inl rfl) ?_
        refine ⟨rfl, congrArg (fun z => Sum.inl (some (0, z))) ?_⟩
        first | exact (ft_0 (fun _ => by omega) (fun _ => by omega)).symm | exact (ft_0b (fun _ => by omega) (fun _ => by omega)).symm
    · skip
      exact absurd c4 (by omega)
  · skip
    refine wa_iconst ?_
    refine wa_goto ⟨_, rfl⟩ ?_
    refine wa_istore (n := 6) rfl ?_
    refine wa_aload_n (n := 0) rfl ?_
    refine wb_gf4 73 rfl (wy_pr rfl) wt_73 wf_3_3 (v := 96) wl_73_3 ?_
    refine wa_iconst ?_
    refine wb_aald5 96 4 rfl rfl (wy_pr rfl) wt_96 (by rw [show _ = _ from ((cl_96 hC))]; omega) wl_96_4 ?_
    refine wa_iload_n (n := 1) rfl ?_
    refine wb_iald 101 rfl (wy_pr rfl) wt_101 (n := 400) ((cl_101 hC)) (by omega) (by omega) (v := ((hmR ms m).2.2.2.2.1.length : Int)) (e4) (fun r8 => ?_)
    refine wa_istore (n := 7) rfl ?_
    refine wa_aload_n (n := 0) rfl ?_
    refine wb_gf4 73 rfl (wy_pr rfl) wt_73 wf_3_3 (v := 96) wl_73_3 ?_
    refine wa_iconst ?_
    refine wb_aald5 96 5 rfl rfl (wy_pr rfl) wt_96 (by rw [show _ = _ from ((cl_96 hC))]; omega) wl_96_5 ?_
    refine wa_iload_n (n := 1) rfl ?_
    refine wb_iald 102 rfl (wy_pr rfl) wt_102 (n := 400) ((cl_102 hC)) (by omega) (by omega) (v := (hmR ms m).2.2.2.2.2.1) (e5) (fun r9 => ?_)
    refine wa_iload (n := 6) rfl ?_
    refine wa_ifeq (w_rg0 (by omega) (by omega)) ⟨_, rfl⟩ (fun c10 => ?_) (fun c10 => ?_)
    · skip
      exact absurd c10 (by omega)
    · skip
      refine wa_iconst ?_
      refine wa_goto ⟨_, rfl⟩ ?_
      refine wa_icmpeq (w_rg0 (by omega) (by omega)) (w_rg0 (by omega) (by omega)) ⟨_, rfl⟩ (fun c11 => ?_) (fun c11 => ?_)
      · skip
        refine wa_iload (n := 6) rfl ?_
        refine wa_ifeq (w_rg0 (by omega) (by omega)) ⟨_, rfl⟩ (fun c12 => ?_) (fun c12 => ?_)
        · skip
          exact absurd c12 (by omega)
        · skip
          refine wa_iload (n := 5) rfl ?_
          refine wa_iload (n := 7) rfl ?_
          refine wa_iconst ?_
          refine wa_isub ?_
          refine wa_icmpge (w_rg0 (by omega) (by omega)) (w_rg0 (by omega) (by omega)) ⟨_, rfl⟩ (fun c13 => ?_) (fun c13 => ?_)
          · skip
            refine wa_iconst ?_
            refine wa_istore (n := 8) rfl ?_
            refine wa_fall ⟨_, rfl⟩ ?_
            exact wJ_S (ftl_73 hC hK hw hm hph htl hes hty (by split <;> omega) (by split <;> omega) (tl.length + 1) 0 (by omega) (by omega) (fun k hk => absurd hk (Nat.not_lt_zero _))) ⟨rfl, rfl, rfl, rfl, rfl, rfl, rfl, rfl, trivial⟩
          · skip
            refine wa_goto ⟨_, rfl⟩ ?_
            refine wa_iconst ?_
            refine wa_zreturn rfl (Or.inl rfl) ?_
            refine ⟨rfl, congrArg (fun z => Sum.inl (some (0, z))) ?_⟩
            first | exact (ft_0 (fun _ => by omega) (fun _ => by omega)).symm | exact (ft_0b (fun _ => by omega) (fun _ => by omega)).symm
      · skip
        refine wa_iconst ?_
        refine wa_zreturn rfl (Or.inl rfl) ?_
        refine ⟨rfl, congrArg (fun z => Sum.inl (some (0, z))) ?_⟩
        first | exact (ft_0 (fun _ => by omega) (fun _ => by omega)).symm | exact (ft_0b (fun _ => by omega) (fun _ => by omega)).symm
theorem mol_73 {m q ph : Int} {n N : Nat} (hC : w_CL S) (hK : KC 87 97 93 114 115 74 73 T cs ms os S) (hw : wHo cs ms os) (hm : 0 ≤ m ∧ m < (ms.length : Int)) (hq : 0 ≤ q ∧ q < (ms.length : Int)) (hph : 1 ≤ ph ∧ ph ≤ 3) (hnm : ph ≠ 3 → (hmR ms m).2.2.2.2.1.length = n ∧ (hmR ms q).2.2.2.2.1.length = n) (hn1 : ph = 3 → 1 ≤ (hmR ms m).2.2.2.2.1.length ∧ 1 ≤ (hmR ms q).2.2.2.2.1.length) (hN : N = moN ms ph n m q) (hN8 : N ≤ 8) (hNl : 1 ≤ N → 1 ≤ (hmR ms m).2.2.2.2.1.length ∧ 1 ≤ (hmR ms q).2.2.2.2.1.length) : ∀ (f i : Nat), N - i < f → i ≤ N → (∀ k : Nat, k < i → sbB cs (prT (hmR ms m) k) (prT (hmR ms q) k) = true) → wJ (pe_GA xs) wY0 M (d + 2) t_XO_isMoreSpecific ((pe_at t_XO_isMoreSpecific.bl 2).getD (0, [])).2 [(0, (2, 73)), (1, (0, m)), (2, (0, q)), (3, (0, ph)), (4, (0, (N : Int))), (5, (0, (i : Int)))] [] S (fun z Z => S = Z ∧ z = .inl (some (0, bI (moA cs ms ph n m q)))) := by
  have hn := KC_n hK
  have hn2 := hn.2.2
  intro f
  induction f with
  | zero => intro i h; exact absurd h (Nat.not_lt_zero _)
  | succ f ih =>
    intro i hf hi hk
    refine wa_iload (n := 5) rfl ?_
    refine wa_iload (n := 4) rfl ?_
    refine wa_icmpge (w_rg0 (by omega) (by omega)) (w_rg0 (by omega) (by omega)) ⟨_, rfl⟩ (fun c1 => ?_) (fun c1 => ?_)
    · skip
      refine wa_iconst ?_
      refine wa_zreturn rfl (Or.inr rfl) ?_
      refine ⟨rfl, congrArg (fun z => Sum.inl (some (0, z))) ?_⟩
      exact (bI_t (by unfold moA; rw [← hN]; exact alN_t.mpr (fun k hk1 => hk k (by omega)))).symm
    · skip
      have hl1 := hNl (by omega)
      refine wa_aload_n (n := 0) rfl ?_
      refine wa_aload_n (n := 0) rfl ?_
      refine wa_iload_n (n := 1) rfl ?_
      refine wa_iload (n := 5) rfl ?_
      refine wa_cv 73 rfl (wy_pr rfl) wt_73 (M2 := fun _ => False) rfl at_XO_parameterType ⟨_, rfl⟩ rfl rfl ⟨(Or.inr ⟨wy_pr rfl, fun q => q⟩), trivial, trivial, trivial, trivial, trivial, trivial⟩ ⟨(Or.inr ⟨wy_pr rfl, fun q => q⟩), trivial⟩ (fun _ _ q => False.elim q) (par_73 (S := S) (m := m) (i := i) hC hK hw ⟨by omega, by omega⟩ (by omega)) (fun oq2 Sq2 hp3 q2 => ?_)
      rcases q2 with ⟨rfl, rfl⟩
      show wJ _ _ _ _ _ _ _ _ _ _
      have hpr1 := prT_rg (i := i) hw (m := m) (by omega) (by omega) (by omega)
      refine wa_aload_n (n := 0) rfl ?_
      refine wa_iload_n (n := 2) rfl ?_
      refine wa_iload (n := 5) rfl ?_
      refine wa_cv 73 rfl (wy_pr rfl) wt_73 (M2 := fun _ => False) rfl at_XO_parameterType ⟨_, rfl⟩ rfl rfl ⟨(Or.inr ⟨wy_pr rfl, fun q => q⟩), trivial, trivial, trivial, trivial, trivial, trivial⟩ ⟨trivial, (Or.inr ⟨wy_pr rfl, fun q => q⟩), trivial⟩ (fun _ _ q => False.elim q) (par_73 (S := S) (m := q) (i := i) hC hK hw ⟨by omega, by omega⟩ (by omega)) (fun oq4 Sq4 hp5 q4 => ?_)
      rcases q4 with ⟨rfl, rfl⟩
      show wJ _ _ _ _ _ _ _ _ _ _
      have hpr3 := prT_rg (i := i) hw (m := q) (by omega) (by omega) (by omega)
      refine wa_cv 73 rfl (wy_pr rfl) wt_73 (M2 := fun _ => False) rfl at_XO_isSubtype ⟨_, rfl⟩ rfl rfl ⟨(Or.inr ⟨wy_pr rfl, fun q => q⟩), trivial, trivial, trivial, trivial, trivial, trivial⟩ trivial (fun _ _ q => False.elim q) (sub_73 (S := S) (a := (prT (hmR ms m) i)) (o := (prT (hmR ms q) i)) hC hK hw ⟨by omega, by omega⟩ ⟨by omega, by omega⟩) (fun oq6 Sq6 hp7 q6 => ?_)
      rcases q6 with ⟨rfl, rfl⟩
      show wJ _ _ _ _ _ _ _ _ _ _
      have hbr5 := bI_rg (sbB cs (prT (hmR ms m) i) (prT (hmR ms q) i))
      refine wa_ifne (w_rg0 (by omega) (by omega)) ⟨_, rfl⟩ (fun c8 => ?_) (fun c8 => ?_)
      · skip
        refine wa_iinc rfl rfl ?_
        refine wa_goto ⟨_, rfl⟩ ?_
        refine wJ_S (ih (i + 1) (by omega) (by omega) (fun k hk1 => ?_)) ⟨rfl, rfl, rfl, rfl, rfl, rfl, trivial⟩
        by_cases hkq : k = i
        · rw [hkq]; exact bI_1 (by omega)
        · exact hk k (by omega)
      · skip
        refine wa_iconst ?_
        refine wa_zreturn rfl (Or.inl rfl) ?_
        refine ⟨rfl, congrArg (fun z => Sum.inl (some (0, z))) ?_⟩
        exact (bI_f (by unfold moA; rw [← hN]; exact alN_f (i := i) (by omega) (bI_0 (by omega)))).symm
theorem mor_73 {m q ph : Int} {n : Nat} (hC : w_CL S) (hK : KC 87 97 93 114 115 74 73 T cs ms os S) (hw : wHo cs ms os) (hm : 0 ≤ m ∧ m < (ms.length : Int)) (hq : 0 ≤ q ∧ q < (ms.length : Int)) (hph : 1 ≤ ph ∧ ph ≤ 3) (hnm : ph ≠ 3 → (hmR ms m).2.2.2.2.1.length = n ∧ (hmR ms q).2.2.2.2.1.length = n) (hn1 : ph = 3 → 1 ≤ (hmR ms m).2.2.2.2.1.length ∧ 1 ≤ (hmR ms q).2.2.2.2.1.length) : wJ (pe_GA xs) wY0 M (d + 2) t_XO_isMoreSpecific ((pe_at t_XO_isMoreSpecific.bl 0).getD (0, [])).2 [(0, (2, 73)), (1, (0, m)), (2, (0, q)), (3, (0, ph))] [] S (fun z Z => S = Z ∧ z = .inl (some (0, bI (moA cs ms ph n m q)))) := by
  have hn := KC_n hK
  have hn2 := hn.2.2
  have eM := KC_m hK (m := m) (by omega) (by omega)
  have eW := hw.2.2.2 m (by omega) (by omega)
  have e1 : S 98 m = (hmR ms m).2.1 := eM.1.2.1
  have e2 : S 99 m = (hmR ms m).2.2.1 := eM.1.2.2.1
  have e3 : S 100 m = (hmR ms m).2.2.2.1 := eM.1.2.2.2
  have e4 : S 101 m = ((hmR ms m).2.2.2.2.1.length : Int) := eM.2.1.1
  have e5 : S 102 m = (hmR ms m).2.2.2.2.2.1 := eM.2.1.2.1
  have eq := eW.1.2.1
  have es := eW.1.2.2.1
  have ey := eW.1.2.2.2
  have ev := eW.2.1
  have el := eW.2.2.1
  have gM := KC_m hK (m := q) (by omega) (by omega)
  have gW := hw.2.2.2 q (by omega) (by omega)
  have g1 : S 98 q = (hmR ms q).2.1 := gM.1.2.1
  have g2 : S 99 q = (hmR ms q).2.2.1 := gM.1.2.2.1
  have g3 : S 100 q = (hmR ms q).2.2.2.1 := gM.1.2.2.2
  have g4 : S 101 q = ((hmR ms q).2.2.2.2.1.length : Int) := gM.2.1.1
  have g5 : S 102 q = (hmR ms q).2.2.2.2.2.1 := gM.2.1.2.1
  have gq := gW.1.2.1
  have gs := gW.1.2.2.1
  have gy := gW.1.2.2.2
  have gv := gW.2.1
  have gl := gW.2.2.1
  refine wa_aload_n (n := 0) rfl ?_
  refine wb_gf4 73 rfl (wy_pr rfl) wt_73 wf_3_3 (v := 96) wl_73_3 ?_
  refine wa_iconst ?_
  refine wb_aald5 96 4 rfl rfl (wy_pr rfl) wt_96 (by rw [show _ = _ from ((cl_96 hC))]; omega) wl_96_4 ?_
  refine wa_iload_n (n := 1) rfl ?_
  refine wb_iald 101 rfl (wy_pr rfl) wt_101 (n := 400) ((cl_101 hC)) (by omega) (by omega) (v := ((hmR ms m).2.2.2.2.1.length : Int)) (e4) (fun r1 => ?_)
  refine wa_istore (n := 4) rfl ?_
  refine wa_iload_n (n := 3) rfl ?_
  refine wa_iconst ?_
  refine wa_icmpne (w_rg0 (by omega) (by omega)) (w_rg0 (by omega) (by omega)) ⟨_, rfl⟩ (fun c2 => ?_) (fun c2 => ?_)
  · skip
    refine wa_iconst ?_
    refine wa_istore (n := 5) rfl ?_
    refine wa_fall ⟨_, rfl⟩ ?_
    obtain ⟨N, hN⟩ : ∃ N : Nat, N = moN ms ph n m q := ⟨_, rfl⟩
    have hNe : ((hmR ms m).2.2.2.2.1.length : Int) = (N : Int) := by rw [hN]; unfold moN; first | (rw [if_pos (by omega)]; omega) | (rw [if_neg (by omega)]; have := hnm (by omega); omega)
    have hNl : 1 ≤ N → 1 ≤ (hmR ms m).2.2.2.2.1.length ∧ 1 ≤ (hmR ms q).2.2.2.2.1.length := fun h1 => by rw [hN] at h1; unfold moN at h1; first | exact hn1 (by omega) | (rw [if_neg (by omega)] at h1; have := hnm (by omega); omega)
    rw [hNe]
    exact wJ_S (mol_73 hC hK hw hm hq hph hnm hn1 hN (by omega) hNl (N + 1) 0 (by omega) (by omega) (fun k hk => absurd hk (Nat.not_lt_zero _))) ⟨rfl, rfl, rfl, rfl, rfl, rfl, trivial⟩
  · skip
    refine wa_iload (n := 4) rfl ?_
    refine wa_aload_n (n := 0) rfl ?_
    refine wb_gf4 73 rfl (wy_pr rfl) wt_73 wf_3_3 (v := 96) wl_73_3 ?_
    refine wa_iconst ?_
    refine wb_aald5 96 4 rfl rfl (wy_pr rfl) wt_96 (by rw [show _ = _ from ((cl_96 hC))]; omega) wl_96_4 ?_
    refine wa_iload_n (n := 2) rfl ?_
    refine wb_iald 101 rfl (wy_pr rfl) wt_101 (n := 400) ((cl_101 hC)) (by omega) (by omega) (v := ((hmR ms q).2.2.2.2.1.length : Int)) (g4) (fun r3 => ?_)
    refine wa_cs (M2 := fun _ => False) rfl at_JM_max ⟨_, rfl⟩ rfl rfl ⟨trivial, (Or.inr ⟨wy_pr rfl, fun q => q⟩), trivial, trivial, trivial, trivial⟩ trivial (fun _ _ q => False.elim q) ?_ (fun _ _ _ q => q)
    refine wa_iload_n (n := 0) rfl ?_
    refine wa_iload_n (n := 1) rfl ?_
    refine wa_icmplt (w_rg0 (by omega) (by omega)) (w_rg0 (by omega) (by omega)) ⟨_, rfl⟩ (fun c4 => ?_) (fun c4 => ?_)
    · skip
      refine wa_iload_n (n := 1) rfl ?_
      refine wa_fall ⟨_, rfl⟩ ?_
      refine wa_ireturn rfl ?_
      show wJ _ _ _ _ _ _ _ _ _ _
      refine wa_istore (n := 4) rfl ?_
      refine wa_fall ⟨_, rfl⟩ ?_
      refine wa_iconst ?_
      refine wa_istore (n := 5) rfl ?_
      refine wa_fall ⟨_, rfl⟩ ?_
      obtain ⟨N, hN⟩ : ∃ N : Nat, N = moN ms ph n m q := ⟨_, rfl⟩
      have hNe : ((hmR ms q).2.2.2.2.1.length : Int) = (N : Int) := by rw [hN]; unfold moN; first | (rw [if_pos (by omega)]; omega) | (rw [if_neg (by omega)]; have := hnm (by omega); omega)
      have hNl : 1 ≤ N → 1 ≤ (hmR ms m).2.2.2.2.1.length ∧ 1 ≤ (hmR ms q).2.2.2.2.1.length := fun h1 => by rw [hN] at h1; unfold moN at h1; first | exact hn1 (by omega) | (rw [if_neg (by omega)] at h1; have := hnm (by omega); omega)
      rw [hNe]
      exact wJ_S (mol_73 hC hK hw hm hq hph hnm hn1 hN (by omega) hNl (N + 1) 0 (by omega) (by omega) (fun k hk => absurd hk (Nat.not_lt_zero _))) ⟨rfl, rfl, rfl, rfl, rfl, rfl, trivial⟩
    · skip
      refine wa_iload_n (n := 0) rfl ?_
      refine wa_goto ⟨_, rfl⟩ ?_
      refine wa_ireturn rfl ?_
      show wJ _ _ _ _ _ _ _ _ _ _
      refine wa_istore (n := 4) rfl ?_
      refine wa_fall ⟨_, rfl⟩ ?_
      refine wa_iconst ?_
      refine wa_istore (n := 5) rfl ?_
      refine wa_fall ⟨_, rfl⟩ ?_
      obtain ⟨N, hN⟩ : ∃ N : Nat, N = moN ms ph n m q := ⟨_, rfl⟩
      have hNe : ((hmR ms m).2.2.2.2.1.length : Int) = (N : Int) := by rw [hN]; unfold moN; first | (rw [if_pos (by omega)]; omega) | (rw [if_neg (by omega)]; have := hnm (by omega); omega)
      have hNl : 1 ≤ N → 1 ≤ (hmR ms m).2.2.2.2.1.length ∧ 1 ≤ (hmR ms q).2.2.2.2.1.length := fun h1 => by rw [hN] at h1; unfold moN at h1; first | exact hn1 (by omega) | (rw [if_neg (by omega)] at h1; have := hnm (by omega); omega)
      rw [hNe]
      exact wJ_S (mol_73 hC hK hw hm hq hph hnm hn1 hN (by omega) hNl (N + 1) 0 (by omega) (by omega) (fun k hk => absurd hk (Nat.not_lt_zero _))) ⟨rfl, rfl, rfl, rfl, rfl, rfl, trivial⟩
theorem hil_73 {m : Int} {acc : List Int} (hC : w_CL S) (hK : KC 87 97 93 114 115 74 73 T cs ms os S) (hw : wHo cs ms os) (hm : 0 ≤ m ∧ m < (ms.length : Int)) (hn10 : S 73 10 = (acc.length : Int)) (hal : (acc.length : Int) ≤ S 120 (-1) ∧ S 120 (-1) ≤ 100000) (hac : ∀ i : Nat, i < acc.length → S 120 (i : Int) = acc.getD i 0 ∧ 0 ≤ acc.getD i 0 ∧ acc.getD i 0 < (ms.length : Int)) : ∀ (f i : Nat), acc.length - i < f → i ≤ acc.length → (∀ k : Nat, k < i → ¬ (hmR ms (acc.getD k 0)).2.2.2.2.1 = (hmR ms m).2.2.2.2.1) → wJ (pe_GA xs) wY0 M (d + 1) t_XO_isHidden ((pe_at t_XO_isHidden.bl 1).getD (0, [])).2 [(0, (2, 73)), (1, (0, m)), (2, (0, (i : Int)))] [] S (fun z Z => S = Z ∧ z = .inl (some (0, bI (hidM ms acc m)))) := by
  have hn := KC_n hK
  have hn2 := hn.2.2
  have eM := KC_m hK (m := m) (by omega) (by omega)
  have eW := hw.2.2.2 m (by omega) (by omega)
  have e1 : S 98 m = (hmR ms m).2.1 := eM.1.2.1
  have e2 : S 99 m = (hmR ms m).2.2.1 := eM.1.2.2.1
  have e3 : S 100 m = (hmR ms m).2.2.2.1 := eM.1.2.2.2
  have e4 : S 101 m = ((hmR ms m).2.2.2.2.1.length : Int) := eM.2.1.1
  have e5 : S 102 m = (hmR ms m).2.2.2.2.2.1 := eM.2.1.2.1
  have eq := eW.1.2.1
  have es := eW.1.2.2.1
  have ey := eW.1.2.2.2
  have ev := eW.2.1
  have el := eW.2.2.1
  intro f
  induction f with
  | zero => intro i h; exact absurd h (Nat.not_lt_zero _)
  | succ f ih =>
    intro i hf hi hk
    refine wa_iload_n (n := 2) rfl ?_
    refine wa_aload_n (n := 0) rfl ?_
    refine wb_gfi 73 rfl (wy_pr rfl) wt_73 wf_3_10 (v := (acc.length : Int)) (hn10) (fun r1 => ?_)
    refine wa_icmpge (w_rg0 (by omega) (by omega)) (w_rg0 (by omega) (by omega)) ⟨_, rfl⟩ (fun c2 => ?_) (fun c2 => ?_)
    · skip
      refine wa_iconst ?_
      refine wa_zreturn rfl (Or.inl rfl) ?_
      refine ⟨rfl, congrArg (fun z => Sum.inl (some (0, z))) ?_⟩
      exact (bI_f (hid_f (fun k hk1 => hk k (by omega)))).symm
    · skip
      have hai := hac i (by omega)
      have hai1 := hai.1
      have hai2 := hai.2
      have gM := KC_m hK (m := (acc.getD i 0)) (by omega) (by omega)
      have gW := hw.2.2.2 (acc.getD i 0) (by omega) (by omega)
      have g1 : S 98 (acc.getD i 0) = (hmR ms (acc.getD i 0)).2.1 := gM.1.2.1
      have g2 : S 99 (acc.getD i 0) = (hmR ms (acc.getD i 0)).2.2.1 := gM.1.2.2.1
      have g3 : S 100 (acc.getD i 0) = (hmR ms (acc.getD i 0)).2.2.2.1 := gM.1.2.2.2
      have g4 : S 101 (acc.getD i 0) = ((hmR ms (acc.getD i 0)).2.2.2.2.1.length : Int) := gM.2.1.1
      have g5 : S 102 (acc.getD i 0) = (hmR ms (acc.getD i 0)).2.2.2.2.2.1 := gM.2.1.2.1
      have gq := gW.1.2.1
      have gs := gW.1.2.2.1
      have gy := gW.1.2.2.2
      have gv := gW.2.1
      have gl := gW.2.2.1
      refine wa_aload_n (n := 0) rfl ?_
      refine wa_aload_n (n := 0) rfl ?_
      refine wb_gf4 73 rfl (wy_pr rfl) wt_73 wf_3_9 (v := 120) wl_73_9 ?_
      refine wa_iload_n (n := 2) rfl ?_
      refine wb_iald 120 rfl (wy_pr rfl) wt_120 (n := (S 120 (-1))) (rfl) (by omega) (by omega) (v := (acc.getD i 0)) (hai1) (fun r3 => ?_)
      refine wa_iload_n (n := 1) rfl ?_
      have hsl : ((hmR ms (acc.getD i 0)).2.2.2.2.1 = (hmR ms m).2.2.2.2.1) ↔ (S 101 (acc.getD i 0) = S 101 m ∧ ∀ q : Nat, q < (hmR ms (acc.getD i 0)).2.2.2.2.1.length → S (103 + q) (acc.getD i 0) = S (103 + q) m) := by
        rw [ls_eq, g4, e4]
        constructor
        · rintro ⟨z1, z2⟩; exact ⟨by omega, fun q hq => (gM.2.1.2.2.2 q hq).trans ((z2 q hq).trans (eM.2.1.2.2.2 q (by omega)).symm)⟩
        · rintro ⟨z1, z2⟩; exact ⟨by omega, fun q hq => (gM.2.1.2.2.2 q hq).symm.trans ((z2 q hq).trans (eM.2.1.2.2.2 q (by omega)))⟩
      refine wa_cv 73 rfl (wy_pr rfl) wt_73 (M2 := fun _ => False) rfl at_XO_haveSameTypes ⟨_, rfl⟩ rfl rfl ⟨(Or.inr ⟨wy_pr rfl, fun q => q⟩), trivial, trivial, trivial⟩ trivial (fun _ _ q => False.elim q) (st_73 (S := S) (x := (acc.getD i 0)) (y := m) (N := (hmR ms (acc.getD i 0)).2.2.2.2.1.length) hC ⟨by omega, by omega⟩ ⟨by omega, by omega⟩ ⟨g4, gl⟩) (fun oq4 Sq4 hp5 q4 => ?_)
      rcases q4 with ⟨rfl, ⟨rfl, hs1⟩ | ⟨rfl, hs1⟩⟩
      · skip
        show wJ _ _ _ _ _ _ _ _ _ _
        replace hs1 := hsl.mpr hs1
        refine wa_ifeq (w_rg0 (by omega) (by omega)) ⟨_, rfl⟩ (fun c6 => ?_) (fun c6 => ?_)
        · skip
          exact absurd c6 (by omega)
        · skip
          refine wa_iconst ?_
          refine wa_zreturn rfl (Or.inr rfl) ?_
          refine ⟨rfl, congrArg (fun z => Sum.inl (some (0, z))) ?_⟩
          exact (bI_t (hid_t (i := i) (by omega) hs1)).symm
      · skip
        show wJ _ _ _ _ _ _ _ _ _ _
        replace hs1 := fun z => hs1 (hsl.mp z)
        refine wa_ifeq (w_rg0 (by omega) (by omega)) ⟨_, rfl⟩ (fun c7 => ?_) (fun c7 => ?_)
        · skip
          refine wa_iinc rfl rfl ?_
          refine wa_goto ⟨_, rfl⟩ ?_
          refine wJ_S (ih (i + 1) (by omega) (by omega) (fun k hk1 => ?_)) ⟨rfl, rfl, rfl, trivial⟩
          by_cases hkq : k = i
          · rw [hkq]; exact hs1
          · exact hk k (by omega)
        · skip
          exact absurd c7 (by omega)
theorem hid_73 {m : Int} {acc : List Int} (hC : w_CL S) (hK : KC 87 97 93 114 115 74 73 T cs ms os S) (hw : wHo cs ms os) (hm : 0 ≤ m ∧ m < (ms.length : Int)) (hn10 : S 73 10 = (acc.length : Int)) (hal : (acc.length : Int) ≤ S 120 (-1) ∧ S 120 (-1) ≤ 100000) (hac : ∀ i : Nat, i < acc.length → S 120 (i : Int) = acc.getD i 0 ∧ 0 ≤ acc.getD i 0 ∧ acc.getD i 0 < (ms.length : Int)) : wJ (pe_GA xs) wY0 M (d + 1) t_XO_isHidden ((pe_at t_XO_isHidden.bl 0).getD (0, [])).2 [(0, (2, 73)), (1, (0, m))] [] S (fun z Z => S = Z ∧ z = .inl (some (0, bI (hidM ms acc m)))) := by
  refine wa_iconst ?_
  refine wa_istore_n (n := 2) rfl ?_
  refine wa_fall ⟨_, rfl⟩ ?_
  exact wJ_S (hil_73 hC hK hw hm hn10 hal hac (acc.length + 1) 0 (by omega) (by omega) (fun k hk => absurd hk (Nat.not_lt_zero _))) ⟨rfl, rfl, rfl, trivial⟩
theorem pmi_73 {k word st up e : Int} {i : Nat} {W r : List Int} (hC : w_CL S) (hK : KC 87 97 93 114 115 74 73 T cs ms os S) (hw : wHo cs ms os) (hk : 0 ≤ k ∧ k < (cs.length : Int)) (hwd : wdM 97 T ms S 1 word W) (hwr : -1 ≤ word ∧ word ≤ 1000000) (hst : st = 0 ∨ st = 1) (he : e ≤ (ms.length : Int)) (hi : i < 60) (hnx : wJ (pe_GA xs) wY0 M d t_XO_plainMethod ((pe_at t_XO_plainMethod.bl 1).getD (0, [])).2 [(0, (2, 73)), (1, (0, k)), (2, (0, word)), (3, (0, st)), (4, (0, ((i + 1 : Nat) : Int)))] [] S (fun z Z => S = Z ∧ z = .inl (some (0, fsA (okM T ms 1 st 0 W) r)))) : ∀ (n : Nat) (m : Int), m + (n : Int) = e → 0 ≤ m → wJ (pe_GA xs) wY0 M d t_XO_plainMethod ((pe_at t_XO_plainMethod.bl 2).getD (0, [])).2 [(0, (2, 73)), (1, (0, k)), (2, (0, word)), (3, (0, st)), (4, (0, (i : Int))), (5, (0, up)), (6, (0, e)), (7, (0, m))] [] S (fun z Z => S = Z ∧ z = .inl (some (0, fsA (okM T ms 1 st 0 W) (ivl m n ++ r)))) := by
  have hn := KC_n hK
  have hn2 := hn.2.2
  intro n
  induction n with
  | zero =>
    intro m hme hm0
    refine wa_iload (n := 7) rfl ?_
    refine wa_iload (n := 6) rfl ?_
    refine wa_icmpge (w_rg0 (by omega) (by omega)) (w_rg0 (by omega) (by omega)) ⟨_, rfl⟩ (fun c1 => ?_) (fun c1 => ?_)
    · skip
      refine wa_iinc rfl rfl ?_
      refine wa_goto ⟨_, rfl⟩ ?_
      exact wJ_S hnx ⟨rfl, rfl, rfl, rfl, rfl, trivial⟩
    · skip
      exfalso; omega
  | succ n ih =>
    intro m hme hm0
    rw [ivl_s]
    have eM := KC_m hK (m := m) (by omega) (by omega)
    have eW := hw.2.2.2 m (by omega) (by omega)
    have e1 : S 98 m = (hmR ms m).2.1 := eM.1.2.1
    have e2 : S 99 m = (hmR ms m).2.2.1 := eM.1.2.2.1
    have e3 : S 100 m = (hmR ms m).2.2.2.1 := eM.1.2.2.2
    have e4 : S 101 m = ((hmR ms m).2.2.2.2.1.length : Int) := eM.2.1.1
    have e5 : S 102 m = (hmR ms m).2.2.2.2.2.1 := eM.2.1.2.1
    have eq := eW.1.2.1
    have es := eW.1.2.2.1
    have ey := eW.1.2.2.2
    have ev := eW.2.1
    have el := eW.2.2.1
    have ewd : (hmR ms m).2.1 = 1 → (S 111 m = word ↔ nmR T (hmR ms m) = W) := hwd m hm0 (by omega)
    have e14 : -1 ≤ S 111 m ∧ S 111 m ≤ 2147483647 ∨ True := Or.inr trivial
    refine wa_iload (n := 7) rfl ?_
    refine wa_iload (n := 6) rfl ?_
    refine wa_icmpge (w_rg0 (by omega) (by omega)) (w_rg0 (by omega) (by omega)) ⟨_, rfl⟩ (fun c51 => ?_) (fun c51 => ?_)
    · skip
      exfalso; omega
    · skip
      refine wa_aload_n (n := 0) rfl ?_
      refine wb_gf4 73 rfl (wy_pr rfl) wt_73 wf_3_3 (v := 96) wl_73_3 ?_
      refine wa_iconst ?_
      refine wb_aald5 96 1 rfl rfl (wy_pr rfl) wt_96 (by rw [show _ = _ from ((cl_96 hC))]; omega) wl_96_1 ?_
      refine wa_iload (n := 7) rfl ?_
      refine wb_iald 98 rfl (wy_pr rfl) wt_98 (n := 400) ((cl_98 hC)) (by omega) (by omega) (v := (hmR ms m).2.1) (e1) (fun r52 => ?_)
      refine wa_iconst ?_
      refine wa_icmpne (w_rg0 (by omega) (by omega)) (w_rg0 (by omega) (by omega)) ⟨_, rfl⟩ (fun c53 => ?_) (fun c53 => ?_)
      · skip
        refine wa_iinc rfl rfl ?_
        refine wa_goto ⟨_, rfl⟩ ?_
        have hno : okM T ms 1 st 0 W m = false := decide_eq_false (fun z => by have z1 := z.1; have z2 := z.2.1; have z3 := z.2.2.1; have z4 := (ewd z1).mpr z.2.2.2; omega)
        rw [List.cons_append, fsA_q hno]
        exact wJ_S (ih (m + 1) (by omega) (by omega)) ⟨rfl, rfl, rfl, rfl, rfl, rfl, rfl, rfl, trivial⟩
      · skip
        refine wa_aload_n (n := 0) rfl ?_
        refine wb_gf4 73 rfl (wy_pr rfl) wt_73 wf_3_3 (v := 96) wl_73_3 ?_
        refine wa_bipush (w_rg2 (by omega) (by omega)) ?_
        refine wb_aald5 96 14 rfl rfl (wy_pr rfl) wt_96 (by rw [show _ = _ from ((cl_96 hC))]; omega) wl_96_14 ?_
        refine wa_iload (n := 7) rfl ?_
        refine wb_iald 111 rfl (wy_pr rfl) wt_111 (n := 400) ((cl_111 hC)) (by omega) (by omega) (v := (S 111 m)) rfl (fun r54 => ?_)
        refine wa_iload_n (n := 2) rfl ?_
        refine wa_icmpne (w_rg0 (by omega) (by omega)) (w_rg0 (by omega) (by omega)) ⟨_, rfl⟩ (fun c55 => ?_) (fun c55 => ?_)
        · skip
          refine wa_iinc rfl rfl ?_
          refine wa_goto ⟨_, rfl⟩ ?_
          have hno : okM T ms 1 st 0 W m = false := decide_eq_false (fun z => by have z1 := z.1; have z2 := z.2.1; have z3 := z.2.2.1; have z4 := (ewd z1).mpr z.2.2.2; omega)
          rw [List.cons_append, fsA_q hno]
          exact wJ_S (ih (m + 1) (by omega) (by omega)) ⟨rfl, rfl, rfl, rfl, rfl, rfl, rfl, rfl, trivial⟩
        · skip
          refine wa_aload_n (n := 0) rfl ?_
          refine wb_gf4 73 rfl (wy_pr rfl) wt_73 wf_3_3 (v := 96) wl_73_3 ?_
          refine wa_iconst ?_
          refine wb_aald5 96 4 rfl rfl (wy_pr rfl) wt_96 (by rw [show _ = _ from ((cl_96 hC))]; omega) wl_96_4 ?_
          refine wa_iload (n := 7) rfl ?_
          refine wb_iald 101 rfl (wy_pr rfl) wt_101 (n := 400) ((cl_101 hC)) (by omega) (by omega) (v := ((hmR ms m).2.2.2.2.1.length : Int)) (e4) (fun r56 => ?_)
          refine wa_ifne (w_rg0 (by omega) (by omega)) ⟨_, rfl⟩ (fun c57 => ?_) (fun c57 => ?_)
          · skip
            refine wa_iinc rfl rfl ?_
            refine wa_goto ⟨_, rfl⟩ ?_
            have hno : okM T ms 1 st 0 W m = false := decide_eq_false (fun z => by have z1 := z.1; have z2 := z.2.1; have z3 := z.2.2.1; have z4 := (ewd z1).mpr z.2.2.2; omega)
            rw [List.cons_append, fsA_q hno]
            exact wJ_S (ih (m + 1) (by omega) (by omega)) ⟨rfl, rfl, rfl, rfl, rfl, rfl, rfl, rfl, trivial⟩
          · skip
            refine wa_aload_n (n := 0) rfl ?_
            refine wb_gf4 73 rfl (wy_pr rfl) wt_73 wf_3_3 (v := 96) wl_73_3 ?_
            refine wa_iconst ?_
            refine wb_aald5 96 2 rfl rfl (wy_pr rfl) wt_96 (by rw [show _ = _ from ((cl_96 hC))]; omega) wl_96_2 ?_
            refine wa_iload (n := 7) rfl ?_
            refine wb_iald 99 rfl (wy_pr rfl) wt_99 (n := 400) ((cl_99 hC)) (by omega) (by omega) (v := (hmR ms m).2.2.1) (e2) (fun r58 => ?_)
            refine wa_iload_n (n := 3) rfl ?_
            refine wa_icmpne (w_rg0 (by omega) (by omega)) (w_rg0 (by omega) (by omega)) ⟨_, rfl⟩ (fun c59 => ?_) (fun c59 => ?_)
            · skip
              refine wa_iinc rfl rfl ?_
              refine wa_goto ⟨_, rfl⟩ ?_
              have hno : okM T ms 1 st 0 W m = false := decide_eq_false (fun z => by have z1 := z.1; have z2 := z.2.1; have z3 := z.2.2.1; have z4 := (ewd z1).mpr z.2.2.2; omega)
              rw [List.cons_append, fsA_q hno]
              exact wJ_S (ih (m + 1) (by omega) (by omega)) ⟨rfl, rfl, rfl, rfl, rfl, rfl, rfl, rfl, trivial⟩
            · skip
              refine wa_iload (n := 7) rfl ?_
              refine wa_ireturn rfl ?_
              have hyes : okM T ms 1 st 0 W m = true := decide_eq_true ⟨by omega, by omega, Or.inr (by omega), (ewd (by omega)).mp (by omega)⟩
              rw [List.cons_append, fsA_p hyes]
              exact ⟨rfl, rfl⟩
theorem pmo_73 {k word st : Int} {W : List Int} (hC : w_CL S) (hK : KC 87 97 93 114 115 74 73 T cs ms os S) (hw : wHo cs ms os) (hk : 0 ≤ k ∧ k < (cs.length : Int)) (hwd : wdM 97 T ms S 1 word W) (hwr : -1 ≤ word ∧ word ≤ 1000000) (hst : st = 0 ∨ st = 1) : ∀ (n i : Nat), i + n = (os k).length → wJ (pe_GA xs) wY0 M d t_XO_plainMethod ((pe_at t_XO_plainMethod.bl 1).getD (0, [])).2 [(0, (2, 73)), (1, (0, k)), (2, (0, word)), (3, (0, st)), (4, (0, (i : Int)))] [] S (fun z Z => S = Z ∧ z = .inl (some (0, fsA (okM T ms 1 st 0 W) (mOr cs ((os k).drop i))))) := by
  have hn := KC_n hK
  have hn2 := hn.2.2
  have hO := KC_o hK hk.1 hk.2
  have hO6 : S 93 k = ((os k).length : Int) := hO.1
  have hon := hw.2.2.1 k hk.1 hk.2
  have hol : (os k).length ≤ 60 := by have := su_nd_len (by decide) hO.2.1; omega
  intro n
  induction n with
  | zero =>
    intro i hin
    rw [List.drop_of_length_le (by omega), mOr_n]
    refine wa_iload (n := 4) rfl ?_
    refine wa_aload_n (n := 0) rfl ?_
    refine wb_gf4 73 rfl (wy_pr rfl) wt_73 wf_3_1 (v := 86) wl_73_1 ?_
    refine wa_bipush (w_rg2 (by omega) (by omega)) ?_
    refine wb_aald5 86 6 rfl rfl (wy_pr rfl) wt_86 (by rw [show _ = _ from ((cl_86 hC))]; omega) wl_86_6 ?_
    refine wa_iload_n (n := 1) rfl ?_
    refine wb_iald 93 rfl (wy_pr rfl) wt_93 (n := 60) ((cl_93 hC)) (by omega) (by omega) (v := ((os k).length : Int)) (hO6) (fun r1 => ?_)
    refine wa_icmpge (w_rg0 (by omega) (by omega)) (w_rg0 (by omega) (by omega)) ⟨_, rfl⟩ (fun c2 => ?_) (fun c2 => ?_)
    · skip
      refine wa_iconst ?_
      refine wa_ireturn rfl ?_
      exact ⟨rfl, rfl⟩
    · skip
      exfalso; omega
  | succ n ih =>
    intro i hin
    obtain ⟨u, hu⟩ : ∃ u : Int, u = (os k).getD i 0 := ⟨_, rfl⟩
    have hil : i < (os k).length := by omega
    have hu2 : (os k)[i] = u := by rw [hu, List.getD_eq_getElem?_getD, List.getElem?_eq_getElem hil]; rfl
    have hum := hon.2.2 u (by rw [← hu2]; exact List.getElem_mem hil)
    have huo : S 114 ((k * 60) + (i : Int)) = u := by rw [hu, ← hO.2.2.1 i hil, show k * 60 + (i : Int) = 60 * k + (i : Int) by omega]
    have hcu := hw.2.1 u hum.1 hum.2
    have htr := KC_c hK hum.1 hum.2
    have ht3 : S 90 u = (hcR cs u).2.2.2.2.2.2.2 := htr.2.2.2.1
    have ht4 : S 91 u = (hcR cs u).2.2.2.2.2.2.1 := htr.2.2.2.2
    have hcu1 := hcu.2.1
    rw [List.drop_eq_getElem_cons hil, hu2, mOr_c]
    have hnx := ih (i + 1) (by omega)
    refine wa_iload (n := 4) rfl ?_
    refine wa_aload_n (n := 0) rfl ?_
    refine wb_gf4 73 rfl (wy_pr rfl) wt_73 wf_3_1 (v := 86) wl_73_1 ?_
    refine wa_bipush (w_rg2 (by omega) (by omega)) ?_
    refine wb_aald5 86 6 rfl rfl (wy_pr rfl) wt_86 (by rw [show _ = _ from ((cl_86 hC))]; omega) wl_86_6 ?_
    refine wa_iload_n (n := 1) rfl ?_
    refine wb_iald 93 rfl (wy_pr rfl) wt_93 (n := 60) ((cl_93 hC)) (by omega) (by omega) (v := ((os k).length : Int)) (hO6) (fun r51 => ?_)
    refine wa_icmpge (w_rg0 (by omega) (by omega)) (w_rg0 (by omega) (by omega)) ⟨_, rfl⟩ (fun c52 => ?_) (fun c52 => ?_)
    · skip
      exfalso; omega
    · skip
      refine wa_aload_n (n := 0) rfl ?_
      refine wb_gf4 73 rfl (wy_pr rfl) wt_73 wf_3_5 (v := 114) wl_73_5 ?_
      refine wa_iload_n (n := 1) rfl ?_
      refine wa_bipush (w_rg2 (by omega) (by omega)) ?_
      refine wa_imul ?_
      refine wa_iload (n := 4) rfl ?_
      refine wa_iadd ?_
      refine wb_iald 114 rfl (wy_pr rfl) wt_114 (n := 3600) ((cl_114 hC)) (by omega) (by omega) (v := u) (huo) (fun r53 => ?_)
      refine wa_istore (n := 5) rfl ?_
      refine wa_aload_n (n := 0) rfl ?_
      refine wb_gf4 73 rfl (wy_pr rfl) wt_73 wf_3_1 (v := 86) wl_73_1 ?_
      refine wa_iconst ?_
      refine wb_aald5 86 4 rfl rfl (wy_pr rfl) wt_86 (by rw [show _ = _ from ((cl_86 hC))]; omega) wl_86_4 ?_
      refine wa_iload (n := 5) rfl ?_
      refine wb_iald 91 rfl (wy_pr rfl) wt_91 (n := 60) ((cl_91 hC)) (by omega) (by omega) (v := (hcR cs u).2.2.2.2.2.2.1) (ht4) (fun r54 => ?_)
      refine wa_aload_n (n := 0) rfl ?_
      refine wb_gf4 73 rfl (wy_pr rfl) wt_73 wf_3_1 (v := 86) wl_73_1 ?_
      refine wa_iconst ?_
      refine wb_aald5 86 3 rfl rfl (wy_pr rfl) wt_86 (by rw [show _ = _ from ((cl_86 hC))]; omega) wl_86_3 ?_
      refine wa_iload (n := 5) rfl ?_
      refine wb_iald 90 rfl (wy_pr rfl) wt_90 (n := 60) ((cl_90 hC)) (by omega) (by omega) (v := (hcR cs u).2.2.2.2.2.2.2) (ht3) (fun r55 => ?_)
      refine wa_iadd ?_
      refine wa_istore (n := 6) rfl ?_
      refine wa_aload_n (n := 0) rfl ?_
      refine wb_gf4 73 rfl (wy_pr rfl) wt_73 wf_3_1 (v := 86) wl_73_1 ?_
      refine wa_iconst ?_
      refine wb_aald5 86 4 rfl rfl (wy_pr rfl) wt_86 (by rw [show _ = _ from ((cl_86 hC))]; omega) wl_86_4 ?_
      refine wa_iload (n := 5) rfl ?_
      refine wb_iald 91 rfl (wy_pr rfl) wt_91 (n := 60) ((cl_91 hC)) (by omega) (by omega) (v := (hcR cs u).2.2.2.2.2.2.1) (ht4) (fun r56 => ?_)
      refine wa_istore (n := 7) rfl ?_
      refine wa_fall ⟨_, rfl⟩ ?_
      exact wJ_S (pmi_73 (up := u) hC hK hw hk hwd hwr hst (by omega) (by omega) hnx ((hcR cs u).2.2.2.2.2.2.2.toNat) ((hcR cs u).2.2.2.2.2.2.1) (by omega) (by omega)) ⟨rfl, rfl, rfl, rfl, rfl, rfl, rfl, rfl, trivial⟩
theorem pme_73 {k word st : Int} {W : List Int} (hC : w_CL S) (hK : KC 87 97 93 114 115 74 73 T cs ms os S) (hw : wHo cs ms os) (hk : 0 ≤ k ∧ k < (cs.length : Int)) (hwd : wdM 97 T ms S 1 word W) (hwr : -1 ≤ word ∧ word ≤ 1000000) (hst : st = 0 ∨ st = 1) : wJ (pe_GA xs) wY0 M d t_XO_plainMethod ((pe_at t_XO_plainMethod.bl 0).getD (0, [])).2 [(0, (2, 73)), (1, (0, k)), (2, (0, word)), (3, (0, st))] [] S (fun z Z => S = Z ∧ z = .inl (some (0, fsA (okM T ms 1 st 0 W) (mOr cs (os k))))) := by
  refine wa_iconst ?_
  refine wa_istore (n := 4) rfl ?_
  refine wa_fall ⟨_, rfl⟩ ?_
  exact wJ_S (pmo_73 hC hK hw hk hwd hwr hst (os k).length 0 (by omega)) ⟨rfl, rfl, rfl, rfl, rfl, trivial⟩
theorem sub_162 {a o : Int} (hC : w_CL S) (hK : KC 176 186 182 203 204 163 162 T cs ms os S) (hw : wHo cs ms os) (ha : 0 ≤ a ∧ a < 9 + (cs.length : Int)) (ho : 0 ≤ o ∧ o < 9 + (cs.length : Int)) : wJ (pe_GA xs) wY0 M d t_XO_isSubtype ((pe_at t_XO_isSubtype.bl 0).getD (0, [])).2 [(0, (2, 162)), (1, (0, a)), (2, (0, o))] [] S (fun z Z => S = Z ∧ z = .inl (some (0, bI (sbB cs a o)))) := by
  have hn := KC_n hK
  have hn2 := hn.2.2
  have hb2 : 9 ≤ a → 9 ≤ o → wb_land (wb_lushr (S 204 (a - 9)) (o - 9)) 1 = if bb ((hcR cs (a - 9)).2.2.2.2.2.1) (o - 9).toNat = true then 1 else 0 := fun h1 h2 => by rw [bb_sh (by omega), KC_b hK (by omega) (by omega) (by omega)]
  refine wa_iload_n (n := 1) rfl ?_
  refine wa_iload_n (n := 2) rfl ?_
  refine wa_icmpeq (w_rg0 (by omega) (by omega)) (w_rg0 (by omega) (by omega)) ⟨_, rfl⟩ (fun c1 => ?_) (fun c1 => ?_)
  · skip
    refine wa_iconst ?_
    refine wa_zreturn rfl (Or.inr rfl) ?_
    refine ⟨rfl, congrArg (fun z => Sum.inl (some (0, z))) (sb_1 ?_).symm⟩
    first | exact Or.inl (by omega) | exact Or.inr (Or.inl ⟨by omega, by omega⟩) | exact Or.inr (Or.inr (Or.inl ⟨by omega, by omega⟩)) | (refine Or.inr (Or.inr (Or.inr ⟨by omega, by omega, by omega, ?_⟩)); split at hb3 <;> rename_i hbq <;> first | exact hbq | omega)
  · skip
    refine wa_iload_n (n := 1) rfl ?_
    refine wa_iconst ?_
    refine wa_icmpne (w_rg0 (by omega) (by omega)) (w_rg0 (by omega) (by omega)) ⟨_, rfl⟩ (fun c2 => ?_) (fun c2 => ?_)
    · skip
      refine wa_iload_n (n := 2) rfl ?_
      refine wa_bipush (w_rg2 (by omega) (by omega)) ?_
      refine wa_icmpne (w_rg0 (by omega) (by omega)) (w_rg0 (by omega) (by omega)) ⟨_, rfl⟩ (fun c3 => ?_) (fun c3 => ?_)
      · skip
        refine wa_iload_n (n := 1) rfl ?_
        refine wa_bipush (w_rg2 (by omega) (by omega)) ?_
        refine wa_icmplt (w_rg0 (by omega) (by omega)) (w_rg0 (by omega) (by omega)) ⟨_, rfl⟩ (fun c4 => ?_) (fun c4 => ?_)
        · skip
          refine wa_iconst ?_
          refine wa_fall ⟨_, rfl⟩ ?_
          refine wa_zreturn rfl (Or.inl rfl) ?_
          refine ⟨rfl, congrArg (fun z => Sum.inl (some (0, z))) (sb_0 ?_).symm⟩
          rintro (q | q | q | q)
          · omega
          · omega
          · omega
          · first | omega | (rw [if_pos q.2.2.2] at hb3; omega)
        · skip
          refine wa_iload_n (n := 2) rfl ?_
          refine wa_bipush (w_rg2 (by omega) (by omega)) ?_
          refine wa_icmplt (w_rg0 (by omega) (by omega)) (w_rg0 (by omega) (by omega)) ⟨_, rfl⟩ (fun c5 => ?_) (fun c5 => ?_)
          · skip
            refine wa_iconst ?_
            refine wa_fall ⟨_, rfl⟩ ?_
            refine wa_zreturn rfl (Or.inl rfl) ?_
            refine ⟨rfl, congrArg (fun z => Sum.inl (some (0, z))) (sb_0 ?_).symm⟩
            rintro (q | q | q | q)
            · omega
            · omega
            · omega
            · first | omega | (rw [if_pos q.2.2.2] at hb3; omega)
          · skip
            refine wa_aload_n (n := 0) rfl ?_
            refine wb_gf4 162 rfl (wy_pr rfl) wt_162 wf_3_6 (v := 204) wl_162_6 ?_
            refine wa_iload_n (n := 1) rfl ?_
            refine wa_bipush (w_rg2 (by omega) (by omega)) ?_
            refine wa_isub ?_
            refine wb_lald 204 rfl (wy_pr rfl) wt_204 (n := 60) ((cl_204 hC)) (by omega) (by omega) (v := (S 204 (a - 9))) rfl (fun r6 => ?_)
            refine wa_iload_n (n := 2) rfl ?_
            refine wa_bipush (w_rg2 (by omega) (by omega)) ?_
            refine wa_isub ?_
            refine wa_lushr ?_
            refine wb_lconst (m := 1) rfl ?_
            refine wa_land ?_
            refine wb_lconst (m := 1) rfl ?_
            have hb3 := hb2 (by omega) (by omega)
            have hbx : 0 ≤ wb_land (wb_lushr (S 204 (a - 9)) (o - 9)) 1 ∧ wb_land (wb_lushr (S 204 (a - 9)) (o - 9)) 1 ≤ 1 := by rw [hb3]; split <;> omega
            refine wa_lcmp (w_rg1 (by omega) (by omega)) (w_rg1 (by omega) (by omega)) ?_
            refine wa_ifne (by have := @wb_lcmp_cases; exact w_lcmp_rg) ⟨_, rfl⟩ (fun c7 => ?_) (fun c7 => ?_)
            · skip
              have c7x := @wb_lcmp_cases (wb_land (wb_lushr (S 204 (a - 9)) (o - 9)) 1) 1
              refine wa_iconst ?_
              refine wa_fall ⟨_, rfl⟩ ?_
              refine wa_zreturn rfl (Or.inl rfl) ?_
              refine ⟨rfl, congrArg (fun z => Sum.inl (some (0, z))) (sb_0 ?_).symm⟩
              rintro (q | q | q | q)
              · omega
              · omega
              · omega
              · first | omega | (rw [if_pos q.2.2.2] at hb3; omega)
            · skip
              have c7x := @wb_lcmp_cases (wb_land (wb_lushr (S 204 (a - 9)) (o - 9)) 1) 1
              refine wa_iconst ?_
              refine wa_goto ⟨_, rfl⟩ ?_
              refine wa_zreturn rfl (Or.inr rfl) ?_
              refine ⟨rfl, congrArg (fun z => Sum.inl (some (0, z))) (sb_1 ?_).symm⟩
              first | exact Or.inl (by omega) | exact Or.inr (Or.inl ⟨by omega, by omega⟩) | exact Or.inr (Or.inr (Or.inl ⟨by omega, by omega⟩)) | (refine Or.inr (Or.inr (Or.inr ⟨by omega, by omega, by omega, ?_⟩)); split at hb3 <;> rename_i hbq <;> first | exact hbq | omega)
      · skip
        refine wa_iload_n (n := 1) rfl ?_
        refine wa_iconst ?_
        refine wa_icmple (w_rg0 (by omega) (by omega)) (w_rg0 (by omega) (by omega)) ⟨_, rfl⟩ (fun c8 => ?_) (fun c8 => ?_)
        · skip
          refine wa_iconst ?_
          refine wa_fall ⟨_, rfl⟩ ?_
          refine wa_zreturn rfl (Or.inl rfl) ?_
          refine ⟨rfl, congrArg (fun z => Sum.inl (some (0, z))) (sb_0 ?_).symm⟩
          rintro (q | q | q | q)
          · omega
          · omega
          · omega
          · first | omega | (rw [if_pos q.2.2.2] at hb3; omega)
        · skip
          refine wa_iconst ?_
          refine wa_goto ⟨_, rfl⟩ ?_
          refine wa_zreturn rfl (Or.inr rfl) ?_
          refine ⟨rfl, congrArg (fun z => Sum.inl (some (0, z))) (sb_1 ?_).symm⟩
          first | exact Or.inl (by omega) | exact Or.inr (Or.inl ⟨by omega, by omega⟩) | exact Or.inr (Or.inr (Or.inl ⟨by omega, by omega⟩)) | (refine Or.inr (Or.inr (Or.inr ⟨by omega, by omega, by omega, ?_⟩)); split at hb3 <;> rename_i hbq <;> first | exact hbq | omega)
    · skip
      refine wa_iload_n (n := 2) rfl ?_
      refine wa_iconst ?_
      refine wa_icmpne (w_rg0 (by omega) (by omega)) (w_rg0 (by omega) (by omega)) ⟨_, rfl⟩ (fun c9 => ?_) (fun c9 => ?_)
      · skip
        refine wa_iload_n (n := 2) rfl ?_
        refine wa_bipush (w_rg2 (by omega) (by omega)) ?_
        refine wa_icmpne (w_rg0 (by omega) (by omega)) (w_rg0 (by omega) (by omega)) ⟨_, rfl⟩ (fun c10 => ?_) (fun c10 => ?_)
        · skip
          refine wa_iload_n (n := 1) rfl ?_
          refine wa_bipush (w_rg2 (by omega) (by omega)) ?_
          refine wa_icmplt (w_rg0 (by omega) (by omega)) (w_rg0 (by omega) (by omega)) ⟨_, rfl⟩ (fun c11 => ?_) (fun c11 => ?_)
          · skip
            refine wa_iconst ?_
            refine wa_fall ⟨_, rfl⟩ ?_
            refine wa_zreturn rfl (Or.inl rfl) ?_
            refine ⟨rfl, congrArg (fun z => Sum.inl (some (0, z))) (sb_0 ?_).symm⟩
            rintro (q | q | q | q)
            · omega
            · omega
            · omega
            · first | omega | (rw [if_pos q.2.2.2] at hb3; omega)
          · skip
            exact absurd c11 (by omega)
        · skip
          refine wa_iload_n (n := 1) rfl ?_
          refine wa_iconst ?_
          refine wa_icmple (w_rg0 (by omega) (by omega)) (w_rg0 (by omega) (by omega)) ⟨_, rfl⟩ (fun c12 => ?_) (fun c12 => ?_)
          · skip
            refine wa_iconst ?_
            refine wa_fall ⟨_, rfl⟩ ?_
            refine wa_zreturn rfl (Or.inl rfl) ?_
            refine ⟨rfl, congrArg (fun z => Sum.inl (some (0, z))) (sb_0 ?_).symm⟩
            rintro (q | q | q | q)
            · omega
            · omega
            · omega
            · first | omega | (rw [if_pos q.2.2.2] at hb3; omega)
          · skip
            exact absurd c12 (by omega)
      · skip
        refine wa_fall ⟨_, rfl⟩ ?_
        refine wa_iconst ?_
        refine wa_zreturn rfl (Or.inr rfl) ?_
        refine ⟨rfl, congrArg (fun z => Sum.inl (some (0, z))) (sb_1 ?_).symm⟩
        first | exact Or.inl (by omega) | exact Or.inr (Or.inl ⟨by omega, by omega⟩) | exact Or.inr (Or.inr (Or.inl ⟨by omega, by omega⟩)) | (refine Or.inr (Or.inr (Or.inr ⟨by omega, by omega, by omega, ?_⟩)); split at hb3 <;> rename_i hbq <;> first | exact hbq | omega)
theorem gto_162 {f q l : Int} {lb : Bool} (hC : w_CL S) (hK : KC 176 186 182 203 204 163 162 T cs ms os S) (hw : wHo cs ms os) (hf : 0 ≤ f ∧ f < 9 + (cs.length : Int)) (hq : 0 ≤ q ∧ q < 9 + (cs.length : Int)) (hl : lbI l lb) : wJ (pe_GA xs) wY0 M (d + 1) t_XO_goesTo ((pe_at t_XO_goesTo.bl 0).getD (0, [])).2 [(0, (2, 162)), (1, (0, f)), (2, (0, q)), (3, (0, l))] [] S (fun z Z => S = Z ∧ z = .inl (some (0, bI (gTB cs f q lb)))) := by
  have hn := KC_n hK
  have hn2 := hn.2.2
  have hl2 : l = 0 ∨ l = 1 := by rcases hl with z | z; exact Or.inl z.1; exact Or.inr z.1
  refine wa_iload_n (n := 2) rfl ?_
  refine wa_iconst ?_
  refine wa_icmple (w_rg0 (by omega) (by omega)) (w_rg0 (by omega) (by omega)) ⟨_, rfl⟩ (fun c1 => ?_) (fun c1 => ?_)
  · skip
    refine wa_iload_n (n := 3) rfl ?_
    refine wa_ifeq (w_rg0 (by omega) (by omega)) ⟨_, rfl⟩ (fun c2 => ?_) (fun c2 => ?_)
    · skip
      refine wa_iconst ?_
      refine wa_fall ⟨_, rfl⟩ ?_
      refine wa_zreturn rfl (Or.inl rfl) ?_
      refine ⟨rfl, congrArg (fun z => Sum.inl (some (0, z))) ?_⟩
      first | exact (gT_4 (by omega) (by omega) (by omega)).symm | exact (gT_5 hl (by omega) (by omega)).symm
    · skip
      refine wa_iload_n (n := 1) rfl ?_
      refine wa_iconst ?_
      refine wa_icmpne (w_rg0 (by omega) (by omega)) (w_rg0 (by omega) (by omega)) ⟨_, rfl⟩ (fun c3 => ?_) (fun c3 => ?_)
      · skip
        refine wa_iload_n (n := 1) rfl ?_
        refine wa_iconst ?_
        refine wa_icmpne (w_rg0 (by omega) (by omega)) (w_rg0 (by omega) (by omega)) ⟨_, rfl⟩ (fun c4 => ?_) (fun c4 => ?_)
        · skip
          refine wa_iload_n (n := 1) rfl ?_
          refine wa_bipush (w_rg2 (by omega) (by omega)) ?_
          refine wa_icmpne (w_rg0 (by omega) (by omega)) (w_rg0 (by omega) (by omega)) ⟨_, rfl⟩ (fun c5 => ?_) (fun c5 => ?_)
          · skip
            refine wa_iconst ?_
            refine wa_fall ⟨_, rfl⟩ ?_
            refine wa_zreturn rfl (Or.inl rfl) ?_
            refine ⟨rfl, congrArg (fun z => Sum.inl (some (0, z))) ?_⟩
            first | exact (gT_4 (by omega) (by omega) (by omega)).symm | exact (gT_5 hl (by omega) (by omega)).symm
          · skip
            refine wa_iload_n (n := 2) rfl ?_
            refine wa_iconst ?_
            refine wa_icmpne (w_rg0 (by omega) (by omega)) (w_rg0 (by omega) (by omega)) ⟨_, rfl⟩ (fun c6 => ?_) (fun c6 => ?_)
            · skip
              refine wa_iconst ?_
              refine wa_fall ⟨_, rfl⟩ ?_
              refine wa_zreturn rfl (Or.inl rfl) ?_
              refine ⟨rfl, congrArg (fun z => Sum.inl (some (0, z))) ?_⟩
              first | exact (gT_4 (by omega) (by omega) (by omega)).symm | exact (gT_5 hl (by omega) (by omega)).symm
            · skip
              refine wa_fall ⟨_, rfl⟩ ?_
              refine wa_iconst ?_
              refine wa_goto ⟨_, rfl⟩ ?_
              refine wa_zreturn rfl (Or.inr rfl) ?_
              refine ⟨rfl, congrArg (fun z => Sum.inl (some (0, z))) ?_⟩
              first | exact (gT_1 (by omega) (by omega)).symm | exact (gT_2 (by omega) (by omega)).symm | exact (gT_3 hl (by omega) (by omega) (by omega)).symm
        · skip
          refine wa_iload_n (n := 2) rfl ?_
          refine wa_iconst ?_
          refine wa_icmpeq (w_rg0 (by omega) (by omega)) (w_rg0 (by omega) (by omega)) ⟨_, rfl⟩ (fun c7 => ?_) (fun c7 => ?_)
          · skip
            refine wa_iconst ?_
            refine wa_goto ⟨_, rfl⟩ ?_
            refine wa_zreturn rfl (Or.inr rfl) ?_
            refine ⟨rfl, congrArg (fun z => Sum.inl (some (0, z))) ?_⟩
            first | exact (gT_1 (by omega) (by omega)).symm | exact (gT_2 (by omega) (by omega)).symm | exact (gT_3 hl (by omega) (by omega) (by omega)).symm
          · skip
            refine wa_fall ⟨_, rfl⟩ ?_
            refine wa_iload_n (n := 1) rfl ?_
            refine wa_bipush (w_rg2 (by omega) (by omega)) ?_
            refine wa_icmpne (w_rg0 (by omega) (by omega)) (w_rg0 (by omega) (by omega)) ⟨_, rfl⟩ (fun c8 => ?_) (fun c8 => ?_)
            · skip
              refine wa_iconst ?_
              refine wa_fall ⟨_, rfl⟩ ?_
              refine wa_zreturn rfl (Or.inl rfl) ?_
              refine ⟨rfl, congrArg (fun z => Sum.inl (some (0, z))) ?_⟩
              first | exact (gT_4 (by omega) (by omega) (by omega)).symm | exact (gT_5 hl (by omega) (by omega)).symm
            · skip
              exact absurd c8 (by omega)
      · skip
        refine wa_iload_n (n := 2) rfl ?_
        refine wa_iconst ?_
        refine wa_icmpeq (w_rg0 (by omega) (by omega)) (w_rg0 (by omega) (by omega)) ⟨_, rfl⟩ (fun c9 => ?_) (fun c9 => ?_)
        · skip
          refine wa_iconst ?_
          refine wa_goto ⟨_, rfl⟩ ?_
          refine wa_zreturn rfl (Or.inr rfl) ?_
          refine ⟨rfl, congrArg (fun z => Sum.inl (some (0, z))) ?_⟩
          first | exact (gT_1 (by omega) (by omega)).symm | exact (gT_2 (by omega) (by omega)).symm | exact (gT_3 hl (by omega) (by omega) (by omega)).symm
        · skip
          refine wa_iload_n (n := 2) rfl ?_
          refine wa_iconst ?_
          refine wa_icmpeq (w_rg0 (by omega) (by omega)) (w_rg0 (by omega) (by omega)) ⟨_, rfl⟩ (fun c10 => ?_) (fun c10 => ?_)
          · skip
            refine wa_iconst ?_
            refine wa_goto ⟨_, rfl⟩ ?_
            refine wa_zreturn rfl (Or.inr rfl) ?_
            refine ⟨rfl, congrArg (fun z => Sum.inl (some (0, z))) ?_⟩
            first | exact (gT_1 (by omega) (by omega)).symm | exact (gT_2 (by omega) (by omega)).symm | exact (gT_3 hl (by omega) (by omega) (by omega)).symm
          · skip
            refine wa_fall ⟨_, rfl⟩ ?_
            refine wa_iload_n (n := 1) rfl ?_
            refine wa_iconst ?_
            refine wa_icmpne (w_rg0 (by omega) (by omega)) (w_rg0 (by omega) (by omega)) ⟨_, rfl⟩ (fun c11 => ?_) (fun c11 => ?_)
            · skip
              refine wa_iload_n (n := 1) rfl ?_
              refine wa_bipush (w_rg2 (by omega) (by omega)) ?_
              refine wa_icmpne (w_rg0 (by omega) (by omega)) (w_rg0 (by omega) (by omega)) ⟨_, rfl⟩ (fun c12 => ?_) (fun c12 => ?_)
              · skip
                refine wa_iconst ?_
                refine wa_fall ⟨_, rfl⟩ ?_
                refine wa_zreturn rfl (Or.inl rfl) ?_
                refine ⟨rfl, congrArg (fun z => Sum.inl (some (0, z))) ?_⟩
                first | exact (gT_4 (by omega) (by omega) (by omega)).symm | exact (gT_5 hl (by omega) (by omega)).symm
              · skip
                exact absurd c12 (by omega)
            · skip
              exact absurd c11 (by omega)
  · skip
    refine wa_iload_n (n := 1) rfl ?_
    refine wa_ifeq (w_rg0 (by omega) (by omega)) ⟨_, rfl⟩ (fun c13 => ?_) (fun c13 => ?_)
    · skip
      refine wa_iconst ?_
      refine wa_goto ⟨_, rfl⟩ ?_
      refine wa_zreturn rfl (Or.inr rfl) ?_
      refine ⟨rfl, congrArg (fun z => Sum.inl (some (0, z))) ?_⟩
      first | exact (gT_1 (by omega) (by omega)).symm | exact (gT_2 (by omega) (by omega)).symm | exact (gT_3 hl (by omega) (by omega) (by omega)).symm
    · skip
      refine wa_aload_n (n := 0) rfl ?_
      refine wa_iload_n (n := 1) rfl ?_
      refine wa_iload_n (n := 2) rfl ?_
      refine wa_cv 162 rfl (wy_pr rfl) wt_162 (M2 := fun _ => False) rfl at_XO_isSubtype ⟨_, rfl⟩ rfl rfl ⟨(Or.inr ⟨wy_pr rfl, fun q => q⟩), trivial, trivial, trivial, trivial⟩ trivial (fun _ _ q => False.elim q) (sub_162 (S := S) (a := f) (o := q) hC hK hw ⟨by omega, by omega⟩ ⟨by omega, by omega⟩) (fun oq14 Sq14 hp15 q14 => ?_)
      rcases q14 with ⟨rfl, rfl⟩
      show wJ _ _ _ _ _ _ _ _ _ _
      have hbr13 := bI_rg (sbB cs f q)
      refine wa_ifeq (w_rg0 (by omega) (by omega)) ⟨_, rfl⟩ (fun c16 => ?_) (fun c16 => ?_)
      · skip
        refine wa_iconst ?_
        refine wa_fall ⟨_, rfl⟩ ?_
        refine wa_zreturn rfl (Or.inl rfl) ?_
        refine ⟨rfl, congrArg (fun z => Sum.inl (some (0, z))) ?_⟩
        first | exact (gT_4 (by omega) (by omega) (by omega)).symm | exact (gT_5 hl (by omega) (by omega)).symm
      · skip
        refine wa_fall ⟨_, rfl⟩ ?_
        refine wa_iconst ?_
        refine wa_goto ⟨_, rfl⟩ ?_
        refine wa_zreturn rfl (Or.inr rfl) ?_
        refine ⟨rfl, congrArg (fun z => Sum.inl (some (0, z))) ?_⟩
        first | exact (gT_1 (by omega) (by omega)).symm | exact (gT_2 (by omega) (by omega)).symm | exact (gT_3 hl (by omega) (by omega) (by omega)).symm
theorem par_162 {m : Int} {i : Nat} (hC : w_CL S) (hK : KC 176 186 182 203 204 163 162 T cs ms os S) (hw : wHo cs ms os) (hm : 0 ≤ m ∧ m < (ms.length : Int)) (hn1 : 1 ≤ (hmR ms m).2.2.2.2.1.length) (hi : i ≤ 1000 := by omega) : wJ (pe_GA xs) wY0 M d t_XO_parameterType ((pe_at t_XO_parameterType.bl 0).getD (0, [])).2 [(0, (2, 162)), (1, (0, m)), (2, (0, (i : Int)))] [] S (fun z Z => S = Z ∧ z = .inl (some (0, prT (hmR ms m) i))) := by
  have hn := KC_n hK
  have hn2 := hn.2.2
  have eM := KC_m hK (m := m) (by omega) (by omega)
  have eW := hw.2.2.2 m (by omega) (by omega)
  have e1 : S 187 m = (hmR ms m).2.1 := eM.1.2.1
  have e2 : S 188 m = (hmR ms m).2.2.1 := eM.1.2.2.1
  have e3 : S 189 m = (hmR ms m).2.2.2.1 := eM.1.2.2.2
  have e4 : S 190 m = ((hmR ms m).2.2.2.2.1.length : Int) := eM.2.1.1
  have e5 : S 191 m = (hmR ms m).2.2.2.2.2.1 := eM.2.1.2.1
  have eq := eW.1.2.1
  have es := eW.1.2.2.1
  have ey := eW.1.2.2.2
  have ev := eW.2.1
  have el := eW.2.2.1
  refine wa_aload_n (n := 0) rfl ?_
  refine wb_gf4 162 rfl (wy_pr rfl) wt_162 wf_3_3 (v := 185) wl_162_3 ?_
  refine wa_bipush (w_rg2 (by omega) (by omega)) ?_
  refine wa_iload_n (n := 2) rfl ?_
  refine wa_aload_n (n := 0) rfl ?_
  refine wb_gf4 162 rfl (wy_pr rfl) wt_162 wf_3_3 (v := 185) wl_162_3 ?_
  refine wa_iconst ?_
  refine wb_aald5 185 4 rfl rfl (wy_pr rfl) wt_185 (by rw [show _ = _ from ((cl_185 hC))]; omega) wl_185_4 ?_
  refine wa_iload_n (n := 1) rfl ?_
  refine wb_iald 190 rfl (wy_pr rfl) wt_190 (n := 400) ((cl_190 hC)) (by omega) (by omega) (v := ((hmR ms m).2.2.2.2.1.length : Int)) (e4) (fun r1 => ?_)
  refine wa_icmpge (w_rg0 (by omega) (by omega)) (w_rg0 (by omega) (by omega)) ⟨_, rfl⟩ (fun c2 => ?_) (fun c2 => ?_)
  · skip
    refine wa_aload_n (n := 0) rfl ?_
    refine wb_gf4 162 rfl (wy_pr rfl) wt_162 wf_3_3 (v := 185) wl_162_3 ?_
    refine wa_iconst ?_
    refine wb_aald5 185 4 rfl rfl (wy_pr rfl) wt_185 (by rw [show _ = _ from ((cl_185 hC))]; omega) wl_185_4 ?_
    refine wa_iload_n (n := 1) rfl ?_
    refine wb_iald 190 rfl (wy_pr rfl) wt_190 (n := 400) ((cl_190 hC)) (by omega) (by omega) (v := ((hmR ms m).2.2.2.2.1.length : Int)) (e4) (fun r3 => ?_)
    refine wa_iconst ?_
    refine wa_isub ?_
    refine wa_fall ⟨_, rfl⟩ ?_
    obtain ⟨j, hj⟩ : ∃ j : Nat, j = (hmR ms m).2.2.2.2.1.length - 1 := ⟨_, rfl⟩
    have ejx : (if i < (hmR ms m).2.2.2.2.1.length then i else (hmR ms m).2.2.2.2.1.length - 1) = j := by rw [if_neg (by omega), hj]
    refine wJ_top (show (((hmR ms m).2.2.2.2.1.length : Int) - 1) = (j : Int) by omega) ?_
    have hj8 : j < 8 := by omega
    have hjv : S (192 + j) m = (hmR ms m).2.2.2.2.1.getD j 0 := eM.2.1.2.2.2 j (by omega)
    refine wa_iadd ?_
    refine wb_aald5 185 (6 + j) rfl (by omega) (wy_pr rfl) wt_185 (by rw [show _ = _ from ((cl_185 hC))]; omega) (mr_ln_162 (by omega)) ?_
    refine wa_iload_n (n := 1) rfl ?_
    refine wb_iald (192 + j) rfl (wy_p2 (by omega)) (mr_ty_162 (by omega)) (n := 400) ((cl_mr_162 hC (by omega))) (by omega) (by omega) (v := ((hmR ms m).2.2.2.2.1.getD j 0)) (hjv) (fun r4 => ?_)
    refine wa_ireturn rfl ?_
    refine ⟨rfl, congrArg (fun z => Sum.inl (some (0, z))) ?_⟩
    unfold prT; rw [ejx]
  · skip
    refine wa_iload_n (n := 2) rfl ?_
    refine wa_goto ⟨_, rfl⟩ ?_
    obtain ⟨j, hj⟩ : ∃ j : Nat, j = i := ⟨_, rfl⟩
    have ejx : (if i < (hmR ms m).2.2.2.2.1.length then i else (hmR ms m).2.2.2.2.1.length - 1) = j := by rw [if_pos (by omega), hj]
    refine wJ_top (show (i : Int) = (j : Int) by omega) ?_
    have hj8 : j < 8 := by omega
    have hjv : S (192 + j) m = (hmR ms m).2.2.2.2.1.getD j 0 := eM.2.1.2.2.2 j (by omega)
    refine wa_iadd ?_
    refine wb_aald5 185 (6 + j) rfl (by omega) (wy_pr rfl) wt_185 (by rw [show _ = _ from ((cl_185 hC))]; omega) (mr_ln_162 (by omega)) ?_
    refine wa_iload_n (n := 1) rfl ?_
    refine wb_iald (192 + j) rfl (wy_p2 (by omega)) (mr_ty_162 (by omega)) (n := 400) ((cl_mr_162 hC (by omega))) (by omega) (by omega) (v := ((hmR ms m).2.2.2.2.1.getD j 0)) (hjv) (fun r5 => ?_)
    refine wa_ireturn rfl ?_
    refine ⟨rfl, congrArg (fun z => Sum.inl (some (0, z))) ?_⟩
    unfold prT; rw [ejx]
theorem ftl_162 {m ph x6 x7 : Int} {tl : List Int} (hC : w_CL S) (hK : KC 176 186 182 203 204 163 162 T cs ms os S) (hw : wHo cs ms os) (hm : 0 ≤ m ∧ m < (ms.length : Int)) (hph : 1 ≤ ph ∧ ph ≤ 3) (htl : tl.length ≤ 8) (hes : esOk tl) (hty : ∀ c ∈ tl, c < 9 + (cs.length : Int)) (h1 : (hmR ms m).2.2.2.2.2.1 = (if ph = 3 then 1 else 0)) (h2 : if ph = 3 then (hmR ms m).2.2.2.2.1.length ≤ tl.length + 1 else (hmR ms m).2.2.2.2.1.length = tl.length) : ∀ (f i : Nat), tl.length - i < f → i ≤ tl.length → (∀ k : Nat, k < i → gTB cs (tl.getD k 0) (prT (hmR ms m) k) (decide (1 < ph)) = true) → wJ (pe_GA xs) wY0 M (d + 2) t_XO_fits ((pe_at t_XO_fits.bl 9).getD (0, [])).2 [(0, (2, 162)), (1, (0, m)), (2, (0, ph)), (3, (1, esV tl)), (5, (0, (tl.length : Int))), (6, (0, x6)), (7, (0, x7)), (8, (0, (i : Int)))] [] S (fun z Z => S = Z ∧ z = .inl (some (0, bI (ftA cs ms ph tl m)))) := by
  have hn := KC_n hK
  have hn2 := hn.2.2
  have eM := KC_m hK (m := m) (by omega) (by omega)
  have eW := hw.2.2.2 m (by omega) (by omega)
  have e1 : S 187 m = (hmR ms m).2.1 := eM.1.2.1
  have e2 : S 188 m = (hmR ms m).2.2.1 := eM.1.2.2.1
  have e3 : S 189 m = (hmR ms m).2.2.2.1 := eM.1.2.2.2
  have e4 : S 190 m = ((hmR ms m).2.2.2.2.1.length : Int) := eM.2.1.1
  have e5 : S 191 m = (hmR ms m).2.2.2.2.2.1 := eM.2.1.2.1
  have eq := eW.1.2.1
  have es := eW.1.2.2.1
  have ey := eW.1.2.2.2
  have ev := eW.2.1
  have el := eW.2.2.1
  intro f
  induction f with
  | zero => intro i h; exact absurd h (Nat.not_lt_zero _)
  | succ f ih =>
    intro i hf hi hk
    refine wa_iload (n := 8) rfl ?_
    refine wa_iload (n := 5) rfl ?_
    refine wa_icmpge (w_rg0 (by omega) (by omega)) (w_rg0 (by omega) (by omega)) ⟨_, rfl⟩ (fun c1 => ?_) (fun c1 => ?_)
    · skip
      refine wa_iconst ?_
      refine wa_zreturn rfl (Or.inr rfl) ?_
      refine ⟨rfl, congrArg (fun z => Sum.inl (some (0, z))) ?_⟩
      exact (bI_t (by unfold ftA; rw [decide_eq_true h1, decide_eq_true h2, alN_t.mpr (fun k hk1 => hk k (by omega))]; rfl)).symm
    · skip
      refine wa_lload_n (n := 3) rfl ?_
      refine wa_bipush (w_rg2 (by omega) (by omega)) ?_
      refine wa_iload (n := 8) rfl ?_
      refine wa_imul ?_
      refine wa_lushr ?_
      refine wa_l2i ?_
      refine wa_bipush (w_rg2 (by omega) (by omega)) ?_
      refine wa_iand ?_
      have hd9 := es_di (n := i) (by omega) htl hes
      refine wJ_top (show _ = tl.getD i 0 from hd9) ?_
      have hdm : tl.getD i 0 ∈ tl := by rw [List.getD_eq_getElem?_getD, List.getElem?_eq_getElem (show i < tl.length by omega)]; exact List.getElem_mem _
      have hdr := hes _ hdm
      have hdt := hty _ hdm
      have hlen1 : 1 ≤ (hmR ms m).2.2.2.2.1.length := by split at h2 <;> omega
      refine wa_istore (n := 9) rfl ?_
      refine wa_aload_n (n := 0) rfl ?_
      refine wa_iload (n := 9) rfl ?_
      refine wa_aload_n (n := 0) rfl ?_
      refine wa_iload_n (n := 1) rfl ?_
      refine wa_iload (n := 8) rfl ?_
      refine wa_cv 162 rfl (wy_pr rfl) wt_162 (M2 := fun _ => False) rfl at_XO_parameterType ⟨_, rfl⟩ rfl rfl ⟨trivial, (Or.inr ⟨wy_pr rfl, fun q => q⟩), trivial, trivial, trivial, trivial, trivial, trivial, trivial, trivial⟩ ⟨trivial, (Or.inr ⟨wy_pr rfl, fun q => q⟩), trivial⟩ (fun _ _ q => False.elim q) (par_162 (S := S) (m := m) (i := i) hC hK hw ⟨by omega, by omega⟩ (by omega)) (fun oq2 Sq2 hp3 q2 => ?_)
      rcases q2 with ⟨rfl, rfl⟩
      show wJ _ _ _ _ _ _ _ _ _ _
      have hpr1 := prT_rg (i := i) hw (m := m) (by omega) (by omega) (by omega)
      refine wa_iload_n (n := 2) rfl ?_
      refine wa_iconst ?_
      refine wa_icmple (w_rg0 (by omega) (by omega)) (w_rg0 (by omega) (by omega)) ⟨_, rfl⟩ (fun c4 => ?_) (fun c4 => ?_)
      · skip
        refine wa_iconst ?_
        refine wa_fall ⟨_, rfl⟩ ?_
        refine wa_cv 162 rfl (wy_pr rfl) wt_162 (M2 := fun _ => False) rfl at_XO_goesTo ⟨_, rfl⟩ rfl rfl ⟨trivial, (Or.inr ⟨wy_pr rfl, fun q => q⟩), trivial, trivial, trivial, trivial, trivial, trivial, trivial, trivial⟩ trivial (fun _ _ q => False.elim q) (gto_162 (S := S) (f := (tl.getD i 0)) (q := (prT (hmR ms m) i)) (l := 0) (lb := decide (1 < ph)) hC hK hw ⟨by omega, by omega⟩ ⟨by omega, by omega⟩ (Or.inl ⟨rfl, decide_eq_false (by omega)⟩)) (fun oq5 Sq5 hp6 q5 => ?_)
        rcases q5 with ⟨rfl, rfl⟩
        show wJ _ _ _ _ _ _ _ _ _ _
        have hbg := bI_rg (gTB cs (tl.getD i 0) (prT (hmR ms m) i) (decide (1 < ph)))
        refine wa_ifne (w_rg0 (by omega) (by omega)) ⟨_, rfl⟩ (fun c7 => ?_) (fun c7 => ?_)
        · skip
          refine wa_iinc rfl rfl ?_
          refine wa_goto ⟨_, rfl⟩ ?_
          refine wJ_S (ih (i + 1) (by omega) (by omega) (fun k hk1 => ?_)) ⟨rfl, rfl, rfl, rfl, rfl, rfl, rfl, rfl, trivial⟩
          by_cases hkq : k = i
          · rw [hkq]; exact bI_1 (by omega)
          · exact hk k (by omega)
        · skip
          refine wa_iconst ?_
          refine wa_zreturn rfl (Or.inl rfl) ?_
          refine ⟨rfl, congrArg (fun z => Sum.inl (some (0, z))) ?_⟩
          exact (bI_f (by unfold ftA; rw [alN_f (i := i) (by omega) (bI_0 (by omega)), Bool.and_false])).symm
      · skip
        refine wa_iconst ?_
        refine wa_goto ⟨_, rfl⟩ ?_
        refine wa_cv 162 rfl (wy_pr rfl) wt_162 (M2 := fun _ => False) rfl at_XO_goesTo ⟨_, rfl⟩ rfl rfl ⟨trivial, (Or.inr ⟨wy_pr rfl, fun q => q⟩), trivial, trivial, trivial, trivial, trivial, trivial, trivial, trivial⟩ trivial (fun _ _ q => False.elim q) (gto_162 (S := S) (f := (tl.getD i 0)) (q := (prT (hmR ms m) i)) (l := 1) (lb := decide (1 < ph)) hC hK hw ⟨by omega, by omega⟩ ⟨by omega, by omega⟩ (Or.inr ⟨rfl, decide_eq_true (by omega)⟩)) (fun oq8 Sq8 hp9 q8 => ?_)
        rcases q8 with ⟨rfl, rfl⟩
        show wJ _ _ _ _ _ _ _ _ _ _
        have hbg := bI_rg (gTB cs (tl.getD i 0) (prT (hmR ms m) i) (decide (1 < ph)))
        refine wa_ifne (w_rg0 (by omega) (by omega)) ⟨_, rfl⟩ (fun c10 => ?_) (fun c10 => ?_)
        · skip
          refine wa_iinc rfl rfl ?_
          refine wa_goto ⟨_, rfl⟩ ?_
          refine wJ_S (ih (i + 1) (by omega) (by omega) (fun k hk1 => ?_)) ⟨rfl, rfl, rfl, rfl, rfl, rfl, rfl, rfl, trivial⟩
          by_cases hkq : k = i
          · rw [hkq]; exact bI_1 (by omega)
          · exact hk k (by omega)
        · skip
          refine wa_iconst ?_
          refine wa_zreturn rfl (Or.inl rfl) ?_
          refine ⟨rfl, congrArg (fun z => Sum.inl (some (0, z))) ?_⟩
          exact (bI_f (by unfold ftA; rw [alN_f (i := i) (by omega) (bI_0 (by omega)), Bool.and_false])).symm
theorem fit_162 {m ph : Int} {tl : List Int} (hC : w_CL S) (hK : KC 176 186 182 203 204 163 162 T cs ms os S) (hw : wHo cs ms os) (hm : 0 ≤ m ∧ m < (ms.length : Int)) (hph : 1 ≤ ph ∧ ph ≤ 3) (htl : tl.length ≤ 8) (hes : esOk tl) (hty : ∀ c ∈ tl, c < 9 + (cs.length : Int)) : wJ (pe_GA xs) wY0 M (d + 2) t_XO_fits ((pe_at t_XO_fits.bl 0).getD (0, [])).2 [(0, (2, 162)), (1, (0, m)), (2, (0, ph)), (3, (1, esV tl)), (5, (0, (tl.length : Int)))] [] S (fun z Z => S = Z ∧ z = .inl (some (0, bI (ftA cs ms ph tl m)))) := by
  have hn := KC_n hK
  have hn2 := hn.2.2
  have eM := KC_m hK (m := m) (by omega) (by omega)
  have eW := hw.2.2.2 m (by omega) (by omega)
  have e1 : S 187 m = (hmR ms m).2.1 := eM.1.2.1
  have e2 : S 188 m = (hmR ms m).2.2.1 := eM.1.2.2.1
  have e3 : S 189 m = (hmR ms m).2.2.2.1 := eM.1.2.2.2
  have e4 : S 190 m = ((hmR ms m).2.2.2.2.1.length : Int) := eM.2.1.1
  have e5 : S 191 m = (hmR ms m).2.2.2.2.2.1 := eM.2.1.2.1
  have eq := eW.1.2.1
  have es := eW.1.2.2.1
  have ey := eW.1.2.2.2
  have ev := eW.2.1
  have el := eW.2.2.1
  refine wa_iload_n (n := 2) rfl ?_
  refine wa_iconst ?_
  refine wa_icmpne (w_rg0 (by omega) (by omega)) (w_rg0 (by omega) (by omega)) ⟨_, rfl⟩ (fun c1 => ?_) (fun c1 => ?_)
  · skip
    refine wa_iconst ?_
    refine wa_fall ⟨_, rfl⟩ ?_
    refine wa_istore (n := 6) rfl ?_
    refine wa_aload_n (n := 0) rfl ?_
    refine wb_gf4 162 rfl (wy_pr rfl) wt_162 wf_3_3 (v := 185) wl_162_3 ?_
    refine wa_iconst ?_
    refine wb_aald5 185 4 rfl rfl (wy_pr rfl) wt_185 (by rw [show _ = _ from ((cl_185 hC))]; omega) wl_185_4 ?_
    refine wa_iload_n (n := 1) rfl ?_
    refine wb_iald 190 rfl (wy_pr rfl) wt_190 (n := 400) ((cl_190 hC)) (by omega) (by omega) (v := ((hmR ms m).2.2.2.2.1.length : Int)) (e4) (fun r2 => ?_)
    refine wa_istore (n := 7) rfl ?_
    refine wa_aload_n (n := 0) rfl ?_
    refine wb_gf4 162 rfl (wy_pr rfl) wt_162 wf_3_3 (v := 185) wl_162_3 ?_
    refine wa_iconst ?_
    refine wb_aald5 185 5 rfl rfl (wy_pr rfl) wt_185 (by rw [show _ = _ from ((cl_185 hC))]; omega) wl_185_5 ?_
    refine wa_iload_n (n := 1) rfl ?_
    refine wb_iald 191 rfl (wy_pr rfl) wt_191 (n := 400) ((cl_191 hC)) (by omega) (by omega) (v := (hmR ms m).2.2.2.2.2.1) (e5) (fun r3 => ?_)
    refine wa_iload (n := 6) rfl ?_
    refine wa_ifeq (w_rg0 (by omega) (by omega)) ⟨_, rfl⟩ (fun c4 => ?_) (fun c4 => ?_)
    · skip
      refine wa_iconst ?_
      refine wa_fall ⟨_, rfl⟩ ?_
      refine wa_icmpeq (w_rg0 (by omega) (by omega)) (w_rg0 (by omega) (by omega)) ⟨_, rfl⟩ (fun c5 => ?_) (fun c5 => ?_)
      · skip
        refine wa_iload (n := 6) rfl ?_
        refine wa_ifeq (w_rg0 (by omega) (by omega)) ⟨_, rfl⟩ (fun c6 => ?_) (fun c6 => ?_)
        · skip
          refine wa_iload (n := 5) rfl ?_
          refine wa_iload (n := 7) rfl ?_
          refine wa_icmpeq (w_rg0 (by omega) (by omega)) (w_rg0 (by omega) (by omega)) ⟨_, rfl⟩ (fun c7 => ?_) (fun c7 => ?_)
          · skip
            refine wa_iconst ?_
            refine wa_istore (n := 8) rfl ?_
            refine wa_fall ⟨_, rfl⟩ ?_
            exact wJ_S (ftl_162 hC hK hw hm hph htl hes hty (by split <;> omega) (by split <;> omega) (tl.length + 1) 0 (by omega) (by omega) (fun k hk => absurd hk (Nat.not_lt_zero _))) ⟨rfl, rfl, rfl, rfl, rfl, rfl, rfl, rfl, trivial⟩
          · skip
            refine wa_fall ⟨_, rfl⟩ ?_
            refine wa_iconst ?_
            refine wa_zreturn rfl (Or.inl rfl) ?_
            refine ⟨rfl, congrArg (fun z => Sum.inl (some (0, z))) ?_⟩
            first | exact (ft_0 (fun _ => by omega) (fun _ => by omega)).symm | exact (ft_0b (fun _ => by omega) (fun _ => by omega)).symm
        · skip
          exact absurd c6 (by omega)
      · skip
        refine wa_iconst ?_
        refine wa_zreturn rfl (Or.inl rfl) ?_
        refine ⟨rfl, congrArg (fun z => Sum.inl (some (0, z))) ?_⟩
        first | exact (ft_0 (fun _ => by omega) (fun _ => by omega)).symm | exact (ft_0b (fun _ => by omega) (fun _ => by omega)).symm
    · skip
      exact absurd c4 (by omega)
  · skip
    refine wa_iconst ?_
    refine wa_goto ⟨_, rfl⟩ ?_
    refine wa_istore (n := 6) rfl ?_
    refine wa_aload_n (n := 0) rfl ?_
    refine wb_gf4 162 rfl (wy_pr rfl) wt_162 wf_3_3 (v := 185) wl_162_3 ?_
    refine wa_iconst ?_
    refine wb_aald5 185 4 rfl rfl (wy_pr rfl) wt_185 (by rw [show _ = _ from ((cl_185 hC))]; omega) wl_185_4 ?_
    refine wa_iload_n (n := 1) rfl ?_
    refine wb_iald 190 rfl (wy_pr rfl) wt_190 (n := 400) ((cl_190 hC)) (by omega) (by omega) (v := ((hmR ms m).2.2.2.2.1.length : Int)) (e4) (fun r8 => ?_)
    refine wa_istore (n := 7) rfl ?_
    refine wa_aload_n (n := 0) rfl ?_
    refine wb_gf4 162 rfl (wy_pr rfl) wt_162 wf_3_3 (v := 185) wl_162_3 ?_
    refine wa_iconst ?_
    refine wb_aald5 185 5 rfl rfl (wy_pr rfl) wt_185 (by rw [show _ = _ from ((cl_185 hC))]; omega) wl_185_5 ?_
    refine wa_iload_n (n := 1) rfl ?_
    refine wb_iald 191 rfl (wy_pr rfl) wt_191 (n := 400) ((cl_191 hC)) (by omega) (by omega) (v := (hmR ms m).2.2.2.2.2.1) (e5) (fun r9 => ?_)
    refine wa_iload (n := 6) rfl ?_
    refine wa_ifeq (w_rg0 (by omega) (by omega)) ⟨_, rfl⟩ (fun c10 => ?_) (fun c10 => ?_)
    · skip
      exact absurd c10 (by omega)
    · skip
      refine wa_iconst ?_
      refine wa_goto ⟨_, rfl⟩ ?_
      refine wa_icmpeq (w_rg0 (by omega) (by omega)) (w_rg0 (by omega) (by omega)) ⟨_, rfl⟩ (fun c11 => ?_) (fun c11 => ?_)
      · skip
        refine wa_iload (n := 6) rfl ?_
        refine wa_ifeq (w_rg0 (by omega) (by omega)) ⟨_, rfl⟩ (fun c12 => ?_) (fun c12 => ?_)
        · skip
          exact absurd c12 (by omega)
        · skip
          refine wa_iload (n := 5) rfl ?_
          refine wa_iload (n := 7) rfl ?_
          refine wa_iconst ?_
          refine wa_isub ?_
          refine wa_icmpge (w_rg0 (by omega) (by omega)) (w_rg0 (by omega) (by omega)) ⟨_, rfl⟩ (fun c13 => ?_) (fun c13 => ?_)
          · skip
            refine wa_iconst ?_
            refine wa_istore (n := 8) rfl ?_
            refine wa_fall ⟨_, rfl⟩ ?_
            exact wJ_S (ftl_162 hC hK hw hm hph htl hes hty (by split <;> omega) (by split <;> omega) (tl.length + 1) 0 (by omega) (by omega) (fun k hk => absurd hk (Nat.not_lt_zero _))) ⟨rfl, rfl, rfl, rfl, rfl, rfl, rfl, rfl, trivial⟩
          · skip
            refine wa_goto ⟨_, rfl⟩ ?_
            refine wa_iconst ?_
            refine wa_zreturn rfl (Or.inl rfl) ?_
            refine ⟨rfl, congrArg (fun z => Sum.inl (some (0, z))) ?_⟩
            first | exact (ft_0 (fun _ => by omega) (fun _ => by omega)).symm | exact (ft_0b (fun _ => by omega) (fun _ => by omega)).symm
      · skip
        refine wa_iconst ?_
        refine wa_zreturn rfl (Or.inl rfl) ?_
        refine ⟨rfl, congrArg (fun z => Sum.inl (some (0, z))) ?_⟩
        first | exact (ft_0 (fun _ => by omega) (fun _ => by omega)).symm | exact (ft_0b (fun _ => by omega) (fun _ => by omega)).symm
theorem mol_162 {m q ph : Int} {n N : Nat} (hC : w_CL S) (hK : KC 176 186 182 203 204 163 162 T cs ms os S) (hw : wHo cs ms os) (hm : 0 ≤ m ∧ m < (ms.length : Int)) (hq : 0 ≤ q ∧ q < (ms.length : Int)) (hph : 1 ≤ ph ∧ ph ≤ 3) (hnm : ph ≠ 3 → (hmR ms m).2.2.2.2.1.length = n ∧ (hmR ms q).2.2.2.2.1.length = n) (hn1 : ph = 3 → 1 ≤ (hmR ms m).2.2.2.2.1.length ∧ 1 ≤ (hmR ms q).2.2.2.2.1.length) (hN : N = moN ms ph n m q) (hN8 : N ≤ 8) (hNl : 1 ≤ N → 1 ≤ (hmR ms m).2.2.2.2.1.length ∧ 1 ≤ (hmR ms q).2.2.2.2.1.length) : ∀ (f i : Nat), N - i < f → i ≤ N → (∀ k : Nat, k < i → sbB cs (prT (hmR ms m) k) (prT (hmR ms q) k) = true) → wJ (pe_GA xs) wY0 M (d + 2) t_XO_isMoreSpecific ((pe_at t_XO_isMoreSpecific.bl 2).getD (0, [])).2 [(0, (2, 162)), (1, (0, m)), (2, (0, q)), (3, (0, ph)), (4, (0, (N : Int))), (5, (0, (i : Int)))] [] S (fun z Z => S = Z ∧ z = .inl (some (0, bI (moA cs ms ph n m q)))) := by
  have hn := KC_n hK
  have hn2 := hn.2.2
  intro f
  induction f with
  | zero => intro i h; exact absurd h (Nat.not_lt_zero _)
  | succ f ih =>
    intro i hf hi hk
    refine wa_iload (n := 5) rfl ?_
    refine wa_iload (n := 4) rfl ?_
    refine wa_icmpge (w_rg0 (by omega) (by omega)) (w_rg0 (by omega) (by omega)) ⟨_, rfl⟩ (fun c1 => ?_) (fun c1 => ?_)
    · skip
      refine wa_iconst ?_
      refine wa_zreturn rfl (Or.inr rfl) ?_
      refine ⟨rfl, congrArg (fun z => Sum.inl (some (0, z))) ?_⟩
      exact (bI_t (by unfold moA; rw [← hN]; exact alN_t.mpr (fun k hk1 => hk k (by omega)))).symm
    · skip
      have hl1 := hNl (by omega)
      refine wa_aload_n (n := 0) rfl ?_
      refine wa_aload_n (n := 0) rfl ?_
      refine wa_iload_n (n := 1) rfl ?_
      refine wa_iload (n := 5) rfl ?_
      refine wa_cv 162 rfl (wy_pr rfl) wt_162 (M2 := fun _ => False) rfl at_XO_parameterType ⟨_, rfl⟩ rfl rfl ⟨(Or.inr ⟨wy_pr rfl, fun q => q⟩), trivial, trivial, trivial, trivial, trivial, trivial⟩ ⟨(Or.inr ⟨wy_pr rfl, fun q => q⟩), trivial⟩ (fun _ _ q => False.elim q) (par_162 (S := S) (m := m) (i := i) hC hK hw ⟨by omega, by omega⟩ (by omega)) (fun oq2 Sq2 hp3 q2 => ?_)
      rcases q2 with ⟨rfl, rfl⟩
      show wJ _ _ _ _ _ _ _ _ _ _
      have hpr1 := prT_rg (i := i) hw (m := m) (by omega) (by omega) (by omega)
      refine wa_aload_n (n := 0) rfl ?_
      refine wa_iload_n (n := 2) rfl ?_
      refine wa_iload (n := 5) rfl ?_
      refine wa_cv 162 rfl (wy_pr rfl) wt_162 (M2 := fun _ => False) rfl at_XO_parameterType ⟨_, rfl⟩ rfl rfl ⟨(Or.inr ⟨wy_pr rfl, fun q => q⟩), trivial, trivial, trivial, trivial, trivial, trivial⟩ ⟨trivial, (Or.inr ⟨wy_pr rfl, fun q => q⟩), trivial⟩ (fun _ _ q => False.elim q) (par_162 (S := S) (m := q) (i := i) hC hK hw ⟨by omega, by omega⟩ (by omega)) (fun oq4 Sq4 hp5 q4 => ?_)
      rcases q4 with ⟨rfl, rfl⟩
      show wJ _ _ _ _ _ _ _ _ _ _
      have hpr3 := prT_rg (i := i) hw (m := q) (by omega) (by omega) (by omega)
      refine wa_cv 162 rfl (wy_pr rfl) wt_162 (M2 := fun _ => False) rfl at_XO_isSubtype ⟨_, rfl⟩ rfl rfl ⟨(Or.inr ⟨wy_pr rfl, fun q => q⟩), trivial, trivial, trivial, trivial, trivial, trivial⟩ trivial (fun _ _ q => False.elim q) (sub_162 (S := S) (a := (prT (hmR ms m) i)) (o := (prT (hmR ms q) i)) hC hK hw ⟨by omega, by omega⟩ ⟨by omega, by omega⟩) (fun oq6 Sq6 hp7 q6 => ?_)
      rcases q6 with ⟨rfl, rfl⟩
      show wJ _ _ _ _ _ _ _ _ _ _
      have hbr5 := bI_rg (sbB cs (prT (hmR ms m) i) (prT (hmR ms q) i))
      refine wa_ifne (w_rg0 (by omega) (by omega)) ⟨_, rfl⟩ (fun c8 => ?_) (fun c8 => ?_)
      · skip
        refine wa_iinc rfl rfl ?_
        refine wa_goto ⟨_, rfl⟩ ?_
        refine wJ_S (ih (i + 1) (by omega) (by omega) (fun k hk1 => ?_)) ⟨rfl, rfl, rfl, rfl, rfl, rfl, trivial⟩
        by_cases hkq : k = i
        · rw [hkq]; exact bI_1 (by omega)
        · exact hk k (by omega)
      · skip
        refine wa_iconst ?_
        refine wa_zreturn rfl (Or.inl rfl) ?_
        refine ⟨rfl, congrArg (fun z => Sum.inl (some (0, z))) ?_⟩
        exact (bI_f (by unfold moA; rw [← hN]; exact alN_f (i := i) (by omega) (bI_0 (by omega)))).symm
theorem mor_162 {m q ph : Int} {n : Nat} (hC : w_CL S) (hK : KC 176 186 182 203 204 163 162 T cs ms os S) (hw : wHo cs ms os) (hm : 0 ≤ m ∧ m < (ms.length : Int)) (hq : 0 ≤ q ∧ q < (ms.length : Int)) (hph : 1 ≤ ph ∧ ph ≤ 3) (hnm : ph ≠ 3 → (hmR ms m).2.2.2.2.1.length = n ∧ (hmR ms q).2.2.2.2.1.length = n) (hn1 : ph = 3 → 1 ≤ (hmR ms m).2.2.2.2.1.length ∧ 1 ≤ (hmR ms q).2.2.2.2.1.length) : wJ (pe_GA xs) wY0 M (d + 2) t_XO_isMoreSpecific ((pe_at t_XO_isMoreSpecific.bl 0).getD (0, [])).2 [(0, (2, 162)), (1, (0, m)), (2, (0, q)), (3, (0, ph))] [] S (fun z Z => S = Z ∧ z = .inl (some (0, bI (moA cs ms ph n m q)))) := by
  have hn := KC_n hK
  have hn2 := hn.2.2
  have eM := KC_m hK (m := m) (by omega) (by omega)
  have eW := hw.2.2.2 m (by omega) (by omega)
  have e1 : S 187 m = (hmR ms m).2.1 := eM.1.2.1
  have e2 : S 188 m = (hmR ms m).2.2.1 := eM.1.2.2.1
  have e3 : S 189 m = (hmR ms m).2.2.2.1 := eM.1.2.2.2
  have e4 : S 190 m = ((hmR ms m).2.2.2.2.1.length : Int) := eM.2.1.1
  have e5 : S 191 m = (hmR ms m).2.2.2.2.2.1 := eM.2.1.2.1
  have eq := eW.1.2.1
  have es := eW.1.2.2.1
  have ey := eW.1.2.2.2
  have ev := eW.2.1
  have el := eW.2.2.1
  have gM := KC_m hK (m := q) (by omega) (by omega)
  have gW := hw.2.2.2 q (by omega) (by omega)
  have g1 : S 187 q = (hmR ms q).2.1 := gM.1.2.1
  have g2 : S 188 q = (hmR ms q).2.2.1 := gM.1.2.2.1
  have g3 : S 189 q = (hmR ms q).2.2.2.1 := gM.1.2.2.2
  have g4 : S 190 q = ((hmR ms q).2.2.2.2.1.length : Int) := gM.2.1.1
  have g5 : S 191 q = (hmR ms q).2.2.2.2.2.1 := gM.2.1.2.1
  have gq := gW.1.2.1
  have gs := gW.1.2.2.1
  have gy := gW.1.2.2.2
  have gv := gW.2.1
  have gl := gW.2.2.1
  refine wa_aload_n (n := 0) rfl ?_
  refine wb_gf4 162 rfl (wy_pr rfl) wt_162 wf_3_3 (v := 185) wl_162_3 ?_
  refine wa_iconst ?_
  refine wb_aald5 185 4 rfl rfl (wy_pr rfl) wt_185 (by rw [show _ = _ from ((cl_185 hC))]; omega) wl_185_4 ?_
  refine wa_iload_n (n := 1) rfl ?_
  refine wb_iald 190 rfl (wy_pr rfl) wt_190 (n := 400) ((cl_190 hC)) (by omega) (by omega) (v := ((hmR ms m).2.2.2.2.1.length : Int)) (e4) (fun r1 => ?_)
  refine wa_istore (n := 4) rfl ?_
  refine wa_iload_n (n := 3) rfl ?_
  refine wa_iconst ?_
  refine wa_icmpne (w_rg0 (by omega) (by omega)) (w_rg0 (by omega) (by omega)) ⟨_, rfl⟩ (fun c2 => ?_) (fun c2 => ?_)
  · skip
    refine wa_iconst ?_
    refine wa_istore (n := 5) rfl ?_
    refine wa_fall ⟨_, rfl⟩ ?_
    obtain ⟨N, hN⟩ : ∃ N : Nat, N = moN ms ph n m q := ⟨_, rfl⟩
    have hNe : ((hmR ms m).2.2.2.2.1.length : Int) = (N : Int) := by rw [hN]; unfold moN; first | (rw [if_pos (by omega)]; omega) | (rw [if_neg (by omega)]; have := hnm (by omega); omega)
    have hNl : 1 ≤ N → 1 ≤ (hmR ms m).2.2.2.2.1.length ∧ 1 ≤ (hmR ms q).2.2.2.2.1.length := fun h1 => by rw [hN] at h1; unfold moN at h1; first | exact hn1 (by omega) | (rw [if_neg (by omega)] at h1; have := hnm (by omega); omega)
    rw [hNe]
    exact wJ_S (mol_162 hC hK hw hm hq hph hnm hn1 hN (by omega) hNl (N + 1) 0 (by omega) (by omega) (fun k hk => absurd hk (Nat.not_lt_zero _))) ⟨rfl, rfl, rfl, rfl, rfl, rfl, trivial⟩
  · skip
    refine wa_iload (n := 4) rfl ?_
    refine wa_aload_n (n := 0) rfl ?_
    refine wb_gf4 162 rfl (wy_pr rfl) wt_162 wf_3_3 (v := 185) wl_162_3 ?_
    refine wa_iconst ?_
    refine wb_aald5 185 4 rfl rfl (wy_pr rfl) wt_185 (by rw [show _ = _ from ((cl_185 hC))]; omega) wl_185_4 ?_
    refine wa_iload_n (n := 2) rfl ?_
    refine wb_iald 190 rfl (wy_pr rfl) wt_190 (n := 400) ((cl_190 hC)) (by omega) (by omega) (v := ((hmR ms q).2.2.2.2.1.length : Int)) (g4) (fun r3 => ?_)
    refine wa_cs (M2 := fun _ => False) rfl at_JM_max ⟨_, rfl⟩ rfl rfl ⟨trivial, (Or.inr ⟨wy_pr rfl, fun q => q⟩), trivial, trivial, trivial, trivial⟩ trivial (fun _ _ q => False.elim q) ?_ (fun _ _ _ q => q)
    refine wa_iload_n (n := 0) rfl ?_
    refine wa_iload_n (n := 1) rfl ?_
    refine wa_icmplt (w_rg0 (by omega) (by omega)) (w_rg0 (by omega) (by omega)) ⟨_, rfl⟩ (fun c4 => ?_) (fun c4 => ?_)
    · skip
      refine wa_iload_n (n := 1) rfl ?_
      refine wa_fall ⟨_, rfl⟩ ?_
      refine wa_ireturn rfl ?_
      show wJ _ _ _ _ _ _ _ _ _ _
      refine wa_istore (n := 4) rfl ?_
      refine wa_fall ⟨_, rfl⟩ ?_
      refine wa_iconst ?_
      refine wa_istore (n := 5) rfl ?_
      refine wa_fall ⟨_, rfl⟩ ?_
      obtain ⟨N, hN⟩ : ∃ N : Nat, N = moN ms ph n m q := ⟨_, rfl⟩
      have hNe : ((hmR ms q).2.2.2.2.1.length : Int) = (N : Int) := by rw [hN]; unfold moN; first | (rw [if_pos (by omega)]; omega) | (rw [if_neg (by omega)]; have := hnm (by omega); omega)
      have hNl : 1 ≤ N → 1 ≤ (hmR ms m).2.2.2.2.1.length ∧ 1 ≤ (hmR ms q).2.2.2.2.1.length := fun h1 => by rw [hN] at h1; unfold moN at h1; first | exact hn1 (by omega) | (rw [if_neg (by omega)] at h1; have := hnm (by omega); omega)
      rw [hNe]
      exact wJ_S (mol_162 hC hK hw hm hq hph hnm hn1 hN (by omega) hNl (N + 1) 0 (by omega) (by omega) (fun k hk => absurd hk (Nat.not_lt_zero _))) ⟨rfl, rfl, rfl, rfl, rfl, rfl, trivial⟩
    · skip
      refine wa_iload_n (n := 0) rfl ?_
      refine wa_goto ⟨_, rfl⟩ ?_
      refine wa_ireturn rfl ?_
      show wJ _ _ _ _ _ _ _ _ _ _
      refine wa_istore (n := 4) rfl ?_
      refine wa_fall ⟨_, rfl⟩ ?_
      refine wa_iconst ?_
      refine wa_istore (n := 5) rfl ?_
      refine wa_fall ⟨_, rfl⟩ ?_
      obtain ⟨N, hN⟩ : ∃ N : Nat, N = moN ms ph n m q := ⟨_, rfl⟩
      have hNe : ((hmR ms m).2.2.2.2.1.length : Int) = (N : Int) := by rw [hN]; unfold moN; first | (rw [if_pos (by omega)]; omega) | (rw [if_neg (by omega)]; have := hnm (by omega); omega)
      have hNl : 1 ≤ N → 1 ≤ (hmR ms m).2.2.2.2.1.length ∧ 1 ≤ (hmR ms q).2.2.2.2.1.length := fun h1 => by rw [hN] at h1; unfold moN at h1; first | exact hn1 (by omega) | (rw [if_neg (by omega)] at h1; have := hnm (by omega); omega)
      rw [hNe]
      exact wJ_S (mol_162 hC hK hw hm hq hph hnm hn1 hN (by omega) hNl (N + 1) 0 (by omega) (by omega) (fun k hk => absurd hk (Nat.not_lt_zero _))) ⟨rfl, rfl, rfl, rfl, rfl, rfl, trivial⟩
theorem hil_162 {m : Int} {acc : List Int} (hC : w_CL S) (hK : KC 176 186 182 203 204 163 162 T cs ms os S) (hw : wHo cs ms os) (hm : 0 ≤ m ∧ m < (ms.length : Int)) (hn10 : S 162 10 = (acc.length : Int)) (hal : (acc.length : Int) ≤ S 209 (-1) ∧ S 209 (-1) ≤ 100000) (hac : ∀ i : Nat, i < acc.length → S 209 (i : Int) = acc.getD i 0 ∧ 0 ≤ acc.getD i 0 ∧ acc.getD i 0 < (ms.length : Int)) : ∀ (f i : Nat), acc.length - i < f → i ≤ acc.length → (∀ k : Nat, k < i → ¬ (hmR ms (acc.getD k 0)).2.2.2.2.1 = (hmR ms m).2.2.2.2.1) → wJ (pe_GA xs) wY0 M (d + 1) t_XO_isHidden ((pe_at t_XO_isHidden.bl 1).getD (0, [])).2 [(0, (2, 162)), (1, (0, m)), (2, (0, (i : Int)))] [] S (fun z Z => S = Z ∧ z = .inl (some (0, bI (hidM ms acc m)))) := by
  have hn := KC_n hK
  have hn2 := hn.2.2
  have eM := KC_m hK (m := m) (by omega) (by omega)
  have eW := hw.2.2.2 m (by omega) (by omega)
  have e1 : S 187 m = (hmR ms m).2.1 := eM.1.2.1
  have e2 : S 188 m = (hmR ms m).2.2.1 := eM.1.2.2.1
  have e3 : S 189 m = (hmR ms m).2.2.2.1 := eM.1.2.2.2
  have e4 : S 190 m = ((hmR ms m).2.2.2.2.1.length : Int) := eM.2.1.1
  have e5 : S 191 m = (hmR ms m).2.2.2.2.2.1 := eM.2.1.2.1
  have eq := eW.1.2.1
  have es := eW.1.2.2.1
  have ey := eW.1.2.2.2
  have ev := eW.2.1
  have el := eW.2.2.1
  intro f
  induction f with
  | zero => intro i h; exact absurd h (Nat.not_lt_zero _)
  | succ f ih =>
    intro i hf hi hk
    refine wa_iload_n (n := 2) rfl ?_
    refine wa_aload_n (n := 0) rfl ?_
    refine wb_gfi 162 rfl (wy_pr rfl) wt_162 wf_3_10 (v := (acc.length : Int)) (hn10) (fun r1 => ?_)
    refine wa_icmpge (w_rg0 (by omega) (by omega)) (w_rg0 (by omega) (by omega)) ⟨_, rfl⟩ (fun c2 => ?_) (fun c2 => ?_)
    · skip
      refine wa_iconst ?_
      refine wa_zreturn rfl (Or.inl rfl) ?_
      refine ⟨rfl, congrArg (fun z => Sum.inl (some (0, z))) ?_⟩
      exact (bI_f (hid_f (fun k hk1 => hk k (by omega)))).symm
    · skip
      have hai := hac i (by omega)
      have hai1 := hai.1
      have hai2 := hai.2
      have gM := KC_m hK (m := (acc.getD i 0)) (by omega) (by omega)
      have gW := hw.2.2.2 (acc.getD i 0) (by omega) (by omega)
      have g1 : S 187 (acc.getD i 0) = (hmR ms (acc.getD i 0)).2.1 := gM.1.2.1
      have g2 : S 188 (acc.getD i 0) = (hmR ms (acc.getD i 0)).2.2.1 := gM.1.2.2.1
      have g3 : S 189 (acc.getD i 0) = (hmR ms (acc.getD i 0)).2.2.2.1 := gM.1.2.2.2
      have g4 : S 190 (acc.getD i 0) = ((hmR ms (acc.getD i 0)).2.2.2.2.1.length : Int) := gM.2.1.1
      have g5 : S 191 (acc.getD i 0) = (hmR ms (acc.getD i 0)).2.2.2.2.2.1 := gM.2.1.2.1
      have gq := gW.1.2.1
      have gs := gW.1.2.2.1
      have gy := gW.1.2.2.2
      have gv := gW.2.1
      have gl := gW.2.2.1
      refine wa_aload_n (n := 0) rfl ?_
      refine wa_aload_n (n := 0) rfl ?_
      refine wb_gf4 162 rfl (wy_pr rfl) wt_162 wf_3_9 (v := 209) wl_162_9 ?_
      refine wa_iload_n (n := 2) rfl ?_
      refine wb_iald 209 rfl (wy_pr rfl) wt_209 (n := (S 209 (-1))) (rfl) (by omega) (by omega) (v := (acc.getD i 0)) (hai1) (fun r3 => ?_)
      refine wa_iload_n (n := 1) rfl ?_
      have hsl : ((hmR ms (acc.getD i 0)).2.2.2.2.1 = (hmR ms m).2.2.2.2.1) ↔ (S 190 (acc.getD i 0) = S 190 m ∧ ∀ q : Nat, q < (hmR ms (acc.getD i 0)).2.2.2.2.1.length → S (192 + q) (acc.getD i 0) = S (192 + q) m) := by
        rw [ls_eq, g4, e4]
        constructor
        · rintro ⟨z1, z2⟩; exact ⟨by omega, fun q hq => (gM.2.1.2.2.2 q hq).trans ((z2 q hq).trans (eM.2.1.2.2.2 q (by omega)).symm)⟩
        · rintro ⟨z1, z2⟩; exact ⟨by omega, fun q hq => (gM.2.1.2.2.2 q hq).symm.trans ((z2 q hq).trans (eM.2.1.2.2.2 q (by omega)))⟩
      refine wa_cv 162 rfl (wy_pr rfl) wt_162 (M2 := fun _ => False) rfl at_XO_haveSameTypes ⟨_, rfl⟩ rfl rfl ⟨(Or.inr ⟨wy_pr rfl, fun q => q⟩), trivial, trivial, trivial⟩ trivial (fun _ _ q => False.elim q) (st_162 (S := S) (x := (acc.getD i 0)) (y := m) (N := (hmR ms (acc.getD i 0)).2.2.2.2.1.length) hC ⟨by omega, by omega⟩ ⟨by omega, by omega⟩ ⟨g4, gl⟩) (fun oq4 Sq4 hp5 q4 => ?_)
      rcases q4 with ⟨rfl, ⟨rfl, hs1⟩ | ⟨rfl, hs1⟩⟩
      · skip
        show wJ _ _ _ _ _ _ _ _ _ _
        replace hs1 := hsl.mpr hs1
        refine wa_ifeq (w_rg0 (by omega) (by omega)) ⟨_, rfl⟩ (fun c6 => ?_) (fun c6 => ?_)
        · skip
          exact absurd c6 (by omega)
        · skip
          refine wa_iconst ?_
          refine wa_zreturn rfl (Or.inr rfl) ?_
          refine ⟨rfl, congrArg (fun z => Sum.inl (some (0, z))) ?_⟩
          exact (bI_t (hid_t (i := i) (by omega) hs1)).symm
      · skip
        show wJ _ _ _ _ _ _ _ _ _ _
        replace hs1 := fun z => hs1 (hsl.mp z)
        refine wa_ifeq (w_rg0 (by omega) (by omega)) ⟨_, rfl⟩ (fun c7 => ?_) (fun c7 => ?_)
        · skip
          refine wa_iinc rfl rfl ?_
          refine wa_goto ⟨_, rfl⟩ ?_
          refine wJ_S (ih (i + 1) (by omega) (by omega) (fun k hk1 => ?_)) ⟨rfl, rfl, rfl, trivial⟩
          by_cases hkq : k = i
          · rw [hkq]; exact hs1
          · exact hk k (by omega)
        · skip
          exact absurd c7 (by omega)
theorem hid_162 {m : Int} {acc : List Int} (hC : w_CL S) (hK : KC 176 186 182 203 204 163 162 T cs ms os S) (hw : wHo cs ms os) (hm : 0 ≤ m ∧ m < (ms.length : Int)) (hn10 : S 162 10 = (acc.length : Int)) (hal : (acc.length : Int) ≤ S 209 (-1) ∧ S 209 (-1) ≤ 100000) (hac : ∀ i : Nat, i < acc.length → S 209 (i : Int) = acc.getD i 0 ∧ 0 ≤ acc.getD i 0 ∧ acc.getD i 0 < (ms.length : Int)) : wJ (pe_GA xs) wY0 M (d + 1) t_XO_isHidden ((pe_at t_XO_isHidden.bl 0).getD (0, [])).2 [(0, (2, 162)), (1, (0, m))] [] S (fun z Z => S = Z ∧ z = .inl (some (0, bI (hidM ms acc m)))) := by
  refine wa_iconst ?_
  refine wa_istore_n (n := 2) rfl ?_
  refine wa_fall ⟨_, rfl⟩ ?_
  exact wJ_S (hil_162 hC hK hw hm hn10 hal hac (acc.length + 1) 0 (by omega) (by omega) (fun k hk => absurd hk (Nat.not_lt_zero _))) ⟨rfl, rfl, rfl, trivial⟩
theorem pmi_162 {k word st up e : Int} {i : Nat} {W r : List Int} (hC : w_CL S) (hK : KC 176 186 182 203 204 163 162 T cs ms os S) (hw : wHo cs ms os) (hk : 0 ≤ k ∧ k < (cs.length : Int)) (hwd : wdM 186 T ms S 1 word W) (hwr : -1 ≤ word ∧ word ≤ 1000000) (hst : st = 0 ∨ st = 1) (he : e ≤ (ms.length : Int)) (hi : i < 60) (hnx : wJ (pe_GA xs) wY0 M d t_XO_plainMethod ((pe_at t_XO_plainMethod.bl 1).getD (0, [])).2 [(0, (2, 162)), (1, (0, k)), (2, (0, word)), (3, (0, st)), (4, (0, ((i + 1 : Nat) : Int)))] [] S (fun z Z => S = Z ∧ z = .inl (some (0, fsA (okM T ms 1 st 0 W) r)))) : ∀ (n : Nat) (m : Int), m + (n : Int) = e → 0 ≤ m → wJ (pe_GA xs) wY0 M d t_XO_plainMethod ((pe_at t_XO_plainMethod.bl 2).getD (0, [])).2 [(0, (2, 162)), (1, (0, k)), (2, (0, word)), (3, (0, st)), (4, (0, (i : Int))), (5, (0, up)), (6, (0, e)), (7, (0, m))] [] S (fun z Z => S = Z ∧ z = .inl (some (0, fsA (okM T ms 1 st 0 W) (ivl m n ++ r)))) := by
  have hn := KC_n hK
  have hn2 := hn.2.2
  intro n
  induction n with
  | zero =>
    intro m hme hm0
    refine wa_iload (n := 7) rfl ?_
    refine wa_iload (n := 6) rfl ?_
    refine wa_icmpge (w_rg0 (by omega) (by omega)) (w_rg0 (by omega) (by omega)) ⟨_, rfl⟩ (fun c1 => ?_) (fun c1 => ?_)
    · skip
      refine wa_iinc rfl rfl ?_
      refine wa_goto ⟨_, rfl⟩ ?_
      exact wJ_S hnx ⟨rfl, rfl, rfl, rfl, rfl, trivial⟩
    · skip
      exfalso; omega
  | succ n ih =>
    intro m hme hm0
    rw [ivl_s]
    have eM := KC_m hK (m := m) (by omega) (by omega)
    have eW := hw.2.2.2 m (by omega) (by omega)
    have e1 : S 187 m = (hmR ms m).2.1 := eM.1.2.1
    have e2 : S 188 m = (hmR ms m).2.2.1 := eM.1.2.2.1
    have e3 : S 189 m = (hmR ms m).2.2.2.1 := eM.1.2.2.2
    have e4 : S 190 m = ((hmR ms m).2.2.2.2.1.length : Int) := eM.2.1.1
    have e5 : S 191 m = (hmR ms m).2.2.2.2.2.1 := eM.2.1.2.1
    have eq := eW.1.2.1
    have es := eW.1.2.2.1
    have ey := eW.1.2.2.2
    have ev := eW.2.1
    have el := eW.2.2.1
    have ewd : (hmR ms m).2.1 = 1 → (S 200 m = word ↔ nmR T (hmR ms m) = W) := hwd m hm0 (by omega)
    have e14 : -1 ≤ S 200 m ∧ S 200 m ≤ 2147483647 ∨ True := Or.inr trivial
    refine wa_iload (n := 7) rfl ?_
    refine wa_iload (n := 6) rfl ?_
    refine wa_icmpge (w_rg0 (by omega) (by omega)) (w_rg0 (by omega) (by omega)) ⟨_, rfl⟩ (fun c51 => ?_) (fun c51 => ?_)
    · skip
      exfalso; omega
    · skip
      refine wa_aload_n (n := 0) rfl ?_
      refine wb_gf4 162 rfl (wy_pr rfl) wt_162 wf_3_3 (v := 185) wl_162_3 ?_
      refine wa_iconst ?_
      refine wb_aald5 185 1 rfl rfl (wy_pr rfl) wt_185 (by rw [show _ = _ from ((cl_185 hC))]; omega) wl_185_1 ?_
      refine wa_iload (n := 7) rfl ?_
      refine wb_iald 187 rfl (wy_pr rfl) wt_187 (n := 400) ((cl_187 hC)) (by omega) (by omega) (v := (hmR ms m).2.1) (e1) (fun r52 => ?_)
      refine wa_iconst ?_
      refine wa_icmpne (w_rg0 (by omega) (by omega)) (w_rg0 (by omega) (by omega)) ⟨_, rfl⟩ (fun c53 => ?_) (fun c53 => ?_)
      · skip
        refine wa_iinc rfl rfl ?_
        refine wa_goto ⟨_, rfl⟩ ?_
        have hno : okM T ms 1 st 0 W m = false := decide_eq_false (fun z => by have z1 := z.1; have z2 := z.2.1; have z3 := z.2.2.1; have z4 := (ewd z1).mpr z.2.2.2; omega)
        rw [List.cons_append, fsA_q hno]
        exact wJ_S (ih (m + 1) (by omega) (by omega)) ⟨rfl, rfl, rfl, rfl, rfl, rfl, rfl, rfl, trivial⟩
      · skip
        refine wa_aload_n (n := 0) rfl ?_
        refine wb_gf4 162 rfl (wy_pr rfl) wt_162 wf_3_3 (v := 185) wl_162_3 ?_
        refine wa_bipush (w_rg2 (by omega) (by omega)) ?_
        refine wb_aald5 185 14 rfl rfl (wy_pr rfl) wt_185 (by rw [show _ = _ from ((cl_185 hC))]; omega) wl_185_14 ?_
        refine wa_iload (n := 7) rfl ?_
        refine wb_iald 200 rfl (wy_pr rfl) wt_200 (n := 400) ((cl_200 hC)) (by omega) (by omega) (v := (S 200 m)) rfl (fun r54 => ?_)
        refine wa_iload_n (n := 2) rfl ?_
        refine wa_icmpne (w_rg0 (by omega) (by omega)) (w_rg0 (by omega) (by omega)) ⟨_, rfl⟩ (fun c55 => ?_) (fun c55 => ?_)
        · skip
          refine wa_iinc rfl rfl ?_
          refine wa_goto ⟨_, rfl⟩ ?_
          have hno : okM T ms 1 st 0 W m = false := decide_eq_false (fun z => by have z1 := z.1; have z2 := z.2.1; have z3 := z.2.2.1; have z4 := (ewd z1).mpr z.2.2.2; omega)
          rw [List.cons_append, fsA_q hno]
          exact wJ_S (ih (m + 1) (by omega) (by omega)) ⟨rfl, rfl, rfl, rfl, rfl, rfl, rfl, rfl, trivial⟩
        · skip
          refine wa_aload_n (n := 0) rfl ?_
          refine wb_gf4 162 rfl (wy_pr rfl) wt_162 wf_3_3 (v := 185) wl_162_3 ?_
          refine wa_iconst ?_
          refine wb_aald5 185 4 rfl rfl (wy_pr rfl) wt_185 (by rw [show _ = _ from ((cl_185 hC))]; omega) wl_185_4 ?_
          refine wa_iload (n := 7) rfl ?_
          refine wb_iald 190 rfl (wy_pr rfl) wt_190 (n := 400) ((cl_190 hC)) (by omega) (by omega) (v := ((hmR ms m).2.2.2.2.1.length : Int)) (e4) (fun r56 => ?_)
          refine wa_ifne (w_rg0 (by omega) (by omega)) ⟨_, rfl⟩ (fun c57 => ?_) (fun c57 => ?_)
          · skip
            refine wa_iinc rfl rfl ?_
            refine wa_goto ⟨_, rfl⟩ ?_
            have hno : okM T ms 1 st 0 W m = false := decide_eq_false (fun z => by have z1 := z.1; have z2 := z.2.1; have z3 := z.2.2.1; have z4 := (ewd z1).mpr z.2.2.2; omega)
            rw [List.cons_append, fsA_q hno]
            exact wJ_S (ih (m + 1) (by omega) (by omega)) ⟨rfl, rfl, rfl, rfl, rfl, rfl, rfl, rfl, trivial⟩
          · skip
            refine wa_aload_n (n := 0) rfl ?_
            refine wb_gf4 162 rfl (wy_pr rfl) wt_162 wf_3_3 (v := 185) wl_162_3 ?_
            refine wa_iconst ?_
            refine wb_aald5 185 2 rfl rfl (wy_pr rfl) wt_185 (by rw [show _ = _ from ((cl_185 hC))]; omega) wl_185_2 ?_
            refine wa_iload (n := 7) rfl ?_
            refine wb_iald 188 rfl (wy_pr rfl) wt_188 (n := 400) ((cl_188 hC)) (by omega) (by omega) (v := (hmR ms m).2.2.1) (e2) (fun r58 => ?_)
            refine wa_iload_n (n := 3) rfl ?_
            refine wa_icmpne (w_rg0 (by omega) (by omega)) (w_rg0 (by omega) (by omega)) ⟨_, rfl⟩ (fun c59 => ?_) (fun c59 => ?_)
            · skip
              refine wa_iinc rfl rfl ?_
              refine wa_goto ⟨_, rfl⟩ ?_
              have hno : okM T ms 1 st 0 W m = false := decide_eq_false (fun z => by have z1 := z.1; have z2 := z.2.1; have z3 := z.2.2.1; have z4 := (ewd z1).mpr z.2.2.2; omega)
              rw [List.cons_append, fsA_q hno]
              exact wJ_S (ih (m + 1) (by omega) (by omega)) ⟨rfl, rfl, rfl, rfl, rfl, rfl, rfl, rfl, trivial⟩
            · skip
              refine wa_iload (n := 7) rfl ?_
              refine wa_ireturn rfl ?_
              have hyes : okM T ms 1 st 0 W m = true := decide_eq_true ⟨by omega, by omega, Or.inr (by omega), (ewd (by omega)).mp (by omega)⟩
              rw [List.cons_append, fsA_p hyes]
              exact ⟨rfl, rfl⟩
theorem pmo_162 {k word st : Int} {W : List Int} (hC : w_CL S) (hK : KC 176 186 182 203 204 163 162 T cs ms os S) (hw : wHo cs ms os) (hk : 0 ≤ k ∧ k < (cs.length : Int)) (hwd : wdM 186 T ms S 1 word W) (hwr : -1 ≤ word ∧ word ≤ 1000000) (hst : st = 0 ∨ st = 1) : ∀ (n i : Nat), i + n = (os k).length → wJ (pe_GA xs) wY0 M d t_XO_plainMethod ((pe_at t_XO_plainMethod.bl 1).getD (0, [])).2 [(0, (2, 162)), (1, (0, k)), (2, (0, word)), (3, (0, st)), (4, (0, (i : Int)))] [] S (fun z Z => S = Z ∧ z = .inl (some (0, fsA (okM T ms 1 st 0 W) (mOr cs ((os k).drop i))))) := by
  have hn := KC_n hK
  have hn2 := hn.2.2
  have hO := KC_o hK hk.1 hk.2
  have hO6 : S 182 k = ((os k).length : Int) := hO.1
  have hon := hw.2.2.1 k hk.1 hk.2
  have hol : (os k).length ≤ 60 := by have := su_nd_len (by decide) hO.2.1; omega
  intro n
  induction n with
  | zero =>
    intro i hin
    rw [List.drop_of_length_le (by omega), mOr_n]
    refine wa_iload (n := 4) rfl ?_
    refine wa_aload_n (n := 0) rfl ?_
    refine wb_gf4 162 rfl (wy_pr rfl) wt_162 wf_3_1 (v := 175) wl_162_1 ?_
    refine wa_bipush (w_rg2 (by omega) (by omega)) ?_
    refine wb_aald5 175 6 rfl rfl (wy_pr rfl) wt_175 (by rw [show _ = _ from ((cl_175 hC))]; omega) wl_175_6 ?_
    refine wa_iload_n (n := 1) rfl ?_
    refine wb_iald 182 rfl (wy_pr rfl) wt_182 (n := 60) ((cl_182 hC)) (by omega) (by omega) (v := ((os k).length : Int)) (hO6) (fun r1 => ?_)
    refine wa_icmpge (w_rg0 (by omega) (by omega)) (w_rg0 (by omega) (by omega)) ⟨_, rfl⟩ (fun c2 => ?_) (fun c2 => ?_)
    · skip
      refine wa_iconst ?_
      refine wa_ireturn rfl ?_
      exact ⟨rfl, rfl⟩
    · skip
      exfalso; omega
  | succ n ih =>
    intro i hin
    obtain ⟨u, hu⟩ : ∃ u : Int, u = (os k).getD i 0 := ⟨_, rfl⟩
    have hil : i < (os k).length := by omega
    have hu2 : (os k)[i] = u := by rw [hu, List.getD_eq_getElem?_getD, List.getElem?_eq_getElem hil]; rfl
    have hum := hon.2.2 u (by rw [← hu2]; exact List.getElem_mem hil)
    have huo : S 203 ((k * 60) + (i : Int)) = u := by rw [hu, ← hO.2.2.1 i hil, show k * 60 + (i : Int) = 60 * k + (i : Int) by omega]
    have hcu := hw.2.1 u hum.1 hum.2
    have htr := KC_c hK hum.1 hum.2
    have ht3 : S 179 u = (hcR cs u).2.2.2.2.2.2.2 := htr.2.2.2.1
    have ht4 : S 180 u = (hcR cs u).2.2.2.2.2.2.1 := htr.2.2.2.2
    have hcu1 := hcu.2.1
    rw [List.drop_eq_getElem_cons hil, hu2, mOr_c]
    have hnx := ih (i + 1) (by omega)
    refine wa_iload (n := 4) rfl ?_
    refine wa_aload_n (n := 0) rfl ?_
    refine wb_gf4 162 rfl (wy_pr rfl) wt_162 wf_3_1 (v := 175) wl_162_1 ?_
    refine wa_bipush (w_rg2 (by omega) (by omega)) ?_
    refine wb_aald5 175 6 rfl rfl (wy_pr rfl) wt_175 (by rw [show _ = _ from ((cl_175 hC))]; omega) wl_175_6 ?_
    refine wa_iload_n (n := 1) rfl ?_
    refine wb_iald 182 rfl (wy_pr rfl) wt_182 (n := 60) ((cl_182 hC)) (by omega) (by omega) (v := ((os k).length : Int)) (hO6) (fun r51 => ?_)
    refine wa_icmpge (w_rg0 (by omega) (by omega)) (w_rg0 (by omega) (by omega)) ⟨_, rfl⟩ (fun c52 => ?_) (fun c52 => ?_)
    · skip
      exfalso; omega
    · skip
      refine wa_aload_n (n := 0) rfl ?_
      refine wb_gf4 162 rfl (wy_pr rfl) wt_162 wf_3_5 (v := 203) wl_162_5 ?_
      refine wa_iload_n (n := 1) rfl ?_
      refine wa_bipush (w_rg2 (by omega) (by omega)) ?_
      refine wa_imul ?_
      refine wa_iload (n := 4) rfl ?_
      refine wa_iadd ?_
      refine wb_iald 203 rfl (wy_pr rfl) wt_203 (n := 3600) ((cl_203 hC)) (by omega) (by omega) (v := u) (huo) (fun r53 => ?_)
      refine wa_istore (n := 5) rfl ?_
      refine wa_aload_n (n := 0) rfl ?_
      refine wb_gf4 162 rfl (wy_pr rfl) wt_162 wf_3_1 (v := 175) wl_162_1 ?_
      refine wa_iconst ?_
      refine wb_aald5 175 4 rfl rfl (wy_pr rfl) wt_175 (by rw [show _ = _ from ((cl_175 hC))]; omega) wl_175_4 ?_
      refine wa_iload (n := 5) rfl ?_
      refine wb_iald 180 rfl (wy_pr rfl) wt_180 (n := 60) ((cl_180 hC)) (by omega) (by omega) (v := (hcR cs u).2.2.2.2.2.2.1) (ht4) (fun r54 => ?_)
      refine wa_aload_n (n := 0) rfl ?_
      refine wb_gf4 162 rfl (wy_pr rfl) wt_162 wf_3_1 (v := 175) wl_162_1 ?_
      refine wa_iconst ?_
      refine wb_aald5 175 3 rfl rfl (wy_pr rfl) wt_175 (by rw [show _ = _ from ((cl_175 hC))]; omega) wl_175_3 ?_
      refine wa_iload (n := 5) rfl ?_
      refine wb_iald 179 rfl (wy_pr rfl) wt_179 (n := 60) ((cl_179 hC)) (by omega) (by omega) (v := (hcR cs u).2.2.2.2.2.2.2) (ht3) (fun r55 => ?_)
      refine wa_iadd ?_
      refine wa_istore (n := 6) rfl ?_
      refine wa_aload_n (n := 0) rfl ?_
      refine wb_gf4 162 rfl (wy_pr rfl) wt_162 wf_3_1 (v := 175) wl_162_1 ?_
      refine wa_iconst ?_
      refine wb_aald5 175 4 rfl rfl (wy_pr rfl) wt_175 (by rw [show _ = _ from ((cl_175 hC))]; omega) wl_175_4 ?_
      refine wa_iload (n := 5) rfl ?_
      refine wb_iald 180 rfl (wy_pr rfl) wt_180 (n := 60) ((cl_180 hC)) (by omega) (by omega) (v := (hcR cs u).2.2.2.2.2.2.1) (ht4) (fun r56 => ?_)
      refine wa_istore (n := 7) rfl ?_
      refine wa_fall ⟨_, rfl⟩ ?_
      exact wJ_S (pmi_162 (up := u) hC hK hw hk hwd hwr hst (by omega) (by omega) hnx ((hcR cs u).2.2.2.2.2.2.2.toNat) ((hcR cs u).2.2.2.2.2.2.1) (by omega) (by omega)) ⟨rfl, rfl, rfl, rfl, rfl, rfl, rfl, rfl, trivial⟩
theorem pme_162 {k word st : Int} {W : List Int} (hC : w_CL S) (hK : KC 176 186 182 203 204 163 162 T cs ms os S) (hw : wHo cs ms os) (hk : 0 ≤ k ∧ k < (cs.length : Int)) (hwd : wdM 186 T ms S 1 word W) (hwr : -1 ≤ word ∧ word ≤ 1000000) (hst : st = 0 ∨ st = 1) : wJ (pe_GA xs) wY0 M d t_XO_plainMethod ((pe_at t_XO_plainMethod.bl 0).getD (0, [])).2 [(0, (2, 162)), (1, (0, k)), (2, (0, word)), (3, (0, st))] [] S (fun z Z => S = Z ∧ z = .inl (some (0, fsA (okM T ms 1 st 0 W) (mOr cs (os k))))) := by
  refine wa_iconst ?_
  refine wa_istore (n := 4) rfl ?_
  refine wa_fall ⟨_, rfl⟩ ?_
  exact wJ_S (pmo_162 hC hK hw hk hwd hwr hst (os k).length 0 (by omega)) ⟨rfl, rfl, rfl, rfl, rfl, trivial⟩
end Wh4
