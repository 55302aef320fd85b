/-! PART hc: the reference's host: subtypes, fitting, names that are wanted. -/
section Whc
variable {xs : List (Nat × List Int32)} {M : Nat → Prop} {d : Nat} {S Z A : wS} {T : Int → Int} {n : Int} {cs : List hCR} {ms : List hMR} {os : Int → List Int} {Q : wO → wS → Prop}
/-- the reference's host b holds these classes and members; T, n: its text -/
def KR (b : Nat) (T : Int → Int) (n : Int) (cs : List hCR) (ms : List hMR) (S : wS) : Prop := S 237 13 = (b : Int) ∧ (S b 1 = (cs.length : Int) ∧ S b 11 = (ms.length : Int) ∧ cs.length ≤ 60 ∧ ms.length ≤ 400) ∧ hc_all b S cs ∧ hr_all b S ms ∧ (∀ i : Int, 0 ≤ i → i < n → S (b + 1) i = T i) ∧ (0 ≤ n ∧ n ≤ 65536) ∧ (∀ m : Int, 0 ≤ m → m < (ms.length : Int) → 0 ≤ (hmR ms m).2.2.2.2.2.2.1 ∧ (hmR ms m).2.2.2.2.2.2.1 ≤ (hmR ms m).2.2.2.2.2.2.2 ∧ (hmR ms m).2.2.2.2.2.2.2 ≤ n ∧ (hmR ms m).2.2.2.2.2.2.2 - (hmR ms m).2.2.2.2.2.2.1 ≤ 60) ∧ ∀ k : Int, 0 ≤ k → k < (cs.length : Int) → 0 ≤ (hcR cs k).2.1 ∧ (hcR cs k).2.1 ≤ (hcR cs k).2.2.1 ∧ (hcR cs k).2.2.1 ≤ n ∧ (hcR cs k).2.2.1 - (hcR cs k).2.1 ≤ 60
theorem KR_m {b : Nat} {m : Int} (h : KR b T n cs ms S) (h0 : 0 ≤ m) (h1 : m < (ms.length : Int)) : hr_at b m S (hmR ms m) := by
  have z := h.2.2.2.1 m.toNat _ (hmR_i h0 h1)
  rw [show ((m.toNat : Nat) : Int) = m by omega] at z
  exact z
theorem KR_c {b : Nat} {k : Int} (h : KR b T n cs ms S) (h0 : 0 ≤ k) (h1 : k < (cs.length : Int)) : hc_at b k S (hcR cs k) := by
  have z := h.2.2.1 k.toNat _ (hcR_i h0 h1)
  rw [show ((k.toNat : Nat) : Int) = k by omega] at z
  exact z
theorem KR_ag {b : Nat} (h : KR b T n cs ms S) (f : ∀ (j : Nat) (x : Int), ((b ≤ j ∧ j ≤ b + 19) ∨ (j = 237 ∧ x = 13)) → Z j x = S j x) : KR b T n cs ms Z := by
  obtain ⟨h1, ⟨h2, h3, h4⟩, h5, h6, h7, h8⟩ := h
  exact ⟨(f 237 13 (by omega)).trans h1, ⟨(f b 1 (by omega)).trans h2, (f b 11 (by omega)).trans h3, h4⟩, hc_all_ag h5 (fun j j0 j1 => funext (fun x => f j x (by omega))), hr_all_ag h6 (fun j j0 j1 => funext (fun x => f j x (by omega))), fun i i0 i1 => (f (b + 1) i (by omega)).trans (h7 i i0 i1), h8⟩
theorem gT_up {f q : Int} (h : gTB cs f q false = true) : gTB cs f q true = true := by
  unfold gTB at h ⊢
  split at h
  · next c => rw [if_pos c]; exact h
  · exact absurd h (fun z => by rw [Bool.false_and] at z; exact absurd z Bool.false_ne_true)
theorem gT_dn {f q : Int} (h : gTB cs f q false = false) (h2 : ¬ ((f = 4 ∧ (q = 1 ∨ q = 2)) ∨ (f = 5 ∧ q = 2) ∨ (f = 6 ∧ q = 3))) : bI (gTB cs f q true) = 0 := bI_f (by
  unfold gTB at h ⊢
  split at h
  · next c => rw [if_pos c]; exact h
  · next c => rw [if_neg c, decide_eq_false h2]; rfl)
theorem alN_s {p : Nat → Bool} {i : Nat} (h : alN i p = true) : alN (i + 1) p = p i := by
  unfold alN at h ⊢
  rw [List.range_succ, List.all_append, h, Bool.true_and]
  exact Bool.and_true _
theorem alN_lt {p : Nat → Bool} {i n : Nat} (hi : i ≤ n) (h : alN i p = false) : alN n p = false := by
  rw [Bool.eq_false_iff] at h ⊢
  exact fun z => h (alN_t.mpr (fun k hk => alN_t.mp z k (by omega)))
/-- the types of the ES -/
def tEs (tl : List Int) (S : wS) : Prop := S 237 122 = (tl.length : Int) ∧ (∀ i : Nat, i < tl.length → S 352 (i : Int) = tl.getD i 0) ∧ tl.length ≤ 8
/-- the name that is wanted -/
def wtI (WW : List Int) (S : wS) : Prop := S 237 126 = (WW.length : Int) ∧ (∀ i : Nat, i < WW.length → S 354 (i : Int) = WW.getD i 0) ∧ WW.length ≤ 64
theorem rsb_241 {a o : Int} (hM : w_ML S) (hK : KR 241 T n cs ms S) (hw : wHo cs ms os) (ha : 1 ≤ a ∧ a < 9 + (cs.length : Int)) (ho : 1 ≤ o ∧ o < 9 + (cs.length : Int)) : wJ (pe_GA xs) wY0 M d t_MO_isSub ((pe_at t_MO_isSub.bl 0).getD (0, [])).2 [(0, (2, 241)), (1, (0, a)), (2, (0, o))] [] S (fun z Z => S = Z ∧ z = .inl (some (0, bI (sbB cs a o)))) := by
  have h13 : S 237 13 = 241 := hK.1
  have hn := hK.2.1
  have hn2 := hn.2.2
  have hb2 : 9 ≤ a → 9 ≤ o → wb_land (wb_lushr (S 247 (a - 9)) (o - 9)) 1 = if bb ((hcR cs (a - 9)).2.2.2.2.2.1) (o - 9).toNat = true then 1 else 0 := fun h1 h2 => by rw [bb_sh (by omega), (KR_c hK (k := a - 9) (by omega) (by omega)).2.2.2.1.2.2.1]
  refine wa_iload_n (n := 1) rfl ?_
  refine wa_ifeq (w_rg0 (by omega) (by omega)) ⟨_, rfl⟩ (fun c1 => ?_) (fun c1 => ?_)
  · skip
    refine wa_iconst ?_
    refine wa_zreturn rfl (Or.inl rfl) ?_
    refine ⟨rfl, congrArg (fun z => Sum.inl (some (0, z))) (sb_0 ?_).symm⟩
    rintro (q | q | q | q)
    · omega
    · omega
    · omega
    · first | omega | (rw [if_pos q.2.2.2] at hb3; omega)
  · skip
    refine wa_iload_n (n := 2) rfl ?_
    refine wa_ifne (w_rg0 (by omega) (by omega)) ⟨_, rfl⟩ (fun c2 => ?_) (fun c2 => ?_)
    · skip
      refine wa_iload_n (n := 1) rfl ?_
      refine wa_iload_n (n := 2) rfl ?_
      refine wa_icmpeq (w_rg0 (by omega) (by omega)) (w_rg0 (by omega) (by omega)) ⟨_, rfl⟩ (fun c3 => ?_) (fun c3 => ?_)
      · skip
        refine wa_iconst ?_
        refine wa_zreturn rfl (Or.inr rfl) ?_
        refine ⟨rfl, congrArg (fun z => Sum.inl (some (0, z))) (sb_1 ?_).symm⟩
        first | exact Or.inl (by omega) | exact Or.inr (Or.inl ⟨by omega, by omega⟩) | exact Or.inr (Or.inr (Or.inl ⟨by omega, by omega⟩)) | (refine Or.inr (Or.inr (Or.inr ⟨by omega, by omega, by omega, ?_⟩)); split at hb3 <;> rename_i hbq <;> first | exact hbq | omega)
      · skip
        refine wa_iload_n (n := 1) rfl ?_
        refine wa_iconst ?_
        refine wa_icmpne (w_rg0 (by omega) (by omega)) (w_rg0 (by omega) (by omega)) ⟨_, rfl⟩ (fun c4 => ?_) (fun c4 => ?_)
        · skip
          refine wa_iload_n (n := 2) rfl ?_
          refine wa_bipush (w_rg2 (by omega) (by omega)) ?_
          refine wa_icmpne (w_rg0 (by omega) (by omega)) (w_rg0 (by omega) (by omega)) ⟨_, rfl⟩ (fun c5 => ?_) (fun c5 => ?_)
          · skip
            refine wa_iload_n (n := 1) rfl ?_
            refine wa_bipush (w_rg2 (by omega) (by omega)) ?_
            refine wa_icmplt (w_rg0 (by omega) (by omega)) (w_rg0 (by omega) (by omega)) ⟨_, rfl⟩ (fun c6 => ?_) (fun c6 => ?_)
            · skip
              refine wa_iconst ?_
              refine wa_fall ⟨_, rfl⟩ ?_
              refine wa_zreturn rfl (Or.inl rfl) ?_
              refine ⟨rfl, congrArg (fun z => Sum.inl (some (0, z))) (sb_0 ?_).symm⟩
              rintro (q | q | q | q)
              · omega
              · omega
              · omega
              · first | omega | (rw [if_pos q.2.2.2] at hb3; omega)
            · skip
              refine wa_iload_n (n := 2) rfl ?_
              refine wa_bipush (w_rg2 (by omega) (by omega)) ?_
              refine wa_icmplt (w_rg0 (by omega) (by omega)) (w_rg0 (by omega) (by omega)) ⟨_, rfl⟩ (fun c7 => ?_) (fun c7 => ?_)
              · skip
                refine wa_iconst ?_
                refine wa_fall ⟨_, rfl⟩ ?_
                refine wa_zreturn rfl (Or.inl rfl) ?_
                refine ⟨rfl, congrArg (fun z => Sum.inl (some (0, z))) (sb_0 ?_).symm⟩
                rintro (q | q | q | q)
                · omega
                · omega
                · omega
                · first | omega | (rw [if_pos q.2.2.2] at hb3; omega)
              · skip
                refine wa_aload_n (n := 0) rfl ?_
                refine wb_gf4 241 rfl (wy_pr rfl) wt_241 wf_12_6 (v := 247) wl_241_6 ?_
                refine wa_iload_n (n := 1) rfl ?_
                refine wa_bipush (w_rg2 (by omega) (by omega)) ?_
                refine wa_isub ?_
                refine wb_lald 247 rfl (wy_pr rfl) wt_247 (n := 60) ((ml_247 hM)) (by omega) (by omega) (v := (S 247 (a - 9))) rfl (fun r8 => ?_)
                refine wa_iload_n (n := 2) rfl ?_
                refine wa_bipush (w_rg2 (by omega) (by omega)) ?_
                refine wa_isub ?_
                refine wa_lushr ?_
                refine wb_lconst (m := 1) rfl ?_
                refine wa_land ?_
                refine wb_lconst (m := 1) rfl ?_
                have hb3 := hb2 (by omega) (by omega)
                have hbx : 0 ≤ wb_land (wb_lushr (S 247 (a - 9)) (o - 9)) 1 ∧ wb_land (wb_lushr (S 247 (a - 9)) (o - 9)) 1 ≤ 1 := by rw [hb3]; split <;> omega
                refine wa_lcmp (w_rg1 (by omega) (by omega)) (w_rg1 (by omega) (by omega)) ?_
                refine wa_ifne (by have := @wb_lcmp_cases; exact w_lcmp_rg) ⟨_, rfl⟩ (fun c9 => ?_) (fun c9 => ?_)
                · skip
                  have c9x := @wb_lcmp_cases (wb_land (wb_lushr (S 247 (a - 9)) (o - 9)) 1) 1
                  refine wa_iconst ?_
                  refine wa_fall ⟨_, rfl⟩ ?_
                  refine wa_zreturn rfl (Or.inl rfl) ?_
                  refine ⟨rfl, congrArg (fun z => Sum.inl (some (0, z))) (sb_0 ?_).symm⟩
                  rintro (q | q | q | q)
                  · omega
                  · omega
                  · omega
                  · first | omega | (rw [if_pos q.2.2.2] at hb3; omega)
                · skip
                  have c9x := @wb_lcmp_cases (wb_land (wb_lushr (S 247 (a - 9)) (o - 9)) 1) 1
                  refine wa_iconst ?_
                  refine wa_goto ⟨_, rfl⟩ ?_
                  refine wa_zreturn rfl (Or.inr rfl) ?_
                  refine ⟨rfl, congrArg (fun z => Sum.inl (some (0, z))) (sb_1 ?_).symm⟩
                  first | exact Or.inl (by omega) | exact Or.inr (Or.inl ⟨by omega, by omega⟩) | exact Or.inr (Or.inr (Or.inl ⟨by omega, by omega⟩)) | (refine Or.inr (Or.inr (Or.inr ⟨by omega, by omega, by omega, ?_⟩)); split at hb3 <;> rename_i hbq <;> first | exact hbq | omega)
          · skip
            refine wa_iload_n (n := 1) rfl ?_
            refine wa_iconst ?_
            refine wa_icmple (w_rg0 (by omega) (by omega)) (w_rg0 (by omega) (by omega)) ⟨_, rfl⟩ (fun c10 => ?_) (fun c10 => ?_)
            · skip
              refine wa_iconst ?_
              refine wa_fall ⟨_, rfl⟩ ?_
              refine wa_zreturn rfl (Or.inl rfl) ?_
              refine ⟨rfl, congrArg (fun z => Sum.inl (some (0, z))) (sb_0 ?_).symm⟩
              rintro (q | q | q | q)
              · omega
              · omega
              · omega
              · first | omega | (rw [if_pos q.2.2.2] at hb3; omega)
            · skip
              refine wa_iconst ?_
              refine wa_goto ⟨_, rfl⟩ ?_
              refine wa_zreturn rfl (Or.inr rfl) ?_
              refine ⟨rfl, congrArg (fun z => Sum.inl (some (0, z))) (sb_1 ?_).symm⟩
              first | exact Or.inl (by omega) | exact Or.inr (Or.inl ⟨by omega, by omega⟩) | exact Or.inr (Or.inr (Or.inl ⟨by omega, by omega⟩)) | (refine Or.inr (Or.inr (Or.inr ⟨by omega, by omega, by omega, ?_⟩)); split at hb3 <;> rename_i hbq <;> first | exact hbq | omega)
        · skip
          refine wa_iload_n (n := 2) rfl ?_
          refine wa_iconst ?_
          refine wa_icmpne (w_rg0 (by omega) (by omega)) (w_rg0 (by omega) (by omega)) ⟨_, rfl⟩ (fun c11 => ?_) (fun c11 => ?_)
          · skip
            refine wa_iload_n (n := 2) rfl ?_
            refine wa_bipush (w_rg2 (by omega) (by omega)) ?_
            refine wa_icmpne (w_rg0 (by omega) (by omega)) (w_rg0 (by omega) (by omega)) ⟨_, rfl⟩ (fun c12 => ?_) (fun c12 => ?_)
            · skip
              refine wa_iload_n (n := 1) rfl ?_
              refine wa_bipush (w_rg2 (by omega) (by omega)) ?_
              refine wa_icmplt (w_rg0 (by omega) (by omega)) (w_rg0 (by omega) (by omega)) ⟨_, rfl⟩ (fun c13 => ?_) (fun c13 => ?_)
              · skip
                refine wa_iconst ?_
                refine wa_fall ⟨_, rfl⟩ ?_
                refine wa_zreturn rfl (Or.inl rfl) ?_
                refine ⟨rfl, congrArg (fun z => Sum.inl (some (0, z))) (sb_0 ?_).symm⟩
                rintro (q | q | q | q)
                · omega
                · omega
                · omega
                · first | omega | (rw [if_pos q.2.2.2] at hb3; omega)
              · skip
                exact absurd c13 (by omega)
            · skip
              refine wa_iload_n (n := 1) rfl ?_
              refine wa_iconst ?_
              refine wa_icmple (w_rg0 (by omega) (by omega)) (w_rg0 (by omega) (by omega)) ⟨_, rfl⟩ (fun c14 => ?_) (fun c14 => ?_)
              · skip
                refine wa_iconst ?_
                refine wa_fall ⟨_, rfl⟩ ?_
                refine wa_zreturn rfl (Or.inl rfl) ?_
                refine ⟨rfl, congrArg (fun z => Sum.inl (some (0, z))) (sb_0 ?_).symm⟩
                rintro (q | q | q | q)
                · omega
                · omega
                · omega
                · first | omega | (rw [if_pos q.2.2.2] at hb3; omega)
              · skip
                exact absurd c14 (by omega)
          · skip
            refine wa_fall ⟨_, rfl⟩ ?_
            refine wa_iconst ?_
            refine wa_zreturn rfl (Or.inr rfl) ?_
            refine ⟨rfl, congrArg (fun z => Sum.inl (some (0, z))) (sb_1 ?_).symm⟩
            first | exact Or.inl (by omega) | exact Or.inr (Or.inl ⟨by omega, by omega⟩) | exact Or.inr (Or.inr (Or.inl ⟨by omega, by omega⟩)) | (refine Or.inr (Or.inr (Or.inr ⟨by omega, by omega, by omega, ?_⟩)); split at hb3 <;> rename_i hbq <;> first | exact hbq | omega)
    · skip
      refine wa_fall ⟨_, rfl⟩ ?_
      refine wa_iconst ?_
      refine wa_zreturn rfl (Or.inl rfl) ?_
      refine ⟨rfl, congrArg (fun z => Sum.inl (some (0, z))) (sb_0 ?_).symm⟩
      rintro (q | q | q | q)
      · omega
      · omega
      · omega
      · first | omega | (rw [if_pos q.2.2.2] at hb3; omega)
theorem rst_241 {f q : Int} (hM : w_ML S) (hK : KR 241 T n cs ms S) (hw : wHo cs ms os) (hf : 0 ≤ f ∧ f < 9 + (cs.length : Int)) (hq : 0 ≤ q ∧ q < 9 + (cs.length : Int)) : wJ (pe_GA xs) wY0 M (d + 1) t_M_strict ((pe_at t_M_strict.bl 0).getD (0, [])).2 [(0, (2, 237)), (1, (0, f)), (2, (0, q))] [] S (fun z Z => S = Z ∧ z = .inl (some (0, bI (gTB cs f q false)))) := by
  have h13 : S 237 13 = 241 := hK.1
  have hn := hK.2.1
  have hn2 := hn.2.2
  refine wa_iload_n (n := 2) rfl ?_
  refine wa_iconst ?_
  refine wa_icmple (w_rg0 (by omega) (by omega)) (w_rg0 (by omega) (by omega)) ⟨_, rfl⟩ (fun c1 => ?_) (fun c1 => ?_)
  · skip
    refine wa_iconst ?_
    refine wa_fall ⟨_, rfl⟩ ?_
    refine wa_zreturn rfl (Or.inl rfl) ?_
    refine ⟨rfl, congrArg (fun z => Sum.inl (some (0, z))) ?_⟩
    first | exact (gT_4 (by omega) (by omega) (by omega)).symm | exact (gT_5 (l := 0) (Or.inl ⟨rfl, rfl⟩) (by omega) (by omega)).symm | exact (gT_dn (bI_0 (by omega)) (by omega)).symm
  · skip
    refine wa_iload_n (n := 1) rfl ?_
    refine wa_ifeq (w_rg0 (by omega) (by omega)) ⟨_, rfl⟩ (fun c2 => ?_) (fun c2 => ?_)
    · skip
      refine wa_iconst ?_
      refine wa_goto ⟨_, rfl⟩ ?_
      refine wa_zreturn rfl (Or.inr rfl) ?_
      refine ⟨rfl, congrArg (fun z => Sum.inl (some (0, z))) ?_⟩
      first | exact (gT_1 (by omega) (by omega)).symm | exact (gT_2 (by omega) (by omega)).symm | exact (gT_3 (l := 0) (Or.inl ⟨rfl, rfl⟩) (by omega) (by omega) (by omega)).symm | exact (bI_t (gT_up (bI_1 (by omega)))).symm
    · skip
      refine wa_aload_n (n := 0) rfl ?_
      refine wb_gf5 237 rfl (wy_pr rfl) wt_237 wf_15_13 (v := 241) (h13) (fun r3 => ?_)
      refine wa_iload_n (n := 1) rfl ?_
      refine wa_iload_n (n := 2) rfl ?_
      refine wa_cv 241 rfl (wy_pr rfl) wt_241 (M2 := fun _ => False) rfl at_MO_isSub ⟨_, rfl⟩ rfl rfl ⟨(Or.inr ⟨wy_pr rfl, fun q => q⟩), trivial, trivial, trivial⟩ trivial (fun _ _ q => False.elim q) (rsb_241 (S := S) (a := f) (o := q) hM hK hw ⟨by omega, by omega⟩ ⟨by omega, by omega⟩) (fun oq4 Sq4 hp5 q4 => ?_)
      rcases q4 with ⟨rfl, rfl⟩
      show wJ _ _ _ _ _ _ _ _ _ _
      have hbr3 := bI_rg (sbB cs f q)
      refine wa_ifeq (w_rg0 (by omega) (by omega)) ⟨_, rfl⟩ (fun c6 => ?_) (fun c6 => ?_)
      · skip
        refine wa_iconst ?_
        refine wa_fall ⟨_, rfl⟩ ?_
        refine wa_zreturn rfl (Or.inl rfl) ?_
        refine ⟨rfl, congrArg (fun z => Sum.inl (some (0, z))) ?_⟩
        first | exact (gT_4 (by omega) (by omega) (by omega)).symm | exact (gT_5 (l := 0) (Or.inl ⟨rfl, rfl⟩) (by omega) (by omega)).symm | exact (gT_dn (bI_0 (by omega)) (by omega)).symm
      · skip
        refine wa_fall ⟨_, rfl⟩ ?_
        refine wa_iconst ?_
        refine wa_goto ⟨_, rfl⟩ ?_
        refine wa_zreturn rfl (Or.inr rfl) ?_
        refine ⟨rfl, congrArg (fun z => Sum.inl (some (0, z))) ?_⟩
        first | exact (gT_1 (by omega) (by omega)).symm | exact (gT_2 (by omega) (by omega)).symm | exact (gT_3 (l := 0) (Or.inl ⟨rfl, rfl⟩) (by omega) (by omega) (by omega)).symm | exact (bI_t (gT_up (bI_1 (by omega)))).symm
theorem rlo_241 {f q : Int} (hM : w_ML S) (hK : KR 241 T n cs ms S) (hw : wHo cs ms os) (hf : 0 ≤ f ∧ f < 9 + (cs.length : Int)) (hq : 0 ≤ q ∧ q < 9 + (cs.length : Int)) : wJ (pe_GA xs) wY0 M (d + 2) t_M_loose ((pe_at t_M_loose.bl 0).getD (0, [])).2 [(0, (2, 237)), (1, (0, f)), (2, (0, q))] [] S (fun z Z => S = Z ∧ z = .inl (some (0, bI (gTB cs f q true)))) := by
  have h13 : S 237 13 = 241 := hK.1
  have hn := hK.2.1
  have hn2 := hn.2.2
  refine wa_aload_n (n := 0) rfl ?_
  refine wa_iload_n (n := 1) rfl ?_
  refine wa_iload_n (n := 2) rfl ?_
  refine wa_cv 237 rfl (wy_pr rfl) wt_237 (M2 := fun _ => False) rfl at_M_strict ⟨_, rfl⟩ rfl rfl ⟨(Or.inr ⟨wy_pr rfl, fun q => q⟩), trivial, trivial, trivial⟩ trivial (fun _ _ q => False.elim q) (rst_241 (S := S) (f := f) (q := q) hM hK hw hf hq) (fun oq1 Sq1 hp2 q1 => ?_)
  rcases q1 with ⟨rfl, rfl⟩
  show wJ _ _ _ _ _ _ _ _ _ _
  have hbs := bI_rg (gTB cs f q false)
  refine wa_ifne (w_rg0 (by omega) (by omega)) ⟨_, rfl⟩ (fun c3 => ?_) (fun c3 => ?_)
  · skip
    refine wa_iconst ?_
    refine wa_goto ⟨_, rfl⟩ ?_
    refine wa_zreturn rfl (Or.inr rfl) ?_
    refine ⟨rfl, congrArg (fun z => Sum.inl (some (0, z))) ?_⟩
    first | exact (gT_1 (by omega) (by omega)).symm | exact (gT_2 (by omega) (by omega)).symm | exact (gT_3 (l := 1) (Or.inr ⟨rfl, rfl⟩) (by omega) (by omega) (by omega)).symm | exact (bI_t (gT_up (bI_1 (by omega)))).symm
  · skip
    refine wa_iload_n (n := 1) rfl ?_
    refine wa_iconst ?_
    refine wa_icmpne (w_rg0 (by omega) (by omega)) (w_rg0 (by omega) (by omega)) ⟨_, rfl⟩ (fun c4 => ?_) (fun c4 => ?_)
    · skip
      refine wa_iload_n (n := 1) rfl ?_
      refine wa_iconst ?_
      refine wa_icmpne (w_rg0 (by omega) (by omega)) (w_rg0 (by omega) (by omega)) ⟨_, rfl⟩ (fun c5 => ?_) (fun c5 => ?_)
      · skip
        refine wa_iload_n (n := 1) rfl ?_
        refine wa_bipush (w_rg2 (by omega) (by omega)) ?_
        refine wa_icmpne (w_rg0 (by omega) (by omega)) (w_rg0 (by omega) (by omega)) ⟨_, rfl⟩ (fun c6 => ?_) (fun c6 => ?_)
        · skip
          refine wa_iconst ?_
          refine wa_fall ⟨_, rfl⟩ ?_
          refine wa_zreturn rfl (Or.inl rfl) ?_
          refine ⟨rfl, congrArg (fun z => Sum.inl (some (0, z))) ?_⟩
          first | exact (gT_4 (by omega) (by omega) (by omega)).symm | exact (gT_5 (l := 1) (Or.inr ⟨rfl, rfl⟩) (by omega) (by omega)).symm | exact (gT_dn (bI_0 (by omega)) (by omega)).symm
        · skip
          refine wa_iload_n (n := 2) rfl ?_
          refine wa_iconst ?_
          refine wa_icmpne (w_rg0 (by omega) (by omega)) (w_rg0 (by omega) (by omega)) ⟨_, rfl⟩ (fun c7 => ?_) (fun c7 => ?_)
          · skip
            refine wa_iconst ?_
            refine wa_fall ⟨_, rfl⟩ ?_
            refine wa_zreturn rfl (Or.inl rfl) ?_
            refine ⟨rfl, congrArg (fun z => Sum.inl (some (0, z))) ?_⟩
            first | exact (gT_4 (by omega) (by omega) (by omega)).symm | exact (gT_5 (l := 1) (Or.inr ⟨rfl, rfl⟩) (by omega) (by omega)).symm | exact (gT_dn (bI_0 (by omega)) (by omega)).symm
          · skip
            refine wa_fall ⟨_, rfl⟩ ?_
            refine wa_iconst ?_
            refine wa_goto ⟨_, rfl⟩ ?_
            refine wa_zreturn rfl (Or.inr rfl) ?_
            refine ⟨rfl, congrArg (fun z => Sum.inl (some (0, z))) ?_⟩
            first | exact (gT_1 (by omega) (by omega)).symm | exact (gT_2 (by omega) (by omega)).symm | exact (gT_3 (l := 1) (Or.inr ⟨rfl, rfl⟩) (by omega) (by omega) (by omega)).symm | exact (bI_t (gT_up (bI_1 (by omega)))).symm
      · skip
        refine wa_iload_n (n := 2) rfl ?_
        refine wa_iconst ?_
        refine wa_icmpeq (w_rg0 (by omega) (by omega)) (w_rg0 (by omega) (by omega)) ⟨_, rfl⟩ (fun c8 => ?_) (fun c8 => ?_)
        · skip
          refine wa_iconst ?_
          refine wa_goto ⟨_, rfl⟩ ?_
          refine wa_zreturn rfl (Or.inr rfl) ?_
          refine ⟨rfl, congrArg (fun z => Sum.inl (some (0, z))) ?_⟩
          first | exact (gT_1 (by omega) (by omega)).symm | exact (gT_2 (by omega) (by omega)).symm | exact (gT_3 (l := 1) (Or.inr ⟨rfl, rfl⟩) (by omega) (by omega) (by omega)).symm | exact (bI_t (gT_up (bI_1 (by omega)))).symm
        · skip
          refine wa_fall ⟨_, rfl⟩ ?_
          refine wa_iload_n (n := 1) rfl ?_
          refine wa_bipush (w_rg2 (by omega) (by omega)) ?_
          refine wa_icmpne (w_rg0 (by omega) (by omega)) (w_rg0 (by omega) (by omega)) ⟨_, rfl⟩ (fun c9 => ?_) (fun c9 => ?_)
          · skip
            refine wa_iconst ?_
            refine wa_fall ⟨_, rfl⟩ ?_
            refine wa_zreturn rfl (Or.inl rfl) ?_
            refine ⟨rfl, congrArg (fun z => Sum.inl (some (0, z))) ?_⟩
            first | exact (gT_4 (by omega) (by omega) (by omega)).symm | exact (gT_5 (l := 1) (Or.inr ⟨rfl, rfl⟩) (by omega) (by omega)).symm | exact (gT_dn (bI_0 (by omega)) (by omega)).symm
          · skip
            exact absurd c9 (by omega)
    · skip
      refine wa_iload_n (n := 2) rfl ?_
      refine wa_iconst ?_
      refine wa_icmpeq (w_rg0 (by omega) (by omega)) (w_rg0 (by omega) (by omega)) ⟨_, rfl⟩ (fun c10 => ?_) (fun c10 => ?_)
      · skip
        refine wa_iconst ?_
        refine wa_goto ⟨_, rfl⟩ ?_
        refine wa_zreturn rfl (Or.inr rfl) ?_
        refine ⟨rfl, congrArg (fun z => Sum.inl (some (0, z))) ?_⟩
        first | exact (gT_1 (by omega) (by omega)).symm | exact (gT_2 (by omega) (by omega)).symm | exact (gT_3 (l := 1) (Or.inr ⟨rfl, rfl⟩) (by omega) (by omega) (by omega)).symm | exact (bI_t (gT_up (bI_1 (by omega)))).symm
      · skip
        refine wa_iload_n (n := 2) rfl ?_
        refine wa_iconst ?_
        refine wa_icmpeq (w_rg0 (by omega) (by omega)) (w_rg0 (by omega) (by omega)) ⟨_, rfl⟩ (fun c11 => ?_) (fun c11 => ?_)
        · skip
          refine wa_iconst ?_
          refine wa_goto ⟨_, rfl⟩ ?_
          refine wa_zreturn rfl (Or.inr rfl) ?_
          refine ⟨rfl, congrArg (fun z => Sum.inl (some (0, z))) ?_⟩
          first | exact (gT_1 (by omega) (by omega)).symm | exact (gT_2 (by omega) (by omega)).symm | exact (gT_3 (l := 1) (Or.inr ⟨rfl, rfl⟩) (by omega) (by omega) (by omega)).symm | exact (bI_t (gT_up (bI_1 (by omega)))).symm
        · skip
          refine wa_fall ⟨_, rfl⟩ ?_
          refine wa_iload_n (n := 1) rfl ?_
          refine wa_iconst ?_
          refine wa_icmpne (w_rg0 (by omega) (by omega)) (w_rg0 (by omega) (by omega)) ⟨_, rfl⟩ (fun c12 => ?_) (fun c12 => ?_)
          · skip
            refine wa_iload_n (n := 1) rfl ?_
            refine wa_bipush (w_rg2 (by omega) (by omega)) ?_
            refine wa_icmpne (w_rg0 (by omega) (by omega)) (w_rg0 (by omega) (by omega)) ⟨_, rfl⟩ (fun c13 => ?_) (fun c13 => ?_)
            · skip
              refine wa_iconst ?_
              refine wa_fall ⟨_, rfl⟩ ?_
              refine wa_zreturn rfl (Or.inl rfl) ?_
              refine ⟨rfl, congrArg (fun z => Sum.inl (some (0, z))) ?_⟩
              first | exact (gT_4 (by omega) (by omega) (by omega)).symm | exact (gT_5 (l := 1) (Or.inr ⟨rfl, rfl⟩) (by omega) (by omega)).symm | exact (gT_dn (bI_0 (by omega)) (by omega)).symm
            · skip
              exact absurd c13 (by omega)
          · skip
            exact absurd c12 (by omega)
theorem rpa_241 {m : Int} {i : Nat} (hM : w_ML S) (hK : KR 241 T n cs ms S) (hw : wHo cs ms os) (hm : 0 ≤ m ∧ m < (ms.length : Int)) (hn1 : 1 ≤ (hmR ms m).2.2.2.2.1.length) (hi : i ≤ 1000) : wJ (pe_GA xs) wY0 M d t_M_parameterAt ((pe_at t_M_parameterAt.bl 0).getD (0, [])).2 [(0, (2, 237)), (1, (0, m)), (2, (0, (i : Int)))] [] S (fun z Z => S = Z ∧ z = .inl (some (0, prT (hmR ms m) i))) := by
  have h13 : S 237 13 = 241 := hK.1
  have hn := hK.2.1
  have hn2 := hn.2.2
  have eM := KR_m hK (m := m) (by omega) (by omega)
  have eW := hw.2.2.2 m (by omega) (by omega)
  have e1 : S 253 m = (hmR ms m).2.1 := eM.1.2.1
  have e2 : S 254 m = (hmR ms m).2.2.1 := eM.1.2.2.1
  have e3 : S 255 m = (hmR ms m).2.2.2.1 := eM.1.2.2.2.1
  have e4 : S 256 m = ((hmR ms m).2.2.2.2.1.length : Int) := eM.2.1.1
  have e5 : S 257 m = (hmR ms m).2.2.2.2.2.1 := eM.2.1.2.1
  have ef : S 259 m = (hmR ms m).2.2.2.2.2.2.1 := eM.1.2.2.2.2.1
  have et : S 260 m = (hmR ms m).2.2.2.2.2.2.2 := eM.1.2.2.2.2.2
  have eq := eW.1.2.1
  have es := eW.1.2.2.1
  have ey := eW.1.2.2.2
  have ev := eW.2.1
  have el := eW.2.2.1
  have eft := hK.2.2.2.2.2.2.1 m (by omega) (by omega)
  refine wa_aload_n (n := 0) rfl ?_
  refine wb_gf5 237 rfl (wy_pr rfl) wt_237 wf_15_13 (v := 241) (h13) (fun r1 => ?_)
  refine wb_gf4 241 rfl (wy_pr rfl) wt_241 wf_12_16 (v := 256) wl_241_16 ?_
  refine wa_iload_n (n := 1) rfl ?_
  refine wb_iald 256 rfl (wy_pr rfl) wt_256 (n := 400) ((ml_256 hM)) (by omega) (by omega) (v := ((hmR ms m).2.2.2.2.1.length : Int)) (e4) (fun r2 => ?_)
  refine wa_istore_n (n := 3) rfl ?_
  refine wa_aload_n (n := 0) rfl ?_
  refine wb_gf5 237 rfl (wy_pr rfl) wt_237 wf_15_13 (v := 241) (h13) (fun r3 => ?_)
  refine wb_gf4 241 rfl (wy_pr rfl) wt_241 wf_12_18 (v := 258) wl_241_18 ?_
  refine wa_bipush (w_rg2 (by omega) (by omega)) ?_
  refine wa_iload_n (n := 1) rfl ?_
  refine wa_imul ?_
  refine wa_iload_n (n := 2) rfl ?_
  refine wa_iload_n (n := 3) rfl ?_
  refine wa_icmpge (w_rg0 (by omega) (by omega)) (w_rg0 (by omega) (by omega)) ⟨_, rfl⟩ (fun c4 => ?_) (fun c4 => ?_)
  · skip
    refine wa_iload_n (n := 3) rfl ?_
    refine wa_iconst ?_
    refine wa_isub ?_
    refine wa_fall ⟨_, rfl⟩ ?_
    obtain ⟨j, hj⟩ : ∃ j : Nat, j = (hmR ms m).2.2.2.2.1.length - 1 := ⟨_, rfl⟩
    have ejx : (if i < (hmR ms m).2.2.2.2.1.length then i else (hmR ms m).2.2.2.2.1.length - 1) = j := by rw [if_neg (by omega), hj]
    refine wJ_top (show (((hmR ms m).2.2.2.2.1.length : Int) - 1) = (j : Int) by omega) ?_
    have hjv : S 258 ((8 * m) + (j : Int)) = (hmR ms m).2.2.2.2.1.getD j 0 := eM.2.1.2.2 j (by omega)
    refine wa_iadd ?_
    refine wb_iald 258 rfl (wy_pr rfl) wt_258 (n := 3200) ((ml_258 hM)) (by omega) (by omega) (v := ((hmR ms m).2.2.2.2.1.getD j 0)) (hjv) (fun r5 => ?_)
    refine wa_ireturn rfl ?_
    refine ⟨rfl, congrArg (fun z => Sum.inl (some (0, z))) ?_⟩
    unfold prT; rw [ejx]
  · skip
    refine wa_iload_n (n := 2) rfl ?_
    refine wa_goto ⟨_, rfl⟩ ?_
    obtain ⟨j, hj⟩ : ∃ j : Nat, j = i := ⟨_, rfl⟩
    have ejx : (if i < (hmR ms m).2.2.2.2.1.length then i else (hmR ms m).2.2.2.2.1.length - 1) = j := by rw [if_pos (by omega), hj]
    refine wJ_top (show (i : Int) = (j : Int) by omega) ?_
    have hjv : S 258 ((8 * m) + (j : Int)) = (hmR ms m).2.2.2.2.1.getD j 0 := eM.2.1.2.2 j (by omega)
    refine wa_iadd ?_
    refine wb_iald 258 rfl (wy_pr rfl) wt_258 (n := 3200) ((ml_258 hM)) (by omega) (by omega) (v := ((hmR ms m).2.2.2.2.1.getD j 0)) (hjv) (fun r6 => ?_)
    refine wa_ireturn rfl ?_
    refine ⟨rfl, congrArg (fun z => Sum.inl (some (0, z))) ?_⟩
    unfold prT; rw [ejx]
theorem rftl_241 {m ph x3 : Int} {tl : List Int} (hM : w_ML S) (hK : KR 241 T n cs ms S) (hw : wHo cs ms os) (hm : 0 ≤ m ∧ m < (ms.length : Int)) (hph : 1 ≤ ph ∧ ph ≤ 3) (hT : tEs tl S) (hes : esOk tl) (hty : ∀ c ∈ tl, c < 9 + (cs.length : Int)) (h1 : (hmR ms m).2.2.2.2.2.1 = (if ph = 3 then 1 else 0)) (h2 : if ph = 3 then (hmR ms m).2.2.2.2.1.length ≤ tl.length + 1 else (hmR ms m).2.2.2.2.1.length = tl.length) : ∀ (f i : Nat) (v : Bool), tl.length - i < f → i ≤ tl.length → alN i (fun k => gTB cs (tl.getD k 0) (prT (hmR ms m) k) (decide (1 < ph))) = v → wJ (pe_GA xs) wY0 M (d + 3) t_M_fitsIn ((pe_at t_M_fitsIn.bl 7).getD (0, [])).2 [(0, (2, 237)), (1, (0, m)), (2, (0, ph)), (3, (0, x3)), (4, (0, bI v)), (5, (0, (i : Int)))] [] S (fun z Z => S = Z ∧ z = .inl (some (0, bI (ftA cs ms ph tl m)))) := by
  have h13 : S 237 13 = 241 := hK.1
  have hn := hK.2.1
  have hn2 := hn.2.2
  have h122 : S 237 122 = (tl.length : Int) := hT.1
  have htl := hT.2.2
  have eM := KR_m hK (m := m) (by omega) (by omega)
  have eW := hw.2.2.2 m (by omega) (by omega)
  have e1 : S 253 m = (hmR ms m).2.1 := eM.1.2.1
  have e2 : S 254 m = (hmR ms m).2.2.1 := eM.1.2.2.1
  have e3 : S 255 m = (hmR ms m).2.2.2.1 := eM.1.2.2.2.1
  have e4 : S 256 m = ((hmR ms m).2.2.2.2.1.length : Int) := eM.2.1.1
  have e5 : S 257 m = (hmR ms m).2.2.2.2.2.1 := eM.2.1.2.1
  have ef : S 259 m = (hmR ms m).2.2.2.2.2.2.1 := eM.1.2.2.2.2.1
  have et : S 260 m = (hmR ms m).2.2.2.2.2.2.2 := eM.1.2.2.2.2.2
  have eq := eW.1.2.1
  have es := eW.1.2.2.1
  have ey := eW.1.2.2.2
  have ev := eW.2.1
  have el := eW.2.2.1
  have eft := hK.2.2.2.2.2.2.1 m (by omega) (by omega)
  intro f
  induction f with
  | zero => intro i v h; exact absurd h (Nat.not_lt_zero _)
  | succ f ih =>
    intro i v hf hi hv
    have hbv := bI_rg v
    refine wa_iload (n := 5) rfl ?_
    refine wa_aload_n (n := 0) rfl ?_
    refine wb_gfi 237 rfl (wy_pr rfl) wt_237 wf_15_122 (v := (tl.length : Int)) (h122) (fun r1 => ?_)
    refine wa_icmpge (w_rg0 (by omega) (by omega)) (w_rg0 (by omega) (by omega)) ⟨_, rfl⟩ (fun c2 => ?_) (fun c2 => ?_)
    · skip
      refine wa_iload (n := 4) rfl ?_
      refine wa_zreturn rfl (by omega) ?_
      refine ⟨rfl, congrArg (fun z => Sum.inl (some (0, z))) (congrArg bI ?_)⟩
      unfold ftA; rw [decide_eq_true h1, decide_eq_true h2, Bool.true_and, Bool.true_and]
      first | (rw [show tl.length = i by omega]; exact hv.symm) | (have hv0 := bI_0 (b := v) (by omega); rw [hv0] at hv ⊢; exact (alN_lt hi hv).symm)
    · skip
      refine wa_iload (n := 4) rfl ?_
      refine wa_ifeq (w_rg0 (by omega) (by omega)) ⟨_, rfl⟩ (fun c3 => ?_) (fun c3 => ?_)
      · skip
        refine wa_iload (n := 4) rfl ?_
        refine wa_zreturn rfl (by omega) ?_
        refine ⟨rfl, congrArg (fun z => Sum.inl (some (0, z))) (congrArg bI ?_)⟩
        unfold ftA; rw [decide_eq_true h1, decide_eq_true h2, Bool.true_and, Bool.true_and]
        first | (rw [show tl.length = i by omega]; exact hv.symm) | (have hv0 := bI_0 (b := v) (by omega); rw [hv0] at hv ⊢; exact (alN_lt hi hv).symm)
      · skip
        have h52 := hT.2.1 i (by omega)
        have hdm : tl.getD i 0 ∈ tl := by rw [List.getD_eq_getElem?_getD, List.getElem?_eq_getElem (show i < tl.length by omega)]; exact List.getElem_mem _
        have hdr := hes _ hdm
        have hdt := hty _ hdm
        have hlen1 : 1 ≤ (hmR ms m).2.2.2.2.1.length := by split at h2 <;> omega
        refine wa_iload_n (n := 2) rfl ?_
        refine wa_iconst ?_
        refine wa_icmpne (w_rg0 (by omega) (by omega)) (w_rg0 (by omega) (by omega)) ⟨_, rfl⟩ (fun c4 => ?_) (fun c4 => ?_)
        · skip
          refine wa_aload_n (n := 0) rfl ?_
          refine wa_aload_n (n := 0) rfl ?_
          refine wb_gf4 237 rfl (wy_pr rfl) wt_237 wf_15_123 (v := 352) wl_237_123 ?_
          refine wa_iload (n := 5) rfl ?_
          refine wb_iald 352 rfl (wy_pr rfl) wt_352 (n := 8) ((ml_352 hM)) (by omega) (by omega) (v := (tl.getD i 0)) (h52) (fun r5 => ?_)
          refine wa_aload_n (n := 0) rfl ?_
          refine wa_iload_n (n := 1) rfl ?_
          refine wa_iload (n := 5) rfl ?_
          refine wa_cv 237 rfl (wy_pr rfl) wt_237 (M2 := fun _ => False) rfl at_M_parameterAt ⟨_, rfl⟩ rfl rfl ⟨(Or.inr ⟨wy_pr rfl, fun q => q⟩), trivial, trivial, trivial, trivial, trivial, trivial⟩ ⟨trivial, (Or.inr ⟨wy_pr rfl, fun q => q⟩), trivial⟩ (fun _ _ q => False.elim q) (rpa_241 (S := S) (m := m) (i := i) hM hK hw ⟨by omega, by omega⟩ (by omega) (by omega)) (fun oq6 Sq6 hp7 q6 => ?_)
          rcases q6 with ⟨rfl, rfl⟩
          show wJ _ _ _ _ _ _ _ _ _ _
          have hpr5 := prT_rg (i := i) hw (m := m) (by omega) (by omega) (by omega)
          have hlb : decide (1 < ph) = true := decide_eq_true (by omega)
          refine wa_cv 237 rfl (wy_pr rfl) wt_237 (M2 := fun _ => False) rfl at_M_loose ⟨_, rfl⟩ rfl rfl ⟨(Or.inr ⟨wy_pr rfl, fun q => q⟩), trivial, trivial, trivial, trivial, trivial, trivial⟩ trivial (fun _ _ q => False.elim q) (rlo_241 (S := S) (f := (tl.getD i 0)) (q := (prT (hmR ms m) i)) hM hK hw ⟨by omega, by omega⟩ ⟨by omega, by omega⟩) (fun oq8 Sq8 hp9 q8 => ?_)
          rcases q8 with ⟨rfl, rfl⟩
          show wJ _ _ _ _ _ _ _ _ _ _
          refine wa_fall ⟨_, rfl⟩ ?_
          refine wa_istore (n := 4) rfl ?_
          refine wa_iinc rfl rfl ?_
          refine wa_goto ⟨_, rfl⟩ ?_
          rw [← hlb]
          have hv1 := bI_1 (b := v) (by omega)
          rw [hv1] at hv
          refine wJ_S (ih (i + 1) _ (by omega) (by omega) (alN_s hv)) ⟨rfl, rfl, rfl, rfl, rfl, rfl, trivial⟩
        · skip
          refine wa_aload_n (n := 0) rfl ?_
          refine wa_aload_n (n := 0) rfl ?_
          refine wb_gf4 237 rfl (wy_pr rfl) wt_237 wf_15_123 (v := 352) wl_237_123 ?_
          refine wa_iload (n := 5) rfl ?_
          refine wb_iald 352 rfl (wy_pr rfl) wt_352 (n := 8) ((ml_352 hM)) (by omega) (by omega) (v := (tl.getD i 0)) (h52) (fun r10 => ?_)
          refine wa_aload_n (n := 0) rfl ?_
          refine wa_iload_n (n := 1) rfl ?_
          refine wa_iload (n := 5) rfl ?_
          refine wa_cv 237 rfl (wy_pr rfl) wt_237 (M2 := fun _ => False) rfl at_M_parameterAt ⟨_, rfl⟩ rfl rfl ⟨(Or.inr ⟨wy_pr rfl, fun q => q⟩), trivial, trivial, trivial, trivial, trivial, trivial⟩ ⟨trivial, (Or.inr ⟨wy_pr rfl, fun q => q⟩), trivial⟩ (fun _ _ q => False.elim q) (rpa_241 (S := S) (m := m) (i := i) hM hK hw ⟨by omega, by omega⟩ (by omega) (by omega)) (fun oq11 Sq11 hp12 q11 => ?_)
          rcases q11 with ⟨rfl, rfl⟩
          show wJ _ _ _ _ _ _ _ _ _ _
          have hpr10 := prT_rg (i := i) hw (m := m) (by omega) (by omega) (by omega)
          have hlb : decide (1 < ph) = false := decide_eq_false (by omega)
          refine wa_cv 237 rfl (wy_pr rfl) wt_237 (M2 := fun _ => False) rfl at_M_strict ⟨_, rfl⟩ rfl rfl ⟨(Or.inr ⟨wy_pr rfl, fun q => q⟩), trivial, trivial, trivial, trivial, trivial, trivial⟩ trivial (fun _ _ q => False.elim q) (rst_241 (S := S) (f := (tl.getD i 0)) (q := (prT (hmR ms m) i)) hM hK hw ⟨by omega, by omega⟩ ⟨by omega, by omega⟩) (fun oq13 Sq13 hp14 q13 => ?_)
          rcases q13 with ⟨rfl, rfl⟩
          show wJ _ _ _ _ _ _ _ _ _ _
          refine wa_goto ⟨_, rfl⟩ ?_
          refine wa_istore (n := 4) rfl ?_
          refine wa_iinc rfl rfl ?_
          refine wa_goto ⟨_, rfl⟩ ?_
          rw [← hlb]
          have hv1 := bI_1 (b := v) (by omega)
          rw [hv1] at hv
          refine wJ_S (ih (i + 1) _ (by omega) (by omega) (alN_s hv)) ⟨rfl, rfl, rfl, rfl, rfl, rfl, trivial⟩
theorem rft_241 {m ph : Int} {tl : List Int} (hM : w_ML S) (hK : KR 241 T n cs ms S) (hw : wHo cs ms os) (hm : 0 ≤ m ∧ m < (ms.length : Int)) (hph : 1 ≤ ph ∧ ph ≤ 3) (hT : tEs tl S) (hes : esOk tl) (hty : ∀ c ∈ tl, c < 9 + (cs.length : Int)) : wJ (pe_GA xs) wY0 M (d + 3) t_M_fitsIn ((pe_at t_M_fitsIn.bl 0).getD (0, [])).2 [(0, (2, 237)), (1, (0, m)), (2, (0, ph))] [] S (fun z Z => S = Z ∧ z = .inl (some (0, bI (ftA cs ms ph tl m)))) := by
  have h13 : S 237 13 = 241 := hK.1
  have hn := hK.2.1
  have hn2 := hn.2.2
  have h122 : S 237 122 = (tl.length : Int) := hT.1
  have htl := hT.2.2
  have eM := KR_m hK (m := m) (by omega) (by omega)
  have eW := hw.2.2.2 m (by omega) (by omega)
  have e1 : S 253 m = (hmR ms m).2.1 := eM.1.2.1
  have e2 : S 254 m = (hmR ms m).2.2.1 := eM.1.2.2.1
  have e3 : S 255 m = (hmR ms m).2.2.2.1 := eM.1.2.2.2.1
  have e4 : S 256 m = ((hmR ms m).2.2.2.2.1.length : Int) := eM.2.1.1
  have e5 : S 257 m = (hmR ms m).2.2.2.2.2.1 := eM.2.1.2.1
  have ef : S 259 m = (hmR ms m).2.2.2.2.2.2.1 := eM.1.2.2.2.2.1
  have et : S 260 m = (hmR ms m).2.2.2.2.2.2.2 := eM.1.2.2.2.2.2
  have eq := eW.1.2.1
  have es := eW.1.2.2.1
  have ey := eW.1.2.2.2
  have ev := eW.2.1
  have el := eW.2.2.1
  have eft := hK.2.2.2.2.2.2.1 m (by omega) (by omega)
  refine wa_aload_n (n := 0) rfl ?_
  refine wb_gf5 237 rfl (wy_pr rfl) wt_237 wf_15_13 (v := 241) (h13) (fun r1 => ?_)
  refine wb_gf4 241 rfl (wy_pr rfl) wt_241 wf_12_16 (v := 256) wl_241_16 ?_
  refine wa_iload_n (n := 1) rfl ?_
  refine wb_iald 256 rfl (wy_pr rfl) wt_256 (n := 400) ((ml_256 hM)) (by omega) (by omega) (v := ((hmR ms m).2.2.2.2.1.length : Int)) (e4) (fun r2 => ?_)
  refine wa_istore_n (n := 3) rfl ?_
  refine wa_aload_n (n := 0) rfl ?_
  refine wb_gf5 237 rfl (wy_pr rfl) wt_237 wf_15_13 (v := 241) (h13) (fun r3 => ?_)
  refine wb_gf4 241 rfl (wy_pr rfl) wt_241 wf_12_17 (v := 257) wl_241_17 ?_
  refine wa_iload_n (n := 1) rfl ?_
  refine wb_zald 257 rfl (wy_pr rfl) wt_257 (n := 400) ((ml_257 hM)) (by omega) (by omega) (v := (hmR ms m).2.2.2.2.2.1) (e5) (fun r4 => ?_)
  refine wa_iload_n (n := 2) rfl ?_
  refine wa_iconst ?_
  refine wa_icmpne (w_rg0 (by omega) (by omega)) (w_rg0 (by omega) (by omega)) ⟨_, rfl⟩ (fun c5 => ?_) (fun c5 => ?_)
  · skip
    refine wa_iconst ?_
    refine wa_fall ⟨_, rfl⟩ ?_
    refine wa_icmpeq (w_rg0 (by omega) (by omega)) (w_rg0 (by omega) (by omega)) ⟨_, rfl⟩ (fun c6 => ?_) (fun c6 => ?_)
    · skip
      refine wa_iload_n (n := 2) rfl ?_
      refine wa_iconst ?_
      refine wa_icmpge (w_rg0 (by omega) (by omega)) (w_rg0 (by omega) (by omega)) ⟨_, rfl⟩ (fun c7 => ?_) (fun c7 => ?_)
      · skip
        exact absurd c7 (by omega)
      · skip
        refine wa_iload_n (n := 3) rfl ?_
        refine wa_aload_n (n := 0) rfl ?_
        refine wb_gfi 237 rfl (wy_pr rfl) wt_237 wf_15_122 (v := (tl.length : Int)) (h122) (fun r8 => ?_)
        refine wa_icmpeq (w_rg0 (by omega) (by omega)) (w_rg0 (by omega) (by omega)) ⟨_, rfl⟩ (fun c9 => ?_) (fun c9 => ?_)
        · skip
          refine wa_iconst ?_
          refine wa_istore (n := 4) rfl ?_
          refine wa_iconst ?_
          refine wa_istore (n := 5) rfl ?_
          refine wa_fall ⟨_, rfl⟩ ?_
          exact wJ_S (rftl_241 hM hK hw hm hph hT hes hty (by split <;> omega) (by split <;> omega) (tl.length + 1) 0 true (by omega) (by omega) rfl) ⟨rfl, rfl, rfl, rfl, rfl, rfl, trivial⟩
        · skip
          refine wa_goto ⟨_, rfl⟩ ?_
          refine wa_iconst ?_
          refine wa_zreturn rfl (Or.inl rfl) ?_
          refine ⟨rfl, congrArg (fun z => Sum.inl (some (0, z))) ?_⟩
          first | exact (ft_0 (fun _ => by omega) (fun _ => by omega)).symm | exact (ft_0b (fun _ => by omega) (fun _ => by omega)).symm
    · skip
      refine wa_iconst ?_
      refine wa_zreturn rfl (Or.inl rfl) ?_
      refine ⟨rfl, congrArg (fun z => Sum.inl (some (0, z))) ?_⟩
      first | exact (ft_0 (fun _ => by omega) (fun _ => by omega)).symm | exact (ft_0b (fun _ => by omega) (fun _ => by omega)).symm
  · skip
    refine wa_iconst ?_
    refine wa_goto ⟨_, rfl⟩ ?_
    refine wa_icmpeq (w_rg0 (by omega) (by omega)) (w_rg0 (by omega) (by omega)) ⟨_, rfl⟩ (fun c10 => ?_) (fun c10 => ?_)
    · skip
      refine wa_iload_n (n := 2) rfl ?_
      refine wa_iconst ?_
      refine wa_icmpge (w_rg0 (by omega) (by omega)) (w_rg0 (by omega) (by omega)) ⟨_, rfl⟩ (fun c11 => ?_) (fun c11 => ?_)
      · skip
        refine wa_aload_n (n := 0) rfl ?_
        refine wb_gfi 237 rfl (wy_pr rfl) wt_237 wf_15_122 (v := (tl.length : Int)) (h122) (fun r12 => ?_)
        refine wa_iload_n (n := 3) rfl ?_
        refine wa_iconst ?_
        refine wa_isub ?_
        refine wa_icmpge (w_rg0 (by omega) (by omega)) (w_rg0 (by omega) (by omega)) ⟨_, rfl⟩ (fun c13 => ?_) (fun c13 => ?_)
        · skip
          refine wa_iconst ?_
          refine wa_istore (n := 4) rfl ?_
          refine wa_iconst ?_
          refine wa_istore (n := 5) rfl ?_
          refine wa_fall ⟨_, rfl⟩ ?_
          exact wJ_S (rftl_241 hM hK hw hm hph hT hes hty (by split <;> omega) (by split <;> omega) (tl.length + 1) 0 true (by omega) (by omega) rfl) ⟨rfl, rfl, rfl, rfl, rfl, rfl, trivial⟩
        · skip
          refine wa_fall ⟨_, rfl⟩ ?_
          refine wa_iconst ?_
          refine wa_zreturn rfl (Or.inl rfl) ?_
          refine ⟨rfl, congrArg (fun z => Sum.inl (some (0, z))) ?_⟩
          first | exact (ft_0 (fun _ => by omega) (fun _ => by omega)).symm | exact (ft_0b (fun _ => by omega) (fun _ => by omega)).symm
      · skip
        exact absurd c11 (by omega)
    · skip
      refine wa_iconst ?_
      refine wa_zreturn rfl (Or.inl rfl) ?_
      refine ⟨rfl, congrArg (fun z => Sum.inl (some (0, z))) ?_⟩
      first | exact (ft_0 (fun _ => by omega) (fun _ => by omega)).symm | exact (ft_0b (fun _ => by omega) (fun _ => by omega)).symm
theorem rmol_241 {m q ph : Int} {tl : List Int} {N : Nat} (hM : w_ML S) (hK : KR 241 T n cs ms S) (hw : wHo cs ms os) (hm : 0 ≤ m ∧ m < (ms.length : Int)) (hq : 0 ≤ q ∧ q < (ms.length : Int)) (hph : 1 ≤ ph ∧ ph ≤ 3) (h122 : S 237 122 = (tl.length : Int)) (htl : tl.length ≤ 8) (hnm : ph ≠ 3 → (hmR ms m).2.2.2.2.1.length = tl.length ∧ (hmR ms q).2.2.2.2.1.length = tl.length) (hn1 : ph = 3 → 1 ≤ (hmR ms m).2.2.2.2.1.length ∧ 1 ≤ (hmR ms q).2.2.2.2.1.length) (hN : N = moN ms ph tl.length m q) (hN8 : N ≤ 8) (hNl : 1 ≤ N → 1 ≤ (hmR ms m).2.2.2.2.1.length ∧ 1 ≤ (hmR ms q).2.2.2.2.1.length) : ∀ (f i : Nat) (v : Bool), N - i < f → i ≤ N → alN i (fun k => sbB cs (prT (hmR ms m) k) (prT (hmR ms q) k)) = v → wJ (pe_GA xs) wY0 M (d + 2) t_M_isMoreSpecific ((pe_at t_M_isMoreSpecific.bl 3).getD (0, [])).2 [(0, (2, 237)), (1, (0, m)), (2, (0, q)), (3, (0, ph)), (4, (0, (N : Int))), (5, (0, bI v)), (6, (0, (i : Int)))] [] S (fun z Z => S = Z ∧ z = .inl (some (0, bI (moA cs ms ph tl.length m q)))) := by
  have h13 : S 237 13 = 241 := hK.1
  have hn := hK.2.1
  have hn2 := hn.2.2
  intro f
  induction f with
  | zero => intro i v h; exact absurd h (Nat.not_lt_zero _)
  | succ f ih =>
    intro i v hf hi hv
    have hbv := bI_rg v
    refine wa_iload (n := 6) rfl ?_
    refine wa_iload (n := 4) rfl ?_
    refine wa_icmpge (w_rg0 (by omega) (by omega)) (w_rg0 (by omega) (by omega)) ⟨_, rfl⟩ (fun c1 => ?_) (fun c1 => ?_)
    · skip
      refine wa_iload (n := 5) rfl ?_
      refine wa_zreturn rfl (by omega) ?_
      refine ⟨rfl, congrArg (fun z => Sum.inl (some (0, z))) (congrArg bI ?_)⟩
      unfold moA; rw [← hN]
      first | (rw [show N = i by omega]; exact hv.symm) | (have hv0 := bI_0 (b := v) (by omega); rw [hv0] at hv ⊢; exact (alN_lt hi hv).symm)
    · skip
      refine wa_iload (n := 5) rfl ?_
      refine wa_ifeq (w_rg0 (by omega) (by omega)) ⟨_, rfl⟩ (fun c2 => ?_) (fun c2 => ?_)
      · skip
        refine wa_iload (n := 5) rfl ?_
        refine wa_zreturn rfl (by omega) ?_
        refine ⟨rfl, congrArg (fun z => Sum.inl (some (0, z))) (congrArg bI ?_)⟩
        unfold moA; rw [← hN]
        first | (rw [show N = i by omega]; exact hv.symm) | (have hv0 := bI_0 (b := v) (by omega); rw [hv0] at hv ⊢; exact (alN_lt hi hv).symm)
      · skip
        have hl1 := hNl (by omega)
        refine wa_aload_n (n := 0) rfl ?_
        refine wb_gf5 237 rfl (wy_pr rfl) wt_237 wf_15_13 (v := 241) (h13) (fun r3 => ?_)
        refine wa_aload_n (n := 0) rfl ?_
        refine wa_iload_n (n := 1) rfl ?_
        refine wa_iload (n := 6) rfl ?_
        refine wa_cv 237 rfl (wy_pr rfl) wt_237 (M2 := fun _ => False) rfl at_M_parameterAt ⟨_, rfl⟩ rfl rfl ⟨(Or.inr ⟨wy_pr rfl, fun q => q⟩), trivial, trivial, trivial, trivial, trivial, trivial, trivial⟩ ⟨(Or.inr ⟨wy_pr rfl, fun q => q⟩), trivial⟩ (fun _ _ q => False.elim q) (rpa_241 (S := S) (m := m) (i := i) hM hK hw ⟨by omega, by omega⟩ (by omega) (by omega)) (fun oq4 Sq4 hp5 q4 => ?_)
        rcases q4 with ⟨rfl, rfl⟩
        show wJ _ _ _ _ _ _ _ _ _ _
        have hpr3 := prT_rg (i := i) hw (m := m) (by omega) (by omega) (by omega)
        refine wa_aload_n (n := 0) rfl ?_
        refine wa_iload_n (n := 2) rfl ?_
        refine wa_iload (n := 6) rfl ?_
        refine wa_cv 237 rfl (wy_pr rfl) wt_237 (M2 := fun _ => False) rfl at_M_parameterAt ⟨_, rfl⟩ rfl rfl ⟨(Or.inr ⟨wy_pr rfl, fun q => q⟩), trivial, trivial, trivial, trivial, trivial, trivial, trivial⟩ ⟨trivial, (Or.inr ⟨wy_pr rfl, fun q => q⟩), trivial⟩ (fun _ _ q => False.elim q) (rpa_241 (S := S) (m := q) (i := i) hM hK hw ⟨by omega, by omega⟩ (by omega) (by omega)) (fun oq6 Sq6 hp7 q6 => ?_)
        rcases q6 with ⟨rfl, rfl⟩
        show wJ _ _ _ _ _ _ _ _ _ _
        have hpr5 := prT_rg (i := i) hw (m := q) (by omega) (by omega) (by omega)
        refine wa_cv 241 rfl (wy_pr rfl) wt_241 (M2 := fun _ => False) rfl at_MO_isSub ⟨_, rfl⟩ rfl rfl ⟨(Or.inr ⟨wy_pr rfl, fun q => q⟩), trivial, trivial, trivial, trivial, trivial, trivial, trivial⟩ trivial (fun _ _ q => False.elim q) (rsb_241 (S := S) (a := (prT (hmR ms m) i)) (o := (prT (hmR ms q) i)) hM hK hw ⟨by omega, by omega⟩ ⟨by omega, by omega⟩) (fun oq8 Sq8 hp9 q8 => ?_)
        rcases q8 with ⟨rfl, rfl⟩
        show wJ _ _ _ _ _ _ _ _ _ _
        have hbr7 := bI_rg (sbB cs (prT (hmR ms m) i) (prT (hmR ms q) i))
        refine wa_istore (n := 5) rfl ?_
        refine wa_iinc rfl rfl ?_
        refine wa_goto ⟨_, rfl⟩ ?_
        have hv1 := bI_1 (b := v) (by omega)
        rw [hv1] at hv
        refine wJ_S (ih (i + 1) _ (by omega) (by omega) (alN_s hv)) ⟨rfl, rfl, rfl, rfl, rfl, rfl, rfl, trivial⟩
theorem rmo_241 {m q ph : Int} {tl : List Int} (hM : w_ML S) (hK : KR 241 T n cs ms S) (hw : wHo cs ms os) (hm : 0 ≤ m ∧ m < (ms.length : Int)) (hq : 0 ≤ q ∧ q < (ms.length : Int)) (hph : 1 ≤ ph ∧ ph ≤ 3) (h122 : S 237 122 = (tl.length : Int)) (htl : tl.length ≤ 8) (hnm : ph ≠ 3 → (hmR ms m).2.2.2.2.1.length = tl.length ∧ (hmR ms q).2.2.2.2.1.length = tl.length) (hn1 : ph = 3 → 1 ≤ (hmR ms m).2.2.2.2.1.length ∧ 1 ≤ (hmR ms q).2.2.2.2.1.length) : wJ (pe_GA xs) wY0 M (d + 2) t_M_isMoreSpecific ((pe_at t_M_isMoreSpecific.bl 0).getD (0, [])).2 [(0, (2, 237)), (1, (0, m)), (2, (0, q)), (3, (0, ph))] [] S (fun z Z => S = Z ∧ z = .inl (some (0, bI (moA cs ms ph tl.length m q)))) := by
  have h13 : S 237 13 = 241 := hK.1
  have hn := hK.2.1
  have hn2 := hn.2.2
  have eM := KR_m hK (m := m) (by omega) (by omega)
  have eW := hw.2.2.2 m (by omega) (by omega)
  have e1 : S 253 m = (hmR ms m).2.1 := eM.1.2.1
  have e2 : S 254 m = (hmR ms m).2.2.1 := eM.1.2.2.1
  have e3 : S 255 m = (hmR ms m).2.2.2.1 := eM.1.2.2.2.1
  have e4 : S 256 m = ((hmR ms m).2.2.2.2.1.length : Int) := eM.2.1.1
  have e5 : S 257 m = (hmR ms m).2.2.2.2.2.1 := eM.2.1.2.1
  have ef : S 259 m = (hmR ms m).2.2.2.2.2.2.1 := eM.1.2.2.2.2.1
  have et : S 260 m = (hmR ms m).2.2.2.2.2.2.2 := eM.1.2.2.2.2.2
  have eq := eW.1.2.1
  have es := eW.1.2.2.1
  have ey := eW.1.2.2.2
  have ev := eW.2.1
  have el := eW.2.2.1
  have eft := hK.2.2.2.2.2.2.1 m (by omega) (by omega)
  have gM := KR_m hK (m := q) (by omega) (by omega)
  have gW := hw.2.2.2 q (by omega) (by omega)
  have g1 : S 253 q = (hmR ms q).2.1 := gM.1.2.1
  have g2 : S 254 q = (hmR ms q).2.2.1 := gM.1.2.2.1
  have g3 : S 255 q = (hmR ms q).2.2.2.1 := gM.1.2.2.2.1
  have g4 : S 256 q = ((hmR ms q).2.2.2.2.1.length : Int) := gM.2.1.1
  have g5 : S 257 q = (hmR ms q).2.2.2.2.2.1 := gM.2.1.2.1
  have gf : S 259 q = (hmR ms q).2.2.2.2.2.2.1 := gM.1.2.2.2.2.1
  have gt : S 260 q = (hmR ms q).2.2.2.2.2.2.2 := gM.1.2.2.2.2.2
  have gq := gW.1.2.1
  have gs := gW.1.2.2.1
  have gy := gW.1.2.2.2
  have gv := gW.2.1
  have gl := gW.2.2.1
  have gft := hK.2.2.2.2.2.2.1 q (by omega) (by omega)
  refine wa_iload_n (n := 3) rfl ?_
  refine wa_iconst ?_
  refine wa_icmpge (w_rg0 (by omega) (by omega)) (w_rg0 (by omega) (by omega)) ⟨_, rfl⟩ (fun c1 => ?_) (fun c1 => ?_)
  · skip
    refine wa_aload_n (n := 0) rfl ?_
    refine wb_gf5 237 rfl (wy_pr rfl) wt_237 wf_15_13 (v := 241) (h13) (fun r2 => ?_)
    refine wb_gf4 241 rfl (wy_pr rfl) wt_241 wf_12_16 (v := 256) wl_241_16 ?_
    refine wa_iload_n (n := 1) rfl ?_
    refine wb_iald 256 rfl (wy_pr rfl) wt_256 (n := 400) ((ml_256 hM)) (by omega) (by omega) (v := ((hmR ms m).2.2.2.2.1.length : Int)) (e4) (fun r3 => ?_)
    refine wa_aload_n (n := 0) rfl ?_
    refine wb_gf5 237 rfl (wy_pr rfl) wt_237 wf_15_13 (v := 241) (h13) (fun r4 => ?_)
    refine wb_gf4 241 rfl (wy_pr rfl) wt_241 wf_12_16 (v := 256) wl_241_16 ?_
    refine wa_iload_n (n := 2) rfl ?_
    refine wb_iald 256 rfl (wy_pr rfl) wt_256 (n := 400) ((ml_256 hM)) (by omega) (by omega) (v := ((hmR ms q).2.2.2.2.1.length : Int)) (g4) (fun r5 => ?_)
    refine wa_cs (M2 := fun _ => False) rfl at_JM_max ⟨_, rfl⟩ rfl rfl ⟨(Or.inr ⟨wy_pr rfl, fun q => q⟩), trivial, trivial, trivial, trivial⟩ trivial (fun _ _ q => False.elim q) ?_ (fun _ _ _ q => q)
    refine wa_iload_n (n := 0) rfl ?_
    refine wa_iload_n (n := 1) rfl ?_
    refine wa_icmplt (w_rg0 (by omega) (by omega)) (w_rg0 (by omega) (by omega)) ⟨_, rfl⟩ (fun c6 => ?_) (fun c6 => ?_)
    · skip
      refine wa_iload_n (n := 1) rfl ?_
      refine wa_fall ⟨_, rfl⟩ ?_
      refine wa_ireturn rfl ?_
      show wJ _ _ _ _ _ _ _ _ _ _
      refine wa_fall ⟨_, rfl⟩ ?_
      refine wa_istore (n := 4) rfl ?_
      refine wa_iconst ?_
      refine wa_istore (n := 5) rfl ?_
      refine wa_iconst ?_
      refine wa_istore (n := 6) rfl ?_
      refine wa_fall ⟨_, rfl⟩ ?_
      obtain ⟨N, hN⟩ : ∃ N : Nat, N = moN ms ph tl.length m q := ⟨_, rfl⟩
      have hNe : ((hmR ms q).2.2.2.2.1.length : Int) = (N : Int) := by rw [hN]; unfold moN; first | (rw [if_pos (by omega)]; omega) | (rw [if_neg (by omega)])
      have hNl : 1 ≤ N → 1 ≤ (hmR ms m).2.2.2.2.1.length ∧ 1 ≤ (hmR ms q).2.2.2.2.1.length := fun h1 => by rw [hN] at h1; unfold moN at h1; first | exact hn1 (by omega) | (rw [if_neg (by omega)] at h1; have := hnm (by omega); omega)
      have hN8 : N ≤ 8 := by rw [hN]; unfold moN; split <;> omega
      rw [hNe]
      exact wJ_S (rmol_241 hM hK hw hm hq hph h122 htl hnm hn1 hN hN8 hNl (N + 1) 0 true (by omega) (by omega) rfl) ⟨rfl, rfl, rfl, rfl, rfl, rfl, rfl, trivial⟩
    · skip
      refine wa_iload_n (n := 0) rfl ?_
      refine wa_goto ⟨_, rfl⟩ ?_
      refine wa_ireturn rfl ?_
      show wJ _ _ _ _ _ _ _ _ _ _
      refine wa_fall ⟨_, rfl⟩ ?_
      refine wa_istore (n := 4) rfl ?_
      refine wa_iconst ?_
      refine wa_istore (n := 5) rfl ?_
      refine wa_iconst ?_
      refine wa_istore (n := 6) rfl ?_
      refine wa_fall ⟨_, rfl⟩ ?_
      obtain ⟨N, hN⟩ : ∃ N : Nat, N = moN ms ph tl.length m q := ⟨_, rfl⟩
      have hNe : ((hmR ms m).2.2.2.2.1.length : Int) = (N : Int) := by rw [hN]; unfold moN; first | (rw [if_pos (by omega)]; omega) | (rw [if_neg (by omega)])
      have hNl : 1 ≤ N → 1 ≤ (hmR ms m).2.2.2.2.1.length ∧ 1 ≤ (hmR ms q).2.2.2.2.1.length := fun h1 => by rw [hN] at h1; unfold moN at h1; first | exact hn1 (by omega) | (rw [if_neg (by omega)] at h1; have := hnm (by omega); omega)
      have hN8 : N ≤ 8 := by rw [hN]; unfold moN; split <;> omega
      rw [hNe]
      exact wJ_S (rmol_241 hM hK hw hm hq hph h122 htl hnm hn1 hN hN8 hNl (N + 1) 0 true (by omega) (by omega) rfl) ⟨rfl, rfl, rfl, rfl, rfl, rfl, rfl, trivial⟩
  · skip
    refine wa_aload_n (n := 0) rfl ?_
    refine wb_gfi 237 rfl (wy_pr rfl) wt_237 wf_15_122 (v := (tl.length : Int)) (h122) (fun r7 => ?_)
    refine wa_goto ⟨_, rfl⟩ ?_
    refine wa_istore (n := 4) rfl ?_
    refine wa_iconst ?_
    refine wa_istore (n := 5) rfl ?_
    refine wa_iconst ?_
    refine wa_istore (n := 6) rfl ?_
    refine wa_fall ⟨_, rfl⟩ ?_
    obtain ⟨N, hN⟩ : ∃ N : Nat, N = moN ms ph tl.length m q := ⟨_, rfl⟩
    have hNe : (tl.length : Int) = (N : Int) := by rw [hN]; unfold moN; first | (rw [if_pos (by omega)]; omega) | (rw [if_neg (by omega)])
    have hNl : 1 ≤ N → 1 ≤ (hmR ms m).2.2.2.2.1.length ∧ 1 ≤ (hmR ms q).2.2.2.2.1.length := fun h1 => by rw [hN] at h1; unfold moN at h1; first | exact hn1 (by omega) | (rw [if_neg (by omega)] at h1; have := hnm (by omega); omega)
    have hN8 : N ≤ 8 := by rw [hN]; unfold moN; split <;> omega
    rw [hNe]
    exact wJ_S (rmol_241 hM hK hw hm hq hph h122 htl hnm hn1 hN hN8 hNl (N + 1) 0 true (by omega) (by omega) rfl) ⟨rfl, rfl, rfl, rfl, rfl, rfl, rfl, trivial⟩
theorem rhsl_241 {x y : Int} (hM : w_ML S) (hK : KR 241 T n cs ms S) (hw : wHo cs ms os) (hx : 0 ≤ x ∧ x < (ms.length : Int)) (hy : 0 ≤ y ∧ y < (ms.length : Int)) : ∀ (f i : Nat) (v : Bool), (hmR ms x).2.2.2.2.1.length - i < f → i ≤ (hmR ms x).2.2.2.2.1.length → (v = true → (hmR ms x).2.2.2.2.1.length = (hmR ms y).2.2.2.2.1.length ∧ ∀ k : Nat, k < i → (hmR ms x).2.2.2.2.1.getD k 0 = (hmR ms y).2.2.2.2.1.getD k 0) → (v = false → ¬ (hmR ms x).2.2.2.2.1 = (hmR ms y).2.2.2.2.1) → wJ (pe_GA xs) wY0 M d t_MO_haveSameTypes ((pe_at t_MO_haveSameTypes.bl 3).getD (0, [])).2 [(0, (2, 241)), (1, (0, x)), (2, (0, y)), (3, (0, bI v)), (4, (0, (i : Int)))] [] S (fun z Z => S = Z ∧ z = .inl (some (0, bI (decide ((hmR ms x).2.2.2.2.1 = (hmR ms y).2.2.2.2.1))))) := by
  have h13 : S 237 13 = 241 := hK.1
  have hn := hK.2.1
  have hn2 := hn.2.2
  have eM := KR_m hK (m := x) (by omega) (by omega)
  have eW := hw.2.2.2 x (by omega) (by omega)
  have e1 : S 253 x = (hmR ms x).2.1 := eM.1.2.1
  have e2 : S 254 x = (hmR ms x).2.2.1 := eM.1.2.2.1
  have e3 : S 255 x = (hmR ms x).2.2.2.1 := eM.1.2.2.2.1
  have e4 : S 256 x = ((hmR ms x).2.2.2.2.1.length : Int) := eM.2.1.1
  have e5 : S 257 x = (hmR ms x).2.2.2.2.2.1 := eM.2.1.2.1
  have ef : S 259 x = (hmR ms x).2.2.2.2.2.2.1 := eM.1.2.2.2.2.1
  have et : S 260 x = (hmR ms x).2.2.2.2.2.2.2 := eM.1.2.2.2.2.2
  have eq := eW.1.2.1
  have es := eW.1.2.2.1
  have ey := eW.1.2.2.2
  have ev := eW.2.1
  have el := eW.2.2.1
  have eft := hK.2.2.2.2.2.2.1 x (by omega) (by omega)
  have gM := KR_m hK (m := y) (by omega) (by omega)
  have gW := hw.2.2.2 y (by omega) (by omega)
  have g1 : S 253 y = (hmR ms y).2.1 := gM.1.2.1
  have g2 : S 254 y = (hmR ms y).2.2.1 := gM.1.2.2.1
  have g3 : S 255 y = (hmR ms y).2.2.2.1 := gM.1.2.2.2.1
  have g4 : S 256 y = ((hmR ms y).2.2.2.2.1.length : Int) := gM.2.1.1
  have g5 : S 257 y = (hmR ms y).2.2.2.2.2.1 := gM.2.1.2.1
  have gf : S 259 y = (hmR ms y).2.2.2.2.2.2.1 := gM.1.2.2.2.2.1
  have gt : S 260 y = (hmR ms y).2.2.2.2.2.2.2 := gM.1.2.2.2.2.2
  have gq := gW.1.2.1
  have gs := gW.1.2.2.1
  have gy := gW.1.2.2.2
  have gv := gW.2.1
  have gl := gW.2.2.1
  have gft := hK.2.2.2.2.2.2.1 y (by omega) (by omega)
  intro f
  induction f with
  | zero => intro i v h; exact absurd h (Nat.not_lt_zero _)
  | succ f ih =>
    intro i v hf hi hvt hvf
    have hbv := bI_rg v
    refine wa_iload (n := 4) rfl ?_
    refine wa_aload_n (n := 0) rfl ?_
    refine wb_gf4 241 rfl (wy_pr rfl) wt_241 wf_12_16 (v := 256) wl_241_16 ?_
    refine wa_iload_n (n := 1) rfl ?_
    refine wb_iald 256 rfl (wy_pr rfl) wt_256 (n := 400) ((ml_256 hM)) (by omega) (by omega) (v := ((hmR ms x).2.2.2.2.1.length : Int)) (e4) (fun r1 => ?_)
    refine wa_icmpge (w_rg0 (by omega) (by omega)) (w_rg0 (by omega) (by omega)) ⟨_, rfl⟩ (fun c2 => ?_) (fun c2 => ?_)
    · skip
      refine wa_iload_n (n := 3) rfl ?_
      refine wa_zreturn rfl (by omega) ?_
      refine ⟨rfl, congrArg (fun z => Sum.inl (some (0, z))) (congrArg bI ?_)⟩
      cases v with
      | true => exact (decide_eq_true (ls_eq.mpr ⟨(hvt rfl).1, fun k hk => (hvt rfl).2 k (by first | omega | exact absurd (show bI true = 0 by omega) (by first | decide | omega))⟩)).symm
      | false => exact (decide_eq_false (hvf rfl)).symm
    · skip
      refine wa_iload_n (n := 3) rfl ?_
      refine wa_ifeq (w_rg0 (by omega) (by omega)) ⟨_, rfl⟩ (fun c3 => ?_) (fun c3 => ?_)
      · skip
        refine wa_iload_n (n := 3) rfl ?_
        refine wa_zreturn rfl (by omega) ?_
        refine ⟨rfl, congrArg (fun z => Sum.inl (some (0, z))) (congrArg bI ?_)⟩
        cases v with
        | true => exact (decide_eq_true (ls_eq.mpr ⟨(hvt rfl).1, fun k hk => (hvt rfl).2 k (by first | omega | exact absurd (show bI true = 0 by omega) (by first | decide | omega))⟩)).symm
        | false => exact (decide_eq_false (hvf rfl)).symm
      · skip
        have hv1 := bI_1 (b := v) (by omega)
        have hvt1 := hvt hv1
        have hpx : S 258 ((8 * x) + (i : Int)) = (hmR ms x).2.2.2.2.1.getD i 0 := eM.2.1.2.2 i (by omega)
        have hpy : S 258 ((8 * y) + (i : Int)) = (hmR ms y).2.2.2.2.1.getD i 0 := gM.2.1.2.2 i (by omega)
        refine wa_aload_n (n := 0) rfl ?_
        refine wb_gf4 241 rfl (wy_pr rfl) wt_241 wf_12_18 (v := 258) wl_241_18 ?_
        refine wa_bipush (w_rg2 (by omega) (by omega)) ?_
        refine wa_iload_n (n := 1) rfl ?_
        refine wa_imul ?_
        refine wa_iload (n := 4) rfl ?_
        refine wa_iadd ?_
        refine wb_iald 258 rfl (wy_pr rfl) wt_258 (n := 3200) ((ml_258 hM)) (by omega) (by omega) (v := ((hmR ms x).2.2.2.2.1.getD i 0)) (hpx) (fun r4 => ?_)
        refine wa_aload_n (n := 0) rfl ?_
        refine wb_gf4 241 rfl (wy_pr rfl) wt_241 wf_12_18 (v := 258) wl_241_18 ?_
        refine wa_bipush (w_rg2 (by omega) (by omega)) ?_
        refine wa_iload_n (n := 2) rfl ?_
        refine wa_imul ?_
        refine wa_iload (n := 4) rfl ?_
        refine wa_iadd ?_
        refine wb_iald 258 rfl (wy_pr rfl) wt_258 (n := 3200) ((ml_258 hM)) (by omega) (by omega) (v := ((hmR ms y).2.2.2.2.1.getD i 0)) (hpy) (fun r5 => ?_)
        refine wa_icmpne (w_rg0 (by omega) (by omega)) (w_rg0 (by omega) (by omega)) ⟨_, rfl⟩ (fun c6 => ?_) (fun c6 => ?_)
        · skip
          refine wa_iconst ?_
          refine wa_fall ⟨_, rfl⟩ ?_
          refine wa_istore_n (n := 3) rfl ?_
          refine wa_iinc rfl rfl ?_
          refine wa_goto ⟨_, rfl⟩ ?_
          refine wJ_S (ih (i + 1) false (by omega) (by omega) (fun z => absurd z (by first | decide | omega)) (fun _ z => ?_)) ⟨rfl, rfl, rfl, rfl, rfl, trivial⟩
          have z2 := congrArg (fun l => l.getD i 0) z
          contradiction
        · skip
          refine wa_iconst ?_
          refine wa_goto ⟨_, rfl⟩ ?_
          refine wa_istore_n (n := 3) rfl ?_
          refine wa_iinc rfl rfl ?_
          refine wa_goto ⟨_, rfl⟩ ?_
          refine wJ_S (ih (i + 1) true (by omega) (by omega) (fun _ => ⟨hvt1.1, fun k hk => ?_⟩) (fun z => absurd z (by first | decide | omega))) ⟨rfl, rfl, rfl, rfl, rfl, trivial⟩
          by_cases hkq : k = i
          · rw [hkq]; omega
          · exact hvt1.2 k (by omega)
theorem rhs_241 {x y : Int} (hM : w_ML S) (hK : KR 241 T n cs ms S) (hw : wHo cs ms os) (hx : 0 ≤ x ∧ x < (ms.length : Int)) (hy : 0 ≤ y ∧ y < (ms.length : Int)) : wJ (pe_GA xs) wY0 M d t_MO_haveSameTypes ((pe_at t_MO_haveSameTypes.bl 0).getD (0, [])).2 [(0, (2, 241)), (1, (0, x)), (2, (0, y))] [] S (fun z Z => S = Z ∧ z = .inl (some (0, bI (decide ((hmR ms x).2.2.2.2.1 = (hmR ms y).2.2.2.2.1))))) := by
  have h13 : S 237 13 = 241 := hK.1
  have hn := hK.2.1
  have hn2 := hn.2.2
  have eM := KR_m hK (m := x) (by omega) (by omega)
  have eW := hw.2.2.2 x (by omega) (by omega)
  have e1 : S 253 x = (hmR ms x).2.1 := eM.1.2.1
  have e2 : S 254 x = (hmR ms x).2.2.1 := eM.1.2.2.1
  have e3 : S 255 x = (hmR ms x).2.2.2.1 := eM.1.2.2.2.1
  have e4 : S 256 x = ((hmR ms x).2.2.2.2.1.length : Int) := eM.2.1.1
  have e5 : S 257 x = (hmR ms x).2.2.2.2.2.1 := eM.2.1.2.1
  have ef : S 259 x = (hmR ms x).2.2.2.2.2.2.1 := eM.1.2.2.2.2.1
  have et : S 260 x = (hmR ms x).2.2.2.2.2.2.2 := eM.1.2.2.2.2.2
  have eq := eW.1.2.1
  have es := eW.1.2.2.1
  have ey := eW.1.2.2.2
  have ev := eW.2.1
  have el := eW.2.2.1
  have eft := hK.2.2.2.2.2.2.1 x (by omega) (by omega)
  have gM := KR_m hK (m := y) (by omega) (by omega)
  have gW := hw.2.2.2 y (by omega) (by omega)
  have g1 : S 253 y = (hmR ms y).2.1 := gM.1.2.1
  have g2 : S 254 y = (hmR ms y).2.2.1 := gM.1.2.2.1
  have g3 : S 255 y = (hmR ms y).2.2.2.1 := gM.1.2.2.2.1
  have g4 : S 256 y = ((hmR ms y).2.2.2.2.1.length : Int) := gM.2.1.1
  have g5 : S 257 y = (hmR ms y).2.2.2.2.2.1 := gM.2.1.2.1
  have gf : S 259 y = (hmR ms y).2.2.2.2.2.2.1 := gM.1.2.2.2.2.1
  have gt : S 260 y = (hmR ms y).2.2.2.2.2.2.2 := gM.1.2.2.2.2.2
  have gq := gW.1.2.1
  have gs := gW.1.2.2.1
  have gy := gW.1.2.2.2
  have gv := gW.2.1
  have gl := gW.2.2.1
  have gft := hK.2.2.2.2.2.2.1 y (by omega) (by omega)
  refine wa_aload_n (n := 0) rfl ?_
  refine wb_gf4 241 rfl (wy_pr rfl) wt_241 wf_12_16 (v := 256) wl_241_16 ?_
  refine wa_iload_n (n := 1) rfl ?_
  refine wb_iald 256 rfl (wy_pr rfl) wt_256 (n := 400) ((ml_256 hM)) (by omega) (by omega) (v := ((hmR ms x).2.2.2.2.1.length : Int)) (e4) (fun r1 => ?_)
  refine wa_aload_n (n := 0) rfl ?_
  refine wb_gf4 241 rfl (wy_pr rfl) wt_241 wf_12_16 (v := 256) wl_241_16 ?_
  refine wa_iload_n (n := 2) rfl ?_
  refine wb_iald 256 rfl (wy_pr rfl) wt_256 (n := 400) ((ml_256 hM)) (by omega) (by omega) (v := ((hmR ms y).2.2.2.2.1.length : Int)) (g4) (fun r2 => ?_)
  refine wa_icmpne (w_rg0 (by omega) (by omega)) (w_rg0 (by omega) (by omega)) ⟨_, rfl⟩ (fun c3 => ?_) (fun c3 => ?_)
  · skip
    refine wa_iconst ?_
    refine wa_fall ⟨_, rfl⟩ ?_
    refine wa_istore_n (n := 3) rfl ?_
    refine wa_iconst ?_
    refine wa_istore (n := 4) rfl ?_
    refine wa_fall ⟨_, rfl⟩ ?_
    exact wJ_S (rhsl_241 hM hK hw hx hy ((hmR ms x).2.2.2.2.1.length + 1) 0 false (by omega) (by omega) (fun z => absurd z (by first | decide | omega)) (fun _ z => by have z2 := congrArg List.length z; omega)) ⟨rfl, rfl, rfl, rfl, rfl, trivial⟩
  · skip
    refine wa_iconst ?_
    refine wa_goto ⟨_, rfl⟩ ?_
    refine wa_istore_n (n := 3) rfl ?_
    refine wa_iconst ?_
    refine wa_istore (n := 4) rfl ?_
    refine wa_fall ⟨_, rfl⟩ ?_
    exact wJ_S (rhsl_241 hM hK hw hx hy ((hmR ms x).2.2.2.2.1.length + 1) 0 true (by omega) (by omega) (fun _ => ⟨by omega, fun k hk => absurd hk (Nat.not_lt_zero _)⟩) (fun z => absurd z (by first | decide | omega))) ⟨rfl, rfl, rfl, rfl, rfl, trivial⟩
theorem riwl_241 {m : Int} {WW : List Int} {N : Nat} (hM : w_ML S) (hK : KR 241 T n cs ms S) (hw : wHo cs ms os) (hm : 0 ≤ m ∧ m < (ms.length : Int)) (hW : wtI WW S) (hN : (N : Int) = (hmR ms m).2.2.2.2.2.2.2 - (hmR ms m).2.2.2.2.2.2.1) : ∀ (f i : Nat) (v : Bool), N - i < f → i ≤ N → (v = true → N = WW.length ∧ ∀ k : Nat, k < i → T ((hmR ms m).2.2.2.2.2.2.1 + (k : Int)) = WW.getD k 0) → (v = false → ¬ nmR T (hmR ms m) = WW) → wJ (pe_GA xs) wY0 M d t_M_isWanted ((pe_at t_M_isWanted.bl 3).getD (0, [])).2 [(0, (2, 237)), (1, (0, m)), (2, (0, (N : Int))), (3, (0, bI v)), (4, (0, (i : Int)))] [] S (fun z Z => S = Z ∧ z = .inl (some (0, bI (decide (nmR T (hmR ms m) = WW))))) := by
  have h13 : S 237 13 = 241 := hK.1
  have hn := hK.2.1
  have hn2 := hn.2.2
  have h26 : S 237 126 = (WW.length : Int) := hW.1
  have hWl := hW.2.2
  have hnn := hK.2.2.2.2.2.1
  have eM := KR_m hK (m := m) (by omega) (by omega)
  have eW := hw.2.2.2 m (by omega) (by omega)
  have e1 : S 253 m = (hmR ms m).2.1 := eM.1.2.1
  have e2 : S 254 m = (hmR ms m).2.2.1 := eM.1.2.2.1
  have e3 : S 255 m = (hmR ms m).2.2.2.1 := eM.1.2.2.2.1
  have e4 : S 256 m = ((hmR ms m).2.2.2.2.1.length : Int) := eM.2.1.1
  have e5 : S 257 m = (hmR ms m).2.2.2.2.2.1 := eM.2.1.2.1
  have ef : S 259 m = (hmR ms m).2.2.2.2.2.2.1 := eM.1.2.2.2.2.1
  have et : S 260 m = (hmR ms m).2.2.2.2.2.2.2 := eM.1.2.2.2.2.2
  have eq := eW.1.2.1
  have es := eW.1.2.2.1
  have ey := eW.1.2.2.2
  have ev := eW.2.1
  have el := eW.2.2.1
  have eft := hK.2.2.2.2.2.2.1 m (by omega) (by omega)
  intro f
  induction f with
  | zero => intro i v h; exact absurd h (Nat.not_lt_zero _)
  | succ f ih =>
    intro i v hf hi hvt hvf
    have hbv := bI_rg v
    refine wa_iload (n := 4) rfl ?_
    refine wa_iload_n (n := 2) rfl ?_
    refine wa_icmpge (w_rg0 (by omega) (by omega)) (w_rg0 (by omega) (by omega)) ⟨_, rfl⟩ (fun c1 => ?_) (fun c1 => ?_)
    · skip
      refine wa_iload_n (n := 3) rfl ?_
      refine wa_zreturn rfl (by omega) ?_
      refine ⟨rfl, congrArg (fun z => Sum.inl (some (0, z))) (congrArg bI ?_)⟩
      cases v with
      | true =>
        refine (decide_eq_true (ls_eq.mpr ⟨?_, fun k hk => ?_⟩)).symm
        · have z : (nmR T (hmR ms m)).length = _ := sl_len _ _ _
          have z2 := (hvt rfl).1; omega
        · have z : (nmR T (hmR ms m)).length = _ := sl_len _ _ _
          rw [z] at hk
          have z3 : (nmR T (hmR ms m)).getD k 0 = T ((hmR ms m).2.2.2.2.2.2.1 + (k : Int)) := sl_get _ _ _ hk
          exact z3.trans ((hvt rfl).2 k (by first | omega | exact absurd (show bI true = 0 by omega) (by first | decide | omega)))
      | false => exact (decide_eq_false (hvf rfl)).symm
    · skip
      refine wa_iload_n (n := 3) rfl ?_
      refine wa_ifeq (w_rg0 (by omega) (by omega)) ⟨_, rfl⟩ (fun c2 => ?_) (fun c2 => ?_)
      · skip
        refine wa_iload_n (n := 3) rfl ?_
        refine wa_zreturn rfl (by omega) ?_
        refine ⟨rfl, congrArg (fun z => Sum.inl (some (0, z))) (congrArg bI ?_)⟩
        cases v with
        | true =>
          refine (decide_eq_true (ls_eq.mpr ⟨?_, fun k hk => ?_⟩)).symm
          · have z : (nmR T (hmR ms m)).length = _ := sl_len _ _ _
            have z2 := (hvt rfl).1; omega
          · have z : (nmR T (hmR ms m)).length = _ := sl_len _ _ _
            rw [z] at hk
            have z3 : (nmR T (hmR ms m)).getD k 0 = T ((hmR ms m).2.2.2.2.2.2.1 + (k : Int)) := sl_get _ _ _ hk
            exact z3.trans ((hvt rfl).2 k (by first | omega | exact absurd (show bI true = 0 by omega) (by first | decide | omega)))
        | false => exact (decide_eq_false (hvf rfl)).symm
      · skip
        have hv1 := bI_1 (b := v) (by omega)
        have hvt1 := hvt hv1
        have hsg : S 242 ((hmR ms m).2.2.2.2.2.2.1 + (i : Int)) = T ((hmR ms m).2.2.2.2.2.2.1 + (i : Int)) := hK.2.2.2.2.1 _ (by omega) (by omega)
        have hw4 := hW.2.1 i (by omega)
        refine wa_aload_n (n := 0) rfl ?_
        refine wb_gf5 237 rfl (wy_pr rfl) wt_237 wf_15_13 (v := 241) (h13) (fun r3 => ?_)
        refine wb_gf4 241 rfl (wy_pr rfl) wt_241 wf_12_0 (v := 242) wl_241_0 ?_
        refine wa_aload_n (n := 0) rfl ?_
        refine wb_gf5 237 rfl (wy_pr rfl) wt_237 wf_15_13 (v := 241) (h13) (fun r4 => ?_)
        refine wb_gf4 241 rfl (wy_pr rfl) wt_241 wf_12_19 (v := 259) wl_241_19 ?_
        refine wa_iload_n (n := 1) rfl ?_
        refine wb_iald 259 rfl (wy_pr rfl) wt_259 (n := 400) ((ml_259 hM)) (by omega) (by omega) (v := (hmR ms m).2.2.2.2.2.2.1) (ef) (fun r5 => ?_)
        refine wa_iload (n := 4) rfl ?_
        refine wa_iadd ?_
        refine wb_bald 242 rfl (wy_pr rfl) wt_242 (n := 65536) ((ml_242 hM)) (by omega) (by omega) (v := (T ((hmR ms m).2.2.2.2.2.2.1 + (i : Int)))) (hsg) (fun r6 => ?_)
        refine wa_aload_n (n := 0) rfl ?_
        refine wb_gf4 237 rfl (wy_pr rfl) wt_237 wf_15_127 (v := 354) wl_237_127 ?_
        refine wa_iload (n := 4) rfl ?_
        refine wb_bald 354 rfl (wy_pr rfl) wt_354 (n := 72) ((ml_354 hM)) (by omega) (by omega) (v := (WW.getD i 0)) (hw4) (fun r7 => ?_)
        refine wa_icmpne (w_rg0 (by omega) (by omega)) (w_rg0 (by omega) (by omega)) ⟨_, rfl⟩ (fun c8 => ?_) (fun c8 => ?_)
        · skip
          refine wa_iconst ?_
          refine wa_fall ⟨_, rfl⟩ ?_
          refine wa_istore_n (n := 3) rfl ?_
          refine wa_iinc rfl rfl ?_
          refine wa_goto ⟨_, rfl⟩ ?_
          refine wJ_S (ih (i + 1) false (by omega) (by omega) (fun z => absurd z (by first | decide | omega)) (fun _ z => ?_)) ⟨rfl, rfl, rfl, rfl, rfl, trivial⟩
          have z2 : (nmR T (hmR ms m)).getD i 0 = WW.getD i 0 := by rw [z]
          have z3 : (nmR T (hmR ms m)).getD i 0 = T ((hmR ms m).2.2.2.2.2.2.1 + (i : Int)) := sl_get _ _ _ (by omega)
          exact absurd (z3.symm.trans z2) (by assumption)
        · skip
          refine wa_iconst ?_
          refine wa_goto ⟨_, rfl⟩ ?_
          refine wa_istore_n (n := 3) rfl ?_
          refine wa_iinc rfl rfl ?_
          refine wa_goto ⟨_, rfl⟩ ?_
          refine wJ_S (ih (i + 1) true (by omega) (by omega) (fun _ => ⟨hvt1.1, fun k hk => ?_⟩) (fun z => absurd z (by first | decide | omega))) ⟨rfl, rfl, rfl, rfl, rfl, trivial⟩
          by_cases hkq : k = i
          · rw [hkq]; omega
          · exact hvt1.2 k (by omega)
theorem riw_241 {m : Int} {WW : List Int} (hM : w_ML S) (hK : KR 241 T n cs ms S) (hw : wHo cs ms os) (hm : 0 ≤ m ∧ m < (ms.length : Int)) (hW : wtI WW S) : wJ (pe_GA xs) wY0 M d t_M_isWanted ((pe_at t_M_isWanted.bl 0).getD (0, [])).2 [(0, (2, 237)), (1, (0, m))] [] S (fun z Z => S = Z ∧ z = .inl (some (0, bI (decide (nmR T (hmR ms m) = WW))))) := by
  have h13 : S 237 13 = 241 := hK.1
  have hn := hK.2.1
  have hn2 := hn.2.2
  have h26 : S 237 126 = (WW.length : Int) := hW.1
  have hWl := hW.2.2
  have hnn := hK.2.2.2.2.2.1
  have eM := KR_m hK (m := m) (by omega) (by omega)
  have eW := hw.2.2.2 m (by omega) (by omega)
  have e1 : S 253 m = (hmR ms m).2.1 := eM.1.2.1
  have e2 : S 254 m = (hmR ms m).2.2.1 := eM.1.2.2.1
  have e3 : S 255 m = (hmR ms m).2.2.2.1 := eM.1.2.2.2.1
  have e4 : S 256 m = ((hmR ms m).2.2.2.2.1.length : Int) := eM.2.1.1
  have e5 : S 257 m = (hmR ms m).2.2.2.2.2.1 := eM.2.1.2.1
  have ef : S 259 m = (hmR ms m).2.2.2.2.2.2.1 := eM.1.2.2.2.2.1
  have et : S 260 m = (hmR ms m).2.2.2.2.2.2.2 := eM.1.2.2.2.2.2
  have eq := eW.1.2.1
  have es := eW.1.2.2.1
  have ey := eW.1.2.2.2
  have ev := eW.2.1
  have el := eW.2.2.1
  have eft := hK.2.2.2.2.2.2.1 m (by omega) (by omega)
  obtain ⟨N, hN⟩ : ∃ N : Nat, (N : Int) = (hmR ms m).2.2.2.2.2.2.2 - (hmR ms m).2.2.2.2.2.2.1 := ⟨((hmR ms m).2.2.2.2.2.2.2 - (hmR ms m).2.2.2.2.2.2.1).toNat, by omega⟩
  refine wa_aload_n (n := 0) rfl ?_
  refine wb_gf5 237 rfl (wy_pr rfl) wt_237 wf_15_13 (v := 241) (h13) (fun r1 => ?_)
  refine wb_gf4 241 rfl (wy_pr rfl) wt_241 wf_12_20 (v := 260) wl_241_20 ?_
  refine wa_iload_n (n := 1) rfl ?_
  refine wb_iald 260 rfl (wy_pr rfl) wt_260 (n := 400) ((ml_260 hM)) (by omega) (by omega) (v := (hmR ms m).2.2.2.2.2.2.2) (et) (fun r2 => ?_)
  refine wa_aload_n (n := 0) rfl ?_
  refine wb_gf5 237 rfl (wy_pr rfl) wt_237 wf_15_13 (v := 241) (h13) (fun r3 => ?_)
  refine wb_gf4 241 rfl (wy_pr rfl) wt_241 wf_12_19 (v := 259) wl_241_19 ?_
  refine wa_iload_n (n := 1) rfl ?_
  refine wb_iald 259 rfl (wy_pr rfl) wt_259 (n := 400) ((ml_259 hM)) (by omega) (by omega) (v := (hmR ms m).2.2.2.2.2.2.1) (ef) (fun r4 => ?_)
  refine wa_isub ?_
  refine wJ_top (show ((hmR ms m).2.2.2.2.2.2.2 - (hmR ms m).2.2.2.2.2.2.1) = (N : Int) from hN.symm) ?_
  refine wa_istore_n (n := 2) rfl ?_
  refine wa_iload_n (n := 2) rfl ?_
  refine wa_aload_n (n := 0) rfl ?_
  refine wb_gfi 237 rfl (wy_pr rfl) wt_237 wf_15_126 (v := (WW.length : Int)) (h26) (fun r5 => ?_)
  refine wa_icmpne (w_rg0 (by omega) (by omega)) (w_rg0 (by omega) (by omega)) ⟨_, rfl⟩ (fun c6 => ?_) (fun c6 => ?_)
  · skip
    refine wa_iconst ?_
    refine wa_fall ⟨_, rfl⟩ ?_
    refine wa_istore_n (n := 3) rfl ?_
    refine wa_iconst ?_
    refine wa_istore (n := 4) rfl ?_
    refine wa_fall ⟨_, rfl⟩ ?_
    exact wJ_S (riwl_241 hM hK hw hm hW hN (N + 1) 0 false (by omega) (by omega) (fun z => absurd z (by first | decide | omega)) (fun _ z => by have z2 := congrArg List.length z; have z3 : (nmR T (hmR ms m)).length = _ := sl_len _ _ _; omega)) ⟨rfl, rfl, rfl, rfl, rfl, trivial⟩
  · skip
    refine wa_iconst ?_
    refine wa_goto ⟨_, rfl⟩ ?_
    refine wa_istore_n (n := 3) rfl ?_
    refine wa_iconst ?_
    refine wa_istore (n := 4) rfl ?_
    refine wa_fall ⟨_, rfl⟩ ?_
    exact wJ_S (riwl_241 hM hK hw hm hW hN (N + 1) 0 true (by omega) (by omega) (fun _ => ⟨by omega, fun k hk => absurd hk (Nat.not_lt_zero _)⟩) (fun z => absurd z (by first | decide | omega))) ⟨rfl, rfl, rfl, rfl, rfl, trivial⟩
theorem rsb_261 {a o : Int} (hM : w_ML S) (hK : KR 261 T n cs ms S) (hw : wHo cs ms os) (ha : 1 ≤ a ∧ a < 9 + (cs.length : Int)) (ho : 1 ≤ o ∧ o < 9 + (cs.length : Int)) : wJ (pe_GA xs) wY0 M d t_MO_isSub ((pe_at t_MO_isSub.bl 0).getD (0, [])).2 [(0, (2, 261)), (1, (0, a)), (2, (0, o))] [] S (fun z Z => S = Z ∧ z = .inl (some (0, bI (sbB cs a o)))) := by
  have h13 : S 237 13 = 261 := hK.1
  have hn := hK.2.1
  have hn2 := hn.2.2
  have hb2 : 9 ≤ a → 9 ≤ o → wb_land (wb_lushr (S 267 (a - 9)) (o - 9)) 1 = if bb ((hcR cs (a - 9)).2.2.2.2.2.1) (o - 9).toNat = true then 1 else 0 := fun h1 h2 => by rw [bb_sh (by omega), (KR_c hK (k := a - 9) (by omega) (by omega)).2.2.2.1.2.2.1]
  refine wa_iload_n (n := 1) rfl ?_
  refine wa_ifeq (w_rg0 (by omega) (by omega)) ⟨_, rfl⟩ (fun c1 => ?_) (fun c1 => ?_)
  · skip
    refine wa_iconst ?_
    refine wa_zreturn rfl (Or.inl rfl) ?_
    refine ⟨rfl, congrArg (fun z => Sum.inl (some (0, z))) (sb_0 ?_).symm⟩
    rintro (q | q | q | q)
    · omega
    · omega
    · omega
    · first | omega | (rw [if_pos q.2.2.2] at hb3; omega)
  · skip
    refine wa_iload_n (n := 2) rfl ?_
    refine wa_ifne (w_rg0 (by omega) (by omega)) ⟨_, rfl⟩ (fun c2 => ?_) (fun c2 => ?_)
    · skip
      refine wa_iload_n (n := 1) rfl ?_
      refine wa_iload_n (n := 2) rfl ?_
      refine wa_icmpeq (w_rg0 (by omega) (by omega)) (w_rg0 (by omega) (by omega)) ⟨_, rfl⟩ (fun c3 => ?_) (fun c3 => ?_)
      · skip
        refine wa_iconst ?_
        refine wa_zreturn rfl (Or.inr rfl) ?_
        refine ⟨rfl, congrArg (fun z => Sum.inl (some (0, z))) (sb_1 ?_).symm⟩
        first | exact Or.inl (by omega) | exact Or.inr (Or.inl ⟨by omega, by omega⟩) | exact Or.inr (Or.inr (Or.inl ⟨by omega, by omega⟩)) | (refine Or.inr (Or.inr (Or.inr ⟨by omega, by omega, by omega, ?_⟩)); split at hb3 <;> rename_i hbq <;> first | exact hbq | omega)
      · skip
        refine wa_iload_n (n := 1) rfl ?_
        refine wa_iconst ?_
        refine wa_icmpne (w_rg0 (by omega) (by omega)) (w_rg0 (by omega) (by omega)) ⟨_, rfl⟩ (fun c4 => ?_) (fun c4 => ?_)
        · skip
          refine wa_iload_n (n := 2) rfl ?_
          refine wa_bipush (w_rg2 (by omega) (by omega)) ?_
          refine wa_icmpne (w_rg0 (by omega) (by omega)) (w_rg0 (by omega) (by omega)) ⟨_, rfl⟩ (fun c5 => ?_) (fun c5 => ?_)
          · skip
            refine wa_iload_n (n := 1) rfl ?_
            refine wa_bipush (w_rg2 (by omega) (by omega)) ?_
            refine wa_icmplt (w_rg0 (by omega) (by omega)) (w_rg0 (by omega) (by omega)) ⟨_, rfl⟩ (fun c6 => ?_) (fun c6 => ?_)
            · skip
              refine wa_iconst ?_
              refine wa_fall ⟨_, rfl⟩ ?_
              refine wa_zreturn rfl (Or.inl rfl) ?_
              refine ⟨rfl, congrArg (fun z => Sum.inl (some (0, z))) (sb_0 ?_).symm⟩
              rintro (q | q | q | q)
              · omega
              · omega
              · omega
              · first | omega | (rw [if_pos q.2.2.2] at hb3; omega)
            · skip
              refine wa_iload_n (n := 2) rfl ?_
              refine wa_bipush (w_rg2 (by omega) (by omega)) ?_
              refine wa_icmplt (w_rg0 (by omega) (by omega)) (w_rg0 (by omega) (by omega)) ⟨_, rfl⟩ (fun c7 => ?_) (fun c7 => ?_)
              · skip
                refine wa_iconst ?_
                refine wa_fall ⟨_, rfl⟩ ?_
                refine wa_zreturn rfl (Or.inl rfl) ?_
                refine ⟨rfl, congrArg (fun z => Sum.inl (some (0, z))) (sb_0 ?_).symm⟩
                rintro (q | q | q | q)
                · omega
                · omega
                · omega
                · first | omega | (rw [if_pos q.2.2.2] at hb3; omega)
              · skip
                refine wa_aload_n (n := 0) rfl ?_
                refine wb_gf4 261 rfl (wy_pr rfl) wt_261 wf_12_6 (v := 267) wl_261_6 ?_
                refine wa_iload_n (n := 1) rfl ?_
                refine wa_bipush (w_rg2 (by omega) (by omega)) ?_
                refine wa_isub ?_
                refine wb_lald 267 rfl (wy_pr rfl) wt_267 (n := 60) ((ml_267 hM)) (by omega) (by omega) (v := (S 267 (a - 9))) rfl (fun r8 => ?_)
                refine wa_iload_n (n := 2) rfl ?_
                refine wa_bipush (w_rg2 (by omega) (by omega)) ?_
                refine wa_isub ?_
                refine wa_lushr ?_
                refine wb_lconst (m := 1) rfl ?_
                refine wa_land ?_
                refine wb_lconst (m := 1) rfl ?_
                have hb3 := hb2 (by omega) (by omega)
                have hbx : 0 ≤ wb_land (wb_lushr (S 267 (a - 9)) (o - 9)) 1 ∧ wb_land (wb_lushr (S 267 (a - 9)) (o - 9)) 1 ≤ 1 := by rw [hb3]; split <;> omega
                refine wa_lcmp (w_rg1 (by omega) (by omega)) (w_rg1 (by omega) (by omega)) ?_
                refine wa_ifne (by have := @wb_lcmp_cases; exact w_lcmp_rg) ⟨_, rfl⟩ (fun c9 => ?_) (fun c9 => ?_)
                · skip
                  have c9x := @wb_lcmp_cases (wb_land (wb_lushr (S 267 (a - 9)) (o - 9)) 1) 1
                  refine wa_iconst ?_
                  refine wa_fall ⟨_, rfl⟩ ?_
                  refine wa_zreturn rfl (Or.inl rfl) ?_
                  refine ⟨rfl, congrArg (fun z => Sum.inl (some (0, z))) (sb_0 ?_).symm⟩
                  rintro (q | q | q | q)
                  · omega
                  · omega
                  · omega
                  · first | omega | (rw [if_pos q.2.2.2] at hb3; omega)
                · skip
                  have c9x := @wb_lcmp_cases (wb_land (wb_lushr (S 267 (a - 9)) (o - 9)) 1) 1
                  refine wa_iconst ?_
                  refine wa_goto ⟨_, rfl⟩ ?_
                  refine wa_zreturn rfl (Or.inr rfl) ?_
                  refine ⟨rfl, congrArg (fun z => Sum.inl (some (0, z))) (sb_1 ?_).symm⟩
                  first | exact Or.inl (by omega) | exact Or.inr (Or.inl ⟨by omega, by omega⟩) | exact Or.inr (Or.inr (Or.inl ⟨by omega, by omega⟩)) | (refine Or.inr (Or.inr (Or.inr ⟨by omega, by omega, by omega, ?_⟩)); split at hb3 <;> rename_i hbq <;> first | exact hbq | omega)
          · skip
            refine wa_iload_n (n := 1) rfl ?_
            refine wa_iconst ?_
            refine wa_icmple (w_rg0 (by omega) (by omega)) (w_rg0 (by omega) (by omega)) ⟨_, rfl⟩ (fun c10 => ?_) (fun c10 => ?_)
            · skip
              refine wa_iconst ?_
              refine wa_fall ⟨_, rfl⟩ ?_
              refine wa_zreturn rfl (Or.inl rfl) ?_
              refine ⟨rfl, congrArg (fun z => Sum.inl (some (0, z))) (sb_0 ?_).symm⟩
              rintro (q | q | q | q)
              · omega
              · omega
              · omega
              · first | omega | (rw [if_pos q.2.2.2] at hb3; omega)
            · skip
              refine wa_iconst ?_
              refine wa_goto ⟨_, rfl⟩ ?_
              refine wa_zreturn rfl (Or.inr rfl) ?_
              refine ⟨rfl, congrArg (fun z => Sum.inl (some (0, z))) (sb_1 ?_).symm⟩
              first | exact Or.inl (by omega) | exact Or.inr (Or.inl ⟨by omega, by omega⟩) | exact Or.inr (Or.inr (Or.inl ⟨by omega, by omega⟩)) | (refine Or.inr (Or.inr (Or.inr ⟨by omega, by omega, by omega, ?_⟩)); split at hb3 <;> rename_i hbq <;> first | exact hbq | omega)
        · skip
          refine wa_iload_n (n := 2) rfl ?_
          refine wa_iconst ?_
          refine wa_icmpne (w_rg0 (by omega) (by omega)) (w_rg0 (by omega) (by omega)) ⟨_, rfl⟩ (fun c11 => ?_) (fun c11 => ?_)
          · skip
            refine wa_iload_n (n := 2) rfl ?_
            refine wa_bipush (w_rg2 (by omega) (by omega)) ?_
            refine wa_icmpne (w_rg0 (by omega) (by omega)) (w_rg0 (by omega) (by omega)) ⟨_, rfl⟩ (fun c12 => ?_) (fun c12 => ?_)
            · skip
              refine wa_iload_n (n := 1) rfl ?_
              refine wa_bipush (w_rg2 (by omega) (by omega)) ?_
              refine wa_icmplt (w_rg0 (by omega) (by omega)) (w_rg0 (by omega) (by omega)) ⟨_, rfl⟩ (fun c13 => ?_) (fun c13 => ?_)
              · skip
                refine wa_iconst ?_
                refine wa_fall ⟨_, rfl⟩ ?_
                refine wa_zreturn rfl (Or.inl rfl) ?_
                refine ⟨rfl, congrArg (fun z => Sum.inl (some (0, z))) (sb_0 ?_).symm⟩
                rintro (q | q | q | q)
                · omega
                · omega
                · omega
                · first | omega | (rw [if_pos q.2.2.2] at hb3; omega)
              · skip
                exact absurd c13 (by omega)
            · skip
              refine wa_iload_n (n := 1) rfl ?_
              refine wa_iconst ?_
              refine wa_icmple (w_rg0 (by omega) (by omega)) (w_rg0 (by omega) (by omega)) ⟨_, rfl⟩ (fun c14 => ?_) (fun c14 => ?_)
              · skip
                refine wa_iconst ?_
                refine wa_fall ⟨_, rfl⟩ ?_
                refine wa_zreturn rfl (Or.inl rfl) ?_
                refine ⟨rfl, congrArg (fun z => Sum.inl (some (0, z))) (sb_0 ?_).symm⟩
                rintro (q | q | q | q)
                · omega
                · omega
                · omega
                · first | omega | (rw [if_pos q.2.2.2] at hb3; omega)
              · skip
                exact absurd c14 (by omega)
          · skip
            refine wa_fall ⟨_, rfl⟩ ?_
            refine wa_iconst ?_
            refine wa_zreturn rfl (Or.inr rfl) ?_
            refine ⟨rfl, congrArg (fun z => Sum.inl (some (0, z))) (sb_1 ?_).symm⟩
            first | exact Or.inl (by omega) | exact Or.inr (Or.inl ⟨by omega, by omega⟩) | exact Or.inr (Or.inr (Or.inl ⟨by omega, by omega⟩)) | (refine Or.inr (Or.inr (Or.inr ⟨by omega, by omega, by omega, ?_⟩)); split at hb3 <;> rename_i hbq <;> first | exact hbq | omega)
    · skip
      refine wa_fall ⟨_, rfl⟩ ?_
      refine wa_iconst ?_
      refine wa_zreturn rfl (Or.inl rfl) ?_
      refine ⟨rfl, congrArg (fun z => Sum.inl (some (0, z))) (sb_0 ?_).symm⟩
      rintro (q | q | q | q)
      · omega
      · omega
      · omega
      · first | omega | (rw [if_pos q.2.2.2] at hb3; omega)
theorem rst_261 {f q : Int} (hM : w_ML S) (hK : KR 261 T n cs ms S) (hw : wHo cs ms os) (hf : 0 ≤ f ∧ f < 9 + (cs.length : Int)) (hq : 0 ≤ q ∧ q < 9 + (cs.length : Int)) : wJ (pe_GA xs) wY0 M (d + 1) t_M_strict ((pe_at t_M_strict.bl 0).getD (0, [])).2 [(0, (2, 237)), (1, (0, f)), (2, (0, q))] [] S (fun z Z => S = Z ∧ z = .inl (some (0, bI (gTB cs f q false)))) := by
  have h13 : S 237 13 = 261 := hK.1
  have hn := hK.2.1
  have hn2 := hn.2.2
  refine wa_iload_n (n := 2) rfl ?_
  refine wa_iconst ?_
  refine wa_icmple (w_rg0 (by omega) (by omega)) (w_rg0 (by omega) (by omega)) ⟨_, rfl⟩ (fun c1 => ?_) (fun c1 => ?_)
  · skip
    refine wa_iconst ?_
    refine wa_fall ⟨_, rfl⟩ ?_
    refine wa_zreturn rfl (Or.inl rfl) ?_
    refine ⟨rfl, congrArg (fun z => Sum.inl (some (0, z))) ?_⟩
    first | exact (gT_4 (by omega) (by omega) (by omega)).symm | exact (gT_5 (l := 0) (Or.inl ⟨rfl, rfl⟩) (by omega) (by omega)).symm | exact (gT_dn (bI_0 (by omega)) (by omega)).symm
  · skip
    refine wa_iload_n (n := 1) rfl ?_
    refine wa_ifeq (w_rg0 (by omega) (by omega)) ⟨_, rfl⟩ (fun c2 => ?_) (fun c2 => ?_)
    · skip
      refine wa_iconst ?_
      refine wa_goto ⟨_, rfl⟩ ?_
      refine wa_zreturn rfl (Or.inr rfl) ?_
      refine ⟨rfl, congrArg (fun z => Sum.inl (some (0, z))) ?_⟩
      first | exact (gT_1 (by omega) (by omega)).symm | exact (gT_2 (by omega) (by omega)).symm | exact (gT_3 (l := 0) (Or.inl ⟨rfl, rfl⟩) (by omega) (by omega) (by omega)).symm | exact (bI_t (gT_up (bI_1 (by omega)))).symm
    · skip
      refine wa_aload_n (n := 0) rfl ?_
      refine wb_gf5 237 rfl (wy_pr rfl) wt_237 wf_15_13 (v := 261) (h13) (fun r3 => ?_)
      refine wa_iload_n (n := 1) rfl ?_
      refine wa_iload_n (n := 2) rfl ?_
      refine wa_cv 261 rfl (wy_pr rfl) wt_261 (M2 := fun _ => False) rfl at_MO_isSub ⟨_, rfl⟩ rfl rfl ⟨(Or.inr ⟨wy_pr rfl, fun q => q⟩), trivial, trivial, trivial⟩ trivial (fun _ _ q => False.elim q) (rsb_261 (S := S) (a := f) (o := q) hM hK hw ⟨by omega, by omega⟩ ⟨by omega, by omega⟩) (fun oq4 Sq4 hp5 q4 => ?_)
      rcases q4 with ⟨rfl, rfl⟩
      show wJ _ _ _ _ _ _ _ _ _ _
      have hbr3 := bI_rg (sbB cs f q)
      refine wa_ifeq (w_rg0 (by omega) (by omega)) ⟨_, rfl⟩ (fun c6 => ?_) (fun c6 => ?_)
      · skip
        refine wa_iconst ?_
        refine wa_fall ⟨_, rfl⟩ ?_
        refine wa_zreturn rfl (Or.inl rfl) ?_
        refine ⟨rfl, congrArg (fun z => Sum.inl (some (0, z))) ?_⟩
        first | exact (gT_4 (by omega) (by omega) (by omega)).symm | exact (gT_5 (l := 0) (Or.inl ⟨rfl, rfl⟩) (by omega) (by omega)).symm | exact (gT_dn (bI_0 (by omega)) (by omega)).symm
      · skip
        refine wa_fall ⟨_, rfl⟩ ?_
        refine wa_iconst ?_
        refine wa_goto ⟨_, rfl⟩ ?_
        refine wa_zreturn rfl (Or.inr rfl) ?_
        refine ⟨rfl, congrArg (fun z => Sum.inl (some (0, z))) ?_⟩
        first | exact (gT_1 (by omega) (by omega)).symm | exact (gT_2 (by omega) (by omega)).symm | exact (gT_3 (l := 0) (Or.inl ⟨rfl, rfl⟩) (by omega) (by omega) (by omega)).symm | exact (bI_t (gT_up (bI_1 (by omega)))).symm
theorem rlo_261 {f q : Int} (hM : w_ML S) (hK : KR 261 T n cs ms S) (hw : wHo cs ms os) (hf : 0 ≤ f ∧ f < 9 + (cs.length : Int)) (hq : 0 ≤ q ∧ q < 9 + (cs.length : Int)) : wJ (pe_GA xs) wY0 M (d + 2) t_M_loose ((pe_at t_M_loose.bl 0).getD (0, [])).2 [(0, (2, 237)), (1, (0, f)), (2, (0, q))] [] S (fun z Z => S = Z ∧ z = .inl (some (0, bI (gTB cs f q true)))) := by
  have h13 : S 237 13 = 261 := hK.1
  have hn := hK.2.1
  have hn2 := hn.2.2
  refine wa_aload_n (n := 0) rfl ?_
  refine wa_iload_n (n := 1) rfl ?_
  refine wa_iload_n (n := 2) rfl ?_
  refine wa_cv 237 rfl (wy_pr rfl) wt_237 (M2 := fun _ => False) rfl at_M_strict ⟨_, rfl⟩ rfl rfl ⟨(Or.inr ⟨wy_pr rfl, fun q => q⟩), trivial, trivial, trivial⟩ trivial (fun _ _ q => False.elim q) (rst_261 (S := S) (f := f) (q := q) hM hK hw hf hq) (fun oq1 Sq1 hp2 q1 => ?_)
  rcases q1 with ⟨rfl, rfl⟩
  show wJ _ _ _ _ _ _ _ _ _ _
  have hbs := bI_rg (gTB cs f q false)
  refine wa_ifne (w_rg0 (by omega) (by omega)) ⟨_, rfl⟩ (fun c3 => ?_) (fun c3 => ?_)
  · skip
    refine wa_iconst ?_
    refine wa_goto ⟨_, rfl⟩ ?_
    refine wa_zreturn rfl (Or.inr rfl) ?_
    refine ⟨rfl, congrArg (fun z => Sum.inl (some (0, z))) ?_⟩
    first | exact (gT_1 (by omega) (by omega)).symm | exact (gT_2 (by omega) (by omega)).symm | exact (gT_3 (l := 1) (Or.inr ⟨rfl, rfl⟩) (by omega) (by omega) (by omega)).symm | exact (bI_t (gT_up (bI_1 (by omega)))).symm
  · skip
    refine wa_iload_n (n := 1) rfl ?_
    refine wa_iconst ?_
    refine wa_icmpne (w_rg0 (by omega) (by omega)) (w_rg0 (by omega) (by omega)) ⟨_, rfl⟩ (fun c4 => ?_) (fun c4 => ?_)
    · skip
      refine wa_iload_n (n := 1) rfl ?_
      refine wa_iconst ?_
      refine wa_icmpne (w_rg0 (by omega) (by omega)) (w_rg0 (by omega) (by omega)) ⟨_, rfl⟩ (fun c5 => ?_) (fun c5 => ?_)
      · skip
        refine wa_iload_n (n := 1) rfl ?_
        refine wa_bipush (w_rg2 (by omega) (by omega)) ?_
        refine wa_icmpne (w_rg0 (by omega) (by omega)) (w_rg0 (by omega) (by omega)) ⟨_, rfl⟩ (fun c6 => ?_) (fun c6 => ?_)
        · skip
          refine wa_iconst ?_
          refine wa_fall ⟨_, rfl⟩ ?_
          refine wa_zreturn rfl (Or.inl rfl) ?_
          refine ⟨rfl, congrArg (fun z => Sum.inl (some (0, z))) ?_⟩
          first | exact (gT_4 (by omega) (by omega) (by omega)).symm | exact (gT_5 (l := 1) (Or.inr ⟨rfl, rfl⟩) (by omega) (by omega)).symm | exact (gT_dn (bI_0 (by omega)) (by omega)).symm
        · skip
          refine wa_iload_n (n := 2) rfl ?_
          refine wa_iconst ?_
          refine wa_icmpne (w_rg0 (by omega) (by omega)) (w_rg0 (by omega) (by omega)) ⟨_, rfl⟩ (fun c7 => ?_) (fun c7 => ?_)
          · skip
            refine wa_iconst ?_
            refine wa_fall ⟨_, rfl⟩ ?_
            refine wa_zreturn rfl (Or.inl rfl) ?_
            refine ⟨rfl, congrArg (fun z => Sum.inl (some (0, z))) ?_⟩
            first | exact (gT_4 (by omega) (by omega) (by omega)).symm | exact (gT_5 (l := 1) (Or.inr ⟨rfl, rfl⟩) (by omega) (by omega)).symm | exact (gT_dn (bI_0 (by omega)) (by omega)).symm
          · skip
            refine wa_fall ⟨_, rfl⟩ ?_
            refine wa_iconst ?_
            refine wa_goto ⟨_, rfl⟩ ?_
            refine wa_zreturn rfl (Or.inr rfl) ?_
            refine ⟨rfl, congrArg (fun z => Sum.inl (some (0, z))) ?_⟩
            first | exact (gT_1 (by omega) (by omega)).symm | exact (gT_2 (by omega) (by omega)).symm | exact (gT_3 (l := 1) (Or.inr ⟨rfl, rfl⟩) (by omega) (by omega) (by omega)).symm | exact (bI_t (gT_up (bI_1 (by omega)))).symm
      · skip
        refine wa_iload_n (n := 2) rfl ?_
        refine wa_iconst ?_
        refine wa_icmpeq (w_rg0 (by omega) (by omega)) (w_rg0 (by omega) (by omega)) ⟨_, rfl⟩ (fun c8 => ?_) (fun c8 => ?_)
        · skip
          refine wa_iconst ?_
          refine wa_goto ⟨_, rfl⟩ ?_
          refine wa_zreturn rfl (Or.inr rfl) ?_
          refine ⟨rfl, congrArg (fun z => Sum.inl (some (0, z))) ?_⟩
          first | exact (gT_1 (by omega) (by omega)).symm | exact (gT_2 (by omega) (by omega)).symm | exact (gT_3 (l := 1) (Or.inr ⟨rfl, rfl⟩) (by omega) (by omega) (by omega)).symm | exact (bI_t (gT_up (bI_1 (by omega)))).symm
        · skip
          refine wa_fall ⟨_, rfl⟩ ?_
          refine wa_iload_n (n := 1) rfl ?_
          refine wa_bipush (w_rg2 (by omega) (by omega)) ?_
          refine wa_icmpne (w_rg0 (by omega) (by omega)) (w_rg0 (by omega) (by omega)) ⟨_, rfl⟩ (fun c9 => ?_) (fun c9 => ?_)
          · skip
            refine wa_iconst ?_
            refine wa_fall ⟨_, rfl⟩ ?_
            refine wa_zreturn rfl (Or.inl rfl) ?_
            refine ⟨rfl, congrArg (fun z => Sum.inl (some (0, z))) ?_⟩
            first | exact (gT_4 (by omega) (by omega) (by omega)).symm | exact (gT_5 (l := 1) (Or.inr ⟨rfl, rfl⟩) (by omega) (by omega)).symm | exact (gT_dn (bI_0 (by omega)) (by omega)).symm
          · skip
            exact absurd c9 (by omega)
    · skip
      refine wa_iload_n (n := 2) rfl ?_
      refine wa_iconst ?_
      refine wa_icmpeq (w_rg0 (by omega) (by omega)) (w_rg0 (by omega) (by omega)) ⟨_, rfl⟩ (fun c10 => ?_) (fun c10 => ?_)
      · skip
        refine wa_iconst ?_
        refine wa_goto ⟨_, rfl⟩ ?_
        refine wa_zreturn rfl (Or.inr rfl) ?_
        refine ⟨rfl, congrArg (fun z => Sum.inl (some (0, z))) ?_⟩
        first | exact (gT_1 (by omega) (by omega)).symm | exact (gT_2 (by omega) (by omega)).symm | exact (gT_3 (l := 1) (Or.inr ⟨rfl, rfl⟩) (by omega) (by omega) (by omega)).symm | exact (bI_t (gT_up (bI_1 (by omega)))).symm
      · skip
        refine wa_iload_n (n := 2) rfl ?_
        refine wa_iconst ?_
        refine wa_icmpeq (w_rg0 (by omega) (by omega)) (w_rg0 (by omega) (by omega)) ⟨_, rfl⟩ (fun c11 => ?_) (fun c11 => ?_)
        · skip
          refine wa_iconst ?_
          refine wa_goto ⟨_, rfl⟩ ?_
          refine wa_zreturn rfl (Or.inr rfl) ?_
          refine ⟨rfl, congrArg (fun z => Sum.inl (some (0, z))) ?_⟩
          first | exact (gT_1 (by omega) (by omega)).symm | exact (gT_2 (by omega) (by omega)).symm | exact (gT_3 (l := 1) (Or.inr ⟨rfl, rfl⟩) (by omega) (by omega) (by omega)).symm | exact (bI_t (gT_up (bI_1 (by omega)))).symm
        · skip
          refine wa_fall ⟨_, rfl⟩ ?_
          refine wa_iload_n (n := 1) rfl ?_
          refine wa_iconst ?_
          refine wa_icmpne (w_rg0 (by omega) (by omega)) (w_rg0 (by omega) (by omega)) ⟨_, rfl⟩ (fun c12 => ?_) (fun c12 => ?_)
          · skip
            refine wa_iload_n (n := 1) rfl ?_
            refine wa_bipush (w_rg2 (by omega) (by omega)) ?_
            refine wa_icmpne (w_rg0 (by omega) (by omega)) (w_rg0 (by omega) (by omega)) ⟨_, rfl⟩ (fun c13 => ?_) (fun c13 => ?_)
            · skip
              refine wa_iconst ?_
              refine wa_fall ⟨_, rfl⟩ ?_
              refine wa_zreturn rfl (Or.inl rfl) ?_
              refine ⟨rfl, congrArg (fun z => Sum.inl (some (0, z))) ?_⟩
              first | exact (gT_4 (by omega) (by omega) (by omega)).symm | exact (gT_5 (l := 1) (Or.inr ⟨rfl, rfl⟩) (by omega) (by omega)).symm | exact (gT_dn (bI_0 (by omega)) (by omega)).symm
            · skip
              exact absurd c13 (by omega)
          · skip
            exact absurd c12 (by omega)
theorem rpa_261 {m : Int} {i : Nat} (hM : w_ML S) (hK : KR 261 T n cs ms S) (hw : wHo cs ms os) (hm : 0 ≤ m ∧ m < (ms.length : Int)) (hn1 : 1 ≤ (hmR ms m).2.2.2.2.1.length) (hi : i ≤ 1000) : wJ (pe_GA xs) wY0 M d t_M_parameterAt ((pe_at t_M_parameterAt.bl 0).getD (0, [])).2 [(0, (2, 237)), (1, (0, m)), (2, (0, (i : Int)))] [] S (fun z Z => S = Z ∧ z = .inl (some (0, prT (hmR ms m) i))) := by
  have h13 : S 237 13 = 261 := hK.1
  have hn := hK.2.1
  have hn2 := hn.2.2
  have eM := KR_m hK (m := m) (by omega) (by omega)
  have eW := hw.2.2.2 m (by omega) (by omega)
  have e1 : S 273 m = (hmR ms m).2.1 := eM.1.2.1
  have e2 : S 274 m = (hmR ms m).2.2.1 := eM.1.2.2.1
  have e3 : S 275 m = (hmR ms m).2.2.2.1 := eM.1.2.2.2.1
  have e4 : S 276 m = ((hmR ms m).2.2.2.2.1.length : Int) := eM.2.1.1
  have e5 : S 277 m = (hmR ms m).2.2.2.2.2.1 := eM.2.1.2.1
  have ef : S 279 m = (hmR ms m).2.2.2.2.2.2.1 := eM.1.2.2.2.2.1
  have et : S 280 m = (hmR ms m).2.2.2.2.2.2.2 := eM.1.2.2.2.2.2
  have eq := eW.1.2.1
  have es := eW.1.2.2.1
  have ey := eW.1.2.2.2
  have ev := eW.2.1
  have el := eW.2.2.1
  have eft := hK.2.2.2.2.2.2.1 m (by omega) (by omega)
  refine wa_aload_n (n := 0) rfl ?_
  refine wb_gf5 237 rfl (wy_pr rfl) wt_237 wf_15_13 (v := 261) (h13) (fun r1 => ?_)
  refine wb_gf4 261 rfl (wy_pr rfl) wt_261 wf_12_16 (v := 276) wl_261_16 ?_
  refine wa_iload_n (n := 1) rfl ?_
  refine wb_iald 276 rfl (wy_pr rfl) wt_276 (n := 400) ((ml_276 hM)) (by omega) (by omega) (v := ((hmR ms m).2.2.2.2.1.length : Int)) (e4) (fun r2 => ?_)
  refine wa_istore_n (n := 3) rfl ?_
  refine wa_aload_n (n := 0) rfl ?_
  refine wb_gf5 237 rfl (wy_pr rfl) wt_237 wf_15_13 (v := 261) (h13) (fun r3 => ?_)
  refine wb_gf4 261 rfl (wy_pr rfl) wt_261 wf_12_18 (v := 278) wl_261_18 ?_
  refine wa_bipush (w_rg2 (by omega) (by omega)) ?_
  refine wa_iload_n (n := 1) rfl ?_
  refine wa_imul ?_
  refine wa_iload_n (n := 2) rfl ?_
  refine wa_iload_n (n := 3) rfl ?_
  refine wa_icmpge (w_rg0 (by omega) (by omega)) (w_rg0 (by omega) (by omega)) ⟨_, rfl⟩ (fun c4 => ?_) (fun c4 => ?_)
  · skip
    refine wa_iload_n (n := 3) rfl ?_
    refine wa_iconst ?_
    refine wa_isub ?_
    refine wa_fall ⟨_, rfl⟩ ?_
    obtain ⟨j, hj⟩ : ∃ j : Nat, j = (hmR ms m).2.2.2.2.1.length - 1 := ⟨_, rfl⟩
    have ejx : (if i < (hmR ms m).2.2.2.2.1.length then i else (hmR ms m).2.2.2.2.1.length - 1) = j := by rw [if_neg (by omega), hj]
    refine wJ_top (show (((hmR ms m).2.2.2.2.1.length : Int) - 1) = (j : Int) by omega) ?_
    have hjv : S 278 ((8 * m) + (j : Int)) = (hmR ms m).2.2.2.2.1.getD j 0 := eM.2.1.2.2 j (by omega)
    refine wa_iadd ?_
    refine wb_iald 278 rfl (wy_pr rfl) wt_278 (n := 3200) ((ml_278 hM)) (by omega) (by omega) (v := ((hmR ms m).2.2.2.2.1.getD j 0)) (hjv) (fun r5 => ?_)
    refine wa_ireturn rfl ?_
    refine ⟨rfl, congrArg (fun z => Sum.inl (some (0, z))) ?_⟩
    unfold prT; rw [ejx]
  · skip
    refine wa_iload_n (n := 2) rfl ?_
    refine wa_goto ⟨_, rfl⟩ ?_
    obtain ⟨j, hj⟩ : ∃ j : Nat, j = i := ⟨_, rfl⟩
    have ejx : (if i < (hmR ms m).2.2.2.2.1.length then i else (hmR ms m).2.2.2.2.1.length - 1) = j := by rw [if_pos (by omega), hj]
    refine wJ_top (show (i : Int) = (j : Int) by omega) ?_
    have hjv : S 278 ((8 * m) + (j : Int)) = (hmR ms m).2.2.2.2.1.getD j 0 := eM.2.1.2.2 j (by omega)
    refine wa_iadd ?_
    refine wb_iald 278 rfl (wy_pr rfl) wt_278 (n := 3200) ((ml_278 hM)) (by omega) (by omega) (v := ((hmR ms m).2.2.2.2.1.getD j 0)) (hjv) (fun r6 => ?_)
    refine wa_ireturn rfl ?_
    refine ⟨rfl, congrArg (fun z => Sum.inl (some (0, z))) ?_⟩
    unfold prT; rw [ejx]
theorem rftl_261 {m ph x3 : Int} {tl : List Int} (hM : w_ML S) (hK : KR 261 T n cs ms S) (hw : wHo cs ms os) (hm : 0 ≤ m ∧ m < (ms.length : Int)) (hph : 1 ≤ ph ∧ ph ≤ 3) (hT : tEs tl S) (hes : esOk tl) (hty : ∀ c ∈ tl, c < 9 + (cs.length : Int)) (h1 : (hmR ms m).2.2.2.2.2.1 = (if ph = 3 then 1 else 0)) (h2 : if ph = 3 then (hmR ms m).2.2.2.2.1.length ≤ tl.length + 1 else (hmR ms m).2.2.2.2.1.length = tl.length) : ∀ (f i : Nat) (v : Bool), tl.length - i < f → i ≤ tl.length → alN i (fun k => gTB cs (tl.getD k 0) (prT (hmR ms m) k) (decide (1 < ph))) = v → wJ (pe_GA xs) wY0 M (d + 3) t_M_fitsIn ((pe_at t_M_fitsIn.bl 7).getD (0, [])).2 [(0, (2, 237)), (1, (0, m)), (2, (0, ph)), (3, (0, x3)), (4, (0, bI v)), (5, (0, (i : Int)))] [] S (fun z Z => S = Z ∧ z = .inl (some (0, bI (ftA cs ms ph tl m)))) := by
  have h13 : S 237 13 = 261 := hK.1
  have hn := hK.2.1
  have hn2 := hn.2.2
  have h122 : S 237 122 = (tl.length : Int) := hT.1
  have htl := hT.2.2
  have eM := KR_m hK (m := m) (by omega) (by omega)
  have eW := hw.2.2.2 m (by omega) (by omega)
  have e1 : S 273 m = (hmR ms m).2.1 := eM.1.2.1
  have e2 : S 274 m = (hmR ms m).2.2.1 := eM.1.2.2.1
  have e3 : S 275 m = (hmR ms m).2.2.2.1 := eM.1.2.2.2.1
  have e4 : S 276 m = ((hmR ms m).2.2.2.2.1.length : Int) := eM.2.1.1
  have e5 : S 277 m = (hmR ms m).2.2.2.2.2.1 := eM.2.1.2.1
  have ef : S 279 m = (hmR ms m).2.2.2.2.2.2.1 := eM.1.2.2.2.2.1
  have et : S 280 m = (hmR ms m).2.2.2.2.2.2.2 := eM.1.2.2.2.2.2
  have eq := eW.1.2.1
  have es := eW.1.2.2.1
  have ey := eW.1.2.2.2
  have ev := eW.2.1
  have el := eW.2.2.1
  have eft := hK.2.2.2.2.2.2.1 m (by omega) (by omega)
  intro f
  induction f with
  | zero => intro i v h; exact absurd h (Nat.not_lt_zero _)
  | succ f ih =>
    intro i v hf hi hv
    have hbv := bI_rg v
    refine wa_iload (n := 5) rfl ?_
    refine wa_aload_n (n := 0) rfl ?_
    refine wb_gfi 237 rfl (wy_pr rfl) wt_237 wf_15_122 (v := (tl.length : Int)) (h122) (fun r1 => ?_)
    refine wa_icmpge (w_rg0 (by omega) (by omega)) (w_rg0 (by omega) (by omega)) ⟨_, rfl⟩ (fun c2 => ?_) (fun c2 => ?_)
    · skip
      refine wa_iload (n := 4) rfl ?_
      refine wa_zreturn rfl (by omega) ?_
      refine ⟨rfl, congrArg (fun z => Sum.inl (some (0, z))) (congrArg bI ?_)⟩
      unfold ftA; rw [decide_eq_true h1, decide_eq_true h2, Bool.true_and, Bool.true_and]
      first | (rw [show tl.length = i by omega]; exact hv.symm) | (have hv0 := bI_0 (b := v) (by omega); rw [hv0] at hv ⊢; exact (alN_lt hi hv).symm)
    · skip
      refine wa_iload (n := 4) rfl ?_
      refine wa_ifeq (w_rg0 (by omega) (by omega)) ⟨_, rfl⟩ (fun c3 => ?_) (fun c3 => ?_)
      · skip
        refine wa_iload (n := 4) rfl ?_
        refine wa_zreturn rfl (by omega) ?_
        refine ⟨rfl, congrArg (fun z => Sum.inl (some (0, z))) (congrArg bI ?_)⟩
        unfold ftA; rw [decide_eq_true h1, decide_eq_true h2, Bool.true_and, Bool.true_and]
        first | (rw [show tl.length = i by omega]; exact hv.symm) | (have hv0 := bI_0 (b := v) (by omega); rw [hv0] at hv ⊢; exact (alN_lt hi hv).symm)
      · skip
        have h52 := hT.2.1 i (by omega)
        have hdm : tl.getD i 0 ∈ tl := by rw [List.getD_eq_getElem?_getD, List.getElem?_eq_getElem (show i < tl.length by omega)]; exact List.getElem_mem _
        have hdr := hes _ hdm
        have hdt := hty _ hdm
        have hlen1 : 1 ≤ (hmR ms m).2.2.2.2.1.length := by split at h2 <;> omega
        refine wa_iload_n (n := 2) rfl ?_
        refine wa_iconst ?_
        refine wa_icmpne (w_rg0 (by omega) (by omega)) (w_rg0 (by omega) (by omega)) ⟨_, rfl⟩ (fun c4 => ?_) (fun c4 => ?_)
        · skip
          refine wa_aload_n (n := 0) rfl ?_
          refine wa_aload_n (n := 0) rfl ?_
          refine wb_gf4 237 rfl (wy_pr rfl) wt_237 wf_15_123 (v := 352) wl_237_123 ?_
          refine wa_iload (n := 5) rfl ?_
          refine wb_iald 352 rfl (wy_pr rfl) wt_352 (n := 8) ((ml_352 hM)) (by omega) (by omega) (v := (tl.getD i 0)) (h52) (fun r5 => ?_)
          refine wa_aload_n (n := 0) rfl ?_
          refine wa_iload_n (n := 1) rfl ?_
          refine wa_iload (n := 5) rfl ?_
          refine wa_cv 237 rfl (wy_pr rfl) wt_237 (M2 := fun _ => False) rfl at_M_parameterAt ⟨_, rfl⟩ rfl rfl ⟨(Or.inr ⟨wy_pr rfl, fun q => q⟩), trivial, trivial, trivial, trivial, trivial, trivial⟩ ⟨trivial, (Or.inr ⟨wy_pr rfl, fun q => q⟩), trivial⟩ (fun _ _ q => False.elim q) (rpa_261 (S := S) (m := m) (i := i) hM hK hw ⟨by omega, by omega⟩ (by omega) (by omega)) (fun oq6 Sq6 hp7 q6 => ?_)
          rcases q6 with ⟨rfl, rfl⟩
          show wJ _ _ _ _ _ _ _ _ _ _
          have hpr5 := prT_rg (i := i) hw (m := m) (by omega) (by omega) (by omega)
          have hlb : decide (1 < ph) = true := decide_eq_true (by omega)
          refine wa_cv 237 rfl (wy_pr rfl) wt_237 (M2 := fun _ => False) rfl at_M_loose ⟨_, rfl⟩ rfl rfl ⟨(Or.inr ⟨wy_pr rfl, fun q => q⟩), trivial, trivial, trivial, trivial, trivial, trivial⟩ trivial (fun _ _ q => False.elim q) (rlo_261 (S := S) (f := (tl.getD i 0)) (q := (prT (hmR ms m) i)) hM hK hw ⟨by omega, by omega⟩ ⟨by omega, by omega⟩) (fun oq8 Sq8 hp9 q8 => ?_)
          rcases q8 with ⟨rfl, rfl⟩
          show wJ _ _ _ _ _ _ _ _ _ _
          refine wa_fall ⟨_, rfl⟩ ?_
          refine wa_istore (n := 4) rfl ?_
          refine wa_iinc rfl rfl ?_
          refine wa_goto ⟨_, rfl⟩ ?_
          rw [← hlb]
          have hv1 := bI_1 (b := v) (by omega)
          rw [hv1] at hv
          refine wJ_S (ih (i + 1) _ (by omega) (by omega) (alN_s hv)) ⟨rfl, rfl, rfl, rfl, rfl, rfl, trivial⟩
        · skip
          refine wa_aload_n (n := 0) rfl ?_
          refine wa_aload_n (n := 0) rfl ?_
          refine wb_gf4 237 rfl (wy_pr rfl) wt_237 wf_15_123 (v := 352) wl_237_123 ?_
          refine wa_iload (n := 5) rfl ?_
          refine wb_iald 352 rfl (wy_pr rfl) wt_352 (n := 8) ((ml_352 hM)) (by omega) (by omega) (v := (tl.getD i 0)) (h52) (fun r10 => ?_)
          refine wa_aload_n (n := 0) rfl ?_
          refine wa_iload_n (n := 1) rfl ?_
          refine wa_iload (n := 5) rfl ?_
          refine wa_cv 237 rfl (wy_pr rfl) wt_237 (M2 := fun _ => False) rfl at_M_parameterAt ⟨_, rfl⟩ rfl rfl ⟨(Or.inr ⟨wy_pr rfl, fun q => q⟩), trivial, trivial, trivial, trivial, trivial, trivial⟩ ⟨trivial, (Or.inr ⟨wy_pr rfl, fun q => q⟩), trivial⟩ (fun _ _ q => False.elim q) (rpa_261 (S := S) (m := m) (i := i) hM hK hw ⟨by omega, by omega⟩ (by omega) (by omega)) (fun oq11 Sq11 hp12 q11 => ?_)
          rcases q11 with ⟨rfl, rfl⟩
          show wJ _ _ _ _ _ _ _ _ _ _
          have hpr10 := prT_rg (i := i) hw (m := m) (by omega) (by omega) (by omega)
          have hlb : decide (1 < ph) = false := decide_eq_false (by omega)
          refine wa_cv 237 rfl (wy_pr rfl) wt_237 (M2 := fun _ => False) rfl at_M_strict ⟨_, rfl⟩ rfl rfl ⟨(Or.inr ⟨wy_pr rfl, fun q => q⟩), trivial, trivial, trivial, trivial, trivial, trivial⟩ trivial (fun _ _ q => False.elim q) (rst_261 (S := S) (f := (tl.getD i 0)) (q := (prT (hmR ms m) i)) hM hK hw ⟨by omega, by omega⟩ ⟨by omega, by omega⟩) (fun oq13 Sq13 hp14 q13 => ?_)
          rcases q13 with ⟨rfl, rfl⟩
          show wJ _ _ _ _ _ _ _ _ _ _
          refine wa_goto ⟨_, rfl⟩ ?_
          refine wa_istore (n := 4) rfl ?_
          refine wa_iinc rfl rfl ?_
          refine wa_goto ⟨_, rfl⟩ ?_
          rw [← hlb]
          have hv1 := bI_1 (b := v) (by omega)
          rw [hv1] at hv
          refine wJ_S (ih (i + 1) _ (by omega) (by omega) (alN_s hv)) ⟨rfl, rfl, rfl, rfl, rfl, rfl, trivial⟩
theorem rft_261 {m ph : Int} {tl : List Int} (hM : w_ML S) (hK : KR 261 T n cs ms S) (hw : wHo cs ms os) (hm : 0 ≤ m ∧ m < (ms.length : Int)) (hph : 1 ≤ ph ∧ ph ≤ 3) (hT : tEs tl S) (hes : esOk tl) (hty : ∀ c ∈ tl, c < 9 + (cs.length : Int)) : wJ (pe_GA xs) wY0 M (d + 3) t_M_fitsIn ((pe_at t_M_fitsIn.bl 0).getD (0, [])).2 [(0, (2, 237)), (1, (0, m)), (2, (0, ph))] [] S (fun z Z => S = Z ∧ z = .inl (some (0, bI (ftA cs ms ph tl m)))) := by
  have h13 : S 237 13 = 261 := hK.1
  have hn := hK.2.1
  have hn2 := hn.2.2
  have h122 : S 237 122 = (tl.length : Int) := hT.1
  have htl := hT.2.2
  have eM := KR_m hK (m := m) (by omega) (by omega)
  have eW := hw.2.2.2 m (by omega) (by omega)
  have e1 : S 273 m = (hmR ms m).2.1 := eM.1.2.1
  have e2 : S 274 m = (hmR ms m).2.2.1 := eM.1.2.2.1
  have e3 : S 275 m = (hmR ms m).2.2.2.1 := eM.1.2.2.2.1
  have e4 : S 276 m = ((hmR ms m).2.2.2.2.1.length : Int) := eM.2.1.1
  have e5 : S 277 m = (hmR ms m).2.2.2.2.2.1 := eM.2.1.2.1
  have ef : S 279 m = (hmR ms m).2.2.2.2.2.2.1 := eM.1.2.2.2.2.1
  have et : S 280 m = (hmR ms m).2.2.2.2.2.2.2 := eM.1.2.2.2.2.2
  have eq := eW.1.2.1
  have es := eW.1.2.2.1
  have ey := eW.1.2.2.2
  have ev := eW.2.1
  have el := eW.2.2.1
  have eft := hK.2.2.2.2.2.2.1 m (by omega) (by omega)
  refine wa_aload_n (n := 0) rfl ?_
  refine wb_gf5 237 rfl (wy_pr rfl) wt_237 wf_15_13 (v := 261) (h13) (fun r1 => ?_)
  refine wb_gf4 261 rfl (wy_pr rfl) wt_261 wf_12_16 (v := 276) wl_261_16 ?_
  refine wa_iload_n (n := 1) rfl ?_
  refine wb_iald 276 rfl (wy_pr rfl) wt_276 (n := 400) ((ml_276 hM)) (by omega) (by omega) (v := ((hmR ms m).2.2.2.2.1.length : Int)) (e4) (fun r2 => ?_)
  refine wa_istore_n (n := 3) rfl ?_
  refine wa_aload_n (n := 0) rfl ?_
  refine wb_gf5 237 rfl (wy_pr rfl) wt_237 wf_15_13 (v := 261) (h13) (fun r3 => ?_)
  refine wb_gf4 261 rfl (wy_pr rfl) wt_261 wf_12_17 (v := 277) wl_261_17 ?_
  refine wa_iload_n (n := 1) rfl ?_
  refine wb_zald 277 rfl (wy_pr rfl) wt_277 (n := 400) ((ml_277 hM)) (by omega) (by omega) (v := (hmR ms m).2.2.2.2.2.1) (e5) (fun r4 => ?_)
  refine wa_iload_n (n := 2) rfl ?_
  refine wa_iconst ?_
  refine wa_icmpne (w_rg0 (by omega) (by omega)) (w_rg0 (by omega) (by omega)) ⟨_, rfl⟩ (fun c5 => ?_) (fun c5 => ?_)
  · skip
    refine wa_iconst ?_
    refine wa_fall ⟨_, rfl⟩ ?_
    refine wa_icmpeq (w_rg0 (by omega) (by omega)) (w_rg0 (by omega) (by omega)) ⟨_, rfl⟩ (fun c6 => ?_) (fun c6 => ?_)
    · skip
      refine wa_iload_n (n := 2) rfl ?_
      refine wa_iconst ?_
      refine wa_icmpge (w_rg0 (by omega) (by omega)) (w_rg0 (by omega) (by omega)) ⟨_, rfl⟩ (fun c7 => ?_) (fun c7 => ?_)
      · skip
        exact absurd c7 (by omega)
      · skip
        refine wa_iload_n (n := 3) rfl ?_
        refine wa_aload_n (n := 0) rfl ?_
        refine wb_gfi 237 rfl (wy_pr rfl) wt_237 wf_15_122 (v := (tl.length : Int)) (h122) (fun r8 => ?_)
        refine wa_icmpeq (w_rg0 (by omega) (by omega)) (w_rg0 (by omega) (by omega)) ⟨_, rfl⟩ (fun c9 => ?_) (fun c9 => ?_)
        · skip
          refine wa_iconst ?_
          refine wa_istore (n := 4) rfl ?_
          refine wa_iconst ?_
          refine wa_istore (n := 5) rfl ?_
          refine wa_fall ⟨_, rfl⟩ ?_
          exact wJ_S (rftl_261 hM hK hw hm hph hT hes hty (by split <;> omega) (by split <;> omega) (tl.length + 1) 0 true (by omega) (by omega) rfl) ⟨rfl, rfl, rfl, rfl, rfl, rfl, trivial⟩
        · skip
          refine wa_goto ⟨_, rfl⟩ ?_
          refine wa_iconst ?_
          refine wa_zreturn rfl (Or.inl rfl) ?_
          refine ⟨rfl, congrArg (fun z => Sum.inl (some (0, z))) ?_⟩
          first | exact (ft_0 (fun _ => by omega) (fun _ => by omega)).symm | exact (ft_0b (fun _ => by omega) (fun _ => by omega)).symm
    · skip
      refine wa_iconst ?_
      refine wa_zreturn rfl (Or.inl rfl) ?_
      refine ⟨rfl, congrArg (fun z => Sum.inl (some (0, z))) ?_⟩
      first | exact (ft_0 (fun _ => by omega) (fun _ => by omega)).symm | exact (ft_0b (fun _ => by omega) (fun _ => by omega)).symm
  · skip
    refine wa_iconst ?_
    refine wa_goto ⟨_, rfl⟩ ?_
    refine wa_icmpeq (w_rg0 (by omega) (by omega)) (w_rg0 (by omega) (by omega)) ⟨_, rfl⟩ (fun c10 => ?_) (fun c10 => ?_)
    · skip
      refine wa_iload_n (n := 2) rfl ?_
      refine wa_iconst ?_
      refine wa_icmpge (w_rg0 (by omega) (by omega)) (w_rg0 (by omega) (by omega)) ⟨_, rfl⟩ (fun c11 => ?_) (fun c11 => ?_)
      · skip
        refine wa_aload_n (n := 0) rfl ?_
        refine wb_gfi 237 rfl (wy_pr rfl) wt_237 wf_15_122 (v := (tl.length : Int)) (h122) (fun r12 => ?_)
        refine wa_iload_n (n := 3) rfl ?_
        refine wa_iconst ?_
        refine wa_isub ?_
        refine wa_icmpge (w_rg0 (by omega) (by omega)) (w_rg0 (by omega) (by omega)) ⟨_, rfl⟩ (fun c13 => ?_) (fun c13 => ?_)
        · skip
          refine wa_iconst ?_
          refine wa_istore (n := 4) rfl ?_
          refine wa_iconst ?_
          refine wa_istore (n := 5) rfl ?_
          refine wa_fall ⟨_, rfl⟩ ?_
          exact wJ_S (rftl_261 hM hK hw hm hph hT hes hty (by split <;> omega) (by split <;> omega) (tl.length + 1) 0 true (by omega) (by omega) rfl) ⟨rfl, rfl, rfl, rfl, rfl, rfl, trivial⟩
        · skip
          refine wa_fall ⟨_, rfl⟩ ?_
          refine wa_iconst ?_
          refine wa_zreturn rfl (Or.inl rfl) ?_
          refine ⟨rfl, congrArg (fun z => Sum.inl (some (0, z))) ?_⟩
          first | exact (ft_0 (fun _ => by omega) (fun _ => by omega)).symm | exact (ft_0b (fun _ => by omega) (fun _ => by omega)).symm
      · skip
        exact absurd c11 (by omega)
    · skip
      refine wa_iconst ?_
      refine wa_zreturn rfl (Or.inl rfl) ?_
      refine ⟨rfl, congrArg (fun z => Sum.inl (some (0, z))) ?_⟩
      first | exact (ft_0 (fun _ => by omega) (fun _ => by omega)).symm | exact (ft_0b (fun _ => by omega) (fun _ => by omega)).symm
theorem rmol_261 {m q ph : Int} {tl : List Int} {N : Nat} (hM : w_ML S) (hK : KR 261 T n cs ms S) (hw : wHo cs ms os) (hm : 0 ≤ m ∧ m < (ms.length : Int)) (hq : 0 ≤ q ∧ q < (ms.length : Int)) (hph : 1 ≤ ph ∧ ph ≤ 3) (h122 : S 237 122 = (tl.length : Int)) (htl : tl.length ≤ 8) (hnm : ph ≠ 3 → (hmR ms m).2.2.2.2.1.length = tl.length ∧ (hmR ms q).2.2.2.2.1.length = tl.length) (hn1 : ph = 3 → 1 ≤ (hmR ms m).2.2.2.2.1.length ∧ 1 ≤ (hmR ms q).2.2.2.2.1.length) (hN : N = moN ms ph tl.length m q) (hN8 : N ≤ 8) (hNl : 1 ≤ N → 1 ≤ (hmR ms m).2.2.2.2.1.length ∧ 1 ≤ (hmR ms q).2.2.2.2.1.length) : ∀ (f i : Nat) (v : Bool), N - i < f → i ≤ N → alN i (fun k => sbB cs (prT (hmR ms m) k) (prT (hmR ms q) k)) = v → wJ (pe_GA xs) wY0 M (d + 2) t_M_isMoreSpecific ((pe_at t_M_isMoreSpecific.bl 3).getD (0, [])).2 [(0, (2, 237)), (1, (0, m)), (2, (0, q)), (3, (0, ph)), (4, (0, (N : Int))), (5, (0, bI v)), (6, (0, (i : Int)))] [] S (fun z Z => S = Z ∧ z = .inl (some (0, bI (moA cs ms ph tl.length m q)))) := by
  have h13 : S 237 13 = 261 := hK.1
  have hn := hK.2.1
  have hn2 := hn.2.2
  intro f
  induction f with
  | zero => intro i v h; exact absurd h (Nat.not_lt_zero _)
  | succ f ih =>
    intro i v hf hi hv
    have hbv := bI_rg v
    refine wa_iload (n := 6) rfl ?_
    refine wa_iload (n := 4) rfl ?_
    refine wa_icmpge (w_rg0 (by omega) (by omega)) (w_rg0 (by omega) (by omega)) ⟨_, rfl⟩ (fun c1 => ?_) (fun c1 => ?_)
    · skip
      refine wa_iload (n := 5) rfl ?_
      refine wa_zreturn rfl (by omega) ?_
      refine ⟨rfl, congrArg (fun z => Sum.inl (some (0, z))) (congrArg bI ?_)⟩
      unfold moA; rw [← hN]
      first | (rw [show N = i by omega]; exact hv.symm) | (have hv0 := bI_0 (b := v) (by omega); rw [hv0] at hv ⊢; exact (alN_lt hi hv).symm)
    · skip
      refine wa_iload (n := 5) rfl ?_
      refine wa_ifeq (w_rg0 (by omega) (by omega)) ⟨_, rfl⟩ (fun c2 => ?_) (fun c2 => ?_)
      · skip
        refine wa_iload (n := 5) rfl ?_
        refine wa_zreturn rfl (by omega) ?_
        refine ⟨rfl, congrArg (fun z => Sum.inl (some (0, z))) (congrArg bI ?_)⟩
        unfold moA; rw [← hN]
        first | (rw [show N = i by omega]; exact hv.symm) | (have hv0 := bI_0 (b := v) (by omega); rw [hv0] at hv ⊢; exact (alN_lt hi hv).symm)
      · skip
        have hl1 := hNl (by omega)
        refine wa_aload_n (n := 0) rfl ?_
        refine wb_gf5 237 rfl (wy_pr rfl) wt_237 wf_15_13 (v := 261) (h13) (fun r3 => ?_)
        refine wa_aload_n (n := 0) rfl ?_
        refine wa_iload_n (n := 1) rfl ?_
        refine wa_iload (n := 6) rfl ?_
        refine wa_cv 237 rfl (wy_pr rfl) wt_237 (M2 := fun _ => False) rfl at_M_parameterAt ⟨_, rfl⟩ rfl rfl ⟨(Or.inr ⟨wy_pr rfl, fun q => q⟩), trivial, trivial, trivial, trivial, trivial, trivial, trivial⟩ ⟨(Or.inr ⟨wy_pr rfl, fun q => q⟩), trivial⟩ (fun _ _ q => False.elim q) (rpa_261 (S := S) (m := m) (i := i) hM hK hw ⟨by omega, by omega⟩ (by omega) (by omega)) (fun oq4 Sq4 hp5 q4 => ?_)
        rcases q4 with ⟨rfl, rfl⟩
        show wJ _ _ _ _ _ _ _ _ _ _
        have hpr3 := prT_rg (i := i) hw (m := m) (by omega) (by omega) (by omega)
        refine wa_aload_n (n := 0) rfl ?_
        refine wa_iload_n (n := 2) rfl ?_
        refine wa_iload (n := 6) rfl ?_
        refine wa_cv 237 rfl (wy_pr rfl) wt_237 (M2 := fun _ => False) rfl at_M_parameterAt ⟨_, rfl⟩ rfl rfl ⟨(Or.inr ⟨wy_pr rfl, fun q => q⟩), trivial, trivial, trivial, trivial, trivial, trivial, trivial⟩ ⟨trivial, (Or.inr ⟨wy_pr rfl, fun q => q⟩), trivial⟩ (fun _ _ q => False.elim q) (rpa_261 (S := S) (m := q) (i := i) hM hK hw ⟨by omega, by omega⟩ (by omega) (by omega)) (fun oq6 Sq6 hp7 q6 => ?_)
        rcases q6 with ⟨rfl, rfl⟩
        show wJ _ _ _ _ _ _ _ _ _ _
        have hpr5 := prT_rg (i := i) hw (m := q) (by omega) (by omega) (by omega)
        refine wa_cv 261 rfl (wy_pr rfl) wt_261 (M2 := fun _ => False) rfl at_MO_isSub ⟨_, rfl⟩ rfl rfl ⟨(Or.inr ⟨wy_pr rfl, fun q => q⟩), trivial, trivial, trivial, trivial, trivial, trivial, trivial⟩ trivial (fun _ _ q => False.elim q) (rsb_261 (S := S) (a := (prT (hmR ms m) i)) (o := (prT (hmR ms q) i)) hM hK hw ⟨by omega, by omega⟩ ⟨by omega, by omega⟩) (fun oq8 Sq8 hp9 q8 => ?_)
        rcases q8 with ⟨rfl, rfl⟩
        show wJ _ _ _ _ _ _ _ _ _ _
        have hbr7 := bI_rg (sbB cs (prT (hmR ms m) i) (prT (hmR ms q) i))
        refine wa_istore (n := 5) rfl ?_
        refine wa_iinc rfl rfl ?_
        refine wa_goto ⟨_, rfl⟩ ?_
        have hv1 := bI_1 (b := v) (by omega)
        rw [hv1] at hv
        refine wJ_S (ih (i + 1) _ (by omega) (by omega) (alN_s hv)) ⟨rfl, rfl, rfl, rfl, rfl, rfl, rfl, trivial⟩
theorem rmo_261 {m q ph : Int} {tl : List Int} (hM : w_ML S) (hK : KR 261 T n cs ms S) (hw : wHo cs ms os) (hm : 0 ≤ m ∧ m < (ms.length : Int)) (hq : 0 ≤ q ∧ q < (ms.length : Int)) (hph : 1 ≤ ph ∧ ph ≤ 3) (h122 : S 237 122 = (tl.length : Int)) (htl : tl.length ≤ 8) (hnm : ph ≠ 3 → (hmR ms m).2.2.2.2.1.length = tl.length ∧ (hmR ms q).2.2.2.2.1.length = tl.length) (hn1 : ph = 3 → 1 ≤ (hmR ms m).2.2.2.2.1.length ∧ 1 ≤ (hmR ms q).2.2.2.2.1.length) : wJ (pe_GA xs) wY0 M (d + 2) t_M_isMoreSpecific ((pe_at t_M_isMoreSpecific.bl 0).getD (0, [])).2 [(0, (2, 237)), (1, (0, m)), (2, (0, q)), (3, (0, ph))] [] S (fun z Z => S = Z ∧ z = .inl (some (0, bI (moA cs ms ph tl.length m q)))) := by
  have h13 : S 237 13 = 261 := hK.1
  have hn := hK.2.1
  have hn2 := hn.2.2
  have eM := KR_m hK (m := m) (by omega) (by omega)
  have eW := hw.2.2.2 m (by omega) (by omega)
  have e1 : S 273 m = (hmR ms m).2.1 := eM.1.2.1
  have e2 : S 274 m = (hmR ms m).2.2.1 := eM.1.2.2.1
  have e3 : S 275 m = (hmR ms m).2.2.2.1 := eM.1.2.2.2.1
  have e4 : S 276 m = ((hmR ms m).2.2.2.2.1.length : Int) := eM.2.1.1
  have e5 : S 277 m = (hmR ms m).2.2.2.2.2.1 := eM.2.1.2.1
  have ef : S 279 m = (hmR ms m).2.2.2.2.2.2.1 := eM.1.2.2.2.2.1
  have et : S 280 m = (hmR ms m).2.2.2.2.2.2.2 := eM.1.2.2.2.2.2
  have eq := eW.1.2.1
  have es := eW.1.2.2.1
  have ey := eW.1.2.2.2
  have ev := eW.2.1
  have el := eW.2.2.1
  have eft := hK.2.2.2.2.2.2.1 m (by omega) (by omega)
  have gM := KR_m hK (m := q) (by omega) (by omega)
  have gW := hw.2.2.2 q (by omega) (by omega)
  have g1 : S 273 q = (hmR ms q).2.1 := gM.1.2.1
  have g2 : S 274 q = (hmR ms q).2.2.1 := gM.1.2.2.1
  have g3 : S 275 q = (hmR ms q).2.2.2.1 := gM.1.2.2.2.1
  have g4 : S 276 q = ((hmR ms q).2.2.2.2.1.length : Int) := gM.2.1.1
  have g5 : S 277 q = (hmR ms q).2.2.2.2.2.1 := gM.2.1.2.1
  have gf : S 279 q = (hmR ms q).2.2.2.2.2.2.1 := gM.1.2.2.2.2.1
  have gt : S 280 q = (hmR ms q).2.2.2.2.2.2.2 := gM.1.2.2.2.2.2
  have gq := gW.1.2.1
  have gs := gW.1.2.2.1
  have gy := gW.1.2.2.2
  have gv := gW.2.1
  have gl := gW.2.2.1
  have gft := hK.2.2.2.2.2.2.1 q (by omega) (by omega)
  refine wa_iload_n (n := 3) rfl ?_
  refine wa_iconst ?_
  refine wa_icmpge (w_rg0 (by omega) (by omega)) (w_rg0 (by omega) (by omega)) ⟨_, rfl⟩ (fun c1 => ?_) (fun c1 => ?_)
  · skip
    refine wa_aload_n (n := 0) rfl ?_
    refine wb_gf5 237 rfl (wy_pr rfl) wt_237 wf_15_13 (v := 261) (h13) (fun r2 => ?_)
    refine wb_gf4 261 rfl (wy_pr rfl) wt_261 wf_12_16 (v := 276) wl_261_16 ?_
    refine wa_iload_n (n := 1) rfl ?_
    refine wb_iald 276 rfl (wy_pr rfl) wt_276 (n := 400) ((ml_276 hM)) (by omega) (by omega) (v := ((hmR ms m).2.2.2.2.1.length : Int)) (e4) (fun r3 => ?_)
    refine wa_aload_n (n := 0) rfl ?_
    refine wb_gf5 237 rfl (wy_pr rfl) wt_237 wf_15_13 (v := 261) (h13) (fun r4 => ?_)
    refine wb_gf4 261 rfl (wy_pr rfl) wt_261 wf_12_16 (v := 276) wl_261_16 ?_
    refine wa_iload_n (n := 2) rfl ?_
    refine wb_iald 276 rfl (wy_pr rfl) wt_276 (n := 400) ((ml_276 hM)) (by omega) (by omega) (v := ((hmR ms q).2.2.2.2.1.length : Int)) (g4) (fun r5 => ?_)
    refine wa_cs (M2 := fun _ => False) rfl at_JM_max ⟨_, rfl⟩ rfl rfl ⟨(Or.inr ⟨wy_pr rfl, fun q => q⟩), trivial, trivial, trivial, trivial⟩ trivial (fun _ _ q => False.elim q) ?_ (fun _ _ _ q => q)
    refine wa_iload_n (n := 0) rfl ?_
    refine wa_iload_n (n := 1) rfl ?_
    refine wa_icmplt (w_rg0 (by omega) (by omega)) (w_rg0 (by omega) (by omega)) ⟨_, rfl⟩ (fun c6 => ?_) (fun c6 => ?_)
    · skip
      refine wa_iload_n (n := 1) rfl ?_
      refine wa_fall ⟨_, rfl⟩ ?_
      refine wa_ireturn rfl ?_
      show wJ _ _ _ _ _ _ _ _ _ _
      refine wa_fall ⟨_, rfl⟩ ?_
      refine wa_istore (n := 4) rfl ?_
      refine wa_iconst ?_
      refine wa_istore (n := 5) rfl ?_
      refine wa_iconst ?_
      refine wa_istore (n := 6) rfl ?_
      refine wa_fall ⟨_, rfl⟩ ?_
      obtain ⟨N, hN⟩ : ∃ N : Nat, N = moN ms ph tl.length m q := ⟨_, rfl⟩
      have hNe : ((hmR ms q).2.2.2.2.1.length : Int) = (N : Int) := by rw [hN]; unfold moN; first | (rw [if_pos (by omega)]; omega) | (rw [if_neg (by omega)])
      have hNl : 1 ≤ N → 1 ≤ (hmR ms m).2.2.2.2.1.length ∧ 1 ≤ (hmR ms q).2.2.2.2.1.length := fun h1 => by rw [hN] at h1; unfold moN at h1; first | exact hn1 (by omega) | (rw [if_neg (by omega)] at h1; have := hnm (by omega); omega)
      have hN8 : N ≤ 8 := by rw [hN]; unfold moN; split <;> omega
      rw [hNe]
      exact wJ_S (rmol_261 hM hK hw hm hq hph h122 htl hnm hn1 hN hN8 hNl (N + 1) 0 true (by omega) (by omega) rfl) ⟨rfl, rfl, rfl, rfl, rfl, rfl, rfl, trivial⟩
    · skip
      refine wa_iload_n (n := 0) rfl ?_
      refine wa_goto ⟨_, rfl⟩ ?_
      refine wa_ireturn rfl ?_
      show wJ _ _ _ _ _ _ _ _ _ _
      refine wa_fall ⟨_, rfl⟩ ?_
      refine wa_istore (n := 4) rfl ?_
      refine wa_iconst ?_
      refine wa_istore (n := 5) rfl ?_
      refine wa_iconst ?_
      refine wa_istore (n := 6) rfl ?_
      refine wa_fall ⟨_, rfl⟩ ?_
      obtain ⟨N, hN⟩ : ∃ N : Nat, N = moN ms ph tl.length m q := ⟨_, rfl⟩
      have hNe : ((hmR ms m).2.2.2.2.1.length : Int) = (N : Int) := by rw [hN]; unfold moN; first | (rw [if_pos (by omega)]; omega) | (rw [if_neg (by omega)])
      have hNl : 1 ≤ N → 1 ≤ (hmR ms m).2.2.2.2.1.length ∧ 1 ≤ (hmR ms q).2.2.2.2.1.length := fun h1 => by rw [hN] at h1; unfold moN at h1; first | exact hn1 (by omega) | (rw [if_neg (by omega)] at h1; have := hnm (by omega); omega)
      have hN8 : N ≤ 8 := by rw [hN]; unfold moN; split <;> omega
      rw [hNe]
      exact wJ_S (rmol_261 hM hK hw hm hq hph h122 htl hnm hn1 hN hN8 hNl (N + 1) 0 true (by omega) (by omega) rfl) ⟨rfl, rfl, rfl, rfl, rfl, rfl, rfl, trivial⟩
  · skip
    refine wa_aload_n (n := 0) rfl ?_
    refine wb_gfi 237 rfl (wy_pr rfl) wt_237 wf_15_122 (v := (tl.length : Int)) (h122) (fun r7 => ?_)
    refine wa_goto ⟨_, rfl⟩ ?_
    refine wa_istore (n := 4) rfl ?_
    refine wa_iconst ?_
    refine wa_istore (n := 5) rfl ?_
    refine wa_iconst ?_
    refine wa_istore (n := 6) rfl ?_
    refine wa_fall ⟨_, rfl⟩ ?_
    obtain ⟨N, hN⟩ : ∃ N : Nat, N = moN ms ph tl.length m q := ⟨_, rfl⟩
    have hNe : (tl.length : Int) = (N : Int) := by rw [hN]; unfold moN; first | (rw [if_pos (by omega)]; omega) | (rw [if_neg (by omega)])
    have hNl : 1 ≤ N → 1 ≤ (hmR ms m).2.2.2.2.1.length ∧ 1 ≤ (hmR ms q).2.2.2.2.1.length := fun h1 => by rw [hN] at h1; unfold moN at h1; first | exact hn1 (by omega) | (rw [if_neg (by omega)] at h1; have := hnm (by omega); omega)
    have hN8 : N ≤ 8 := by rw [hN]; unfold moN; split <;> omega
    rw [hNe]
    exact wJ_S (rmol_261 hM hK hw hm hq hph h122 htl hnm hn1 hN hN8 hNl (N + 1) 0 true (by omega) (by omega) rfl) ⟨rfl, rfl, rfl, rfl, rfl, rfl, rfl, trivial⟩
theorem rhsl_261 {x y : Int} (hM : w_ML S) (hK : KR 261 T n cs ms S) (hw : wHo cs ms os) (hx : 0 ≤ x ∧ x < (ms.length : Int)) (hy : 0 ≤ y ∧ y < (ms.length : Int)) : ∀ (f i : Nat) (v : Bool), (hmR ms x).2.2.2.2.1.length - i < f → i ≤ (hmR ms x).2.2.2.2.1.length → (v = true → (hmR ms x).2.2.2.2.1.length = (hmR ms y).2.2.2.2.1.length ∧ ∀ k : Nat, k < i → (hmR ms x).2.2.2.2.1.getD k 0 = (hmR ms y).2.2.2.2.1.getD k 0) → (v = false → ¬ (hmR ms x).2.2.2.2.1 = (hmR ms y).2.2.2.2.1) → wJ (pe_GA xs) wY0 M d t_MO_haveSameTypes ((pe_at t_MO_haveSameTypes.bl 3).getD (0, [])).2 [(0, (2, 261)), (1, (0, x)), (2, (0, y)), (3, (0, bI v)), (4, (0, (i : Int)))] [] S (fun z Z => S = Z ∧ z = .inl (some (0, bI (decide ((hmR ms x).2.2.2.2.1 = (hmR ms y).2.2.2.2.1))))) := by
  have h13 : S 237 13 = 261 := hK.1
  have hn := hK.2.1
  have hn2 := hn.2.2
  have eM := KR_m hK (m := x) (by omega) (by omega)
  have eW := hw.2.2.2 x (by omega) (by omega)
  have e1 : S 273 x = (hmR ms x).2.1 := eM.1.2.1
  have e2 : S 274 x = (hmR ms x).2.2.1 := eM.1.2.2.1
  have e3 : S 275 x = (hmR ms x).2.2.2.1 := eM.1.2.2.2.1
  have e4 : S 276 x = ((hmR ms x).2.2.2.2.1.length : Int) := eM.2.1.1
  have e5 : S 277 x = (hmR ms x).2.2.2.2.2.1 := eM.2.1.2.1
  have ef : S 279 x = (hmR ms x).2.2.2.2.2.2.1 := eM.1.2.2.2.2.1
  have et : S 280 x = (hmR ms x).2.2.2.2.2.2.2 := eM.1.2.2.2.2.2
  have eq := eW.1.2.1
  have es := eW.1.2.2.1
  have ey := eW.1.2.2.2
  have ev := eW.2.1
  have el := eW.2.2.1
  have eft := hK.2.2.2.2.2.2.1 x (by omega) (by omega)
  have gM := KR_m hK (m := y) (by omega) (by omega)
  have gW := hw.2.2.2 y (by omega) (by omega)
  have g1 : S 273 y = (hmR ms y).2.1 := gM.1.2.1
  have g2 : S 274 y = (hmR ms y).2.2.1 := gM.1.2.2.1
  have g3 : S 275 y = (hmR ms y).2.2.2.1 := gM.1.2.2.2.1
  have g4 : S 276 y = ((hmR ms y).2.2.2.2.1.length : Int) := gM.2.1.1
  have g5 : S 277 y = (hmR ms y).2.2.2.2.2.1 := gM.2.1.2.1
  have gf : S 279 y = (hmR ms y).2.2.2.2.2.2.1 := gM.1.2.2.2.2.1
  have gt : S 280 y = (hmR ms y).2.2.2.2.2.2.2 := gM.1.2.2.2.2.2
  have gq := gW.1.2.1
  have gs := gW.1.2.2.1
  have gy := gW.1.2.2.2
  have gv := gW.2.1
  have gl := gW.2.2.1
  have gft := hK.2.2.2.2.2.2.1 y (by omega) (by omega)
  intro f
  induction f with
  | zero => intro i v h; exact absurd h (Nat.not_lt_zero _)
  | succ f ih =>
    intro i v hf hi hvt hvf
    have hbv := bI_rg v
    refine wa_iload (n := 4) rfl ?_
    refine wa_aload_n (n := 0) rfl ?_
    refine wb_gf4 261 rfl (wy_pr rfl) wt_261 wf_12_16 (v := 276) wl_261_16 ?_
    refine wa_iload_n (n := 1) rfl ?_
    refine wb_iald 276 rfl (wy_pr rfl) wt_276 (n := 400) ((ml_276 hM)) (by omega) (by omega) (v := ((hmR ms x).2.2.2.2.1.length : Int)) (e4) (fun r1 => ?_)
    refine wa_icmpge (w_rg0 (by omega) (by omega)) (w_rg0 (by omega) (by omega)) ⟨_, rfl⟩ (fun c2 => ?_) (fun c2 => ?_)
    · skip
      refine wa_iload_n (n := 3) rfl ?_
      refine wa_zreturn rfl (by omega) ?_
      refine ⟨rfl, congrArg (fun z => Sum.inl (some (0, z))) (congrArg bI ?_)⟩
      cases v with
      | true => exact (decide_eq_true (ls_eq.mpr ⟨(hvt rfl).1, fun k hk => (hvt rfl).2 k (by first | omega | exact absurd (show bI true = 0 by omega) (by first | decide | omega))⟩)).symm
      | false => exact (decide_eq_false (hvf rfl)).symm
    · skip
      refine wa_iload_n (n := 3) rfl ?_
      refine wa_ifeq (w_rg0 (by omega) (by omega)) ⟨_, rfl⟩ (fun c3 => ?_) (fun c3 => ?_)
      · skip
        refine wa_iload_n (n := 3) rfl ?_
        refine wa_zreturn rfl (by omega) ?_
        refine ⟨rfl, congrArg (fun z => Sum.inl (some (0, z))) (congrArg bI ?_)⟩
        cases v with
        | true => exact (decide_eq_true (ls_eq.mpr ⟨(hvt rfl).1, fun k hk => (hvt rfl).2 k (by first | omega | exact absurd (show bI true = 0 by omega) (by first | decide | omega))⟩)).symm
        | false => exact (decide_eq_false (hvf rfl)).symm
      · skip
        have hv1 := bI_1 (b := v) (by omega)
        have hvt1 := hvt hv1
        have hpx : S 278 ((8 * x) + (i : Int)) = (hmR ms x).2.2.2.2.1.getD i 0 := eM.2.1.2.2 i (by omega)
        have hpy : S 278 ((8 * y) + (i : Int)) = (hmR ms y).2.2.2.2.1.getD i 0 := gM.2.1.2.2 i (by omega)
        refine wa_aload_n (n := 0) rfl ?_
        refine wb_gf4 261 rfl (wy_pr rfl) wt_261 wf_12_18 (v := 278) wl_261_18 ?_
        refine wa_bipush (w_rg2 (by omega) (by omega)) ?_
        refine wa_iload_n (n := 1) rfl ?_
        refine wa_imul ?_
        refine wa_iload (n := 4) rfl ?_
        refine wa_iadd ?_
        refine wb_iald 278 rfl (wy_pr rfl) wt_278 (n := 3200) ((ml_278 hM)) (by omega) (by omega) (v := ((hmR ms x).2.2.2.2.1.getD i 0)) (hpx) (fun r4 => ?_)
        refine wa_aload_n (n := 0) rfl ?_
        refine wb_gf4 261 rfl (wy_pr rfl) wt_261 wf_12_18 (v := 278) wl_261_18 ?_
        refine wa_bipush (w_rg2 (by omega) (by omega)) ?_
        refine wa_iload_n (n := 2) rfl ?_
        refine wa_imul ?_
        refine wa_iload (n := 4) rfl ?_
        refine wa_iadd ?_
        refine wb_iald 278 rfl (wy_pr rfl) wt_278 (n := 3200) ((ml_278 hM)) (by omega) (by omega) (v := ((hmR ms y).2.2.2.2.1.getD i 0)) (hpy) (fun r5 => ?_)
        refine wa_icmpne (w_rg0 (by omega) (by omega)) (w_rg0 (by omega) (by omega)) ⟨_, rfl⟩ (fun c6 => ?_) (fun c6 => ?_)
        · skip
          refine wa_iconst ?_
          refine wa_fall ⟨_, rfl⟩ ?_
          refine wa_istore_n (n := 3) rfl ?_
          refine wa_iinc rfl rfl ?_
          refine wa_goto ⟨_, rfl⟩ ?_
          refine wJ_S (ih (i + 1) false (by omega) (by omega) (fun z => absurd z (by first | decide | omega)) (fun _ z => ?_)) ⟨rfl, rfl, rfl, rfl, rfl, trivial⟩
          have z2 := congrArg (fun l => l.getD i 0) z
          contradiction
        · skip
          refine wa_iconst ?_
          refine wa_goto ⟨_, rfl⟩ ?_
          refine wa_istore_n (n := 3) rfl ?_
          refine wa_iinc rfl rfl ?_
          refine wa_goto ⟨_, rfl⟩ ?_
          refine wJ_S (ih (i + 1) true (by omega) (by omega) (fun _ => ⟨hvt1.1, fun k hk => ?_⟩) (fun z => absurd z (by first | decide | omega))) ⟨rfl, rfl, rfl, rfl, rfl, trivial⟩
          by_cases hkq : k = i
          · rw [hkq]; omega
          · exact hvt1.2 k (by omega)
theorem rhs_261 {x y : Int} (hM : w_ML S) (hK : KR 261 T n cs ms S) (hw : wHo cs ms os) (hx : 0 ≤ x ∧ x < (ms.length : Int)) (hy : 0 ≤ y ∧ y < (ms.length : Int)) : wJ (pe_GA xs) wY0 M d t_MO_haveSameTypes ((pe_at t_MO_haveSameTypes.bl 0).getD (0, [])).2 [(0, (2, 261)), (1, (0, x)), (2, (0, y))] [] S (fun z Z => S = Z ∧ z = .inl (some (0, bI (decide ((hmR ms x).2.2.2.2.1 = (hmR ms y).2.2.2.2.1))))) := by
  have h13 : S 237 13 = 261 := hK.1
  have hn := hK.2.1
  have hn2 := hn.2.2
  have eM := KR_m hK (m := x) (by omega) (by omega)
  have eW := hw.2.2.2 x (by omega) (by omega)
  have e1 : S 273 x = (hmR ms x).2.1 := eM.1.2.1
  have e2 : S 274 x = (hmR ms x).2.2.1 := eM.1.2.2.1
  have e3 : S 275 x = (hmR ms x).2.2.2.1 := eM.1.2.2.2.1
  have e4 : S 276 x = ((hmR ms x).2.2.2.2.1.length : Int) := eM.2.1.1
  have e5 : S 277 x = (hmR ms x).2.2.2.2.2.1 := eM.2.1.2.1
  have ef : S 279 x = (hmR ms x).2.2.2.2.2.2.1 := eM.1.2.2.2.2.1
  have et : S 280 x = (hmR ms x).2.2.2.2.2.2.2 := eM.1.2.2.2.2.2
  have eq := eW.1.2.1
  have es := eW.1.2.2.1
  have ey := eW.1.2.2.2
  have ev := eW.2.1
  have el := eW.2.2.1
  have eft := hK.2.2.2.2.2.2.1 x (by omega) (by omega)
  have gM := KR_m hK (m := y) (by omega) (by omega)
  have gW := hw.2.2.2 y (by omega) (by omega)
  have g1 : S 273 y = (hmR ms y).2.1 := gM.1.2.1
  have g2 : S 274 y = (hmR ms y).2.2.1 := gM.1.2.2.1
  have g3 : S 275 y = (hmR ms y).2.2.2.1 := gM.1.2.2.2.1
  have g4 : S 276 y = ((hmR ms y).2.2.2.2.1.length : Int) := gM.2.1.1
  have g5 : S 277 y = (hmR ms y).2.2.2.2.2.1 := gM.2.1.2.1
  have gf : S 279 y = (hmR ms y).2.2.2.2.2.2.1 := gM.1.2.2.2.2.1
  have gt : S 280 y = (hmR ms y).2.2.2.2.2.2.2 := gM.1.2.2.2.2.2
  have gq := gW.1.2.1
  have gs := gW.1.2.2.1
  have gy := gW.1.2.2.2
  have gv := gW.2.1
  have gl := gW.2.2.1
  have gft := hK.2.2.2.2.2.2.1 y (by omega) (by omega)
  refine wa_aload_n (n := 0) rfl ?_
  refine wb_gf4 261 rfl (wy_pr rfl) wt_261 wf_12_16 (v := 276) wl_261_16 ?_
  refine wa_iload_n (n := 1) rfl ?_
  refine wb_iald 276 rfl (wy_pr rfl) wt_276 (n := 400) ((ml_276 hM)) (by omega) (by omega) (v := ((hmR ms x).2.2.2.2.1.length : Int)) (e4) (fun r1 => ?_)
  refine wa_aload_n (n := 0) rfl ?_
  refine wb_gf4 261 rfl (wy_pr rfl) wt_261 wf_12_16 (v := 276) wl_261_16 ?_
  refine wa_iload_n (n := 2) rfl ?_
  refine wb_iald 276 rfl (wy_pr rfl) wt_276 (n := 400) ((ml_276 hM)) (by omega) (by omega) (v := ((hmR ms y).2.2.2.2.1.length : Int)) (g4) (fun r2 => ?_)
  refine wa_icmpne (w_rg0 (by omega) (by omega)) (w_rg0 (by omega) (by omega)) ⟨_, rfl⟩ (fun c3 => ?_) (fun c3 => ?_)
  · skip
    refine wa_iconst ?_
    refine wa_fall ⟨_, rfl⟩ ?_
    refine wa_istore_n (n := 3) rfl ?_
    refine wa_iconst ?_
    refine wa_istore (n := 4) rfl ?_
    refine wa_fall ⟨_, rfl⟩ ?_
    exact wJ_S (rhsl_261 hM hK hw hx hy ((hmR ms x).2.2.2.2.1.length + 1) 0 false (by omega) (by omega) (fun z => absurd z (by first | decide | omega)) (fun _ z => by have z2 := congrArg List.length z; omega)) ⟨rfl, rfl, rfl, rfl, rfl, trivial⟩
  · skip
    refine wa_iconst ?_
    refine wa_goto ⟨_, rfl⟩ ?_
    refine wa_istore_n (n := 3) rfl ?_
    refine wa_iconst ?_
    refine wa_istore (n := 4) rfl ?_
    refine wa_fall ⟨_, rfl⟩ ?_
    exact wJ_S (rhsl_261 hM hK hw hx hy ((hmR ms x).2.2.2.2.1.length + 1) 0 true (by omega) (by omega) (fun _ => ⟨by omega, fun k hk => absurd hk (Nat.not_lt_zero _)⟩) (fun z => absurd z (by first | decide | omega))) ⟨rfl, rfl, rfl, rfl, rfl, trivial⟩
theorem riwl_261 {m : Int} {WW : List Int} {N : Nat} (hM : w_ML S) (hK : KR 261 T n cs ms S) (hw : wHo cs ms os) (hm : 0 ≤ m ∧ m < (ms.length : Int)) (hW : wtI WW S) (hN : (N : Int) = (hmR ms m).2.2.2.2.2.2.2 - (hmR ms m).2.2.2.2.2.2.1) : ∀ (f i : Nat) (v : Bool), N - i < f → i ≤ N → (v = true → N = WW.length ∧ ∀ k : Nat, k < i → T ((hmR ms m).2.2.2.2.2.2.1 + (k : Int)) = WW.getD k 0) → (v = false → ¬ nmR T (hmR ms m) = WW) → wJ (pe_GA xs) wY0 M d t_M_isWanted ((pe_at t_M_isWanted.bl 3).getD (0, [])).2 [(0, (2, 237)), (1, (0, m)), (2, (0, (N : Int))), (3, (0, bI v)), (4, (0, (i : Int)))] [] S (fun z Z => S = Z ∧ z = .inl (some (0, bI (decide (nmR T (hmR ms m) = WW))))) := by
  have h13 : S 237 13 = 261 := hK.1
  have hn := hK.2.1
  have hn2 := hn.2.2
  have h26 : S 237 126 = (WW.length : Int) := hW.1
  have hWl := hW.2.2
  have hnn := hK.2.2.2.2.2.1
  have eM := KR_m hK (m := m) (by omega) (by omega)
  have eW := hw.2.2.2 m (by omega) (by omega)
  have e1 : S 273 m = (hmR ms m).2.1 := eM.1.2.1
  have e2 : S 274 m = (hmR ms m).2.2.1 := eM.1.2.2.1
  have e3 : S 275 m = (hmR ms m).2.2.2.1 := eM.1.2.2.2.1
  have e4 : S 276 m = ((hmR ms m).2.2.2.2.1.length : Int) := eM.2.1.1
  have e5 : S 277 m = (hmR ms m).2.2.2.2.2.1 := eM.2.1.2.1
  have ef : S 279 m = (hmR ms m).2.2.2.2.2.2.1 := eM.1.2.2.2.2.1
  have et : S 280 m = (hmR ms m).2.2.2.2.2.2.2 := eM.1.2.2.2.2.2
  have eq := eW.1.2.1
  have es := eW.1.2.2.1
  have ey := eW.1.2.2.2
  have ev := eW.2.1
  have el := eW.2.2.1
  have eft := hK.2.2.2.2.2.2.1 m (by omega) (by omega)
  intro f
  induction f with
  | zero => intro i v h; exact absurd h (Nat.not_lt_zero _)
  | succ f ih =>
    intro i v hf hi hvt hvf
    have hbv := bI_rg v
    refine wa_iload (n := 4) rfl ?_
    refine wa_iload_n (n := 2) rfl ?_
    refine wa_icmpge (w_rg0 (by omega) (by omega)) (w_rg0 (by omega) (by omega)) ⟨_, rfl⟩ (fun c1 => ?_) (fun c1 => ?_)
    · skip
      refine wa_iload_n (n := 3) rfl ?_
      refine wa_zreturn rfl (by omega) ?_
      refine ⟨rfl, congrArg (fun z => Sum.inl (some (0, z))) (congrArg bI ?_)⟩
      cases v with
      | true =>
        refine (decide_eq_true (ls_eq.mpr ⟨?_, fun k hk => ?_⟩)).symm
        · have z : (nmR T (hmR ms m)).length = _ := sl_len _ _ _
          have z2 := (hvt rfl).1; omega
        · have z : (nmR T (hmR ms m)).length = _ := sl_len _ _ _
          rw [z] at hk
          have z3 : (nmR T (hmR ms m)).getD k 0 = T ((hmR ms m).2.2.2.2.2.2.1 + (k : Int)) := sl_get _ _ _ hk
          exact z3.trans ((hvt rfl).2 k (by first | omega | exact absurd (show bI true = 0 by omega) (by first | decide | omega)))
      | false => exact (decide_eq_false (hvf rfl)).symm
    · skip
      refine wa_iload_n (n := 3) rfl ?_
      refine wa_ifeq (w_rg0 (by omega) (by omega)) ⟨_, rfl⟩ (fun c2 => ?_) (fun c2 => ?_)
      · skip
        refine wa_iload_n (n := 3) rfl ?_
        refine wa_zreturn rfl (by omega) ?_
        refine ⟨rfl, congrArg (fun z => Sum.inl (some (0, z))) (congrArg bI ?_)⟩
        cases v with
        | true =>
          refine (decide_eq_true (ls_eq.mpr ⟨?_, fun k hk => ?_⟩)).symm
          · have z : (nmR T (hmR ms m)).length = _ := sl_len _ _ _
            have z2 := (hvt rfl).1; omega
          · have z : (nmR T (hmR ms m)).length = _ := sl_len _ _ _
            rw [z] at hk
            have z3 : (nmR T (hmR ms m)).getD k 0 = T ((hmR ms m).2.2.2.2.2.2.1 + (k : Int)) := sl_get _ _ _ hk
            exact z3.trans ((hvt rfl).2 k (by first | omega | exact absurd (show bI true = 0 by omega) (by first | decide | omega)))
        | false => exact (decide_eq_false (hvf rfl)).symm
      · skip
        have hv1 := bI_1 (b := v) (by omega)
        have hvt1 := hvt hv1
        have hsg : S 262 ((hmR ms m).2.2.2.2.2.2.1 + (i : Int)) = T ((hmR ms m).2.2.2.2.2.2.1 + (i : Int)) := hK.2.2.2.2.1 _ (by omega) (by omega)
        have hw4 := hW.2.1 i (by omega)
        refine wa_aload_n (n := 0) rfl ?_
        refine wb_gf5 237 rfl (wy_pr rfl) wt_237 wf_15_13 (v := 261) (h13) (fun r3 => ?_)
        refine wb_gf4 261 rfl (wy_pr rfl) wt_261 wf_12_0 (v := 262) wl_261_0 ?_
        refine wa_aload_n (n := 0) rfl ?_
        refine wb_gf5 237 rfl (wy_pr rfl) wt_237 wf_15_13 (v := 261) (h13) (fun r4 => ?_)
        refine wb_gf4 261 rfl (wy_pr rfl) wt_261 wf_12_19 (v := 279) wl_261_19 ?_
        refine wa_iload_n (n := 1) rfl ?_
        refine wb_iald 279 rfl (wy_pr rfl) wt_279 (n := 400) ((ml_279 hM)) (by omega) (by omega) (v := (hmR ms m).2.2.2.2.2.2.1) (ef) (fun r5 => ?_)
        refine wa_iload (n := 4) rfl ?_
        refine wa_iadd ?_
        refine wb_bald 262 rfl (wy_pr rfl) wt_262 (n := 65536) ((ml_262 hM)) (by omega) (by omega) (v := (T ((hmR ms m).2.2.2.2.2.2.1 + (i : Int)))) (hsg) (fun r6 => ?_)
        refine wa_aload_n (n := 0) rfl ?_
        refine wb_gf4 237 rfl (wy_pr rfl) wt_237 wf_15_127 (v := 354) wl_237_127 ?_
        refine wa_iload (n := 4) rfl ?_
        refine wb_bald 354 rfl (wy_pr rfl) wt_354 (n := 72) ((ml_354 hM)) (by omega) (by omega) (v := (WW.getD i 0)) (hw4) (fun r7 => ?_)
        refine wa_icmpne (w_rg0 (by omega) (by omega)) (w_rg0 (by omega) (by omega)) ⟨_, rfl⟩ (fun c8 => ?_) (fun c8 => ?_)
        · skip
          refine wa_iconst ?_
          refine wa_fall ⟨_, rfl⟩ ?_
          refine wa_istore_n (n := 3) rfl ?_
          refine wa_iinc rfl rfl ?_
          refine wa_goto ⟨_, rfl⟩ ?_
          refine wJ_S (ih (i + 1) false (by omega) (by omega) (fun z => absurd z (by first | decide | omega)) (fun _ z => ?_)) ⟨rfl, rfl, rfl, rfl, rfl, trivial⟩
          have z2 : (nmR T (hmR ms m)).getD i 0 = WW.getD i 0 := by rw [z]
          have z3 : (nmR T (hmR ms m)).getD i 0 = T ((hmR ms m).2.2.2.2.2.2.1 + (i : Int)) := sl_get _ _ _ (by omega)
          exact absurd (z3.symm.trans z2) (by assumption)
        · skip
          refine wa_iconst ?_
          refine wa_goto ⟨_, rfl⟩ ?_
          refine wa_istore_n (n := 3) rfl ?_
          refine wa_iinc rfl rfl ?_
          refine wa_goto ⟨_, rfl⟩ ?_
          refine wJ_S (ih (i + 1) true (by omega) (by omega) (fun _ => ⟨hvt1.1, fun k hk => ?_⟩) (fun z => absurd z (by first | decide | omega))) ⟨rfl, rfl, rfl, rfl, rfl, trivial⟩
          by_cases hkq : k = i
          · rw [hkq]; omega
          · exact hvt1.2 k (by omega)
theorem riw_261 {m : Int} {WW : List Int} (hM : w_ML S) (hK : KR 261 T n cs ms S) (hw : wHo cs ms os) (hm : 0 ≤ m ∧ m < (ms.length : Int)) (hW : wtI WW S) : wJ (pe_GA xs) wY0 M d t_M_isWanted ((pe_at t_M_isWanted.bl 0).getD (0, [])).2 [(0, (2, 237)), (1, (0, m))] [] S (fun z Z => S = Z ∧ z = .inl (some (0, bI (decide (nmR T (hmR ms m) = WW))))) := by
  have h13 : S 237 13 = 261 := hK.1
  have hn := hK.2.1
  have hn2 := hn.2.2
  have h26 : S 237 126 = (WW.length : Int) := hW.1
  have hWl := hW.2.2
  have hnn := hK.2.2.2.2.2.1
  have eM := KR_m hK (m := m) (by omega) (by omega)
  have eW := hw.2.2.2 m (by omega) (by omega)
  have e1 : S 273 m = (hmR ms m).2.1 := eM.1.2.1
  have e2 : S 274 m = (hmR ms m).2.2.1 := eM.1.2.2.1
  have e3 : S 275 m = (hmR ms m).2.2.2.1 := eM.1.2.2.2.1
  have e4 : S 276 m = ((hmR ms m).2.2.2.2.1.length : Int) := eM.2.1.1
  have e5 : S 277 m = (hmR ms m).2.2.2.2.2.1 := eM.2.1.2.1
  have ef : S 279 m = (hmR ms m).2.2.2.2.2.2.1 := eM.1.2.2.2.2.1
  have et : S 280 m = (hmR ms m).2.2.2.2.2.2.2 := eM.1.2.2.2.2.2
  have eq := eW.1.2.1
  have es := eW.1.2.2.1
  have ey := eW.1.2.2.2
  have ev := eW.2.1
  have el := eW.2.2.1
  have eft := hK.2.2.2.2.2.2.1 m (by omega) (by omega)
  obtain ⟨N, hN⟩ : ∃ N : Nat, (N : Int) = (hmR ms m).2.2.2.2.2.2.2 - (hmR ms m).2.2.2.2.2.2.1 := ⟨((hmR ms m).2.2.2.2.2.2.2 - (hmR ms m).2.2.2.2.2.2.1).toNat, by omega⟩
  refine wa_aload_n (n := 0) rfl ?_
  refine wb_gf5 237 rfl (wy_pr rfl) wt_237 wf_15_13 (v := 261) (h13) (fun r1 => ?_)
  refine wb_gf4 261 rfl (wy_pr rfl) wt_261 wf_12_20 (v := 280) wl_261_20 ?_
  refine wa_iload_n (n := 1) rfl ?_
  refine wb_iald 280 rfl (wy_pr rfl) wt_280 (n := 400) ((ml_280 hM)) (by omega) (by omega) (v := (hmR ms m).2.2.2.2.2.2.2) (et) (fun r2 => ?_)
  refine wa_aload_n (n := 0) rfl ?_
  refine wb_gf5 237 rfl (wy_pr rfl) wt_237 wf_15_13 (v := 261) (h13) (fun r3 => ?_)
  refine wb_gf4 261 rfl (wy_pr rfl) wt_261 wf_12_19 (v := 279) wl_261_19 ?_
  refine wa_iload_n (n := 1) rfl ?_
  refine wb_iald 279 rfl (wy_pr rfl) wt_279 (n := 400) ((ml_279 hM)) (by omega) (by omega) (v := (hmR ms m).2.2.2.2.2.2.1) (ef) (fun r4 => ?_)
  refine wa_isub ?_
  refine wJ_top (show ((hmR ms m).2.2.2.2.2.2.2 - (hmR ms m).2.2.2.2.2.2.1) = (N : Int) from hN.symm) ?_
  refine wa_istore_n (n := 2) rfl ?_
  refine wa_iload_n (n := 2) rfl ?_
  refine wa_aload_n (n := 0) rfl ?_
  refine wb_gfi 237 rfl (wy_pr rfl) wt_237 wf_15_126 (v := (WW.length : Int)) (h26) (fun r5 => ?_)
  refine wa_icmpne (w_rg0 (by omega) (by omega)) (w_rg0 (by omega) (by omega)) ⟨_, rfl⟩ (fun c6 => ?_) (fun c6 => ?_)
  · skip
    refine wa_iconst ?_
    refine wa_fall ⟨_, rfl⟩ ?_
    refine wa_istore_n (n := 3) rfl ?_
    refine wa_iconst ?_
    refine wa_istore (n := 4) rfl ?_
    refine wa_fall ⟨_, rfl⟩ ?_
    exact wJ_S (riwl_261 hM hK hw hm hW hN (N + 1) 0 false (by omega) (by omega) (fun z => absurd z (by first | decide | omega)) (fun _ z => by have z2 := congrArg List.length z; have z3 : (nmR T (hmR ms m)).length = _ := sl_len _ _ _; omega)) ⟨rfl, rfl, rfl, rfl, rfl, trivial⟩
  · skip
    refine wa_iconst ?_
    refine wa_goto ⟨_, rfl⟩ ?_
    refine wa_istore_n (n := 3) rfl ?_
    refine wa_iconst ?_
    refine wa_istore (n := 4) rfl ?_
    refine wa_fall ⟨_, rfl⟩ ?_
    exact wJ_S (riwl_261 hM hK hw hm hW hN (N + 1) 0 true (by omega) (by omega) (fun _ => ⟨by omega, fun k hk => absurd hk (Nat.not_lt_zero _)⟩) (fun z => absurd z (by first | decide | omega))) ⟨rfl, rfl, rfl, rfl, rfl, trivial⟩
end Whc
