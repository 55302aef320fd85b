/-! PART fx: kind, of the reference. -/
section Wfx
variable {xs : List (Nat × List Int32)} {M : Nat → Prop} {d : Nat} {S Z A B X : wS} {K : aK} {b k v t n : Int} {tx : List Int32}
theorem hb_l (h : ∀ c ∈ tx, 0 ≤ c.toInt ∧ c.toInt ≤ 127) : ∀ i : Nat, i < tx.length → 0 ≤ w_tx tx (i : Int) ∧ w_tx tx (i : Int) ≤ 127 := fun i hi => by
  unfold w_tx
  rw [show ((i : Int)).toNat = i by omega, List.getD_eq_getElem?_getD, List.getElem?_eq_getElem hi]
  exact h _ (List.getElem_mem hi)
/-- the text for a value's kind, as the reference has it -/
def kTx (k v : Int) : List Int32 := if k = 0 then tx_65 else if k = 1 then tx_67 else if k = 2 then (if v = wb_l2i v then tx_69 else tx_71) else if k = 3 then tx_73 else if k = 4 then tx_75 else if k = 5 then tx_35 else if k = 6 then tx_77 else if k = 7 then tx_79 else tx_17
theorem kTx_e (hk : 0 ≤ k ∧ k ≤ 8) : (kTx k v).map (fun c => c.toInt) = kdL k v := by
  have hc : k = 0 ∨ k = 1 ∨ k = 2 ∨ k = 3 ∨ k = 4 ∨ k = 5 ∨ k = 6 ∨ k = 7 ∨ k = 8 := by omega
  have hw : k ≠ 2 → kWd k v = w_tx tx_55 k := fun z => if_neg (fun y => z y.1)
  unfold kdL
  rcases hc with rfl | rfl | rfl | rfl | rfl | rfl | rfl | rfl | rfl
  · rw [hw (by first | decide | omega)]; rfl
  · rw [hw (by first | decide | omega)]; rfl
  · by_cases c : v = wb_l2i v
    · have e1 : kTx 2 v = tx_69 := (if_neg (by first | decide | omega)).trans ((if_neg (by first | decide | omega)).trans ((if_pos rfl).trans (if_pos c)))
      have e2 : kWd 2 v = w_tx tx_55 2 := if_neg (fun y => y.2 c)
      rw [e1, e2]; rfl
    · have e1 : kTx 2 v = tx_71 := (if_neg (by first | decide | omega)).trans ((if_neg (by first | decide | omega)).trans ((if_pos rfl).trans (if_neg c)))
      have e2 : kWd 2 v = 28 := if_pos ⟨rfl, c⟩
      rw [e1, e2]; rfl
  · rw [hw (by first | decide | omega)]; rfl
  · rw [hw (by first | decide | omega)]; rfl
  · rw [hw (by first | decide | omega)]; rfl
  · rw [hw (by first | decide | omega)]; rfl
  · rw [hw (by first | decide | omega)]; rfl
  · rw [hw (by first | decide | omega)]; rfl
theorem kTx_l : (kTx k v).length ≤ 6 := by
  unfold kTx
  repeat (first | (show List.length _ ≤ 6; decide) | split)
theorem kTx_g {i : Nat} (hk : 0 ≤ k ∧ k ≤ 8) (hi : i < (kTx k v).length) : w_tx (kTx k v) (i : Int) = (kdL k v).getD i 0 := by
  rw [← kTx_e hk]
  unfold w_tx
  rw [show ((i : Int)).toNat = i by omega, List.getD_eq_getElem?_getD, List.getD_eq_getElem?_getD, List.getElem?_map, List.getElem?_eq_getElem hi]
  rfl
/-- what making of texts may change of the reference -/
def rMx (j : Nat) (x : Int) : Prop := (283 ≤ j ∧ j ≤ 285) ∨ (j = 237 ∧ (x = 102 ∨ x = 103 ∨ x = 64 ∨ x = 65))
theorem sk_ok (hX : w_X xs) (hM : w_ML S) (h13 : S 237 113 = 0) (hk : 0 ≤ k ∧ k ≤ 8) (hv : -9223372036854775808 ≤ v ∧ v ≤ 9223372036854775807) : wJ (pe_GA xs) wY0 M (d + 5) t_M_spellKind ((pe_at t_M_spellKind.bl 0).getD (0, [])).2 [(0, (2, 237)), (1, (0, k)), (2, (1, v))] [] S (fun o Z => o = .inl none ∧ spA 0 (kTx k v) S Z) := by
  have hlr := wb_l2i_rg v
  refine wa_aload_n (n := 0) rfl ?_
  refine wa_iload_n (n := 1) rfl ?_
  refine wa_ifne (w_rg0 (by omega) (by omega)) ⟨_, rfl⟩ (fun c1 => ?_) (fun c1 => ?_)
  · skip
    refine wa_iload_n (n := 1) rfl ?_
    refine wa_iconst ?_
    refine wa_icmpne (w_rg0 (by omega) (by omega)) (w_rg0 (by omega) (by omega)) ⟨_, rfl⟩ (fun c2 => ?_) (fun c2 => ?_)
    · skip
      refine wa_iload_n (n := 1) rfl ?_
      refine wa_iconst ?_
      refine wa_icmpne (w_rg0 (by omega) (by omega)) (w_rg0 (by omega) (by omega)) ⟨_, rfl⟩ (fun c3 => ?_) (fun c3 => ?_)
      · skip
        refine wa_iload_n (n := 1) rfl ?_
        refine wa_iconst ?_
        refine wa_icmpne (w_rg0 (by omega) (by omega)) (w_rg0 (by omega) (by omega)) ⟨_, rfl⟩ (fun c4 => ?_) (fun c4 => ?_)
        · skip
          refine wa_iload_n (n := 1) rfl ?_
          refine wa_iconst ?_
          refine wa_icmpne (w_rg0 (by omega) (by omega)) (w_rg0 (by omega) (by omega)) ⟨_, rfl⟩ (fun c5 => ?_) (fun c5 => ?_)
          · skip
            refine wa_iload_n (n := 1) rfl ?_
            refine wa_iconst ?_
            refine wa_icmpne (w_rg0 (by omega) (by omega)) (w_rg0 (by omega) (by omega)) ⟨_, rfl⟩ (fun c6 => ?_) (fun c6 => ?_)
            · skip
              refine wa_iload_n (n := 1) rfl ?_
              refine wa_bipush (w_rg2 (by omega) (by omega)) ?_
              refine wa_icmpne (w_rg0 (by omega) (by omega)) (w_rg0 (by omega) (by omega)) ⟨_, rfl⟩ (fun c7 => ?_) (fun c7 => ?_)
              · skip
                refine wa_iload_n (n := 1) rfl ?_
                refine wa_bipush (w_rg2 (by omega) (by omega)) ?_
                refine wa_icmpne (w_rg0 (by omega) (by omega)) (w_rg0 (by omega) (by omega)) ⟨_, rfl⟩ (fun c8 => ?_) (fun c8 => ?_)
                · skip
                  refine wa_ks ?_
                  refine wa_fall ⟨_, rfl⟩ ?_
                  refine wa_cv 237 rfl (wy_pr rfl) wt_237 (M2 := fun _ => False) rfl at_M_spell ⟨_, rfl⟩ rfl rfl ⟨(Or.inr ⟨wy_pr rfl, fun q => q⟩), trivial, trivial, trivial⟩ trivial (fun _ _ q => False.elim q) (sp_ok (j := 17) (tx := tx_17) (n0 := 0) (wx_17 hX) (by decide) (hb_l (by decide)) (by decide) hM h13) (fun oq9 Sq9 hp10 q9 => ?_)
                  rcases q9 with ⟨rfl, hsp⟩
                  show wJ _ _ _ _ _ _ _ _ _ _
                  refine wa_return rfl ?_
                  have e : kTx k v = tx_17 := (if_neg (by omega)).trans ((if_neg (by omega)).trans ((if_neg (by omega)).trans ((if_neg (by omega)).trans ((if_neg (by omega)).trans ((if_neg (by omega)).trans ((if_neg (by omega)).trans (if_neg (by omega))))))))
                  rw [e]
                  exact ⟨rfl, hsp⟩
                · skip
                  refine wa_ks ?_
                  refine wa_goto ⟨_, rfl⟩ ?_
                  refine wa_cv 237 rfl (wy_pr rfl) wt_237 (M2 := fun _ => False) rfl at_M_spell ⟨_, rfl⟩ rfl rfl ⟨(Or.inr ⟨wy_pr rfl, fun q => q⟩), trivial, trivial, trivial⟩ trivial (fun _ _ q => False.elim q) (sp_ok (j := 79) (tx := tx_79) (n0 := 0) (wx_79 hX) (by decide) (hb_l (by decide)) (by decide) hM h13) (fun oq11 Sq11 hp12 q11 => ?_)
                  rcases q11 with ⟨rfl, hsp⟩
                  show wJ _ _ _ _ _ _ _ _ _ _
                  refine wa_return rfl ?_
                  have e : kTx k v = tx_79 := (if_neg (by omega)).trans ((if_neg (by omega)).trans ((if_neg (by omega)).trans ((if_neg (by omega)).trans ((if_neg (by omega)).trans ((if_neg (by omega)).trans ((if_neg (by omega)).trans (if_pos (by omega))))))))
                  rw [e]
                  exact ⟨rfl, hsp⟩
              · skip
                refine wa_ks ?_
                refine wa_goto ⟨_, rfl⟩ ?_
                refine wa_cv 237 rfl (wy_pr rfl) wt_237 (M2 := fun _ => False) rfl at_M_spell ⟨_, rfl⟩ rfl rfl ⟨(Or.inr ⟨wy_pr rfl, fun q => q⟩), trivial, trivial, trivial⟩ trivial (fun _ _ q => False.elim q) (sp_ok (j := 77) (tx := tx_77) (n0 := 0) (wx_77 hX) (by decide) (hb_l (by decide)) (by decide) hM h13) (fun oq13 Sq13 hp14 q13 => ?_)
                rcases q13 with ⟨rfl, hsp⟩
                show wJ _ _ _ _ _ _ _ _ _ _
                refine wa_return rfl ?_
                have e : kTx k v = tx_77 := (if_neg (by omega)).trans ((if_neg (by omega)).trans ((if_neg (by omega)).trans ((if_neg (by omega)).trans ((if_neg (by omega)).trans ((if_neg (by omega)).trans (if_pos (by omega)))))))
                rw [e]
                exact ⟨rfl, hsp⟩
            · skip
              refine wa_ks ?_
              refine wa_goto ⟨_, rfl⟩ ?_
              refine wa_cv 237 rfl (wy_pr rfl) wt_237 (M2 := fun _ => False) rfl at_M_spell ⟨_, rfl⟩ rfl rfl ⟨(Or.inr ⟨wy_pr rfl, fun q => q⟩), trivial, trivial, trivial⟩ trivial (fun _ _ q => False.elim q) (sp_ok (j := 35) (tx := tx_35) (n0 := 0) (wx_35 hX) (by decide) (hb_l (by decide)) (by decide) hM h13) (fun oq15 Sq15 hp16 q15 => ?_)
              rcases q15 with ⟨rfl, hsp⟩
              show wJ _ _ _ _ _ _ _ _ _ _
              refine wa_return rfl ?_
              have e : kTx k v = tx_35 := (if_neg (by omega)).trans ((if_neg (by omega)).trans ((if_neg (by omega)).trans ((if_neg (by omega)).trans ((if_neg (by omega)).trans (if_pos (by omega))))))
              rw [e]
              exact ⟨rfl, hsp⟩
          · skip
            refine wa_ks ?_
            refine wa_goto ⟨_, rfl⟩ ?_
            refine wa_cv 237 rfl (wy_pr rfl) wt_237 (M2 := fun _ => False) rfl at_M_spell ⟨_, rfl⟩ rfl rfl ⟨(Or.inr ⟨wy_pr rfl, fun q => q⟩), trivial, trivial, trivial⟩ trivial (fun _ _ q => False.elim q) (sp_ok (j := 75) (tx := tx_75) (n0 := 0) (wx_75 hX) (by decide) (hb_l (by decide)) (by decide) hM h13) (fun oq17 Sq17 hp18 q17 => ?_)
            rcases q17 with ⟨rfl, hsp⟩
            show wJ _ _ _ _ _ _ _ _ _ _
            refine wa_return rfl ?_
            have e : kTx k v = tx_75 := (if_neg (by omega)).trans ((if_neg (by omega)).trans ((if_neg (by omega)).trans ((if_neg (by omega)).trans (if_pos (by omega)))))
            rw [e]
            exact ⟨rfl, hsp⟩
        · skip
          refine wa_ks ?_
          refine wa_goto ⟨_, rfl⟩ ?_
          refine wa_cv 237 rfl (wy_pr rfl) wt_237 (M2 := fun _ => False) rfl at_M_spell ⟨_, rfl⟩ rfl rfl ⟨(Or.inr ⟨wy_pr rfl, fun q => q⟩), trivial, trivial, trivial⟩ trivial (fun _ _ q => False.elim q) (sp_ok (j := 73) (tx := tx_73) (n0 := 0) (wx_73 hX) (by decide) (hb_l (by decide)) (by decide) hM h13) (fun oq19 Sq19 hp20 q19 => ?_)
          rcases q19 with ⟨rfl, hsp⟩
          show wJ _ _ _ _ _ _ _ _ _ _
          refine wa_return rfl ?_
          have e : kTx k v = tx_73 := (if_neg (by omega)).trans ((if_neg (by omega)).trans ((if_neg (by omega)).trans (if_pos (by omega))))
          rw [e]
          exact ⟨rfl, hsp⟩
      · skip
        refine wa_lload_n (n := 2) rfl ?_
        refine wa_lload_n (n := 2) rfl ?_
        refine wa_l2i ?_
        refine wa_i2l (w_rg0 (by omega) (by omega)) ?_
        refine wa_lcmp (w_rg1 (by omega) (by omega)) (w_rg1 (by omega) (by omega)) ?_
        refine wa_ifne (by have := @wb_lcmp_cases; exact w_lcmp_rg) ⟨_, rfl⟩ (fun c21 => ?_) (fun c21 => ?_)
        · skip
          have c21x := @wb_lcmp_cases v (wb_l2i v)
          refine wa_ks ?_
          refine wa_goto ⟨_, rfl⟩ ?_
          refine wa_cv 237 rfl (wy_pr rfl) wt_237 (M2 := fun _ => False) rfl at_M_spell ⟨_, rfl⟩ rfl rfl ⟨(Or.inr ⟨wy_pr rfl, fun q => q⟩), trivial, trivial, trivial⟩ trivial (fun _ _ q => False.elim q) (sp_ok (j := 71) (tx := tx_71) (n0 := 0) (wx_71 hX) (by decide) (hb_l (by decide)) (by decide) hM h13) (fun oq22 Sq22 hp23 q22 => ?_)
          rcases q22 with ⟨rfl, hsp⟩
          show wJ _ _ _ _ _ _ _ _ _ _
          refine wa_return rfl ?_
          have e : kTx k v = tx_71 := (if_neg (by omega)).trans ((if_neg (by omega)).trans ((if_pos (by omega)).trans (if_neg (by omega))))
          rw [e]
          exact ⟨rfl, hsp⟩
        · skip
          have c21x := @wb_lcmp_cases v (wb_l2i v)
          refine wa_ks ?_
          refine wa_goto ⟨_, rfl⟩ ?_
          refine wa_cv 237 rfl (wy_pr rfl) wt_237 (M2 := fun _ => False) rfl at_M_spell ⟨_, rfl⟩ rfl rfl ⟨(Or.inr ⟨wy_pr rfl, fun q => q⟩), trivial, trivial, trivial⟩ trivial (fun _ _ q => False.elim q) (sp_ok (j := 69) (tx := tx_69) (n0 := 0) (wx_69 hX) (by decide) (hb_l (by decide)) (by decide) hM h13) (fun oq24 Sq24 hp25 q24 => ?_)
          rcases q24 with ⟨rfl, hsp⟩
          show wJ _ _ _ _ _ _ _ _ _ _
          refine wa_return rfl ?_
          have e : kTx k v = tx_69 := (if_neg (by omega)).trans ((if_neg (by omega)).trans ((if_pos (by omega)).trans (if_pos (by omega))))
          rw [e]
          exact ⟨rfl, hsp⟩
    · skip
      refine wa_ks ?_
      refine wa_goto ⟨_, rfl⟩ ?_
      refine wa_cv 237 rfl (wy_pr rfl) wt_237 (M2 := fun _ => False) rfl at_M_spell ⟨_, rfl⟩ rfl rfl ⟨(Or.inr ⟨wy_pr rfl, fun q => q⟩), trivial, trivial, trivial⟩ trivial (fun _ _ q => False.elim q) (sp_ok (j := 67) (tx := tx_67) (n0 := 0) (wx_67 hX) (by decide) (hb_l (by decide)) (by decide) hM h13) (fun oq26 Sq26 hp27 q26 => ?_)
      rcases q26 with ⟨rfl, hsp⟩
      show wJ _ _ _ _ _ _ _ _ _ _
      refine wa_return rfl ?_
      have e : kTx k v = tx_67 := (if_neg (by omega)).trans (if_pos (by omega))
      rw [e]
      exact ⟨rfl, hsp⟩
  · skip
    refine wa_ks ?_
    refine wa_goto ⟨_, rfl⟩ ?_
    refine wa_cv 237 rfl (wy_pr rfl) wt_237 (M2 := fun _ => False) rfl at_M_spell ⟨_, rfl⟩ rfl rfl ⟨(Or.inr ⟨wy_pr rfl, fun q => q⟩), trivial, trivial, trivial⟩ trivial (fun _ _ q => False.elim q) (sp_ok (j := 65) (tx := tx_65) (n0 := 0) (wx_65 hX) (by decide) (hb_l (by decide)) (by decide) hM h13) (fun oq28 Sq28 hp29 q28 => ?_)
    rcases q28 with ⟨rfl, hsp⟩
    show wJ _ _ _ _ _ _ _ _ _ _
    refine wa_return rfl ?_
    have e : kTx k v = tx_65 := if_pos (by omega)
    rw [e]
    exact ⟨rfl, hsp⟩
theorem yb6 {t c p h tp ky vy m bt u2 u3 : Int} (hP : mP t c p h tp S) (hX : w_X xs) (hky : S 363 (2100 * t + h - 1) = ky) (hvy : S 364 (2100 * t + h - 1) = vy) (hh1 : 1 ≤ h) (hk8 : 0 ≤ ky ∧ ky ≤ 8) (hvr : -9223372036854775808 ≤ vy ∧ vy ≤ 9223372036854775807) (h102 : S 237 102 = m) (h103 : S 237 103 = bt) (h64 : S 237 64 = u2) (h65 : S 237 65 = u3) (hm : 0 ≤ m ∧ m ≤ u2) (hbt : 0 ≤ bt ∧ bt ≤ u3) (hu2 : u2 ≤ 12000) (hu3 : u3 ≤ 200000) : wJ (pe_GA xs) wY0 M (d + 11) t_M_others ((pe_at t_M_others.bl 0).getD (0, [])).2 [(0, (2, 237)), (1, (0, 28)), (2, (0, 6))] [] S (fun o Z => ((12000 ≤ u2 ∨ 200000 < u3 + ((kTx ky vy).length : Int)) ∧ ∃ A : wS, spA 0 (kTx ky vy) (w_up S 237 113 0) A ∧ o = .inr 238 ∧ hZ 99 A = Z) ∨ (u2 < 12000 ∧ u3 + ((kTx ky vy).length : Int) ≤ 200000 ∧ o = .inl none ∧ ∃ A B : wS, spA 0 (kTx ky vy) (w_up S 237 113 0) A ∧ mtA ((kTx ky vy).length : Int) m bt u2 u3 A B ∧ w_up (w_up B 363 (2100 * t + h - 1) 3) 364 (2100 * t + h - 1) (4000 + m) = Z)) := by
  obtain ⟨hM, ⟨mt, mt0, mt1⟩, mp, mf, ⟨mc, mc0, mc1⟩, ⟨mtp, mtq⟩, ⟨mpa, mp0, mp1⟩, mh, mh0, mh1⟩ := id hP
  have hky2 : S 363 (2100 * t + (h - 1)) = ky := by rw [show 2100 * t + (h - 1) = 2100 * t + h - 1 by omega]; exact hky
  have hvy2 : S 364 (2100 * t + (h - 1)) = vy := by rw [show 2100 * t + (h - 1) = 2100 * t + h - 1 by omega]; exact hvy
  refine wa_aload_n (n := 0) rfl ?_
  refine wa_cv 237 rfl (wy_pr rfl) wt_237 (M2 := fun _ => False) rfl at_M_h ⟨_, rfl⟩ rfl rfl ⟨(Or.inr ⟨wy_pr rfl, fun q => q⟩), trivial, trivial, trivial⟩ trivial (fun _ _ q => False.elim q) ?_ (fun _ _ _ q => q)
  refine wa_aload_n (n := 0) rfl ?_
  refine wb_gfi 237 rfl (wy_pr rfl) wt_237 wf_15_152 (v := (2100 * t)) (mp) (fun r1 => ?_)
  refine wa_aload_n (n := 0) rfl ?_
  refine wb_gf4 237 rfl (wy_pr rfl) wt_237 wf_15_134 (v := 359) wl_237_134 ?_
  refine wa_aload_n (n := 0) rfl ?_
  refine wb_gfi 237 rfl (wy_pr rfl) wt_237 wf_15_151 (v := t) (mt) (fun r2 => ?_)
  refine wb_iald 359 rfl (wy_pr rfl) wt_359 (n := 2) ((ml_359 hM)) (by omega) (by omega) (v := h) (mh) (fun r3 => ?_)
  refine wa_iadd ?_
  refine wa_ireturn rfl ?_
  show wJ _ _ _ _ _ _ _ _ _ _
  refine wa_iconst ?_
  refine wa_isub ?_
  refine wa_istore_n (n := 3) rfl ?_
  refine wa_iload_n (n := 1) rfl ?_
  refine wb_sw (w_rg0 (by omega) (by omega)) (tb := 12) rfl ⟨_, rfl⟩ ?_
  refine wa_aload_n (n := 0) rfl ?_
  refine wa_iload_n (n := 2) rfl ?_
  refine wa_cv 237 rfl (wy_pr rfl) wt_237 (M2 := fun _ => False) rfl at_M_builtins ⟨_, rfl⟩ rfl rfl ⟨trivial, (Or.inr ⟨wy_pr rfl, fun q => q⟩), trivial, trivial, trivial⟩ trivial (fun _ _ q => False.elim q) ?_ (fun _ _ _ q => q)
  refine wa_aload_n (n := 0) rfl ?_
  refine wa_cv 237 rfl (wy_pr rfl) wt_237 (M2 := fun _ => False) rfl at_M_h ⟨_, rfl⟩ rfl rfl ⟨(Or.inr ⟨wy_pr rfl, fun q => q⟩), trivial, trivial⟩ trivial (fun _ _ q => False.elim q) ?_ (fun _ _ _ q => q)
  refine wa_aload_n (n := 0) rfl ?_
  refine wb_gfi 237 rfl (wy_pr rfl) wt_237 wf_15_152 (v := (2100 * t)) (mp) (fun r4 => ?_)
  refine wa_aload_n (n := 0) rfl ?_
  refine wb_gf4 237 rfl (wy_pr rfl) wt_237 wf_15_134 (v := 359) wl_237_134 ?_
  refine wa_aload_n (n := 0) rfl ?_
  refine wb_gfi 237 rfl (wy_pr rfl) wt_237 wf_15_151 (v := t) (mt) (fun r5 => ?_)
  refine wb_iald 359 rfl (wy_pr rfl) wt_359 (n := 2) ((ml_359 hM)) (by omega) (by omega) (v := h) (mh) (fun r6 => ?_)
  refine wa_iadd ?_
  refine wa_ireturn rfl ?_
  show wJ _ _ _ _ _ _ _ _ _ _
  refine wa_iconst ?_
  refine wa_isub ?_
  refine wa_istore_n (n := 2) rfl ?_
  refine wa_iload_n (n := 2) rfl ?_
  refine wa_iconst ?_
  refine wa_isub ?_
  refine wa_istore_n (n := 3) rfl ?_
  refine wa_iload_n (n := 1) rfl ?_
  refine wb_sw (w_rg0 (by omega) (by omega)) (tb := 16) rfl ⟨_, rfl⟩ ?_
  refine wa_aload_n (n := 0) rfl ?_
  refine wa_iconst ?_
  refine wb_pfi 237 rfl (wy_pr rfl) wt_237 wf_15_113 (n := 113) rfl ⟨(by omega), (by omega)⟩ ?_
  refine wa_aload_n (n := 0) rfl ?_
  refine wa_aload_n (n := 0) rfl ?_
  refine wb_gf4 237 rfl (wy_pr rfl) wt_237 wf_15_138 (v := 363) wl_237_138 ?_
  refine wa_iload_n (n := 2) rfl ?_
  refine wb_iald 363 rfl (wy_pr rfl) wt_363 (n := 4200) ((w_up_slot (by decide)).trans ((ml_363 hM))) (by omega) (by omega) (v := ky) ((w_up_slot (by decide)).trans (hky)) (fun r7 => ?_)
  refine wa_aload_n (n := 0) rfl ?_
  refine wb_gf4 237 rfl (wy_pr rfl) wt_237 wf_15_139 (v := 364) wl_237_139 ?_
  refine wa_iload_n (n := 2) rfl ?_
  refine wb_lald 364 rfl (wy_pr rfl) wt_364 (n := 4200) ((w_up_slot (by decide)).trans ((ml_364 hM))) (by omega) (by omega) (v := vy) ((w_up_slot (by decide)).trans (hvy)) (fun r8 => ?_)
  refine wa_cv 237 rfl (wy_pr rfl) wt_237 (M2 := fun _ => False) rfl at_M_spellKind ⟨_, rfl⟩ rfl rfl ⟨trivial, trivial, (Or.inr ⟨wy_pr rfl, fun q => q⟩), trivial, trivial⟩ trivial (fun _ _ q => False.elim q) (sk_ok (S := (w_up S 237 113 0)) (k := ky) (v := vy) hX (w_ML_up hM (by decide)) (w_up_same _ _ _ _) hk8 hvr) (fun oq9 Sq9 hp10 q9 => ?_)
  rcases q9 with ⟨rfl, hsp⟩
  show wJ _ _ _ _ _ _ _ _ _ _
  have hspF := hsp.2.2.1
  have hspM := hsp.2.2.2
  have hs13 := hsp.2.1
  have hkl := kTx_l (k := ky) (v := vy)
  refine wa_aload_n (n := 0) rfl ?_
  refine wa_iload_n (n := 2) rfl ?_
  refine wa_iconst ?_
  refine wa_aload_n (n := 0) rfl ?_
  have r102x : Sq9 237 102 = m := (((hspF 237 102 (Or.inl (by first | decide | omega)) (by omega)).trans ((w_up_at (by first | decide | omega)).trans (h102))))
  have r103x : Sq9 237 103 = bt := (((hspF 237 103 (Or.inl (by first | decide | omega)) (by omega)).trans ((w_up_at (by first | decide | omega)).trans (h103))))
  have r64x : Sq9 237 64 = u2 := (((hspF 237 64 (Or.inl (by first | decide | omega)) (by omega)).trans ((w_up_at (by first | decide | omega)).trans (h64))))
  have r65x : Sq9 237 65 = u3 := (((hspF 237 65 (Or.inl (by first | decide | omega)) (by omega)).trans ((w_up_at (by first | decide | omega)).trans (h65))))
  refine wa_cv 237 rfl (wy_pr rfl) wt_237 (M2 := fun _ => False) rfl at_M_madeText ⟨_, rfl⟩ rfl rfl ⟨trivial, trivial, (Or.inr ⟨wy_pr rfl, fun q => q⟩), trivial, trivial⟩ ⟨trivial, trivial, (Or.inr ⟨wy_pr rfl, fun q => q⟩), trivial⟩ (fun _ _ q => False.elim q) (mt_ok (S := Sq9) (n := ((kTx ky vy).length : Int)) (m := m) (bt := bt) (u2 := u2) (u3 := u3) hspM r102x r103x r64x r65x hm hbt hu2 hu3 ⟨by omega, by omega⟩ (hs13.trans (Int.zero_add _)) (by omega)) (fun oq11 Sq11 hp12 q11 => ?_)
  rcases q11 with ⟨hno, rfl, rfl⟩ | ⟨hy1, hy2, rfl, hmt⟩
  · skip
    refine ⟨rfl, ?_⟩
    refine ⟨rfl, ?_⟩
    exact Or.inl ⟨hno, Sq9, hsp, rfl, rfl⟩
  · skip
    show wJ _ _ _ _ _ _ _ _ _ _
    have hmtF := hmt.2.2.2.1
    have hmtM := hmt.2.2.2.2
    refine wa_i2l (w_rg0 (by omega) (by omega)) ?_
    refine wa_cv 237 rfl (wy_pr rfl) wt_237 (M2 := fun _ => False) rfl at_M_put ⟨_, rfl⟩ rfl rfl ⟨trivial, trivial, (Or.inr ⟨wy_pr rfl, fun q => q⟩), trivial, trivial⟩ trivial (fun _ _ q => False.elim q) ?_ (fun _ _ _ q => q)
    refine wa_aload_n (n := 0) rfl ?_
    refine wb_gf4 237 rfl (wy_pr rfl) wt_237 wf_15_138 (v := 363) wl_237_138 ?_
    refine wa_iload_n (n := 1) rfl ?_
    refine wa_iload_n (n := 2) rfl ?_
    refine wb_iast 363 rfl (wy_pr rfl) wt_363 (n := 4200) (((hmtF 363 (-1) (Or.inl (by decide)) (Or.inl (by decide)) (by omega)).trans (((hspF 363 (-1) (Or.inl (by decide)) (by omega)).trans ((w_up_slot (by decide)).trans ((ml_363 hM))))))) (by omega) (by omega) ⟨(by omega), (by omega)⟩ ?_
    refine wa_aload_n (n := 0) rfl ?_
    refine wb_gf4 237 rfl (wy_pr rfl) wt_237 wf_15_139 (v := 364) wl_237_139 ?_
    refine wa_iload_n (n := 1) rfl ?_
    refine wa_lload_n (n := 3) rfl ?_
    refine wb_last 364 rfl (wy_pr rfl) wt_364 (n := 4200) ((w_up_slot (by decide)).trans (((hmtF 364 (-1) (Or.inl (by decide)) (Or.inl (by decide)) (by omega)).trans (((hspF 364 (-1) (Or.inl (by decide)) (by omega)).trans ((w_up_slot (by decide)).trans ((ml_364 hM)))))))) (by omega) (by omega) ⟨(by omega), (by omega)⟩ ?_
    refine wa_return rfl ?_
    show wJ _ _ _ _ _ _ _ _ _ _
    refine wa_goto ⟨_, rfl⟩ ?_
    refine wa_return rfl ?_
    show wJ _ _ _ _ _ _ _ _ _ _
    refine wa_goto ⟨_, rfl⟩ ?_
    refine wa_return rfl ?_
    exact Or.inr ⟨hy1, hy2, rfl, Sq9, Sq11, hsp, hmt, rfl⟩
/-- a turn that ends for want of memory, where something that isn't kept has changed -/
theorem rt_mA {R : wS → Prop} (h : stR t S K) (hs : S 357 t = 1) (hdo : wJ (pe_GA xs) wY0 (fun _ => False) (d + 12) t_M_does ((pe_at t_M_does.bl 0).getD (0, [])).2 [(0, (2, 237))] [] (w_up (w_up S 237 154 (200 * t + (K.2.1.length : Int) - 1)) 237 155 ((K.2.1.getD (K.2.1.length - 1) (0, 0, 0, (0, 0, []), 0, 0, 0)).2.1 + 1)) (fun o Z => o = .inr 238 ∧ ∃ A : wS, R A ∧ hZ 99 A = Z)) (hR : ∀ A : wS, R A → rTk t A K ∧ rTf t S A ∧ w_ML A) : rTurn xs d t S (fun Z dn => dn = 0 ∧ rTk t Z (kSt K) ∧ rTf t S Z) := by
  obtain ⟨h1, h2, h3, ⟨h4, h5, h6⟩, ⟨h7, h8, h9, h9b⟩, -⟩ := id h
  have e5 : ∀ A : wS, (hZ 99 A) 238 5 = 99 := fun A => (w_up_at (by first | decide | omega)).trans (w_up_same _ _ _ _)
  have hk : ∀ A : wS, R A → rTk t (hZ 99 A) K := fun A a => rTk_38 (rTk_38 (hR A a).1)
  have hf : ∀ A : wS, R A → rTf t S (hZ 99 A) := fun A a => rTf_up (rTf_up (hR A a).2.1 (no_38 (by first | decide | omega))) (no_38 (by first | decide | omega))
  have hM : ∀ A : wS, R A → w_ML (hZ 99 A) := fun A a => w_ML_up (w_ML_up (hR A a).2.2 (by first | decide | omega)) (by first | decide | omega)
  refine rt_g (Rn := fun _ => False) (Rt := fun Z => ∃ A : wS, R A ∧ hZ 99 A = Z) h hs (wJ_mono hdo (fun o Z hz => Or.inr hz)) (fun Z hz => by obtain ⟨A, a, rfl⟩ := hz; exact ⟨hM A a, (hf A a 237 151 (ou_37 (by first | decide | omega))).trans h4, fun q => absurd (e5 A) q⟩) (fun Z2 dn hz => ?_)
  rcases hz with ⟨-, hz⟩ | ⟨Z, ⟨A, a, rfl⟩, q, rfl, rfl⟩ | ⟨Z, ⟨A, a, rfl⟩, q, -, -⟩
  · exact hz.elim
  · exact ⟨rfl, rTk_st (hk A a), rTf_up (hf A a) (no_t (by first | decide | omega))⟩
  · exact absurd (e5 A) q
theorem rm_tA {a oq : Int} {R : wS → Prop} (h : stR t S K) (hs : S 357 t = 1) (ho : S 301 (S 297 (K.2.1.getD (K.2.1.length - 1) (0, 0, 0, (0, 0, []), 0, 0, 0)).1 + (K.2.1.getD (K.2.1.length - 1) (0, 0, 0, (0, 0, []), 0, 0, 0)).2.1) = oq) (ha : S 302 (S 297 (K.2.1.getD (K.2.1.length - 1) (0, 0, 0, (0, 0, []), 0, 0, 0)).1 + (K.2.1.getD (K.2.1.length - 1) (0, 0, 0, (0, 0, []), 0, 0, 0)).2.1) = a) (hb : S 303 (S 297 (K.2.1.getD (K.2.1.length - 1) (0, 0, 0, (0, 0, []), 0, 0, 0)).1 + (K.2.1.getD (K.2.1.length - 1) (0, 0, 0, (0, 0, []), 0, 0, 0)).2.1) = b) (ho1 : 20 ≤ oq ∧ oq ≤ 33 ∧ oq ≠ 27 ∧ oq ≠ 29 ∧ oq ≠ 30) (hcal : wJ (pe_GA xs) wY0 (fun _ => False) (d + 11) t_M_others ((pe_at t_M_others.bl 0).getD (0, [])).2 [(0, (2, 237)), (1, (0, oq)), (2, (0, a))] [] (w_up (w_up S 237 154 (200 * t + (K.2.1.length : Int) - 1)) 237 155 ((K.2.1.getD (K.2.1.length - 1) (0, 0, 0, (0, 0, []), 0, 0, 0)).2.1 + 1)) (fun o Z => o = .inr 238 ∧ ∃ A : wS, R A ∧ hZ 99 A = Z)) (hR : ∀ A : wS, R A → rTk t A K ∧ rTf t S A ∧ w_ML A) : rTurn xs d t S (fun Z dn => dn = 0 ∧ rTk t Z (kSt K) ∧ rTf t S Z) := by
  obtain ⟨h1, h2, h3, ⟨h4, h5, h6⟩, ⟨h7, h8, h9, h9b⟩, ⟨g0, g1, g2, g3⟩, e0, e1⟩ := id h
  obtain ⟨r1, r2, r3⟩ := sr_row h1 h7
  have es : ∀ (j : Nat) (x : Int), (j ≠ 237 ∨ (x ≠ 154 ∧ x ≠ 155)) → (w_up (w_up S 237 154 (200 * t + (K.2.1.length : Int) - 1)) 237 155 ((K.2.1.getD (K.2.1.length - 1) (0, 0, 0, (0, 0, []), 0, 0, 0)).2.1 + 1)) j x = S j x := fun j x hj => (w_up_no (by omega)).trans (w_up_no (by omega))
  refine rt_mA h hs (wJ_mono (dt_d (Rn := fun _ => False) (Rt := fun Z => ∃ A : wS, R A ∧ hZ 99 A = Z) (mP_of h) ((es 365 _ (Or.inl (by first | decide | omega))).trans r1) ⟨g0, g1⟩ ((es 366 _ (Or.inl (by first | decide | omega))).trans r2) (es 297 _ (Or.inl (by first | decide | omega))) ⟨e0, e1⟩ ((es 301 _ (Or.inl (by first | decide | omega))).trans ho) ((es 302 _ (Or.inl (by first | decide | omega))).trans ha) ((es 303 _ (Or.inl (by first | decide | omega))).trans hb) ho1 (wJ_mono hcal (fun o Z hz => Or.inr hz)) (fun Z hz => hz.elim)) (fun o Z hz => ?_)) hR
  rcases hz with ⟨rfl, Z1, hz, rfl⟩ | hz
  · exact hz.elim
  · exact hz
theorem rTt_ag (h : rTt S) (h1 : Z 237 19 = S 237 19) (h2 : Z 237 102 = S 237 102) (h3 : ∀ x : Int, Z 284 x = S 284 x ∧ Z 285 x = S 285 x) : rTt Z := by
  obtain ⟨t1, t2, t3⟩ := h
  refine ⟨by omega, by omega, fun x hx => ?_⟩
  rw [h1, h2] at hx
  rw [(h3 x).1, (h3 x).2]
  exact t3 x hx
theorem rTb_ag (h : rTb S) (h1 : Z 237 19 = S 237 19) (h2 : Z 237 102 = S 237 102) (h4 : Z 237 103 = S 237 103) (h5 : Z 237 64 = S 237 64) (h6 : Z 237 65 = S 237 65) (h3 : ∀ x : Int, Z 284 x = S 284 x ∧ Z 285 x = S 285 x) : rTb Z := by
  obtain ⟨t1, t2, t3⟩ := h
  refine ⟨by omega, ⟨by omega, fun x x0 x1 => ?_⟩, fun x hx => ?_⟩
  · rw [h2] at x1
    rw [(h3 x).1]
    exact t2.2 x x0 x1
  · rw [h1, h2] at hx
    rw [(h3 x).1, (h3 x).2, h4]
    exact t3 x hx
theorem rnb6 (h : stR t S K) (hs : S 357 t = 1) (hi : rIn S K 28 6 b) (hX : w_X xs) (ht : rTt S) (htb : rTb S) (hu2 : S 237 64 ≤ 12000) (hu3 : S 237 65 ≤ 200000) (hh1 : 1 ≤ K.1.length) (hk8 : 0 ≤ (K.1.getD (K.1.length - 1) (0, 0, [])).1 ∧ (K.1.getD (K.1.length - 1) (0, 0, [])).1 ≤ 8) (hvr : -9223372036854775808 ≤ S 364 (2100 * t + (K.1.length : Int) - 1) ∧ S 364 (2100 * t + (K.1.length : Int) - 1) ≤ 9223372036854775807) (hm : S 237 64 < 12000 ∧ S 237 65 + ((kdL (K.1.getD (K.1.length - 1) (0, 0, [])).1 (K.1.getD (K.1.length - 1) (0, 0, [])).2.1).length : Int) ≤ 200000) : rSm xs d t rMx S (kP K 1 (3, 0, (kdL (K.1.getD (K.1.length - 1) (0, 0, [])).1 (K.1.getD (K.1.length - 1) (0, 0, [])).2.1))) (fun Z => rTx S Z ∧ (rTt Z ∧ rTb Z) ∧ (Z 237 102 = S 237 102 + 1 ∧ Z 237 103 = S 237 103 + ((kdL (K.1.getD (K.1.length - 1) (0, 0, [])).1 (K.1.getD (K.1.length - 1) (0, 0, [])).2.1).length : Int) ∧ Z 237 64 = S 237 64 + 1 ∧ Z 237 65 = S 237 65 + ((kdL (K.1.getD (K.1.length - 1) (0, 0, [])).1 (K.1.getD (K.1.length - 1) (0, 0, [])).2.1).length : Int)) ∧ ∀ x : Int, x ≠ 102 → x ≠ 103 → x ≠ 64 → x ≠ 65 → x ≠ 113 → x ≠ 154 → x ≠ 155 → Z 237 x = S 237 x) := by
  obtain ⟨h1, h2, h3, h4b, ⟨h7, h8, h9, h9b⟩, -⟩ := id h
  have hk0 : rTk t (w_up (w_up S 237 154 (200 * t + (K.2.1.length : Int) - 1)) 237 155 ((K.2.1.getD (K.2.1.length - 1) (0, 0, 0, (0, 0, []), 0, 0, 0)).2.1 + 1)) K := T0_k h1
  have hcy := r_at h1 (i := K.1.length - 1) (by omega) (j := (2100 * t + (K.1.length : Int) - 1)) (by omega)
  have ef : ∀ (j : Nat) (x : Int), j ≠ 237 → (w_up (w_up S 237 154 (200 * t + (K.2.1.length : Int) - 1)) 237 155 ((K.2.1.getD (K.2.1.length - 1) (0, 0, 0, (0, 0, []), 0, 0, 0)).2.1 + 1)) j x = S j x := fun j x j0 => r_16 rfl j0
  have et : ∀ x : Int, x ≠ 154 → x ≠ 155 → (w_up (w_up S 237 154 (200 * t + (K.2.1.length : Int) - 1)) 237 155 ((K.2.1.getD (K.2.1.length - 1) (0, 0, 0, (0, 0, []), 0, 0, 0)).2.1 + 1)) 237 x = S 237 x := fun x x0 x1 => (w_up_at x1).trans (w_up_at x0)
  have eL : kTx (K.1.getD (K.1.length - 1) (0, 0, [])).1 (S 364 (2100 * t + (K.1.length : Int) - 1)) = kTx (K.1.getD (K.1.length - 1) (0, 0, [])).1 (K.1.getD (K.1.length - 1) (0, 0, [])).2.1 := by
    by_cases c : (K.1.getD (K.1.length - 1) (0, 0, [])).1 = 3
    · have e3 : ∀ z : Int, kTx 3 z = tx_73 := fun z => (if_neg (by first | decide | omega)).trans ((if_neg (by first | decide | omega)).trans ((if_neg (by first | decide | omega)).trans (if_pos rfl)))
      rw [c, e3, e3]
    · rw [rV_v hcy c]
  have hle : (kTx (K.1.getD (K.1.length - 1) (0, 0, [])).1 (K.1.getD (K.1.length - 1) (0, 0, [])).2.1).length = (kdL (K.1.getD (K.1.length - 1) (0, 0, [])).1 (K.1.getD (K.1.length - 1) (0, 0, [])).2.1).length := by rw [← kTx_e hk8, List.length_map]
  have t1 := ht.2.1
  have b1 := htb.1
  have b2 := htb.2.1
  have hcal := yb6 (xs := xs) (M := fun _ => False) (d := d) (ky := (K.1.getD (K.1.length - 1) (0, 0, [])).1) (vy := S 364 (2100 * t + (K.1.length : Int) - 1)) (m := S 237 102) (bt := S 237 103) (u2 := S 237 64) (u3 := S 237 65) (mP_of h) hX ((ef 363 _ (by first | decide | omega)).trans hcy.1) (ef 364 _ (by first | decide | omega)) (by omega) hk8 hvr (et 102 (by first | decide | omega) (by first | decide | omega)) (et 103 (by first | decide | omega) (by first | decide | omega)) (et 64 (by first | decide | omega) (by first | decide | omega)) (et 65 (by first | decide | omega) (by first | decide | omega)) ⟨by omega, by omega⟩ ⟨by omega, by omega⟩ hu2 hu3
  rw [eL, hle] at hcal
  refine rg_t (R := fun Z => ∃ A B : wS, spA 0 (kTx (K.1.getD (K.1.length - 1) (0, 0, [])).1 (K.1.getD (K.1.length - 1) (0, 0, [])).2.1) (w_up (w_up (w_up S 237 154 (200 * t + (K.2.1.length : Int) - 1)) 237 155 ((K.2.1.getD (K.2.1.length - 1) (0, 0, 0, (0, 0, []), 0, 0, 0)).2.1 + 1)) 237 113 0) A ∧ mtA ((kdL (K.1.getD (K.1.length - 1) (0, 0, [])).1 (K.1.getD (K.1.length - 1) (0, 0, [])).2.1).length : Int) (S 237 102) (S 237 103) (S 237 64) (S 237 65) A B ∧ w_up (w_up B 363 (2100 * t + (K.1.length : Int) - 1) 3) 364 (2100 * t + (K.1.length : Int) - 1) (4000 + S 237 102) = Z) h hs hi.1 hi.2.1 hi.2.2 (by first | decide | omega) (wJ_mono hcal (fun o Z hz => ?_)) (fun Z hz => ?_)
  · rcases hz with ⟨z, -⟩ | ⟨-, -, z⟩
    · omega
    · exact z
  · obtain ⟨A, B, hA, hB, hz⟩ := hz
    obtain ⟨a1, a2, a3, a4⟩ := hA
    rw [hle] at a2
    have eA : ∀ (j : Nat) (x : Int), j ≠ 345 → (j ≠ 237 ∨ (x ≠ 113 ∧ x ≠ 154 ∧ x ≠ 155)) → A j x = S j x := fun j x j0 j1 => (a3 j x (Or.inl j0) (by omega)).trans ((w_up_no (by omega)).trans ((w_up_no (by omega)).trans (w_up_no (by omega))))
    have tA : rTt A := rTt_ag ht (eA 237 19 (by first | decide | omega) (by first | decide | omega)) (eA 237 102 (by first | decide | omega) (by first | decide | omega)) (fun x => ⟨eA 284 x (by first | decide | omega) (Or.inl (by first | decide | omega)), eA 285 x (by first | decide | omega) (Or.inl (by first | decide | omega))⟩)
    have bA : rTb A := rTb_ag htb (eA 237 19 (by first | decide | omega) (by first | decide | omega)) (eA 237 102 (by first | decide | omega) (by first | decide | omega)) (eA 237 103 (by first | decide | omega) (by first | decide | omega)) (eA 237 64 (by first | decide | omega) (by first | decide | omega)) (eA 237 65 (by first | decide | omega) (by first | decide | omega)) (fun x => ⟨eA 284 x (by first | decide | omega) (Or.inl (by first | decide | omega)), eA 285 x (by first | decide | omega) (Or.inl (by first | decide | omega))⟩)
    have xA : rTx S A := rTx_of (eA 237 19 (by first | decide | omega) (by first | decide | omega)) (eA 237 102 (by first | decide | omega) (by first | decide | omega)) (fun j x j0 j1 => eA j x (by omega) (by omega))
    have xB := mtA_x hB (by omega) tA bA (eA 237 102 (by first | decide | omega) (by first | decide | omega)) (eA 237 103 (by first | decide | omega) (by first | decide | omega))
    have tB := mtA_t hB (by omega) tA bA (eA 237 102 (by first | decide | omega) (by first | decide | omega)) (eA 237 103 (by first | decide | omega) (by first | decide | omega)) (eA 237 64 (by first | decide | omega) (by first | decide | omega)) (eA 237 65 (by first | decide | omega) (by first | decide | omega)) ⟨by omega, by omega⟩
    have hvB : rVl B 3 (4000 + S 237 102) (3, 0, (kdL (K.1.getD (K.1.length - 1) (0, 0, [])).1 (K.1.getD (K.1.length - 1) (0, 0, [])).2.1)) := mtA_v hB (by omega) rfl (fun k hk => by
      have := a1 k (by rw [hle]; exact hk)
      rw [Int.zero_add] at this
      rw [this]
      exact kTx_g hk8 (by rw [hle]; exact hk))
    obtain ⟨m1, ⟨m2, m3⟩, ⟨m4, m5, m6, m7⟩, fr, m8⟩ := id hB
    have xSB : rTx S B := rTx_tr xA xB
    have eB : ∀ (j : Nat) (x : Int), j ≠ 345 → ¬ rMx j x → (j ≠ 237 ∨ (x ≠ 113 ∧ x ≠ 154 ∧ x ≠ 155)) → B j x = S j x := fun j x j0 j1 j2 => (fr j x (by unfold rMx at j1; omega) (by unfold rMx at j1; omega) (by unfold rMx at j1; omega)).trans (eA j x j0 j2)
    have hkB : rTk t B K := rTk_fr h1 xSB (fun j x j0 j1 => eB j x (by omega) (by unfold rMx; omega) (by omega))
    have hkZ := rTk_top (k := 3) (v := 4000 + S 237 102) (u := (3, 0, (kdL (K.1.getD (K.1.length - 1) (0, 0, [])).1 (K.1.getD (K.1.length - 1) (0, 0, [])).2.1))) hkB hh1 hvB
    rw [hz] at hkZ
    have eZ : ∀ (j : Nat) (x : Int), j ≠ 363 → j ≠ 364 → Z j x = B j x := fun j x j0 j1 => by rw [← hz]; exact (w_up_slot j1).trans (w_up_slot j0)
    have e154 : B 237 154 = (200 * t + (K.2.1.length : Int) - 1) := (fr 237 154 (Or.inl (by first | decide | omega)) (Or.inl (by first | decide | omega)) (by first | decide | omega)).trans ((a3 237 154 (Or.inl (by first | decide | omega)) (by first | decide | omega)).trans ((w_up_at (by first | decide | omega)).trans T0_4))
    have e155 : B 237 155 = (K.2.1.getD (K.2.1.length - 1) (0, 0, 0, (0, 0, []), 0, 0, 0)).2.1 + 1 := (fr 237 155 (Or.inl (by first | decide | omega)) (Or.inl (by first | decide | omega)) (by first | decide | omega)).trans ((a3 237 155 (Or.inl (by first | decide | omega)) (by first | decide | omega)).trans ((w_up_at (by first | decide | omega)).trans T0_5))
    have hMZ : w_ML Z := by rw [← hz]; exact w_ML_up (w_ML_up m8 (by omega)) (by omega)
    have hfB : rTm t rMx S B := fun j x o nn => eB j x o.2.2.1 nn (by have := o.1; omega)
    have hfZ : rTm t rMx S Z := by
      rw [← hz]
      exact rTm_up (rTm_up hfB (Or.inl (no_p (Or.inl rfl) (by omega)))) (Or.inl (no_p (Or.inr rfl) (by omega)))
    have xSZ : rTx S Z := rTx_tr xSB (rTx_of (eZ 237 19 (by first | decide | omega) (by first | decide | omega)) (eZ 237 102 (by first | decide | omega) (by first | decide | omega)) (fun j x j0 j1 => eZ j x (by omega) (by omega)))
    unfold kP
    have e6 : ∀ (j : Nat) (x : Int), j ≠ 363 → j ≠ 364 → j ≠ 366 → (w_up Z 366 (200 * t + (K.2.1.length : Int) - 1) (Z 237 155)) j x = B j x := fun j x j0 j1 j2 => (w_up_slot j2).trans (eZ j x j0 j1)
    refine rp_m (P := (fun Z => rTx S Z ∧ (rTt Z ∧ rTb Z) ∧ (Z 237 102 = S 237 102 + 1 ∧ Z 237 103 = S 237 103 + ((kdL (K.1.getD (K.1.length - 1) (0, 0, [])).1 (K.1.getD (K.1.length - 1) (0, 0, [])).2.1).length : Int) ∧ Z 237 64 = S 237 64 + 1 ∧ Z 237 65 = S 237 65 + ((kdL (K.1.getD (K.1.length - 1) (0, 0, [])).1 (K.1.getD (K.1.length - 1) (0, 0, [])).2.1).length : Int)) ∧ ∀ x : Int, x ≠ 102 → x ≠ 103 → x ≠ 64 → x ≠ 65 → x ≠ 113 → x ≠ 154 → x ≠ 155 → Z 237 x = S 237 x)) h hMZ ((eZ 237 154 (by first | decide | omega) (by first | decide | omega)).trans e154) ((eZ 237 155 (by first | decide | omega) (by first | decide | omega)).trans e155) hkZ rfl hfZ ⟨?_, ⟨?_, ?_⟩, ⟨?_, ?_, ?_, ?_⟩, fun x x0 x1 x2 x3 x4 x5 x6 => ?_⟩
    · exact rTx_tr xSB (rTx_of (e6 237 19 (by first | decide | omega) (by first | decide | omega) (by first | decide | omega)) (e6 237 102 (by first | decide | omega) (by first | decide | omega) (by first | decide | omega)) (fun j x j0 j1 => e6 j x (by omega) (by omega) (by omega)))
    · exact rTt_ag tB.1 (e6 237 19 (by first | decide | omega) (by first | decide | omega) (by first | decide | omega)) (e6 237 102 (by first | decide | omega) (by first | decide | omega) (by first | decide | omega)) (fun x => ⟨e6 284 x (by first | decide | omega) (by first | decide | omega) (by first | decide | omega), e6 285 x (by first | decide | omega) (by first | decide | omega) (by first | decide | omega)⟩)
    · exact rTb_ag tB.2 (e6 237 19 (by first | decide | omega) (by first | decide | omega) (by first | decide | omega)) (e6 237 102 (by first | decide | omega) (by first | decide | omega) (by first | decide | omega)) (e6 237 103 (by first | decide | omega) (by first | decide | omega) (by first | decide | omega)) (e6 237 64 (by first | decide | omega) (by first | decide | omega) (by first | decide | omega)) (e6 237 65 (by first | decide | omega) (by first | decide | omega) (by first | decide | omega)) (fun x => ⟨e6 284 x (by first | decide | omega) (by first | decide | omega) (by first | decide | omega), e6 285 x (by first | decide | omega) (by first | decide | omega) (by first | decide | omega)⟩)
    · exact (e6 237 102 (by first | decide | omega) (by first | decide | omega) (by first | decide | omega)).trans m4
    · exact (e6 237 103 (by first | decide | omega) (by first | decide | omega) (by first | decide | omega)).trans m5
    · exact (e6 237 64 (by first | decide | omega) (by first | decide | omega) (by first | decide | omega)).trans m6
    · exact (e6 237 65 (by first | decide | omega) (by first | decide | omega) (by first | decide | omega)).trans m7
    · exact (e6 237 x (by first | decide | omega) (by first | decide | omega) (by first | decide | omega)).trans (eB 237 x (by first | decide | omega) (by unfold rMx; omega) (Or.inr ⟨x4, x5, x6⟩))
theorem rnb6m (h : stR t S K) (hs : S 357 t = 1) (hi : rIn S K 28 6 b) (hX : w_X xs) (ht : rTt S) (htb : rTb S) (hu2 : S 237 64 ≤ 12000) (hu3 : S 237 65 ≤ 200000) (hh1 : 1 ≤ K.1.length) (hk8 : 0 ≤ (K.1.getD (K.1.length - 1) (0, 0, [])).1 ∧ (K.1.getD (K.1.length - 1) (0, 0, [])).1 ≤ 8) (hvr : -9223372036854775808 ≤ S 364 (2100 * t + (K.1.length : Int) - 1) ∧ S 364 (2100 * t + (K.1.length : Int) - 1) ≤ 9223372036854775807) (hm : 12000 ≤ S 237 64 ∨ 200000 < S 237 65 + ((kdL (K.1.getD (K.1.length - 1) (0, 0, [])).1 (K.1.getD (K.1.length - 1) (0, 0, [])).2.1).length : Int)) : rSn xs d t S K := by
  obtain ⟨h1, h2, h3, h4b, ⟨h7, h8, h9, h9b⟩, -⟩ := id h
  have hk0 : rTk t (w_up (w_up S 237 154 (200 * t + (K.2.1.length : Int) - 1)) 237 155 ((K.2.1.getD (K.2.1.length - 1) (0, 0, 0, (0, 0, []), 0, 0, 0)).2.1 + 1)) K := T0_k h1
  have hcy := r_at h1 (i := K.1.length - 1) (by omega) (j := (2100 * t + (K.1.length : Int) - 1)) (by omega)
  have ef : ∀ (j : Nat) (x : Int), j ≠ 237 → (w_up (w_up S 237 154 (200 * t + (K.2.1.length : Int) - 1)) 237 155 ((K.2.1.getD (K.2.1.length - 1) (0, 0, 0, (0, 0, []), 0, 0, 0)).2.1 + 1)) j x = S j x := fun j x j0 => r_16 rfl j0
  have et : ∀ x : Int, x ≠ 154 → x ≠ 155 → (w_up (w_up S 237 154 (200 * t + (K.2.1.length : Int) - 1)) 237 155 ((K.2.1.getD (K.2.1.length - 1) (0, 0, 0, (0, 0, []), 0, 0, 0)).2.1 + 1)) 237 x = S 237 x := fun x x0 x1 => (w_up_at x1).trans (w_up_at x0)
  have eL : kTx (K.1.getD (K.1.length - 1) (0, 0, [])).1 (S 364 (2100 * t + (K.1.length : Int) - 1)) = kTx (K.1.getD (K.1.length - 1) (0, 0, [])).1 (K.1.getD (K.1.length - 1) (0, 0, [])).2.1 := by
    by_cases c : (K.1.getD (K.1.length - 1) (0, 0, [])).1 = 3
    · have e3 : ∀ z : Int, kTx 3 z = tx_73 := fun z => (if_neg (by first | decide | omega)).trans ((if_neg (by first | decide | omega)).trans ((if_neg (by first | decide | omega)).trans (if_pos rfl)))
      rw [c, e3, e3]
    · rw [rV_v hcy c]
  have hle : (kTx (K.1.getD (K.1.length - 1) (0, 0, [])).1 (K.1.getD (K.1.length - 1) (0, 0, [])).2.1).length = (kdL (K.1.getD (K.1.length - 1) (0, 0, [])).1 (K.1.getD (K.1.length - 1) (0, 0, [])).2.1).length := by rw [← kTx_e hk8, List.length_map]
  have t1 := ht.2.1
  have b1 := htb.1
  have b2 := htb.2.1
  have hcal := yb6 (xs := xs) (M := fun _ => False) (d := d) (ky := (K.1.getD (K.1.length - 1) (0, 0, [])).1) (vy := S 364 (2100 * t + (K.1.length : Int) - 1)) (m := S 237 102) (bt := S 237 103) (u2 := S 237 64) (u3 := S 237 65) (mP_of h) hX ((ef 363 _ (by first | decide | omega)).trans hcy.1) (ef 364 _ (by first | decide | omega)) (by omega) hk8 hvr (et 102 (by first | decide | omega) (by first | decide | omega)) (et 103 (by first | decide | omega) (by first | decide | omega)) (et 64 (by first | decide | omega) (by first | decide | omega)) (et 65 (by first | decide | omega) (by first | decide | omega)) ⟨by omega, by omega⟩ ⟨by omega, by omega⟩ hu2 hu3
  rw [eL, hle] at hcal
  refine rm_tA (R := fun A => spA 0 (kTx (K.1.getD (K.1.length - 1) (0, 0, [])).1 (K.1.getD (K.1.length - 1) (0, 0, [])).2.1) (w_up (w_up (w_up S 237 154 (200 * t + (K.2.1.length : Int) - 1)) 237 155 ((K.2.1.getD (K.2.1.length - 1) (0, 0, 0, (0, 0, []), 0, 0, 0)).2.1 + 1)) 237 113 0) A) h hs hi.1 hi.2.1 hi.2.2 (by first | decide | omega) (wJ_mono hcal (fun o Z hz => ?_)) (fun A a => ?_)
  · rcases hz with ⟨-, A, a, z1, z2⟩ | ⟨z1, z2, -⟩
    · exact ⟨z1, A, a, z2⟩
    · omega
  · obtain ⟨a1, a2, a3, a4⟩ := a
    have eA : ∀ (j : Nat) (x : Int), j ≠ 345 → (j ≠ 237 ∨ (x ≠ 113 ∧ x ≠ 154 ∧ x ≠ 155)) → A j x = S j x := fun j x j0 j1 => (a3 j x (Or.inl j0) (by omega)).trans ((w_up_no (by omega)).trans ((w_up_no (by omega)).trans (w_up_no (by omega))))
    exact ⟨rTk_fr h1 (rTx_of (eA 237 19 (by first | decide | omega) (by first | decide | omega)) (eA 237 102 (by first | decide | omega) (by first | decide | omega)) (fun j x j0 j1 => eA j x (by omega) (by omega))) (fun j x j0 j1 => eA j x (by omega) (by omega)), fun j x o => eA j x o.2.2.1 (by have := o.1; omega), a4⟩
end Wfx
