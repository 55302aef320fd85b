/-! PART 69: the reference's next. -/
section W69
variable {xs : List (Nat × List Int32)} {M : Nat → Prop} {d : Nat} {S : wS} {Q : wO → wS → Prop}
/-- the token that begins at p (behind blanks), as the state Z holds it -/
def lx_nx (T : Int → Int) (n h p : Int) (Z : wS) : Prop :=
  (n ≤ p ∧ Z 237 6 = 0 ∧ Z 237 8 = p) ∨
  (p < n ∧ lx_le (T p) = true ∧ Z 237 8 = lx_nm T n ((n - p).toNat + 1) p ∧ Z 237 6 = (if lx_nm T n ((n - p).toNat + 1) p - p ≤ 30 then 1 else 5)) ∨
  (p < n ∧ lx_le (T p) = false ∧ lx_di (T p) = true ∧ ∃ e u : Int, lx_nu T n p ((n - p).toNat + 1) p 0 = (e, u) ∧ Z 237 8 = e ∧ Z 237 6 = (if e - p ≤ 10 ∧ u ≤ 2147483647 then 2 else 5) ∧ Z 237 10 = wb_l2i u) ∨
  (p < n ∧ T p = 34 ∧ ∃ (tk e : Int) (l : List Int), lx_tx T n ((n - p).toNat + 1) (p + 1) [] = (tk, e, l) ∧ Z 237 6 = tk ∧ Z 237 8 = e + 1 ∧ lx_tl Z l) ∨
  (p < n ∧ lx_le (T p) = false ∧ lx_di (T p) = false ∧ T p ≠ 34 ∧ ∃ tk sg ln : Int, lx_sg (T p) (lx_at T n (p + 1)) (lx_at T n (p + 2)) h tk sg ln ∧ Z 237 6 = tk ∧ Z 237 9 = sg ∧ Z 237 8 = p + ln)
theorem wb_l2i_rg (x : Int) : -2147483648 ≤ wb_l2i x ∧ wb_l2i x ≤ 2147483647 := by
  unfold wb_l2i
  have h1 := Int32.le_toInt (Int64.ofInt x).toInt32
  have h2 := Int32.toInt_lt (Int64.ofInt x).toInt32
  omega
theorem lx_le34 : lx_le 34 = false := by decide
theorem lx_di34 : lx_di 34 = false := by decide
theorem nx_7 {p : Int} {Z : wS} (hM0 : w_ML S) (hn : 0 ≤ S 237 4 ∧ S 237 4 ≤ 65536) (hag : lx_ag S Z) (h8 : Z 237 8 = p) (hp : 0 ≤ p ∧ p ≤ S 237 4) : wJ (pe_GA xs) wY0 M (d + 2) t_M_next ((pe_at t_M_next.bl 7).getD (0, [])).2 [(0, (2, 237))] [] Z (fun o S2 => o = .inl none ∧ lx_ag S S2 ∧ S2 237 7 = p ∧ lx_nx (S 239) (S 237 4) (S 237 5) p S2) := by
  have hz : ∀ z : Int, lx_at (S 239) (S 237 4) z ≠ 0 → z < S 237 4 := fun z hz => lx_at_lt hz
  have hz1 := hz p
  refine wa_aload_n (n := 0) rfl ?_
  refine wa_aload_n (n := 0) rfl ?_
  refine wb_gfi 237 rfl (wy_pr rfl) wt_237 wf_15_8 (v := p) (h8) (fun r1 => ?_)
  refine wb_pfi 237 rfl (wy_pr rfl) wt_237 wf_15_7 (n := 7) rfl ⟨(by omega), (by omega)⟩ ?_
  refine wa_aload_n (n := 0) rfl ?_
  refine wa_aload_n (n := 0) rfl ?_
  refine wb_gfi 237 rfl (wy_pr rfl) wt_237 wf_15_8 (v := p) ((w_up_at (by decide)).trans (h8)) (fun r2 => ?_)
  refine wa_cv 237 rfl (wy_pr rfl) wt_237 (M2 := fun _ => False) rfl at_M_at ⟨_, rfl⟩ rfl rfl ⟨(Or.inr ⟨wy_pr rfl, fun q => q⟩), trivial⟩ trivial (fun _ _ q => False.elim q) (lx_at_ok hM0 (lx_ag_up hag (by omega)) ⟨by omega, by omega⟩ hn) (fun oq4 Sq4 hp5 q4 => ?_)
  rcases q4 with ⟨rfl, rfl, ga3⟩
  show wJ _ _ _ _ _ _ _ _ _ _
  refine wa_istore_n (n := 2) rfl ?_
  refine wa_aload_n (n := 0) rfl ?_
  refine wb_gfi 237 rfl (wy_pr rfl) wt_237 wf_15_8 (v := p) ((w_up_at (by decide)).trans (h8)) (fun r6 => ?_)
  refine wa_aload_n (n := 0) rfl ?_
  refine wb_gfi 237 rfl (wy_pr rfl) wt_237 wf_15_4 (v := (S 237 4)) ((w_up_at (by decide)).trans ((hag 237 4 (by omega) (by omega)))) (fun r7 => ?_)
  refine wa_icmplt (w_rg0 (by omega) (by omega)) (w_rg0 (by omega) (by omega)) ⟨_, rfl⟩ (fun c8 => ?_) (fun c8 => ?_)
  · skip
    have hpT : lx_at (S 239) (S 237 4) p = S 239 p := lx_at_in (by omega)
    refine wa_iload_n (n := 2) rfl ?_
    refine wa_cs (M2 := fun _ => False) rfl at_M_isLetter ⟨_, rfl⟩ rfl rfl ⟨trivial, (Or.inr ⟨wy_pr rfl, fun q => q⟩), trivial⟩ trivial (fun _ _ q => False.elim q) (isLetter_ok ⟨by omega, by omega⟩) (fun oq10 Sq10 hp11 q10 => ?_)
    rcases q10 with ⟨rfl, ⟨rfl, g9⟩ | ⟨rfl, g9⟩⟩
    · skip
      show wJ _ _ _ _ _ _ _ _ _ _
      have g9n := lx_le_nz g9
      have gl := g9
      refine wa_ifeq (w_rg0 (by omega) (by omega)) ⟨_, rfl⟩ (fun c12 => ?_) (fun c12 => ?_)
      · skip
        exact absurd c12 (by omega)
      · skip
        refine wa_fall ⟨_, rfl⟩ ?_
        have hl : lx_le (S 239 p) = true := by rw [← hpT]; exact gl
        refine wJ_S (nm_loop (e := lx_nm (S 239) (S 237 4) ((S 237 4 - p).toNat + 1) p) (p := p) hM0 hn (fun Z2 a1 a2 a3 a4 => ?_) _ p _ (by omega) (by omega) (by omega) rfl (lx_ag_up hag (by omega)) ((w_up_at (by decide)).trans (h8)) (w_up_same _ _ _ _)) ⟨rfl, trivial⟩
        rw [a2] at a4
        refine wa_aload_n (n := 0) rfl ?_
        refine wa_aload_n (n := 0) rfl ?_
        refine wb_gfi 237 rfl (wy_pr rfl) wt_237 wf_15_8 (v := (lx_nm (S 239) (S 237 4) ((S 237 4 - p).toNat + 1) p)) (a2) (fun r113 => ?_)
        refine wa_aload_n (n := 0) rfl ?_
        refine wb_gfi 237 rfl (wy_pr rfl) wt_237 wf_15_7 (v := p) (a3) (fun r114 => ?_)
        refine wa_isub ?_
        refine wa_bipush (w_rg2 (by omega) (by omega)) ?_
        refine wa_icmpgt (w_rg0 (by omega) (by omega)) (w_rg0 (by omega) (by omega)) ⟨_, rfl⟩ (fun c115 => ?_) (fun c115 => ?_)
        · skip
          refine wa_iconst ?_
          refine wa_fall ⟨_, rfl⟩ ?_
          refine wb_pfi 237 rfl (wy_pr rfl) wt_237 wf_15_6 (n := 6) rfl ⟨(by omega), (by omega)⟩ ?_
          refine wa_goto ⟨_, rfl⟩ ?_
          refine wa_return rfl ?_
          refine ⟨rfl, (lx_ag_up a1 (by omega)), ((w_up_at (by decide)).trans (a3)), Or.inr (Or.inl ⟨by omega, hl, ((w_up_at (by decide)).trans (a2)), ?_⟩)⟩
          exact ((w_up_same _ _ _ _)).trans (by first | rw [if_pos (by omega)] | rw [if_neg (by omega)])
        · skip
          refine wa_iconst ?_
          refine wa_goto ⟨_, rfl⟩ ?_
          refine wb_pfi 237 rfl (wy_pr rfl) wt_237 wf_15_6 (n := 6) rfl ⟨(by omega), (by omega)⟩ ?_
          refine wa_goto ⟨_, rfl⟩ ?_
          refine wa_return rfl ?_
          refine ⟨rfl, (lx_ag_up a1 (by omega)), ((w_up_at (by decide)).trans (a3)), Or.inr (Or.inl ⟨by omega, hl, ((w_up_at (by decide)).trans (a2)), ?_⟩)⟩
          exact ((w_up_same _ _ _ _)).trans (by first | rw [if_pos (by omega)] | rw [if_neg (by omega)])
    · skip
      show wJ _ _ _ _ _ _ _ _ _ _
      have gl := g9
      refine wa_ifeq (w_rg0 (by omega) (by omega)) ⟨_, rfl⟩ (fun c116 => ?_) (fun c116 => ?_)
      · skip
        refine wa_iload_n (n := 2) rfl ?_
        refine wa_cs (M2 := fun _ => False) rfl at_M_isDigit ⟨_, rfl⟩ rfl rfl ⟨trivial, (Or.inr ⟨wy_pr rfl, fun q => q⟩), trivial⟩ trivial (fun _ _ q => False.elim q) (isDigit_ok ⟨by omega, by omega⟩) (fun oq118 Sq118 hp119 q118 => ?_)
        rcases q118 with ⟨rfl, ⟨rfl, g117⟩ | ⟨rfl, g117⟩⟩
        · skip
          show wJ _ _ _ _ _ _ _ _ _ _
          have g117n := lx_di_rg g117
          have gd := g117
          refine wa_ifeq (w_rg0 (by omega) (by omega)) ⟨_, rfl⟩ (fun c120 => ?_) (fun c120 => ?_)
          · skip
            exact absurd c120 (by omega)
          · skip
            refine wa_lconst ?_
            refine wa_lstore_n (n := 3) rfl ?_
            refine wa_fall ⟨_, rfl⟩ ?_
            have hl : lx_le (S 239 p) = false := by rw [← hpT]; exact gl
            have hd : lx_di (S 239 p) = true := by rw [← hpT]; exact gd
            obtain ⟨e, u, hu⟩ : ∃ e u : Int, lx_nu (S 239) (S 237 4) p ((S 237 4 - p).toNat + 1) p 0 = (e, u) := ⟨_, _, rfl⟩
            refine wJ_S (nu_loop (e := e) (u := u) (p := p) hM0 hn (fun Z2 a1 a2 a3 a4 a5 => ?_) _ p 0 _ (by omega) (by omega) (by omega) (by omega) hu (lx_ag_up hag (by omega)) ((w_up_at (by decide)).trans (h8)) (w_up_same _ _ _ _) ⟨by omega, by rw [Int.sub_self]; decide⟩) ⟨rfl, rfl, trivial⟩
            rw [a2] at a4
            refine wa_aload_n (n := 0) rfl ?_
            refine wa_aload_n (n := 0) rfl ?_
            refine wb_gfi 237 rfl (wy_pr rfl) wt_237 wf_15_8 (v := e) (a2) (fun r221 => ?_)
            refine wa_aload_n (n := 0) rfl ?_
            refine wb_gfi 237 rfl (wy_pr rfl) wt_237 wf_15_7 (v := p) (a3) (fun r222 => ?_)
            refine wa_isub ?_
            refine wa_bipush (w_rg2 (by omega) (by omega)) ?_
            refine wa_icmpgt (w_rg0 (by omega) (by omega)) (w_rg0 (by omega) (by omega)) ⟨_, rfl⟩ (fun c223 => ?_) (fun c223 => ?_)
            · skip
              refine wa_iconst ?_
              refine wa_fall ⟨_, rfl⟩ ?_
              refine wb_pfi 237 rfl (wy_pr rfl) wt_237 wf_15_6 (n := 6) rfl ⟨(by omega), (by omega)⟩ ?_
              refine wa_aload_n (n := 0) rfl ?_
              refine wa_lload_n (n := 3) rfl ?_
              refine wa_l2i ?_
              have hlr := wb_l2i_rg u
              refine wb_pfi 237 rfl (wy_pr rfl) wt_237 wf_15_10 (n := 10) rfl ⟨(by omega), (by omega)⟩ ?_
              refine wa_goto ⟨_, rfl⟩ ?_
              refine wa_return rfl ?_
              refine ⟨rfl, (lx_ag_up (lx_ag_up a1 (by omega)) (by omega)), ((w_up_at (by decide)).trans ((w_up_at (by decide)).trans (a3))), Or.inr (Or.inr (Or.inl ⟨by omega, hl, hd, _, u, hu, ((w_up_at (by decide)).trans ((w_up_at (by decide)).trans (a2))), ?_, (w_up_same _ _ _ _)⟩))⟩
              exact (((w_up_at (by decide)).trans (w_up_same _ _ _ _))).trans (by first | rw [if_pos (by omega)] | rw [if_neg (by omega)])
            · skip
              refine wa_lload_n (n := 3) rfl ?_
              refine wb_kl (n := 2147483647) rfl ?_
              refine wa_lcmp (w_rg1 (by omega) (by omega)) (w_rg1 (by omega) (by omega)) ?_
              refine wa_ifgt (by have := @wb_lcmp_cases; exact w_lcmp_rg) ⟨_, rfl⟩ (fun c224 => ?_) (fun c224 => ?_)
              · skip
                have c224x := @wb_lcmp_cases u 2147483647
                refine wa_iconst ?_
                refine wa_fall ⟨_, rfl⟩ ?_
                refine wb_pfi 237 rfl (wy_pr rfl) wt_237 wf_15_6 (n := 6) rfl ⟨(by omega), (by omega)⟩ ?_
                refine wa_aload_n (n := 0) rfl ?_
                refine wa_lload_n (n := 3) rfl ?_
                refine wa_l2i ?_
                have hlr := wb_l2i_rg u
                refine wb_pfi 237 rfl (wy_pr rfl) wt_237 wf_15_10 (n := 10) rfl ⟨(by omega), (by omega)⟩ ?_
                refine wa_goto ⟨_, rfl⟩ ?_
                refine wa_return rfl ?_
                refine ⟨rfl, (lx_ag_up (lx_ag_up a1 (by omega)) (by omega)), ((w_up_at (by decide)).trans ((w_up_at (by decide)).trans (a3))), Or.inr (Or.inr (Or.inl ⟨by omega, hl, hd, _, u, hu, ((w_up_at (by decide)).trans ((w_up_at (by decide)).trans (a2))), ?_, (w_up_same _ _ _ _)⟩))⟩
                exact (((w_up_at (by decide)).trans (w_up_same _ _ _ _))).trans (by first | rw [if_pos (by omega)] | rw [if_neg (by omega)])
              · skip
                have c224x := @wb_lcmp_cases u 2147483647
                refine wa_iconst ?_
                refine wa_goto ⟨_, rfl⟩ ?_
                refine wb_pfi 237 rfl (wy_pr rfl) wt_237 wf_15_6 (n := 6) rfl ⟨(by omega), (by omega)⟩ ?_
                refine wa_aload_n (n := 0) rfl ?_
                refine wa_lload_n (n := 3) rfl ?_
                refine wa_l2i ?_
                have hlr := wb_l2i_rg u
                refine wb_pfi 237 rfl (wy_pr rfl) wt_237 wf_15_10 (n := 10) rfl ⟨(by omega), (by omega)⟩ ?_
                refine wa_goto ⟨_, rfl⟩ ?_
                refine wa_return rfl ?_
                refine ⟨rfl, (lx_ag_up (lx_ag_up a1 (by omega)) (by omega)), ((w_up_at (by decide)).trans ((w_up_at (by decide)).trans (a3))), Or.inr (Or.inr (Or.inl ⟨by omega, hl, hd, _, u, hu, ((w_up_at (by decide)).trans ((w_up_at (by decide)).trans (a2))), ?_, (w_up_same _ _ _ _)⟩))⟩
                exact (((w_up_at (by decide)).trans (w_up_same _ _ _ _))).trans (by first | rw [if_pos (by omega)] | rw [if_neg (by omega)])
        · skip
          show wJ _ _ _ _ _ _ _ _ _ _
          have gd := g117
          refine wa_ifeq (w_rg0 (by omega) (by omega)) ⟨_, rfl⟩ (fun c225 => ?_) (fun c225 => ?_)
          · skip
            refine wa_iload_n (n := 2) rfl ?_
            refine wa_bipush (w_rg2 (by omega) (by omega)) ?_
            refine wa_icmpne (w_rg0 (by omega) (by omega)) (w_rg0 (by omega) (by omega)) ⟨_, rfl⟩ (fun c226 => ?_) (fun c226 => ?_)
            · skip
              refine wa_aload_n (n := 0) rfl ?_
              refine wa_iload_n (n := 2) rfl ?_
              refine wa_aload_n (n := 0) rfl ?_
              refine wa_aload_n (n := 0) rfl ?_
              refine wb_gfi 237 rfl (wy_pr rfl) wt_237 wf_15_8 (v := p) ((w_up_at (by decide)).trans (h8)) (fun r227 => ?_)
              refine wa_iconst ?_
              refine wa_iadd ?_
              refine wa_cv 237 rfl (wy_pr rfl) wt_237 (M2 := fun _ => False) rfl at_M_at ⟨_, rfl⟩ rfl rfl ⟨trivial, (Or.inr ⟨wy_pr rfl, fun q => q⟩), trivial⟩ ⟨trivial, (Or.inr ⟨wy_pr rfl, fun q => q⟩), trivial⟩ (fun _ _ q => False.elim q) (lx_at_ok hM0 (lx_ag_up hag (by omega)) ⟨by omega, by omega⟩ hn) (fun oq229 Sq229 hp230 q229 => ?_)
              rcases q229 with ⟨rfl, rfl, ga228⟩
              show wJ _ _ _ _ _ _ _ _ _ _
              refine wa_cv 237 rfl (wy_pr rfl) wt_237 (M2 := fun _ => False) rfl at_M_signs ⟨_, rfl⟩ rfl rfl ⟨trivial, (Or.inr ⟨wy_pr rfl, fun q => q⟩), trivial⟩ trivial (fun _ _ q => False.elim q) (sg_ok2 (c := (lx_at (S 239) (S 237 4) p)) (d0 := (lx_at (S 239) (S 237 4) (p + 1))) hM0 hn (by omega) (by omega) ⟨by omega, by omega⟩ (lx_ag_up hag (by omega)) ((w_up_at (by decide)).trans (h8)) (w_up_same _ _ _ _)) (fun oq231 Sq231 hp232 q231 => ?_)
              rcases q231 with ⟨rfl, b1, b2, b3⟩
              show wJ _ _ _ _ _ _ _ _ _ _
              refine wa_fall ⟨_, rfl⟩ ?_
              refine wa_return rfl ?_
              refine ⟨rfl, b1, b2, Or.inr (Or.inr (Or.inr (Or.inr ⟨by omega, ?_, ?_, by omega, ?_⟩)))⟩
              · rw [← hpT]; exact gl
              · rw [← hpT]; exact gd
              · rw [← hpT]; exact b3
            · skip
              refine wa_aload_n (n := 0) rfl ?_
              obtain ⟨tk, e, r, ht⟩ : ∃ (tk e : Int) (r : List Int), lx_tx (S 239) (S 237 4) ((S 237 4 - p).toNat + 1) (p + 1) [] = (tk, e, r) := ⟨_, _, _, rfl⟩
              refine wa_cv 237 rfl (wy_pr rfl) wt_237 (M2 := fun _ => False) rfl at_M_reads ⟨_, rfl⟩ rfl rfl ⟨trivial, (Or.inr ⟨wy_pr rfl, fun q => q⟩), trivial⟩ trivial (fun _ _ q => False.elim q) (rd_ok hM0 hn (lx_ag_up hag (by omega)) ((w_up_at (by decide)).trans (h8)) (w_up_same _ _ _ _) ⟨by omega, by omega⟩ ht) (fun oq233 Sq233 hp234 q233 => ?_)
              rcases q233 with ⟨rfl, b1, b2, b3, b4, b5⟩
              show wJ _ _ _ _ _ _ _ _ _ _
              refine wa_goto ⟨_, rfl⟩ ?_
              refine wa_return rfl ?_
              exact ⟨rfl, b1, b2, Or.inr (Or.inr (Or.inr (Or.inl ⟨by omega, by omega, tk, e, r, ht, b3, b4, b5⟩)))⟩
          · skip
            exact absurd c225 (by omega)
      · skip
        exact absurd c116 (by omega)
  · skip
    refine wa_aload_n (n := 0) rfl ?_
    refine wa_iconst ?_
    refine wb_pfi 237 rfl (wy_pr rfl) wt_237 wf_15_6 (n := 6) rfl ⟨(by omega), (by omega)⟩ ?_
    refine wa_goto ⟨_, rfl⟩ ?_
    refine wa_return rfl ?_
    exact ⟨rfl, (lx_ag_up (lx_ag_up hag (by omega)) (by omega)), ((w_up_at (by decide)).trans (w_up_same _ _ _ _)), Or.inl ⟨by omega, (w_up_same _ _ _ _), ((w_up_at (by decide)).trans ((w_up_at (by decide)).trans (h8)))⟩⟩
theorem nx_ok {p : Int} (hM0 : w_ML S) (hn : 0 ≤ S 237 4 ∧ S 237 4 ≤ 65536) (ht : 0 ≤ S 237 8 ∧ S 237 8 ≤ S 237 4) (hp : lx_bl (S 239) (S 237 4) ((S 237 4 - S 237 8).toNat + 1) (S 237 8) = p) : wJ (pe_GA xs) wY0 M (d + 2) t_M_next ((pe_at t_M_next.bl 0).getD (0, [])).2 [(0, (2, 237))] [] S (fun o S2 => o = .inl none ∧ lx_ag S S2 ∧ S2 237 7 = p ∧ lx_nx (S 239) (S 237 4) (S 237 5) p S2) := by
  refine wa_iconst ?_
  refine wa_istore_n (n := 1) rfl ?_
  refine wa_fall ⟨_, rfl⟩ ?_
  exact wJ_S (bl_loop hM0 hn (fun Z a1 a2 a3 => nx_7 hM0 hn a1 a2 (by rw [← a2]; exact a3)) _ _ _ (by omega) ht.1 ht.2 hp lx_ag_rf rfl) ⟨rfl, rfl, trivial⟩
end W69
