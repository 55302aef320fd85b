/-! PART hd: the reference: wants, addOrder, ordersSupers, orders. -/
section Whd
variable {xs : List (Nat × List Int32)} {M : Nat → Prop} {d : Nat} {S Z A : wS} {T : Int → Int} {n : Int} {cs : List hCR} {ms : List hMR} {os : Int → List Int} {Q : wO → wS → Prop}
/-- the order found so far -/
def odI (l : List Int) (S : wS) : Prop := S 237 124 = (l.length : Int) ∧ (∀ i : Nat, i < l.length → S 353 (i : Int) = l.getD i 0) ∧ su_nd 60 l
def odM (j : Nat) (x : Int) : Prop := (j = 353 ∧ 0 ≤ x) ∨ (j = 237 ∧ x = 124)
def wtM (j : Nat) (x : Int) : Prop := (j = 354 ∧ 0 ≤ x) ∨ (j = 237 ∧ x = 126)
theorem odI_60 {l : List Int} {c : Int} (h : su_nd 60 l) (hc : 0 ≤ c ∧ c < 60) (hn : c ∉ l) : l.length < 60 ∧ su_nd 60 (l ++ [c]) := by
  have h2 : su_nd 60 (l ++ [c]) := by
    refine ⟨List.nodup_append.mpr ⟨h.1, List.nodup_cons.mpr ⟨List.not_mem_nil, List.nodup_nil⟩, fun x hx y hy e => ?_⟩, fun x hx => ?_⟩
    · rw [List.mem_singleton.mp hy] at e; exact hn (e ▸ hx)
    · rcases List.mem_append.mp hx with z | z
      · exact h.2 x z
      · rw [List.mem_singleton.mp z]; exact hc
  have z := su_nd_len (by first | decide | omega) h2
  rw [List.length_append, List.length_singleton] at z
  exact ⟨by omega, h2⟩
theorem ML_w {P : Nat → Int → Prop} (h : w_ML S) (f : ∀ (j : Nat) (x : Int), ¬ P j x → Z j x = S j x) (hp : ∀ j : Nat, ¬ P j (-1)) : w_ML Z := fun q hq => (f q.1 (-1) (hp q.1)).trans (h q hq)
theorem so2_pre {I : Int → Int} : ∀ (r l : List Int), ∃ t : List Int, so_2 I os l r = l ++ t := by
  have mg_pre : ∀ (a l : List Int), ∃ t : List Int, a.foldl ad_l l = l ++ t := by
    intro a
    induction a with
    | nil => intro l; exact ⟨[], (List.append_nil _).symm⟩
    | cons x a ih =>
      intro l
      rw [List.foldl_cons]
      by_cases c : x ∈ l
      · rw [show ad_l l x = l from if_pos c]; exact ih l
      · rw [show ad_l l x = l ++ [x] from if_neg c]
        obtain ⟨t, ht⟩ := ih (l ++ [x])
        exact ⟨x :: t, by rw [ht, List.append_assoc]; rfl⟩
  intro r
  induction r with
  | nil => intro l; exact ⟨[], (List.append_nil _).symm⟩
  | cons s r ih =>
    intro l
    rw [so2_c]
    split
    · obtain ⟨t, ht⟩ := mg_pre (os s) l
      obtain ⟨u, hu⟩ := ih ((os s).foldl ad_l l)
      exact ⟨t ++ u, by rw [hu, ht, List.append_assoc]⟩
    · exact ih l
theorem iCl_so2 {c : Int} (h : wOs cs os) : ∀ (r l : List Int), (∀ s ∈ r, 0 ≤ s ∧ s < (cs.length : Int)) → iCl cs os c l → iCl cs os c (so_2 (Ib cs) os l r) := by
  intro r
  induction r with
  | nil => intro l _ hl; exact hl
  | cons s r ih =>
    intro l hr hl
    rw [so2_c]
    refine ih _ (fun t ht => hr t (List.mem_cons_of_mem _ ht)) ?_
    split
    · exact iCl_s h hl (hr s List.mem_cons_self)
    · exact hl
/-- what stands above a class is a class -/
def wAb (cs : List hCR) : Prop := ∀ k : Int, 0 ≤ k → k < (cs.length : Int) → (Ab cs k ≠ -1 → Ib cs (Ab cs k) = 0) ∧ (Ib cs k = 0 ∨ Ib cs k = 1)
theorem wtI_ag {WW : List Int} (h : wtI WW S) (f : ∀ (j : Nat) (x : Int), wtM j x → Z j x = S j x) : wtI WW Z := ⟨(f 237 126 (Or.inr ⟨rfl, rfl⟩)).trans h.1, fun i hi => (f 354 (i : Int) (Or.inl ⟨rfl, by omega⟩)).trans (h.2.1 i hi), h.2.2⟩
theorem odI_ag {l : List Int} (h : odI l S) (f : ∀ (j : Nat) (x : Int), odM j x → Z j x = S j x) : odI l Z := ⟨(f 237 124 (Or.inr ⟨rfl, rfl⟩)).trans h.1, fun i hi => (f 353 (i : Int) (Or.inl ⟨rfl, by omega⟩)).trans (h.2.1 i hi), h.2.2⟩
theorem rwl51 {nm : Int} {W : List Int} (hX : w_X xs) (hM : w_ML S) (hnm : 0 ≤ nm ∧ nm < 4000) (h82 : S 282 nm = (W.length : Int)) (hWl : W.length ≤ 60) (h81 : ∀ x : Nat, x < W.length → S 281 (60 * nm + (x : Int)) = W.getD x 0) : ∀ (f k : Nat) (A : wS), W.length - k < f → k ≤ W.length → A 237 126 = 3 + (k : Int) → (∀ i : Nat, i < 3 + k → A 354 (i : Int) = (wnW [115, 101, 116] W).getD i 0) → (∀ (j : Nat) (x : Int), ¬ wtM j x → A j x = S j x) → wJ (pe_GA xs) wY0 M (d + 5) t_M_wants ((pe_at t_M_wants.bl 3).getD (0, [])).2 [(0, (2, 237)), (1, (2, (-10 - ((51 : Nat) : Int)))), (2, (0, nm)), (3, (0, (k : Int)))] [] A (fun o Z => o = .inl none ∧ wtI (wnW [115, 101, 116] W) Z ∧ (∀ (j : Nat) (x : Int), ¬ wtM j x → Z j x = S j x)) := by
  have hlen : (wnW [115, 101, 116] W).length = 3 + W.length := by unfold wnW; rw [if_neg (by first | decide | omega), List.length_append, capW_l]; rfl
  intro f
  induction f with
  | zero => intro k A h; exact absurd h (Nat.not_lt_zero _)
  | succ f ih =>
    intro k A hf hk h26 hsg hfr
    have hMA : w_ML A := ML_w hM hfr (fun j z => by unfold wtM at z; omega)
    have e82 : A 282 nm = (W.length : Int) := (hfr 282 nm (by unfold wtM; omega)).trans h82
    refine wa_iload_n (n := 3) rfl ?_
    refine wa_aload_n (n := 0) rfl ?_
    refine wb_gf4 237 rfl (wy_pr rfl) wt_237 wf_15_18 (v := 282) wl_237_18 ?_
    refine wa_iload_n (n := 2) rfl ?_
    refine wb_iald 282 rfl (wy_pr rfl) wt_282 (n := 4000) ((ml_282 hMA)) (by omega) (by omega) (v := (W.length : Int)) (e82) (fun r1 => ?_)
    refine wa_icmpge (w_rg0 (by omega) (by omega)) (w_rg0 (by omega) (by omega)) ⟨_, rfl⟩ (fun c2 => ?_) (fun c2 => ?_)
    · skip
      refine wa_return rfl ?_
      exact ⟨rfl, ⟨by rw [h26, hlen]; omega, fun i hi => hsg i (by omega), by omega⟩, hfr⟩
    · skip
      have hkl : k < W.length := by omega
      have e81 : A 281 ((60 * nm) + (k : Int)) = W.getD k 0 := (hfr 281 _ (by unfold wtM; omega)).trans (h81 k hkl)
      refine wa_aload_n (n := 0) rfl ?_
      refine wb_gf4 237 rfl (wy_pr rfl) wt_237 wf_15_17 (v := 281) wl_237_17 ?_
      refine wa_bipush (w_rg2 (by omega) (by omega)) ?_
      refine wa_iload_n (n := 2) rfl ?_
      refine wa_imul ?_
      refine wa_iload_n (n := 3) rfl ?_
      refine wa_iadd ?_
      refine wb_bald 281 rfl (wy_pr rfl) wt_281 (n := 240000) ((ml_281 hMA)) (by omega) (by omega) (v := (W.getD k 0)) (e81) (fun r3 => ?_)
      refine wa_istore (n := 4) rfl ?_
      refine wa_aload_n (n := 0) rfl ?_
      refine wb_gf4 237 rfl (wy_pr rfl) wt_237 wf_15_127 (v := 354) wl_237_127 ?_
      refine wa_aload_n (n := 0) rfl ?_
      refine wb_gfi 237 rfl (wy_pr rfl) wt_237 wf_15_126 (v := (3 + (k : Int))) (h26) (fun r4 => ?_)
      refine wa_iload_n (n := 3) rfl ?_
      refine wa_ifne (w_rg0 (by omega) (by omega)) ⟨_, rfl⟩ (fun c5 => ?_) (fun c5 => ?_)
      · skip
        refine wa_iload (n := 4) rfl ?_
        refine wa_fall ⟨_, rfl⟩ ?_
        refine wb_i2b_r (wb_i2b_id ⟨(by omega), (by omega)⟩) ?_
        refine wb_bast 354 rfl (wy_pr rfl) wt_354 (n := 72) ((ml_354 hMA)) (by omega) (by omega) ⟨(by omega), (by omega)⟩ ?_
        refine wa_aload_n (n := 0) rfl ?_
        refine wa_dup (by decide) ?_
        refine wb_gfi 237 rfl (wy_pr rfl) wt_237 wf_15_126 (v := (3 + (k : Int))) ((w_up_slot (by decide)).trans (h26)) (fun r6 => ?_)
        refine wa_iconst ?_
        refine wa_iadd ?_
        refine wb_pfi 237 rfl (wy_pr rfl) wt_237 wf_15_126 (n := 126) rfl ⟨(by omega), (by omega)⟩ ?_
        refine wa_iinc rfl rfl ?_
        refine wa_goto ⟨_, rfl⟩ ?_
        refine wJ_S (ih (k + 1) _ (by omega) (by omega) ((w_up_same _ _ _ _).trans (by omega)) (fun i hi => ?_) (fun j x hj => (w_up_no (by unfold wtM at hj; omega)).trans ((w_up_no (by unfold wtM at hj; omega)).trans (hfr j x hj)))) ⟨rfl, rfl, rfl, rfl, trivial⟩
        by_cases ci : i = 3 + k
        · have zi : (3 + (k : Int)) = (i : Int) := by omega
          rw [zi]
          refine (w_up_slot (by first | decide | omega)).trans ((w_up_same _ _ _ _).trans ?_)
          have hr : (wnW [115, 101, 116] W).getD i 0 = (capW W).getD k 0 := by rw [ci]; exact getD_r (a := [115, 101, 116])
          rw [hr]
          cases k with
          | zero => rw [capW_0 (by omega)]; first | (exfalso; omega) | (rw [if_pos (by omega)]) | (rw [if_neg (by omega)])
          | succ k => rw [capW_s]; try omega
        · exact (w_up_slot (by first | decide | omega)).trans ((w_up_at (by omega)).trans (hsg i (by omega)))
      · skip
        refine wa_aload_n (n := 1) rfl ?_
        refine wa_sl 51 rfl (wx_51 hX) rfl rfl ?_
        refine wJ_top (show (tx_51.length : Int) = 3 from rfl) ?_
        refine wa_ifle (w_rg0 (by omega) (by omega)) ⟨_, rfl⟩ (fun c7 => ?_) (fun c7 => ?_)
        · skip
          exact absurd c7 (by omega)
        · skip
          refine wa_iload (n := 4) rfl ?_
          refine wa_i2l (w_rg0 (by omega) (by omega)) ?_
          refine wb_kl (n := 97) rfl ?_
          refine wb_kl (n := 122) rfl ?_
          refine wa_cs (M2 := fun _ => False) rfl at_M_in ⟨_, rfl⟩ rfl rfl ⟨trivial, (Or.inr ⟨wy_pr rfl, fun q => q⟩), (Or.inl (by omega)), trivial, trivial, trivial⟩ ⟨trivial, (Or.inr ⟨wy_pr rfl, fun q => q⟩), trivial⟩ (fun _ _ q => False.elim q) (in_ok (S := A) (a := (W.getD k 0)) (lo := 97) (hi := 122) ⟨by omega, by omega⟩ ⟨by omega, by omega⟩ ⟨by omega, by omega⟩) (fun oq9 Sq9 hp10 q9 => ?_)
          rcases q9 with ⟨rfl, ⟨rfl, hin8⟩ | ⟨rfl, hin8⟩⟩
          · skip
            show wJ _ _ _ _ _ _ _ _ _ _
            refine wa_ifeq (w_rg0 (by omega) (by omega)) ⟨_, rfl⟩ (fun c11 => ?_) (fun c11 => ?_)
            · skip
              exact absurd c11 (by omega)
            · skip
              refine wa_iload (n := 4) rfl ?_
              refine wa_bipush (w_rg2 (by omega) (by omega)) ?_
              refine wa_isub ?_
              refine wa_goto ⟨_, rfl⟩ ?_
              refine wb_i2b_r (wb_i2b_id ⟨(by omega), (by omega)⟩) ?_
              refine wb_bast 354 rfl (wy_pr rfl) wt_354 (n := 72) ((ml_354 hMA)) (by omega) (by omega) ⟨(by omega), (by omega)⟩ ?_
              refine wa_aload_n (n := 0) rfl ?_
              refine wa_dup (by decide) ?_
              refine wb_gfi 237 rfl (wy_pr rfl) wt_237 wf_15_126 (v := (3 + (k : Int))) ((w_up_slot (by decide)).trans (h26)) (fun r12 => ?_)
              refine wa_iconst ?_
              refine wa_iadd ?_
              refine wb_pfi 237 rfl (wy_pr rfl) wt_237 wf_15_126 (n := 126) rfl ⟨(by omega), (by omega)⟩ ?_
              refine wa_iinc rfl rfl ?_
              refine wa_goto ⟨_, rfl⟩ ?_
              refine wJ_S (ih (k + 1) _ (by omega) (by omega) ((w_up_same _ _ _ _).trans (by omega)) (fun i hi => ?_) (fun j x hj => (w_up_no (by unfold wtM at hj; omega)).trans ((w_up_no (by unfold wtM at hj; omega)).trans (hfr j x hj)))) ⟨rfl, rfl, rfl, rfl, trivial⟩
              by_cases ci : i = 3 + k
              · have zi : (3 + (k : Int)) = (i : Int) := by omega
                rw [zi]
                refine (w_up_slot (by first | decide | omega)).trans ((w_up_same _ _ _ _).trans ?_)
                have hr : (wnW [115, 101, 116] W).getD i 0 = (capW W).getD k 0 := by rw [ci]; exact getD_r (a := [115, 101, 116])
                rw [hr]
                cases k with
                | zero => rw [capW_0 (by omega)]; first | (exfalso; omega) | (rw [if_pos (by omega)]) | (rw [if_neg (by omega)])
                | succ k => rw [capW_s]; try omega
              · exact (w_up_slot (by first | decide | omega)).trans ((w_up_at (by omega)).trans (hsg i (by omega)))
          · skip
            show wJ _ _ _ _ _ _ _ _ _ _
            refine wa_ifeq (w_rg0 (by omega) (by omega)) ⟨_, rfl⟩ (fun c13 => ?_) (fun c13 => ?_)
            · skip
              refine wa_iload (n := 4) rfl ?_
              refine wa_fall ⟨_, rfl⟩ ?_
              refine wb_i2b_r (wb_i2b_id ⟨(by omega), (by omega)⟩) ?_
              refine wb_bast 354 rfl (wy_pr rfl) wt_354 (n := 72) ((ml_354 hMA)) (by omega) (by omega) ⟨(by omega), (by omega)⟩ ?_
              refine wa_aload_n (n := 0) rfl ?_
              refine wa_dup (by decide) ?_
              refine wb_gfi 237 rfl (wy_pr rfl) wt_237 wf_15_126 (v := (3 + (k : Int))) ((w_up_slot (by decide)).trans (h26)) (fun r14 => ?_)
              refine wa_iconst ?_
              refine wa_iadd ?_
              refine wb_pfi 237 rfl (wy_pr rfl) wt_237 wf_15_126 (n := 126) rfl ⟨(by omega), (by omega)⟩ ?_
              refine wa_iinc rfl rfl ?_
              refine wa_goto ⟨_, rfl⟩ ?_
              refine wJ_S (ih (k + 1) _ (by omega) (by omega) ((w_up_same _ _ _ _).trans (by omega)) (fun i hi => ?_) (fun j x hj => (w_up_no (by unfold wtM at hj; omega)).trans ((w_up_no (by unfold wtM at hj; omega)).trans (hfr j x hj)))) ⟨rfl, rfl, rfl, rfl, trivial⟩
              by_cases ci : i = 3 + k
              · have zi : (3 + (k : Int)) = (i : Int) := by omega
                rw [zi]
                refine (w_up_slot (by first | decide | omega)).trans ((w_up_same _ _ _ _).trans ?_)
                have hr : (wnW [115, 101, 116] W).getD i 0 = (capW W).getD k 0 := by rw [ci]; exact getD_r (a := [115, 101, 116])
                rw [hr]
                cases k with
                | zero => rw [capW_0 (by omega)]; first | (exfalso; omega) | (rw [if_pos (by omega)]) | (rw [if_neg (by omega)])
                | succ k => rw [capW_s]; try omega
              · exact (w_up_slot (by first | decide | omega)).trans ((w_up_at (by omega)).trans (hsg i (by omega)))
            · skip
              exact absurd c13 (by omega)
theorem rwt51 {nm : Int} {W : List Int} (hX : w_X xs) (hM : w_ML S) (hnm : 0 ≤ nm ∧ nm < 4000) (h82 : S 282 nm = (W.length : Int)) (hWl : W.length ≤ 60) (h81 : ∀ x : Nat, x < W.length → S 281 (60 * nm + (x : Int)) = W.getD x 0) : wJ (pe_GA xs) wY0 M (d + 5) t_M_wants ((pe_at t_M_wants.bl 0).getD (0, [])).2 [(0, (2, 237)), (1, (2, (-10 - ((51 : Nat) : Int)))), (2, (0, nm))] [] S (fun o Z => o = .inl none ∧ wtI (wnW [115, 101, 116] W) Z ∧ (∀ (j : Nat) (x : Int), ¬ wtM j x → Z j x = S j x)) := by
  refine wa_aload_n (n := 0) rfl ?_
  refine wa_iconst ?_
  refine wb_pfi 237 rfl (wy_pr rfl) wt_237 wf_15_126 (n := 126) rfl ⟨(by omega), (by omega)⟩ ?_
  refine wa_iconst ?_
  refine wa_istore_n (n := 3) rfl ?_
  refine wa_fall ⟨_, rfl⟩ ?_
  refine wJ_S (L2 := [(0, (2, 237)), (1, (2, (-10 - ((51 : Nat) : Int)))), (2, (0, nm)), (3, (0, 0))]) ?_ ⟨rfl, rfl, rfl, rfl, trivial⟩
  refine wa_iload_n (n := 3) rfl ?_
  refine wa_aload_n (n := 1) rfl ?_
  refine wa_sl 51 rfl (wx_51 hX) rfl rfl ?_
  refine wJ_top (show (tx_51.length : Int) = 3 from rfl) ?_
  refine wa_icmpge (w_rg0 (by omega) (by omega)) (w_rg0 (by omega) (by omega)) ⟨_, rfl⟩ (fun c1 => ?_) (fun c1 => ?_)
  · skip
    exact absurd c1 (by omega)
  · skip
    refine wa_aload_n (n := 0) rfl ?_
    refine wb_gf4 237 rfl (wy_pr rfl) wt_237 wf_15_127 (v := 354) wl_237_127 ?_
    refine wa_iload_n (n := 3) rfl ?_
    refine wa_aload_n (n := 1) rfl ?_
    refine wa_iload_n (n := 3) rfl ?_
    refine wa_sc 51 rfl (wx_51 hX) (by first | decide | omega) rfl rfl (by first | decide | omega) (by first | decide | omega) ?_
    refine wJ_top (show (w_tx tx_51 0) = 115 by decide) ?_
    refine wb_i2b_r (wb_i2b_id ⟨(by omega), (by omega)⟩) ?_
    refine wb_bast 354 rfl (wy_pr rfl) wt_354 (n := 72) ((w_up_slot (by decide)).trans ((ml_354 hM))) (by omega) (by omega) ⟨(by omega), (by omega)⟩ ?_
    refine wa_aload_n (n := 0) rfl ?_
    refine wa_dup (by decide) ?_
    refine wb_gfi 237 rfl (wy_pr rfl) wt_237 wf_15_126 (v := 0) ((w_up_slot (by decide)).trans (w_up_same _ _ _ _)) (fun r2 => ?_)
    refine wa_iconst ?_
    refine wa_iadd ?_
    refine wb_pfi 237 rfl (wy_pr rfl) wt_237 wf_15_126 (n := 126) rfl ⟨(by omega), (by omega)⟩ ?_
    refine wa_iinc rfl rfl ?_
    refine wa_goto ⟨_, rfl⟩ ?_
    refine wJ_S (L2 := [(0, (2, 237)), (1, (2, (-10 - ((51 : Nat) : Int)))), (2, (0, nm)), (3, (0, 1))]) ?_ ⟨rfl, rfl, rfl, rfl, trivial⟩
    refine wa_iload_n (n := 3) rfl ?_
    refine wa_aload_n (n := 1) rfl ?_
    refine wa_sl 51 rfl (wx_51 hX) rfl rfl ?_
    refine wJ_top (show (tx_51.length : Int) = 3 from rfl) ?_
    refine wa_icmpge (w_rg0 (by omega) (by omega)) (w_rg0 (by omega) (by omega)) ⟨_, rfl⟩ (fun c3 => ?_) (fun c3 => ?_)
    · skip
      exact absurd c3 (by omega)
    · skip
      refine wa_aload_n (n := 0) rfl ?_
      refine wb_gf4 237 rfl (wy_pr rfl) wt_237 wf_15_127 (v := 354) wl_237_127 ?_
      refine wa_iload_n (n := 3) rfl ?_
      refine wa_aload_n (n := 1) rfl ?_
      refine wa_iload_n (n := 3) rfl ?_
      refine wa_sc 51 rfl (wx_51 hX) (by first | decide | omega) rfl rfl (by first | decide | omega) (by first | decide | omega) ?_
      refine wJ_top (show (w_tx tx_51 1) = 101 by decide) ?_
      refine wb_i2b_r (wb_i2b_id ⟨(by omega), (by omega)⟩) ?_
      refine wb_bast 354 rfl (wy_pr rfl) wt_354 (n := 72) ((w_up_slot (by decide)).trans ((w_up_at (by decide)).trans ((w_up_slot (by decide)).trans ((ml_354 hM))))) (by omega) (by omega) ⟨(by omega), (by omega)⟩ ?_
      refine wa_aload_n (n := 0) rfl ?_
      refine wa_dup (by decide) ?_
      refine wb_gfi 237 rfl (wy_pr rfl) wt_237 wf_15_126 (v := (0 + 1)) ((w_up_slot (by decide)).trans (w_up_same _ _ _ _)) (fun r4 => ?_)
      refine wa_iconst ?_
      refine wa_iadd ?_
      refine wb_pfi 237 rfl (wy_pr rfl) wt_237 wf_15_126 (n := 126) rfl ⟨(by omega), (by omega)⟩ ?_
      refine wa_iinc rfl rfl ?_
      refine wa_goto ⟨_, rfl⟩ ?_
      refine wJ_S (L2 := [(0, (2, 237)), (1, (2, (-10 - ((51 : Nat) : Int)))), (2, (0, nm)), (3, (0, 2))]) ?_ ⟨rfl, rfl, rfl, rfl, trivial⟩
      refine wa_iload_n (n := 3) rfl ?_
      refine wa_aload_n (n := 1) rfl ?_
      refine wa_sl 51 rfl (wx_51 hX) rfl rfl ?_
      refine wJ_top (show (tx_51.length : Int) = 3 from rfl) ?_
      refine wa_icmpge (w_rg0 (by omega) (by omega)) (w_rg0 (by omega) (by omega)) ⟨_, rfl⟩ (fun c5 => ?_) (fun c5 => ?_)
      · skip
        exact absurd c5 (by omega)
      · skip
        refine wa_aload_n (n := 0) rfl ?_
        refine wb_gf4 237 rfl (wy_pr rfl) wt_237 wf_15_127 (v := 354) wl_237_127 ?_
        refine wa_iload_n (n := 3) rfl ?_
        refine wa_aload_n (n := 1) rfl ?_
        refine wa_iload_n (n := 3) rfl ?_
        refine wa_sc 51 rfl (wx_51 hX) (by first | decide | omega) rfl rfl (by first | decide | omega) (by first | decide | omega) ?_
        refine wJ_top (show (w_tx tx_51 2) = 116 by decide) ?_
        refine wb_i2b_r (wb_i2b_id ⟨(by omega), (by omega)⟩) ?_
        refine wb_bast 354 rfl (wy_pr rfl) wt_354 (n := 72) ((w_up_slot (by decide)).trans ((w_up_at (by decide)).trans ((w_up_slot (by decide)).trans ((w_up_at (by decide)).trans ((w_up_slot (by decide)).trans ((ml_354 hM))))))) (by omega) (by omega) ⟨(by omega), (by omega)⟩ ?_
        refine wa_aload_n (n := 0) rfl ?_
        refine wa_dup (by decide) ?_
        refine wb_gfi 237 rfl (wy_pr rfl) wt_237 wf_15_126 (v := ((0 + 1) + 1)) ((w_up_slot (by decide)).trans (w_up_same _ _ _ _)) (fun r6 => ?_)
        refine wa_iconst ?_
        refine wa_iadd ?_
        refine wb_pfi 237 rfl (wy_pr rfl) wt_237 wf_15_126 (n := 126) rfl ⟨(by omega), (by omega)⟩ ?_
        refine wa_iinc rfl rfl ?_
        refine wa_goto ⟨_, rfl⟩ ?_
        refine wJ_S (L2 := [(0, (2, 237)), (1, (2, (-10 - ((51 : Nat) : Int)))), (2, (0, nm)), (3, (0, 3))]) ?_ ⟨rfl, rfl, rfl, rfl, trivial⟩
        refine wa_iload_n (n := 3) rfl ?_
        refine wa_aload_n (n := 1) rfl ?_
        refine wa_sl 51 rfl (wx_51 hX) rfl rfl ?_
        refine wJ_top (show (tx_51.length : Int) = 3 from rfl) ?_
        refine wa_icmpge (w_rg0 (by omega) (by omega)) (w_rg0 (by omega) (by omega)) ⟨_, rfl⟩ (fun c7 => ?_) (fun c7 => ?_)
        · skip
          refine wa_iconst ?_
          refine wa_istore_n (n := 3) rfl ?_
          refine wa_fall ⟨_, rfl⟩ ?_
          refine wJ_S (rwl51 (S := S) hX hM hnm h82 hWl h81 (W.length + 1) 0 (w_up (w_up (w_up (w_up (w_up (w_up (w_up S 237 126 0) 354 0 115) 237 126 (0 + 1)) 354 1 101) 237 126 ((0 + 1) + 1)) 354 2 116) 237 126 (((0 + 1) + 1) + 1)) (by omega) (by omega) ?_ (fun i hi => ?_) (fun j x hj => ((w_up_no (by unfold wtM at hj; omega)).trans ((w_up_no (by unfold wtM at hj; omega)).trans ((w_up_no (by unfold wtM at hj; omega)).trans ((w_up_no (by unfold wtM at hj; omega)).trans ((w_up_no (by unfold wtM at hj; omega)).trans ((w_up_no (by unfold wtM at hj; omega)).trans (w_up_no (by unfold wtM at hj; omega)))))))))) ⟨rfl, rfl, rfl, rfl, trivial⟩
          · exact ((w_up_same _ _ _ _) : (w_up (w_up (w_up (w_up (w_up (w_up (w_up S 237 126 0) 354 0 115) 237 126 (0 + 1)) 354 1 101) 237 126 ((0 + 1) + 1)) 354 2 116) 237 126 (((0 + 1) + 1) + 1)) 237 126 = (((0 + 1) + 1) + 1))
          · rcases (show i = 0 ∨ i = 1 ∨ i = 2 by omega) with e | e | e
            · rw [e]; exact ((w_up_slot (by first | decide | omega)).trans ((w_up_at (by first | decide | omega)).trans ((w_up_slot (by first | decide | omega)).trans ((w_up_at (by first | decide | omega)).trans ((w_up_slot (by first | decide | omega)).trans (w_up_same _ _ _ _))))))
            · rw [e]; exact ((w_up_slot (by first | decide | omega)).trans ((w_up_at (by first | decide | omega)).trans ((w_up_slot (by first | decide | omega)).trans (w_up_same _ _ _ _))))
            · rw [e]; exact ((w_up_slot (by first | decide | omega)).trans (w_up_same _ _ _ _))
        · skip
          exact absurd c7 (by omega)
theorem rwl81 {nm : Int} {W : List Int} (hX : w_X xs) (hM : w_ML S) (hnm : 0 ≤ nm ∧ nm < 4000) (h82 : S 282 nm = (W.length : Int)) (hWl : W.length ≤ 60) (h81 : ∀ x : Nat, x < W.length → S 281 (60 * nm + (x : Int)) = W.getD x 0) : ∀ (f k : Nat) (A : wS), W.length - k < f → k ≤ W.length → A 237 126 = 3 + (k : Int) → (∀ i : Nat, i < 3 + k → A 354 (i : Int) = (wnW [103, 101, 116] W).getD i 0) → (∀ (j : Nat) (x : Int), ¬ wtM j x → A j x = S j x) → wJ (pe_GA xs) wY0 M (d + 5) t_M_wants ((pe_at t_M_wants.bl 3).getD (0, [])).2 [(0, (2, 237)), (1, (2, (-10 - ((81 : Nat) : Int)))), (2, (0, nm)), (3, (0, (k : Int)))] [] A (fun o Z => o = .inl none ∧ wtI (wnW [103, 101, 116] W) Z ∧ (∀ (j : Nat) (x : Int), ¬ wtM j x → Z j x = S j x)) := by
  have hlen : (wnW [103, 101, 116] W).length = 3 + W.length := by unfold wnW; rw [if_neg (by first | decide | omega), List.length_append, capW_l]; rfl
  intro f
  induction f with
  | zero => intro k A h; exact absurd h (Nat.not_lt_zero _)
  | succ f ih =>
    intro k A hf hk h26 hsg hfr
    have hMA : w_ML A := ML_w hM hfr (fun j z => by unfold wtM at z; omega)
    have e82 : A 282 nm = (W.length : Int) := (hfr 282 nm (by unfold wtM; omega)).trans h82
    refine wa_iload_n (n := 3) rfl ?_
    refine wa_aload_n (n := 0) rfl ?_
    refine wb_gf4 237 rfl (wy_pr rfl) wt_237 wf_15_18 (v := 282) wl_237_18 ?_
    refine wa_iload_n (n := 2) rfl ?_
    refine wb_iald 282 rfl (wy_pr rfl) wt_282 (n := 4000) ((ml_282 hMA)) (by omega) (by omega) (v := (W.length : Int)) (e82) (fun r1 => ?_)
    refine wa_icmpge (w_rg0 (by omega) (by omega)) (w_rg0 (by omega) (by omega)) ⟨_, rfl⟩ (fun c2 => ?_) (fun c2 => ?_)
    · skip
      refine wa_return rfl ?_
      exact ⟨rfl, ⟨by rw [h26, hlen]; omega, fun i hi => hsg i (by omega), by omega⟩, hfr⟩
    · skip
      have hkl : k < W.length := by omega
      have e81 : A 281 ((60 * nm) + (k : Int)) = W.getD k 0 := (hfr 281 _ (by unfold wtM; omega)).trans (h81 k hkl)
      refine wa_aload_n (n := 0) rfl ?_
      refine wb_gf4 237 rfl (wy_pr rfl) wt_237 wf_15_17 (v := 281) wl_237_17 ?_
      refine wa_bipush (w_rg2 (by omega) (by omega)) ?_
      refine wa_iload_n (n := 2) rfl ?_
      refine wa_imul ?_
      refine wa_iload_n (n := 3) rfl ?_
      refine wa_iadd ?_
      refine wb_bald 281 rfl (wy_pr rfl) wt_281 (n := 240000) ((ml_281 hMA)) (by omega) (by omega) (v := (W.getD k 0)) (e81) (fun r3 => ?_)
      refine wa_istore (n := 4) rfl ?_
      refine wa_aload_n (n := 0) rfl ?_
      refine wb_gf4 237 rfl (wy_pr rfl) wt_237 wf_15_127 (v := 354) wl_237_127 ?_
      refine wa_aload_n (n := 0) rfl ?_
      refine wb_gfi 237 rfl (wy_pr rfl) wt_237 wf_15_126 (v := (3 + (k : Int))) (h26) (fun r4 => ?_)
      refine wa_iload_n (n := 3) rfl ?_
      refine wa_ifne (w_rg0 (by omega) (by omega)) ⟨_, rfl⟩ (fun c5 => ?_) (fun c5 => ?_)
      · skip
        refine wa_iload (n := 4) rfl ?_
        refine wa_fall ⟨_, rfl⟩ ?_
        refine wb_i2b_r (wb_i2b_id ⟨(by omega), (by omega)⟩) ?_
        refine wb_bast 354 rfl (wy_pr rfl) wt_354 (n := 72) ((ml_354 hMA)) (by omega) (by omega) ⟨(by omega), (by omega)⟩ ?_
        refine wa_aload_n (n := 0) rfl ?_
        refine wa_dup (by decide) ?_
        refine wb_gfi 237 rfl (wy_pr rfl) wt_237 wf_15_126 (v := (3 + (k : Int))) ((w_up_slot (by decide)).trans (h26)) (fun r6 => ?_)
        refine wa_iconst ?_
        refine wa_iadd ?_
        refine wb_pfi 237 rfl (wy_pr rfl) wt_237 wf_15_126 (n := 126) rfl ⟨(by omega), (by omega)⟩ ?_
        refine wa_iinc rfl rfl ?_
        refine wa_goto ⟨_, rfl⟩ ?_
        refine wJ_S (ih (k + 1) _ (by omega) (by omega) ((w_up_same _ _ _ _).trans (by omega)) (fun i hi => ?_) (fun j x hj => (w_up_no (by unfold wtM at hj; omega)).trans ((w_up_no (by unfold wtM at hj; omega)).trans (hfr j x hj)))) ⟨rfl, rfl, rfl, rfl, trivial⟩
        by_cases ci : i = 3 + k
        · have zi : (3 + (k : Int)) = (i : Int) := by omega
          rw [zi]
          refine (w_up_slot (by first | decide | omega)).trans ((w_up_same _ _ _ _).trans ?_)
          have hr : (wnW [103, 101, 116] W).getD i 0 = (capW W).getD k 0 := by rw [ci]; exact getD_r (a := [103, 101, 116])
          rw [hr]
          cases k with
          | zero => rw [capW_0 (by omega)]; first | (exfalso; omega) | (rw [if_pos (by omega)]) | (rw [if_neg (by omega)])
          | succ k => rw [capW_s]; try omega
        · exact (w_up_slot (by first | decide | omega)).trans ((w_up_at (by omega)).trans (hsg i (by omega)))
      · skip
        refine wa_aload_n (n := 1) rfl ?_
        refine wa_sl 81 rfl (wx_81 hX) rfl rfl ?_
        refine wJ_top (show (tx_81.length : Int) = 3 from rfl) ?_
        refine wa_ifle (w_rg0 (by omega) (by omega)) ⟨_, rfl⟩ (fun c7 => ?_) (fun c7 => ?_)
        · skip
          exact absurd c7 (by omega)
        · skip
          refine wa_iload (n := 4) rfl ?_
          refine wa_i2l (w_rg0 (by omega) (by omega)) ?_
          refine wb_kl (n := 97) rfl ?_
          refine wb_kl (n := 122) rfl ?_
          refine wa_cs (M2 := fun _ => False) rfl at_M_in ⟨_, rfl⟩ rfl rfl ⟨trivial, (Or.inr ⟨wy_pr rfl, fun q => q⟩), (Or.inl (by omega)), trivial, trivial, trivial⟩ ⟨trivial, (Or.inr ⟨wy_pr rfl, fun q => q⟩), trivial⟩ (fun _ _ q => False.elim q) (in_ok (S := A) (a := (W.getD k 0)) (lo := 97) (hi := 122) ⟨by omega, by omega⟩ ⟨by omega, by omega⟩ ⟨by omega, by omega⟩) (fun oq9 Sq9 hp10 q9 => ?_)
          rcases q9 with ⟨rfl, ⟨rfl, hin8⟩ | ⟨rfl, hin8⟩⟩
          · skip
            show wJ _ _ _ _ _ _ _ _ _ _
            refine wa_ifeq (w_rg0 (by omega) (by omega)) ⟨_, rfl⟩ (fun c11 => ?_) (fun c11 => ?_)
            · skip
              exact absurd c11 (by omega)
            · skip
              refine wa_iload (n := 4) rfl ?_
              refine wa_bipush (w_rg2 (by omega) (by omega)) ?_
              refine wa_isub ?_
              refine wa_goto ⟨_, rfl⟩ ?_
              refine wb_i2b_r (wb_i2b_id ⟨(by omega), (by omega)⟩) ?_
              refine wb_bast 354 rfl (wy_pr rfl) wt_354 (n := 72) ((ml_354 hMA)) (by omega) (by omega) ⟨(by omega), (by omega)⟩ ?_
              refine wa_aload_n (n := 0) rfl ?_
              refine wa_dup (by decide) ?_
              refine wb_gfi 237 rfl (wy_pr rfl) wt_237 wf_15_126 (v := (3 + (k : Int))) ((w_up_slot (by decide)).trans (h26)) (fun r12 => ?_)
              refine wa_iconst ?_
              refine wa_iadd ?_
              refine wb_pfi 237 rfl (wy_pr rfl) wt_237 wf_15_126 (n := 126) rfl ⟨(by omega), (by omega)⟩ ?_
              refine wa_iinc rfl rfl ?_
              refine wa_goto ⟨_, rfl⟩ ?_
              refine wJ_S (ih (k + 1) _ (by omega) (by omega) ((w_up_same _ _ _ _).trans (by omega)) (fun i hi => ?_) (fun j x hj => (w_up_no (by unfold wtM at hj; omega)).trans ((w_up_no (by unfold wtM at hj; omega)).trans (hfr j x hj)))) ⟨rfl, rfl, rfl, rfl, trivial⟩
              by_cases ci : i = 3 + k
              · have zi : (3 + (k : Int)) = (i : Int) := by omega
                rw [zi]
                refine (w_up_slot (by first | decide | omega)).trans ((w_up_same _ _ _ _).trans ?_)
                have hr : (wnW [103, 101, 116] W).getD i 0 = (capW W).getD k 0 := by rw [ci]; exact getD_r (a := [103, 101, 116])
                rw [hr]
                cases k with
                | zero => rw [capW_0 (by omega)]; first | (exfalso; omega) | (rw [if_pos (by omega)]) | (rw [if_neg (by omega)])
                | succ k => rw [capW_s]; try omega
              · exact (w_up_slot (by first | decide | omega)).trans ((w_up_at (by omega)).trans (hsg i (by omega)))
          · skip
            show wJ _ _ _ _ _ _ _ _ _ _
            refine wa_ifeq (w_rg0 (by omega) (by omega)) ⟨_, rfl⟩ (fun c13 => ?_) (fun c13 => ?_)
            · skip
              refine wa_iload (n := 4) rfl ?_
              refine wa_fall ⟨_, rfl⟩ ?_
              refine wb_i2b_r (wb_i2b_id ⟨(by omega), (by omega)⟩) ?_
              refine wb_bast 354 rfl (wy_pr rfl) wt_354 (n := 72) ((ml_354 hMA)) (by omega) (by omega) ⟨(by omega), (by omega)⟩ ?_
              refine wa_aload_n (n := 0) rfl ?_
              refine wa_dup (by decide) ?_
              refine wb_gfi 237 rfl (wy_pr rfl) wt_237 wf_15_126 (v := (3 + (k : Int))) ((w_up_slot (by decide)).trans (h26)) (fun r14 => ?_)
              refine wa_iconst ?_
              refine wa_iadd ?_
              refine wb_pfi 237 rfl (wy_pr rfl) wt_237 wf_15_126 (n := 126) rfl ⟨(by omega), (by omega)⟩ ?_
              refine wa_iinc rfl rfl ?_
              refine wa_goto ⟨_, rfl⟩ ?_
              refine wJ_S (ih (k + 1) _ (by omega) (by omega) ((w_up_same _ _ _ _).trans (by omega)) (fun i hi => ?_) (fun j x hj => (w_up_no (by unfold wtM at hj; omega)).trans ((w_up_no (by unfold wtM at hj; omega)).trans (hfr j x hj)))) ⟨rfl, rfl, rfl, rfl, trivial⟩
              by_cases ci : i = 3 + k
              · have zi : (3 + (k : Int)) = (i : Int) := by omega
                rw [zi]
                refine (w_up_slot (by first | decide | omega)).trans ((w_up_same _ _ _ _).trans ?_)
                have hr : (wnW [103, 101, 116] W).getD i 0 = (capW W).getD k 0 := by rw [ci]; exact getD_r (a := [103, 101, 116])
                rw [hr]
                cases k with
                | zero => rw [capW_0 (by omega)]; first | (exfalso; omega) | (rw [if_pos (by omega)]) | (rw [if_neg (by omega)])
                | succ k => rw [capW_s]; try omega
              · exact (w_up_slot (by first | decide | omega)).trans ((w_up_at (by omega)).trans (hsg i (by omega)))
            · skip
              exact absurd c13 (by omega)
theorem rwt81 {nm : Int} {W : List Int} (hX : w_X xs) (hM : w_ML S) (hnm : 0 ≤ nm ∧ nm < 4000) (h82 : S 282 nm = (W.length : Int)) (hWl : W.length ≤ 60) (h81 : ∀ x : Nat, x < W.length → S 281 (60 * nm + (x : Int)) = W.getD x 0) : wJ (pe_GA xs) wY0 M (d + 5) t_M_wants ((pe_at t_M_wants.bl 0).getD (0, [])).2 [(0, (2, 237)), (1, (2, (-10 - ((81 : Nat) : Int)))), (2, (0, nm))] [] S (fun o Z => o = .inl none ∧ wtI (wnW [103, 101, 116] W) Z ∧ (∀ (j : Nat) (x : Int), ¬ wtM j x → Z j x = S j x)) := by
  refine wa_aload_n (n := 0) rfl ?_
  refine wa_iconst ?_
  refine wb_pfi 237 rfl (wy_pr rfl) wt_237 wf_15_126 (n := 126) rfl ⟨(by omega), (by omega)⟩ ?_
  refine wa_iconst ?_
  refine wa_istore_n (n := 3) rfl ?_
  refine wa_fall ⟨_, rfl⟩ ?_
  refine wJ_S (L2 := [(0, (2, 237)), (1, (2, (-10 - ((81 : Nat) : Int)))), (2, (0, nm)), (3, (0, 0))]) ?_ ⟨rfl, rfl, rfl, rfl, trivial⟩
  refine wa_iload_n (n := 3) rfl ?_
  refine wa_aload_n (n := 1) rfl ?_
  refine wa_sl 81 rfl (wx_81 hX) rfl rfl ?_
  refine wJ_top (show (tx_81.length : Int) = 3 from rfl) ?_
  refine wa_icmpge (w_rg0 (by omega) (by omega)) (w_rg0 (by omega) (by omega)) ⟨_, rfl⟩ (fun c1 => ?_) (fun c1 => ?_)
  · skip
    exact absurd c1 (by omega)
  · skip
    refine wa_aload_n (n := 0) rfl ?_
    refine wb_gf4 237 rfl (wy_pr rfl) wt_237 wf_15_127 (v := 354) wl_237_127 ?_
    refine wa_iload_n (n := 3) rfl ?_
    refine wa_aload_n (n := 1) rfl ?_
    refine wa_iload_n (n := 3) rfl ?_
    refine wa_sc 81 rfl (wx_81 hX) (by first | decide | omega) rfl rfl (by first | decide | omega) (by first | decide | omega) ?_
    refine wJ_top (show (w_tx tx_81 0) = 103 by decide) ?_
    refine wb_i2b_r (wb_i2b_id ⟨(by omega), (by omega)⟩) ?_
    refine wb_bast 354 rfl (wy_pr rfl) wt_354 (n := 72) ((w_up_slot (by decide)).trans ((ml_354 hM))) (by omega) (by omega) ⟨(by omega), (by omega)⟩ ?_
    refine wa_aload_n (n := 0) rfl ?_
    refine wa_dup (by decide) ?_
    refine wb_gfi 237 rfl (wy_pr rfl) wt_237 wf_15_126 (v := 0) ((w_up_slot (by decide)).trans (w_up_same _ _ _ _)) (fun r2 => ?_)
    refine wa_iconst ?_
    refine wa_iadd ?_
    refine wb_pfi 237 rfl (wy_pr rfl) wt_237 wf_15_126 (n := 126) rfl ⟨(by omega), (by omega)⟩ ?_
    refine wa_iinc rfl rfl ?_
    refine wa_goto ⟨_, rfl⟩ ?_
    refine wJ_S (L2 := [(0, (2, 237)), (1, (2, (-10 - ((81 : Nat) : Int)))), (2, (0, nm)), (3, (0, 1))]) ?_ ⟨rfl, rfl, rfl, rfl, trivial⟩
    refine wa_iload_n (n := 3) rfl ?_
    refine wa_aload_n (n := 1) rfl ?_
    refine wa_sl 81 rfl (wx_81 hX) rfl rfl ?_
    refine wJ_top (show (tx_81.length : Int) = 3 from rfl) ?_
    refine wa_icmpge (w_rg0 (by omega) (by omega)) (w_rg0 (by omega) (by omega)) ⟨_, rfl⟩ (fun c3 => ?_) (fun c3 => ?_)
    · skip
      exact absurd c3 (by omega)
    · skip
      refine wa_aload_n (n := 0) rfl ?_
      refine wb_gf4 237 rfl (wy_pr rfl) wt_237 wf_15_127 (v := 354) wl_237_127 ?_
      refine wa_iload_n (n := 3) rfl ?_
      refine wa_aload_n (n := 1) rfl ?_
      refine wa_iload_n (n := 3) rfl ?_
      refine wa_sc 81 rfl (wx_81 hX) (by first | decide | omega) rfl rfl (by first | decide | omega) (by first | decide | omega) ?_
      refine wJ_top (show (w_tx tx_81 1) = 101 by decide) ?_
      refine wb_i2b_r (wb_i2b_id ⟨(by omega), (by omega)⟩) ?_
      refine wb_bast 354 rfl (wy_pr rfl) wt_354 (n := 72) ((w_up_slot (by decide)).trans ((w_up_at (by decide)).trans ((w_up_slot (by decide)).trans ((ml_354 hM))))) (by omega) (by omega) ⟨(by omega), (by omega)⟩ ?_
      refine wa_aload_n (n := 0) rfl ?_
      refine wa_dup (by decide) ?_
      refine wb_gfi 237 rfl (wy_pr rfl) wt_237 wf_15_126 (v := (0 + 1)) ((w_up_slot (by decide)).trans (w_up_same _ _ _ _)) (fun r4 => ?_)
      refine wa_iconst ?_
      refine wa_iadd ?_
      refine wb_pfi 237 rfl (wy_pr rfl) wt_237 wf_15_126 (n := 126) rfl ⟨(by omega), (by omega)⟩ ?_
      refine wa_iinc rfl rfl ?_
      refine wa_goto ⟨_, rfl⟩ ?_
      refine wJ_S (L2 := [(0, (2, 237)), (1, (2, (-10 - ((81 : Nat) : Int)))), (2, (0, nm)), (3, (0, 2))]) ?_ ⟨rfl, rfl, rfl, rfl, trivial⟩
      refine wa_iload_n (n := 3) rfl ?_
      refine wa_aload_n (n := 1) rfl ?_
      refine wa_sl 81 rfl (wx_81 hX) rfl rfl ?_
      refine wJ_top (show (tx_81.length : Int) = 3 from rfl) ?_
      refine wa_icmpge (w_rg0 (by omega) (by omega)) (w_rg0 (by omega) (by omega)) ⟨_, rfl⟩ (fun c5 => ?_) (fun c5 => ?_)
      · skip
        exact absurd c5 (by omega)
      · skip
        refine wa_aload_n (n := 0) rfl ?_
        refine wb_gf4 237 rfl (wy_pr rfl) wt_237 wf_15_127 (v := 354) wl_237_127 ?_
        refine wa_iload_n (n := 3) rfl ?_
        refine wa_aload_n (n := 1) rfl ?_
        refine wa_iload_n (n := 3) rfl ?_
        refine wa_sc 81 rfl (wx_81 hX) (by first | decide | omega) rfl rfl (by first | decide | omega) (by first | decide | omega) ?_
        refine wJ_top (show (w_tx tx_81 2) = 116 by decide) ?_
        refine wb_i2b_r (wb_i2b_id ⟨(by omega), (by omega)⟩) ?_
        refine wb_bast 354 rfl (wy_pr rfl) wt_354 (n := 72) ((w_up_slot (by decide)).trans ((w_up_at (by decide)).trans ((w_up_slot (by decide)).trans ((w_up_at (by decide)).trans ((w_up_slot (by decide)).trans ((ml_354 hM))))))) (by omega) (by omega) ⟨(by omega), (by omega)⟩ ?_
        refine wa_aload_n (n := 0) rfl ?_
        refine wa_dup (by decide) ?_
        refine wb_gfi 237 rfl (wy_pr rfl) wt_237 wf_15_126 (v := ((0 + 1) + 1)) ((w_up_slot (by decide)).trans (w_up_same _ _ _ _)) (fun r6 => ?_)
        refine wa_iconst ?_
        refine wa_iadd ?_
        refine wb_pfi 237 rfl (wy_pr rfl) wt_237 wf_15_126 (n := 126) rfl ⟨(by omega), (by omega)⟩ ?_
        refine wa_iinc rfl rfl ?_
        refine wa_goto ⟨_, rfl⟩ ?_
        refine wJ_S (L2 := [(0, (2, 237)), (1, (2, (-10 - ((81 : Nat) : Int)))), (2, (0, nm)), (3, (0, 3))]) ?_ ⟨rfl, rfl, rfl, rfl, trivial⟩
        refine wa_iload_n (n := 3) rfl ?_
        refine wa_aload_n (n := 1) rfl ?_
        refine wa_sl 81 rfl (wx_81 hX) rfl rfl ?_
        refine wJ_top (show (tx_81.length : Int) = 3 from rfl) ?_
        refine wa_icmpge (w_rg0 (by omega) (by omega)) (w_rg0 (by omega) (by omega)) ⟨_, rfl⟩ (fun c7 => ?_) (fun c7 => ?_)
        · skip
          refine wa_iconst ?_
          refine wa_istore_n (n := 3) rfl ?_
          refine wa_fall ⟨_, rfl⟩ ?_
          refine wJ_S (rwl81 (S := S) hX hM hnm h82 hWl h81 (W.length + 1) 0 (w_up (w_up (w_up (w_up (w_up (w_up (w_up S 237 126 0) 354 0 103) 237 126 (0 + 1)) 354 1 101) 237 126 ((0 + 1) + 1)) 354 2 116) 237 126 (((0 + 1) + 1) + 1)) (by omega) (by omega) ?_ (fun i hi => ?_) (fun j x hj => ((w_up_no (by unfold wtM at hj; omega)).trans ((w_up_no (by unfold wtM at hj; omega)).trans ((w_up_no (by unfold wtM at hj; omega)).trans ((w_up_no (by unfold wtM at hj; omega)).trans ((w_up_no (by unfold wtM at hj; omega)).trans ((w_up_no (by unfold wtM at hj; omega)).trans (w_up_no (by unfold wtM at hj; omega)))))))))) ⟨rfl, rfl, rfl, rfl, trivial⟩
          · exact ((w_up_same _ _ _ _) : (w_up (w_up (w_up (w_up (w_up (w_up (w_up S 237 126 0) 354 0 103) 237 126 (0 + 1)) 354 1 101) 237 126 ((0 + 1) + 1)) 354 2 116) 237 126 (((0 + 1) + 1) + 1)) 237 126 = (((0 + 1) + 1) + 1))
          · rcases (show i = 0 ∨ i = 1 ∨ i = 2 by omega) with e | e | e
            · rw [e]; exact ((w_up_slot (by first | decide | omega)).trans ((w_up_at (by first | decide | omega)).trans ((w_up_slot (by first | decide | omega)).trans ((w_up_at (by first | decide | omega)).trans ((w_up_slot (by first | decide | omega)).trans (w_up_same _ _ _ _))))))
            · rw [e]; exact ((w_up_slot (by first | decide | omega)).trans ((w_up_at (by first | decide | omega)).trans ((w_up_slot (by first | decide | omega)).trans (w_up_same _ _ _ _))))
            · rw [e]; exact ((w_up_slot (by first | decide | omega)).trans (w_up_same _ _ _ _))
        · skip
          exact absurd c7 (by omega)
theorem rwl83 {nm : Int} {W : List Int} (hX : w_X xs) (hM : w_ML S) (hnm : 0 ≤ nm ∧ nm < 4000) (h82 : S 282 nm = (W.length : Int)) (hWl : W.length ≤ 60) (h81 : ∀ x : Nat, x < W.length → S 281 (60 * nm + (x : Int)) = W.getD x 0) : ∀ (f k : Nat) (A : wS), W.length - k < f → k ≤ W.length → A 237 126 = 2 + (k : Int) → (∀ i : Nat, i < 2 + k → A 354 (i : Int) = (wnW [105, 115] W).getD i 0) → (∀ (j : Nat) (x : Int), ¬ wtM j x → A j x = S j x) → wJ (pe_GA xs) wY0 M (d + 5) t_M_wants ((pe_at t_M_wants.bl 3).getD (0, [])).2 [(0, (2, 237)), (1, (2, (-10 - ((83 : Nat) : Int)))), (2, (0, nm)), (3, (0, (k : Int)))] [] A (fun o Z => o = .inl none ∧ wtI (wnW [105, 115] W) Z ∧ (∀ (j : Nat) (x : Int), ¬ wtM j x → Z j x = S j x)) := by
  have hlen : (wnW [105, 115] W).length = 2 + W.length := by unfold wnW; rw [if_neg (by first | decide | omega), List.length_append, capW_l]; rfl
  intro f
  induction f with
  | zero => intro k A h; exact absurd h (Nat.not_lt_zero _)
  | succ f ih =>
    intro k A hf hk h26 hsg hfr
    have hMA : w_ML A := ML_w hM hfr (fun j z => by unfold wtM at z; omega)
    have e82 : A 282 nm = (W.length : Int) := (hfr 282 nm (by unfold wtM; omega)).trans h82
    refine wa_iload_n (n := 3) rfl ?_
    refine wa_aload_n (n := 0) rfl ?_
    refine wb_gf4 237 rfl (wy_pr rfl) wt_237 wf_15_18 (v := 282) wl_237_18 ?_
    refine wa_iload_n (n := 2) rfl ?_
    refine wb_iald 282 rfl (wy_pr rfl) wt_282 (n := 4000) ((ml_282 hMA)) (by omega) (by omega) (v := (W.length : Int)) (e82) (fun r1 => ?_)
    refine wa_icmpge (w_rg0 (by omega) (by omega)) (w_rg0 (by omega) (by omega)) ⟨_, rfl⟩ (fun c2 => ?_) (fun c2 => ?_)
    · skip
      refine wa_return rfl ?_
      exact ⟨rfl, ⟨by rw [h26, hlen]; omega, fun i hi => hsg i (by omega), by omega⟩, hfr⟩
    · skip
      have hkl : k < W.length := by omega
      have e81 : A 281 ((60 * nm) + (k : Int)) = W.getD k 0 := (hfr 281 _ (by unfold wtM; omega)).trans (h81 k hkl)
      refine wa_aload_n (n := 0) rfl ?_
      refine wb_gf4 237 rfl (wy_pr rfl) wt_237 wf_15_17 (v := 281) wl_237_17 ?_
      refine wa_bipush (w_rg2 (by omega) (by omega)) ?_
      refine wa_iload_n (n := 2) rfl ?_
      refine wa_imul ?_
      refine wa_iload_n (n := 3) rfl ?_
      refine wa_iadd ?_
      refine wb_bald 281 rfl (wy_pr rfl) wt_281 (n := 240000) ((ml_281 hMA)) (by omega) (by omega) (v := (W.getD k 0)) (e81) (fun r3 => ?_)
      refine wa_istore (n := 4) rfl ?_
      refine wa_aload_n (n := 0) rfl ?_
      refine wb_gf4 237 rfl (wy_pr rfl) wt_237 wf_15_127 (v := 354) wl_237_127 ?_
      refine wa_aload_n (n := 0) rfl ?_
      refine wb_gfi 237 rfl (wy_pr rfl) wt_237 wf_15_126 (v := (2 + (k : Int))) (h26) (fun r4 => ?_)
      refine wa_iload_n (n := 3) rfl ?_
      refine wa_ifne (w_rg0 (by omega) (by omega)) ⟨_, rfl⟩ (fun c5 => ?_) (fun c5 => ?_)
      · skip
        refine wa_iload (n := 4) rfl ?_
        refine wa_fall ⟨_, rfl⟩ ?_
        refine wb_i2b_r (wb_i2b_id ⟨(by omega), (by omega)⟩) ?_
        refine wb_bast 354 rfl (wy_pr rfl) wt_354 (n := 72) ((ml_354 hMA)) (by omega) (by omega) ⟨(by omega), (by omega)⟩ ?_
        refine wa_aload_n (n := 0) rfl ?_
        refine wa_dup (by decide) ?_
        refine wb_gfi 237 rfl (wy_pr rfl) wt_237 wf_15_126 (v := (2 + (k : Int))) ((w_up_slot (by decide)).trans (h26)) (fun r6 => ?_)
        refine wa_iconst ?_
        refine wa_iadd ?_
        refine wb_pfi 237 rfl (wy_pr rfl) wt_237 wf_15_126 (n := 126) rfl ⟨(by omega), (by omega)⟩ ?_
        refine wa_iinc rfl rfl ?_
        refine wa_goto ⟨_, rfl⟩ ?_
        refine wJ_S (ih (k + 1) _ (by omega) (by omega) ((w_up_same _ _ _ _).trans (by omega)) (fun i hi => ?_) (fun j x hj => (w_up_no (by unfold wtM at hj; omega)).trans ((w_up_no (by unfold wtM at hj; omega)).trans (hfr j x hj)))) ⟨rfl, rfl, rfl, rfl, trivial⟩
        by_cases ci : i = 2 + k
        · have zi : (2 + (k : Int)) = (i : Int) := by omega
          rw [zi]
          refine (w_up_slot (by first | decide | omega)).trans ((w_up_same _ _ _ _).trans ?_)
          have hr : (wnW [105, 115] W).getD i 0 = (capW W).getD k 0 := by rw [ci]; exact getD_r (a := [105, 115])
          rw [hr]
          cases k with
          | zero => rw [capW_0 (by omega)]; first | (exfalso; omega) | (rw [if_pos (by omega)]) | (rw [if_neg (by omega)])
          | succ k => rw [capW_s]; try omega
        · exact (w_up_slot (by first | decide | omega)).trans ((w_up_at (by omega)).trans (hsg i (by omega)))
      · skip
        refine wa_aload_n (n := 1) rfl ?_
        refine wa_sl 83 rfl (wx_83 hX) rfl rfl ?_
        refine wJ_top (show (tx_83.length : Int) = 2 from rfl) ?_
        refine wa_ifle (w_rg0 (by omega) (by omega)) ⟨_, rfl⟩ (fun c7 => ?_) (fun c7 => ?_)
        · skip
          exact absurd c7 (by omega)
        · skip
          refine wa_iload (n := 4) rfl ?_
          refine wa_i2l (w_rg0 (by omega) (by omega)) ?_
          refine wb_kl (n := 97) rfl ?_
          refine wb_kl (n := 122) rfl ?_
          refine wa_cs (M2 := fun _ => False) rfl at_M_in ⟨_, rfl⟩ rfl rfl ⟨trivial, (Or.inr ⟨wy_pr rfl, fun q => q⟩), (Or.inl (by omega)), trivial, trivial, trivial⟩ ⟨trivial, (Or.inr ⟨wy_pr rfl, fun q => q⟩), trivial⟩ (fun _ _ q => False.elim q) (in_ok (S := A) (a := (W.getD k 0)) (lo := 97) (hi := 122) ⟨by omega, by omega⟩ ⟨by omega, by omega⟩ ⟨by omega, by omega⟩) (fun oq9 Sq9 hp10 q9 => ?_)
          rcases q9 with ⟨rfl, ⟨rfl, hin8⟩ | ⟨rfl, hin8⟩⟩
          · skip
            show wJ _ _ _ _ _ _ _ _ _ _
            refine wa_ifeq (w_rg0 (by omega) (by omega)) ⟨_, rfl⟩ (fun c11 => ?_) (fun c11 => ?_)
            · skip
              exact absurd c11 (by omega)
            · skip
              refine wa_iload (n := 4) rfl ?_
              refine wa_bipush (w_rg2 (by omega) (by omega)) ?_
              refine wa_isub ?_
              refine wa_goto ⟨_, rfl⟩ ?_
              refine wb_i2b_r (wb_i2b_id ⟨(by omega), (by omega)⟩) ?_
              refine wb_bast 354 rfl (wy_pr rfl) wt_354 (n := 72) ((ml_354 hMA)) (by omega) (by omega) ⟨(by omega), (by omega)⟩ ?_
              refine wa_aload_n (n := 0) rfl ?_
              refine wa_dup (by decide) ?_
              refine wb_gfi 237 rfl (wy_pr rfl) wt_237 wf_15_126 (v := (2 + (k : Int))) ((w_up_slot (by decide)).trans (h26)) (fun r12 => ?_)
              refine wa_iconst ?_
              refine wa_iadd ?_
              refine wb_pfi 237 rfl (wy_pr rfl) wt_237 wf_15_126 (n := 126) rfl ⟨(by omega), (by omega)⟩ ?_
              refine wa_iinc rfl rfl ?_
              refine wa_goto ⟨_, rfl⟩ ?_
              refine wJ_S (ih (k + 1) _ (by omega) (by omega) ((w_up_same _ _ _ _).trans (by omega)) (fun i hi => ?_) (fun j x hj => (w_up_no (by unfold wtM at hj; omega)).trans ((w_up_no (by unfold wtM at hj; omega)).trans (hfr j x hj)))) ⟨rfl, rfl, rfl, rfl, trivial⟩
              by_cases ci : i = 2 + k
              · have zi : (2 + (k : Int)) = (i : Int) := by omega
                rw [zi]
                refine (w_up_slot (by first | decide | omega)).trans ((w_up_same _ _ _ _).trans ?_)
                have hr : (wnW [105, 115] W).getD i 0 = (capW W).getD k 0 := by rw [ci]; exact getD_r (a := [105, 115])
                rw [hr]
                cases k with
                | zero => rw [capW_0 (by omega)]; first | (exfalso; omega) | (rw [if_pos (by omega)]) | (rw [if_neg (by omega)])
                | succ k => rw [capW_s]; try omega
              · exact (w_up_slot (by first | decide | omega)).trans ((w_up_at (by omega)).trans (hsg i (by omega)))
          · skip
            show wJ _ _ _ _ _ _ _ _ _ _
            refine wa_ifeq (w_rg0 (by omega) (by omega)) ⟨_, rfl⟩ (fun c13 => ?_) (fun c13 => ?_)
            · skip
              refine wa_iload (n := 4) rfl ?_
              refine wa_fall ⟨_, rfl⟩ ?_
              refine wb_i2b_r (wb_i2b_id ⟨(by omega), (by omega)⟩) ?_
              refine wb_bast 354 rfl (wy_pr rfl) wt_354 (n := 72) ((ml_354 hMA)) (by omega) (by omega) ⟨(by omega), (by omega)⟩ ?_
              refine wa_aload_n (n := 0) rfl ?_
              refine wa_dup (by decide) ?_
              refine wb_gfi 237 rfl (wy_pr rfl) wt_237 wf_15_126 (v := (2 + (k : Int))) ((w_up_slot (by decide)).trans (h26)) (fun r14 => ?_)
              refine wa_iconst ?_
              refine wa_iadd ?_
              refine wb_pfi 237 rfl (wy_pr rfl) wt_237 wf_15_126 (n := 126) rfl ⟨(by omega), (by omega)⟩ ?_
              refine wa_iinc rfl rfl ?_
              refine wa_goto ⟨_, rfl⟩ ?_
              refine wJ_S (ih (k + 1) _ (by omega) (by omega) ((w_up_same _ _ _ _).trans (by omega)) (fun i hi => ?_) (fun j x hj => (w_up_no (by unfold wtM at hj; omega)).trans ((w_up_no (by unfold wtM at hj; omega)).trans (hfr j x hj)))) ⟨rfl, rfl, rfl, rfl, trivial⟩
              by_cases ci : i = 2 + k
              · have zi : (2 + (k : Int)) = (i : Int) := by omega
                rw [zi]
                refine (w_up_slot (by first | decide | omega)).trans ((w_up_same _ _ _ _).trans ?_)
                have hr : (wnW [105, 115] W).getD i 0 = (capW W).getD k 0 := by rw [ci]; exact getD_r (a := [105, 115])
                rw [hr]
                cases k with
                | zero => rw [capW_0 (by omega)]; first | (exfalso; omega) | (rw [if_pos (by omega)]) | (rw [if_neg (by omega)])
                | succ k => rw [capW_s]; try omega
              · exact (w_up_slot (by first | decide | omega)).trans ((w_up_at (by omega)).trans (hsg i (by omega)))
            · skip
              exact absurd c13 (by omega)
theorem rwt83 {nm : Int} {W : List Int} (hX : w_X xs) (hM : w_ML S) (hnm : 0 ≤ nm ∧ nm < 4000) (h82 : S 282 nm = (W.length : Int)) (hWl : W.length ≤ 60) (h81 : ∀ x : Nat, x < W.length → S 281 (60 * nm + (x : Int)) = W.getD x 0) : wJ (pe_GA xs) wY0 M (d + 5) t_M_wants ((pe_at t_M_wants.bl 0).getD (0, [])).2 [(0, (2, 237)), (1, (2, (-10 - ((83 : Nat) : Int)))), (2, (0, nm))] [] S (fun o Z => o = .inl none ∧ wtI (wnW [105, 115] W) Z ∧ (∀ (j : Nat) (x : Int), ¬ wtM j x → Z j x = S j x)) := by
  refine wa_aload_n (n := 0) rfl ?_
  refine wa_iconst ?_
  refine wb_pfi 237 rfl (wy_pr rfl) wt_237 wf_15_126 (n := 126) rfl ⟨(by omega), (by omega)⟩ ?_
  refine wa_iconst ?_
  refine wa_istore_n (n := 3) rfl ?_
  refine wa_fall ⟨_, rfl⟩ ?_
  refine wJ_S (L2 := [(0, (2, 237)), (1, (2, (-10 - ((83 : Nat) : Int)))), (2, (0, nm)), (3, (0, 0))]) ?_ ⟨rfl, rfl, rfl, rfl, trivial⟩
  refine wa_iload_n (n := 3) rfl ?_
  refine wa_aload_n (n := 1) rfl ?_
  refine wa_sl 83 rfl (wx_83 hX) rfl rfl ?_
  refine wJ_top (show (tx_83.length : Int) = 2 from rfl) ?_
  refine wa_icmpge (w_rg0 (by omega) (by omega)) (w_rg0 (by omega) (by omega)) ⟨_, rfl⟩ (fun c1 => ?_) (fun c1 => ?_)
  · skip
    exact absurd c1 (by omega)
  · skip
    refine wa_aload_n (n := 0) rfl ?_
    refine wb_gf4 237 rfl (wy_pr rfl) wt_237 wf_15_127 (v := 354) wl_237_127 ?_
    refine wa_iload_n (n := 3) rfl ?_
    refine wa_aload_n (n := 1) rfl ?_
    refine wa_iload_n (n := 3) rfl ?_
    refine wa_sc 83 rfl (wx_83 hX) (by first | decide | omega) rfl rfl (by first | decide | omega) (by first | decide | omega) ?_
    refine wJ_top (show (w_tx tx_83 0) = 105 by decide) ?_
    refine wb_i2b_r (wb_i2b_id ⟨(by omega), (by omega)⟩) ?_
    refine wb_bast 354 rfl (wy_pr rfl) wt_354 (n := 72) ((w_up_slot (by decide)).trans ((ml_354 hM))) (by omega) (by omega) ⟨(by omega), (by omega)⟩ ?_
    refine wa_aload_n (n := 0) rfl ?_
    refine wa_dup (by decide) ?_
    refine wb_gfi 237 rfl (wy_pr rfl) wt_237 wf_15_126 (v := 0) ((w_up_slot (by decide)).trans (w_up_same _ _ _ _)) (fun r2 => ?_)
    refine wa_iconst ?_
    refine wa_iadd ?_
    refine wb_pfi 237 rfl (wy_pr rfl) wt_237 wf_15_126 (n := 126) rfl ⟨(by omega), (by omega)⟩ ?_
    refine wa_iinc rfl rfl ?_
    refine wa_goto ⟨_, rfl⟩ ?_
    refine wJ_S (L2 := [(0, (2, 237)), (1, (2, (-10 - ((83 : Nat) : Int)))), (2, (0, nm)), (3, (0, 1))]) ?_ ⟨rfl, rfl, rfl, rfl, trivial⟩
    refine wa_iload_n (n := 3) rfl ?_
    refine wa_aload_n (n := 1) rfl ?_
    refine wa_sl 83 rfl (wx_83 hX) rfl rfl ?_
    refine wJ_top (show (tx_83.length : Int) = 2 from rfl) ?_
    refine wa_icmpge (w_rg0 (by omega) (by omega)) (w_rg0 (by omega) (by omega)) ⟨_, rfl⟩ (fun c3 => ?_) (fun c3 => ?_)
    · skip
      exact absurd c3 (by omega)
    · skip
      refine wa_aload_n (n := 0) rfl ?_
      refine wb_gf4 237 rfl (wy_pr rfl) wt_237 wf_15_127 (v := 354) wl_237_127 ?_
      refine wa_iload_n (n := 3) rfl ?_
      refine wa_aload_n (n := 1) rfl ?_
      refine wa_iload_n (n := 3) rfl ?_
      refine wa_sc 83 rfl (wx_83 hX) (by first | decide | omega) rfl rfl (by first | decide | omega) (by first | decide | omega) ?_
      refine wJ_top (show (w_tx tx_83 1) = 115 by decide) ?_
      refine wb_i2b_r (wb_i2b_id ⟨(by omega), (by omega)⟩) ?_
      refine wb_bast 354 rfl (wy_pr rfl) wt_354 (n := 72) ((w_up_slot (by decide)).trans ((w_up_at (by decide)).trans ((w_up_slot (by decide)).trans ((ml_354 hM))))) (by omega) (by omega) ⟨(by omega), (by omega)⟩ ?_
      refine wa_aload_n (n := 0) rfl ?_
      refine wa_dup (by decide) ?_
      refine wb_gfi 237 rfl (wy_pr rfl) wt_237 wf_15_126 (v := (0 + 1)) ((w_up_slot (by decide)).trans (w_up_same _ _ _ _)) (fun r4 => ?_)
      refine wa_iconst ?_
      refine wa_iadd ?_
      refine wb_pfi 237 rfl (wy_pr rfl) wt_237 wf_15_126 (n := 126) rfl ⟨(by omega), (by omega)⟩ ?_
      refine wa_iinc rfl rfl ?_
      refine wa_goto ⟨_, rfl⟩ ?_
      refine wJ_S (L2 := [(0, (2, 237)), (1, (2, (-10 - ((83 : Nat) : Int)))), (2, (0, nm)), (3, (0, 2))]) ?_ ⟨rfl, rfl, rfl, rfl, trivial⟩
      refine wa_iload_n (n := 3) rfl ?_
      refine wa_aload_n (n := 1) rfl ?_
      refine wa_sl 83 rfl (wx_83 hX) rfl rfl ?_
      refine wJ_top (show (tx_83.length : Int) = 2 from rfl) ?_
      refine wa_icmpge (w_rg0 (by omega) (by omega)) (w_rg0 (by omega) (by omega)) ⟨_, rfl⟩ (fun c5 => ?_) (fun c5 => ?_)
      · skip
        refine wa_iconst ?_
        refine wa_istore_n (n := 3) rfl ?_
        refine wa_fall ⟨_, rfl⟩ ?_
        refine wJ_S (rwl83 (S := S) hX hM hnm h82 hWl h81 (W.length + 1) 0 (w_up (w_up (w_up (w_up (w_up S 237 126 0) 354 0 105) 237 126 (0 + 1)) 354 1 115) 237 126 ((0 + 1) + 1)) (by omega) (by omega) ?_ (fun i hi => ?_) (fun j x hj => ((w_up_no (by unfold wtM at hj; omega)).trans ((w_up_no (by unfold wtM at hj; omega)).trans ((w_up_no (by unfold wtM at hj; omega)).trans ((w_up_no (by unfold wtM at hj; omega)).trans (w_up_no (by unfold wtM at hj; omega)))))))) ⟨rfl, rfl, rfl, rfl, trivial⟩
        · exact ((w_up_same _ _ _ _) : (w_up (w_up (w_up (w_up (w_up S 237 126 0) 354 0 105) 237 126 (0 + 1)) 354 1 115) 237 126 ((0 + 1) + 1)) 237 126 = ((0 + 1) + 1))
        · rcases (show i = 0 ∨ i = 1 by omega) with e | e
          · rw [e]; exact ((w_up_slot (by first | decide | omega)).trans ((w_up_at (by first | decide | omega)).trans ((w_up_slot (by first | decide | omega)).trans (w_up_same _ _ _ _))))
          · rw [e]; exact ((w_up_slot (by first | decide | omega)).trans (w_up_same _ _ _ _))
      · skip
        exact absurd c5 (by omega)
theorem rwl53 {nm : Int} {W : List Int} (hX : w_X xs) (hM : w_ML S) (hnm : 0 ≤ nm ∧ nm < 4000) (h82 : S 282 nm = (W.length : Int)) (hWl : W.length ≤ 60) (h81 : ∀ x : Nat, x < W.length → S 281 (60 * nm + (x : Int)) = W.getD x 0) : ∀ (f k : Nat) (A : wS), W.length - k < f → k ≤ W.length → A 237 126 = 0 + (k : Int) → (∀ i : Nat, i < 0 + k → A 354 (i : Int) = (wnW ([] : List Int) W).getD i 0) → (∀ (j : Nat) (x : Int), ¬ wtM j x → A j x = S j x) → wJ (pe_GA xs) wY0 M (d + 5) t_M_wants ((pe_at t_M_wants.bl 3).getD (0, [])).2 [(0, (2, 237)), (1, (2, (-10 - ((53 : Nat) : Int)))), (2, (0, nm)), (3, (0, (k : Int)))] [] A (fun o Z => o = .inl none ∧ wtI (wnW ([] : List Int) W) Z ∧ (∀ (j : Nat) (x : Int), ¬ wtM j x → Z j x = S j x)) := by
  have hlen : (wnW ([] : List Int) W).length = 0 + W.length := by unfold wnW; rw [if_pos rfl]; omega
  intro f
  induction f with
  | zero => intro k A h; exact absurd h (Nat.not_lt_zero _)
  | succ f ih =>
    intro k A hf hk h26 hsg hfr
    have hMA : w_ML A := ML_w hM hfr (fun j z => by unfold wtM at z; omega)
    have e82 : A 282 nm = (W.length : Int) := (hfr 282 nm (by unfold wtM; omega)).trans h82
    refine wa_iload_n (n := 3) rfl ?_
    refine wa_aload_n (n := 0) rfl ?_
    refine wb_gf4 237 rfl (wy_pr rfl) wt_237 wf_15_18 (v := 282) wl_237_18 ?_
    refine wa_iload_n (n := 2) rfl ?_
    refine wb_iald 282 rfl (wy_pr rfl) wt_282 (n := 4000) ((ml_282 hMA)) (by omega) (by omega) (v := (W.length : Int)) (e82) (fun r1 => ?_)
    refine wa_icmpge (w_rg0 (by omega) (by omega)) (w_rg0 (by omega) (by omega)) ⟨_, rfl⟩ (fun c2 => ?_) (fun c2 => ?_)
    · skip
      refine wa_return rfl ?_
      exact ⟨rfl, ⟨by rw [h26, hlen]; omega, fun i hi => hsg i (by omega), by omega⟩, hfr⟩
    · skip
      have hkl : k < W.length := by omega
      have e81 : A 281 ((60 * nm) + (k : Int)) = W.getD k 0 := (hfr 281 _ (by unfold wtM; omega)).trans (h81 k hkl)
      refine wa_aload_n (n := 0) rfl ?_
      refine wb_gf4 237 rfl (wy_pr rfl) wt_237 wf_15_17 (v := 281) wl_237_17 ?_
      refine wa_bipush (w_rg2 (by omega) (by omega)) ?_
      refine wa_iload_n (n := 2) rfl ?_
      refine wa_imul ?_
      refine wa_iload_n (n := 3) rfl ?_
      refine wa_iadd ?_
      refine wb_bald 281 rfl (wy_pr rfl) wt_281 (n := 240000) ((ml_281 hMA)) (by omega) (by omega) (v := (W.getD k 0)) (e81) (fun r3 => ?_)
      refine wa_istore (n := 4) rfl ?_
      refine wa_aload_n (n := 0) rfl ?_
      refine wb_gf4 237 rfl (wy_pr rfl) wt_237 wf_15_127 (v := 354) wl_237_127 ?_
      refine wa_aload_n (n := 0) rfl ?_
      refine wb_gfi 237 rfl (wy_pr rfl) wt_237 wf_15_126 (v := (0 + (k : Int))) (h26) (fun r4 => ?_)
      refine wa_iload_n (n := 3) rfl ?_
      refine wa_ifne (w_rg0 (by omega) (by omega)) ⟨_, rfl⟩ (fun c5 => ?_) (fun c5 => ?_)
      · skip
        refine wa_iload (n := 4) rfl ?_
        refine wa_fall ⟨_, rfl⟩ ?_
        refine wb_i2b_r (wb_i2b_id ⟨(by omega), (by omega)⟩) ?_
        refine wb_bast 354 rfl (wy_pr rfl) wt_354 (n := 72) ((ml_354 hMA)) (by omega) (by omega) ⟨(by omega), (by omega)⟩ ?_
        refine wa_aload_n (n := 0) rfl ?_
        refine wa_dup (by decide) ?_
        refine wb_gfi 237 rfl (wy_pr rfl) wt_237 wf_15_126 (v := (0 + (k : Int))) ((w_up_slot (by decide)).trans (h26)) (fun r6 => ?_)
        refine wa_iconst ?_
        refine wa_iadd ?_
        refine wb_pfi 237 rfl (wy_pr rfl) wt_237 wf_15_126 (n := 126) rfl ⟨(by omega), (by omega)⟩ ?_
        refine wa_iinc rfl rfl ?_
        refine wa_goto ⟨_, rfl⟩ ?_
        refine wJ_S (ih (k + 1) _ (by omega) (by omega) ((w_up_same _ _ _ _).trans (by omega)) (fun i hi => ?_) (fun j x hj => (w_up_no (by unfold wtM at hj; omega)).trans ((w_up_no (by unfold wtM at hj; omega)).trans (hfr j x hj)))) ⟨rfl, rfl, rfl, rfl, trivial⟩
        by_cases ci : i = 0 + k
        · have zi : (0 + (k : Int)) = (i : Int) := by omega
          rw [zi]
          refine (w_up_slot (by first | decide | omega)).trans ((w_up_same _ _ _ _).trans ?_)
          rw [ci, show (wnW ([] : List Int) W) = W from if_pos rfl, Nat.zero_add]; try omega
        · exact (w_up_slot (by first | decide | omega)).trans ((w_up_at (by omega)).trans (hsg i (by omega)))
      · skip
        refine wa_aload_n (n := 1) rfl ?_
        refine wa_sl 53 rfl (wx_53 hX) rfl rfl ?_
        refine wJ_top (show (tx_53.length : Int) = 0 from rfl) ?_
        refine wa_ifle (w_rg0 (by omega) (by omega)) ⟨_, rfl⟩ (fun c7 => ?_) (fun c7 => ?_)
        · skip
          refine wa_iload (n := 4) rfl ?_
          refine wa_fall ⟨_, rfl⟩ ?_
          refine wb_i2b_r (wb_i2b_id ⟨(by omega), (by omega)⟩) ?_
          refine wb_bast 354 rfl (wy_pr rfl) wt_354 (n := 72) ((ml_354 hMA)) (by omega) (by omega) ⟨(by omega), (by omega)⟩ ?_
          refine wa_aload_n (n := 0) rfl ?_
          refine wa_dup (by decide) ?_
          refine wb_gfi 237 rfl (wy_pr rfl) wt_237 wf_15_126 (v := (0 + (k : Int))) ((w_up_slot (by decide)).trans (h26)) (fun r8 => ?_)
          refine wa_iconst ?_
          refine wa_iadd ?_
          refine wb_pfi 237 rfl (wy_pr rfl) wt_237 wf_15_126 (n := 126) rfl ⟨(by omega), (by omega)⟩ ?_
          refine wa_iinc rfl rfl ?_
          refine wa_goto ⟨_, rfl⟩ ?_
          refine wJ_S (ih (k + 1) _ (by omega) (by omega) ((w_up_same _ _ _ _).trans (by omega)) (fun i hi => ?_) (fun j x hj => (w_up_no (by unfold wtM at hj; omega)).trans ((w_up_no (by unfold wtM at hj; omega)).trans (hfr j x hj)))) ⟨rfl, rfl, rfl, rfl, trivial⟩
          by_cases ci : i = 0 + k
          · have zi : (0 + (k : Int)) = (i : Int) := by omega
            rw [zi]
            refine (w_up_slot (by first | decide | omega)).trans ((w_up_same _ _ _ _).trans ?_)
            rw [ci, show (wnW ([] : List Int) W) = W from if_pos rfl, Nat.zero_add]; try omega
          · exact (w_up_slot (by first | decide | omega)).trans ((w_up_at (by omega)).trans (hsg i (by omega)))
        · skip
          exact absurd c7 (by omega)
theorem rwt53 {nm : Int} {W : List Int} (hX : w_X xs) (hM : w_ML S) (hnm : 0 ≤ nm ∧ nm < 4000) (h82 : S 282 nm = (W.length : Int)) (hWl : W.length ≤ 60) (h81 : ∀ x : Nat, x < W.length → S 281 (60 * nm + (x : Int)) = W.getD x 0) : wJ (pe_GA xs) wY0 M (d + 5) t_M_wants ((pe_at t_M_wants.bl 0).getD (0, [])).2 [(0, (2, 237)), (1, (2, (-10 - ((53 : Nat) : Int)))), (2, (0, nm))] [] S (fun o Z => o = .inl none ∧ wtI (wnW ([] : List Int) W) Z ∧ (∀ (j : Nat) (x : Int), ¬ wtM j x → Z j x = S j x)) := by
  refine wa_aload_n (n := 0) rfl ?_
  refine wa_iconst ?_
  refine wb_pfi 237 rfl (wy_pr rfl) wt_237 wf_15_126 (n := 126) rfl ⟨(by omega), (by omega)⟩ ?_
  refine wa_iconst ?_
  refine wa_istore_n (n := 3) rfl ?_
  refine wa_fall ⟨_, rfl⟩ ?_
  refine wJ_S (L2 := [(0, (2, 237)), (1, (2, (-10 - ((53 : Nat) : Int)))), (2, (0, nm)), (3, (0, 0))]) ?_ ⟨rfl, rfl, rfl, rfl, trivial⟩
  refine wa_iload_n (n := 3) rfl ?_
  refine wa_aload_n (n := 1) rfl ?_
  refine wa_sl 53 rfl (wx_53 hX) rfl rfl ?_
  refine wJ_top (show (tx_53.length : Int) = 0 from rfl) ?_
  refine wa_icmpge (w_rg0 (by omega) (by omega)) (w_rg0 (by omega) (by omega)) ⟨_, rfl⟩ (fun c1 => ?_) (fun c1 => ?_)
  · skip
    refine wa_iconst ?_
    refine wa_istore_n (n := 3) rfl ?_
    refine wa_fall ⟨_, rfl⟩ ?_
    refine wJ_S (rwl53 (S := S) hX hM hnm h82 hWl h81 (W.length + 1) 0 (w_up S 237 126 0) (by omega) (by omega) ?_ (fun i hi => ?_) (fun j x hj => (w_up_no (by unfold wtM at hj; omega)))) ⟨rfl, rfl, rfl, rfl, trivial⟩
    · exact ((w_up_same _ _ _ _) : (w_up S 237 126 0) 237 126 = 0)
    · exact absurd hi (Nat.not_lt_zero _)
  · skip
    exact absurd c1 (by omega)
theorem raol {c : Int} {l : List Int} (hM : w_ML S) (ho : odI l S) (hc : 0 ≤ c ∧ c < 60) : ∀ (f k : Nat), l.length - k < f → k ≤ l.length → (∀ i : Nat, i < k → l.getD i 0 ≠ c) → wJ (pe_GA xs) wY0 M d t_M_addOrder ((pe_at t_M_addOrder.bl 1).getD (0, [])).2 [(0, (2, 237)), (1, (0, c)), (2, (0, (k : Int)))] [] S (fun o Z => o = .inl (some (0, bI (decide (c ∉ l)))) ∧ odI (ad_l l c) Z ∧ ∀ (j : Nat) (x : Int), ¬ odM j x → Z j x = S j x) := by
  have h24 : S 237 124 = (l.length : Int) := ho.1
  have hll : (l.length : Int) ≤ 60 := su_nd_len (by first | decide | omega) ho.2.2
  intro f
  induction f with
  | zero => intro k h; exact absurd h (Nat.not_lt_zero _)
  | succ f ih =>
    intro k hf hk hno
    refine wa_iload_n (n := 2) rfl ?_
    refine wa_aload_n (n := 0) rfl ?_
    refine wb_gfi 237 rfl (wy_pr rfl) wt_237 wf_15_124 (v := (l.length : Int)) (h24) (fun r1 => ?_)
    refine wa_icmpge (w_rg0 (by omega) (by omega)) (w_rg0 (by omega) (by omega)) ⟨_, rfl⟩ (fun c2 => ?_) (fun c2 => ?_)
    · skip
      have hnm : c ∉ l := fun z => by obtain ⟨i, hi, e⟩ := List.getElem_of_mem z; exact hno i (by omega) (by rw [List.getD_eq_getElem?_getD, List.getElem?_eq_getElem hi]; exact e)
      have h60 := odI_60 ho.2.2 hc hnm
      refine wa_aload_n (n := 0) rfl ?_
      refine wb_gf4 237 rfl (wy_pr rfl) wt_237 wf_15_125 (v := 353) wl_237_125 ?_
      refine wa_aload_n (n := 0) rfl ?_
      refine wb_gfi 237 rfl (wy_pr rfl) wt_237 wf_15_124 (v := (l.length : Int)) (h24) (fun r3 => ?_)
      refine wa_iload_n (n := 1) rfl ?_
      refine wb_iast 353 rfl (wy_pr rfl) wt_353 (n := 60) ((ml_353 hM)) (by omega) (by omega) ⟨(by omega), (by omega)⟩ ?_
      refine wa_aload_n (n := 0) rfl ?_
      refine wa_dup (by decide) ?_
      refine wb_gfi 237 rfl (wy_pr rfl) wt_237 wf_15_124 (v := (l.length : Int)) ((w_up_slot (by decide)).trans (h24)) (fun r4 => ?_)
      refine wa_iconst ?_
      refine wa_iadd ?_
      refine wb_pfi 237 rfl (wy_pr rfl) wt_237 wf_15_124 (n := 124) rfl ⟨(by omega), (by omega)⟩ ?_
      refine wa_iconst ?_
      refine wa_zreturn rfl (Or.inr rfl) ?_
      refine ⟨congrArg (fun z => Sum.inl (some (0, z))) (bI_t (decide_eq_true hnm)).symm, ?_, fun j x hj => (w_up_no (by unfold odM at hj; omega)).trans (w_up_no (by unfold odM at hj; omega))⟩
      rw [show ad_l l c = l ++ [c] from if_neg hnm]
      refine ⟨(w_up_same _ _ _ _).trans (by rw [List.length_append, List.length_singleton]; omega), fun i hi => ?_, h60.2⟩
      rw [List.length_append, List.length_singleton] at hi
      by_cases ci : i = l.length
      · rw [ci, getD_last]; exact (w_up_slot (by first | decide | omega)).trans (w_up_same _ _ _ _)
      · rw [getD_app (by omega)]; exact (w_up_slot (by first | decide | omega)).trans ((w_up_at (by omega)).trans (ho.2.1 i (by omega)))
    · skip
      have h53 := ho.2.1 k (by omega)
      refine wa_aload_n (n := 0) rfl ?_
      refine wb_gf4 237 rfl (wy_pr rfl) wt_237 wf_15_125 (v := 353) wl_237_125 ?_
      refine wa_iload_n (n := 2) rfl ?_
      refine wb_iald 353 rfl (wy_pr rfl) wt_353 (n := 60) ((ml_353 hM)) (by omega) (by omega) (v := (l.getD k 0)) (h53) (fun r5 => ?_)
      refine wa_iload_n (n := 1) rfl ?_
      refine wa_icmpne (w_rg0 (by omega) (by omega)) (w_rg0 (by omega) (by omega)) ⟨_, rfl⟩ (fun c6 => ?_) (fun c6 => ?_)
      · skip
        refine wa_iinc rfl rfl ?_
        refine wa_goto ⟨_, rfl⟩ ?_
        refine wJ_S (ih (k + 1) (by omega) (by omega) (fun i hi => ?_)) ⟨rfl, rfl, rfl, trivial⟩
        by_cases ci : i = k
        · rw [ci]; omega
        · exact hno i (by omega)
      · skip
        refine wa_iconst ?_
        refine wa_zreturn rfl (Or.inl rfl) ?_
        have hin : c ∈ l := by rw [show c = l.getD k 0 by omega, List.getD_eq_getElem?_getD, List.getElem?_eq_getElem (show k < l.length by omega)]; exact List.getElem_mem _
        exact ⟨congrArg (fun z => Sum.inl (some (0, z))) (bI_f (decide_eq_false (fun z => z hin))).symm, by rw [show ad_l l c = l from if_pos hin]; exact ho, fun j x _ => rfl⟩
theorem rao {c : Int} {l : List Int} (hM : w_ML S) (ho : odI l S) (hc : 0 ≤ c ∧ c < 60) : wJ (pe_GA xs) wY0 M d t_M_addOrder ((pe_at t_M_addOrder.bl 0).getD (0, [])).2 [(0, (2, 237)), (1, (0, c))] [] S (fun o Z => o = .inl (some (0, bI (decide (c ∉ l)))) ∧ odI (ad_l l c) Z ∧ ∀ (j : Nat) (x : Int), ¬ odM j x → Z j x = S j x) := by
  refine wa_iconst ?_
  refine wa_istore_n (n := 2) rfl ?_
  refine wa_fall ⟨_, rfl⟩ ?_
  exact wJ_S (raol hM ho hc (l.length + 1) 0 (by omega) (by omega) (fun i hi => absurd hi (Nat.not_lt_zero _))) ⟨rfl, rfl, rfl, trivial⟩
theorem rosl_241 {c : Int} {D : Nat} {S0 : wS} (hK0 : KR 241 T n cs ms S0) (hw : wHo cs ms os) (hO : wOs cs os) (hc : 0 ≤ c ∧ c < (cs.length : Int)) (hrec : ∀ (s : Int) (l : List Int) (S : wS), 0 ≤ s → s < c → odI l S → iCl cs os s l → w_ML S → KR 241 T n cs ms S → wJ (pe_GA xs) wY0 (fun _ => False) D t_M_ordersSupers ((pe_at t_M_ordersSupers.bl 0).getD (0, [])).2 [(0, (2, 237)), (1, (0, s))] [] S (fun o Z => o = .inl none ∧ odI (so_2 (Ib cs) os l (sup cs s)) Z ∧ ∀ (j : Nat) (x : Int), ¬ odM j x → Z j x = S j x)) (hD : 1 ≤ D) : ∀ (r : List Int) (k : Nat) (l : List Int) (S : wS), r = (sup cs c).drop k → k ≤ (sup cs c).length → odI l S → iCl cs os c l → w_ML S → KR 241 T n cs ms S → wJ (pe_GA xs) wY0 (fun _ => False) (D + 1) t_M_ordersSupers ((pe_at t_M_ordersSupers.bl 1).getD (0, [])).2 [(0, (2, 237)), (1, (0, c)), (2, (0, (k : Int)))] [] S (fun o Z => o = .inl none ∧ odI (so_2 (Ib cs) os l r) Z ∧ ∀ (j : Nat) (x : Int), ¬ odM j x → Z j x = S j x) := by
  have hsp := (hO c hc.1 hc.2).2.1
  have hsl := (hO c hc.1 hc.2).2.2.2.2
  have h60 := hw.1.1
  obtain ⟨E, rfl⟩ : ∃ E : Nat, D = E + 1 := ⟨D - 1, by omega⟩
  intro r
  induction r with
  | nil =>
    intro k l S hr hkl ho hi hM hK
    have hk : (sup cs c).length ≤ k := by
      have z := congrArg List.length hr
      rw [List.length_drop] at z
      have z2 : 0 = (sup cs c).length - k := z
      omega
    have h13 : S 237 13 = 241 := hK.1
    have hcc := KR_c hK hc.1 hc.2
    have h4 : S 245 c = ((sup cs c).length : Int) := hcc.2.2.2.1.1
    refine wa_iload_n (n := 2) rfl ?_
    refine wa_aload_n (n := 0) rfl ?_
    refine wb_gf5 237 rfl (wy_pr rfl) wt_237 wf_15_13 (v := 241) (h13) (fun r1 => ?_)
    refine wb_gf4 241 rfl (wy_pr rfl) wt_241 wf_12_4 (v := 245) wl_241_4 ?_
    refine wa_iload_n (n := 1) rfl ?_
    refine wb_iald 245 rfl (wy_pr rfl) wt_245 (n := 60) ((ml_245 hM)) (by omega) (by omega) (v := ((sup cs c).length : Int)) (h4) (fun r2 => ?_)
    refine wa_icmpge (w_rg0 (by omega) (by omega)) (w_rg0 (by omega) (by omega)) ⟨_, rfl⟩ (fun c3 => ?_) (fun c3 => ?_)
    · skip
      refine wa_return rfl ?_
      exact ⟨rfl, ho, fun j x _ => rfl⟩
    · skip
      exfalso; omega
  | cons s r ih =>
    intro k l S hr hkl ho hi hM hK
    have hk : k < (sup cs c).length := by
      have z := congrArg List.length hr
      rw [List.length_drop, List.length_cons] at z
      omega
    have h13 : S 237 13 = 241 := hK.1
    have hcc := KR_c hK hc.1 hc.2
    have h4 : S 245 c = ((sup cs c).length : Int) := hcc.2.2.2.1.1
    have hdr := List.drop_eq_getElem_cons hk
    rw [← hr] at hdr
    have hs1 : (sup cs c)[k] = s := (List.cons.inj hdr).1.symm
    have hr2 : r = (sup cs c).drop (k + 1) := (List.cons.inj hdr).2
    have hsm : s ∈ sup cs c := by rw [← hs1]; exact List.getElem_mem hk
    have hsr := hsp s hsm
    have h5 : S 246 ((60 * c) + (k : Int)) = s := (hcc.2.2.2.1.2.2.2 k hk).trans (by show (sup cs c).getD k 0 = s; rw [List.getD_eq_getElem?_getD, List.getElem?_eq_getElem hk]; exact hs1)
    have h2 : S 243 s = Ib cs s := (KR_c hK hsr.1 (by omega)).1
    have hIb : Ib cs s = 0 ∨ Ib cs s = 1 := (hw.2.1 s hsr.1 (by omega)).2.2
    rw [so2_c]
    refine wa_iload_n (n := 2) rfl ?_
    refine wa_aload_n (n := 0) rfl ?_
    refine wb_gf5 237 rfl (wy_pr rfl) wt_237 wf_15_13 (v := 241) (h13) (fun r51 => ?_)
    refine wb_gf4 241 rfl (wy_pr rfl) wt_241 wf_12_4 (v := 245) wl_241_4 ?_
    refine wa_iload_n (n := 1) rfl ?_
    refine wb_iald 245 rfl (wy_pr rfl) wt_245 (n := 60) ((ml_245 hM)) (by omega) (by omega) (v := ((sup cs c).length : Int)) (h4) (fun r52 => ?_)
    refine wa_icmpge (w_rg0 (by omega) (by omega)) (w_rg0 (by omega) (by omega)) ⟨_, rfl⟩ (fun c53 => ?_) (fun c53 => ?_)
    · skip
      exfalso; omega
    · skip
      refine wa_aload_n (n := 0) rfl ?_
      refine wb_gf5 237 rfl (wy_pr rfl) wt_237 wf_15_13 (v := 241) (h13) (fun r54 => ?_)
      refine wb_gf4 241 rfl (wy_pr rfl) wt_241 wf_12_5 (v := 246) wl_241_5 ?_
      refine wa_bipush (w_rg2 (by omega) (by omega)) ?_
      refine wa_iload_n (n := 1) rfl ?_
      refine wa_imul ?_
      refine wa_iload_n (n := 2) rfl ?_
      refine wa_iadd ?_
      refine wb_iald 246 rfl (wy_pr rfl) wt_246 (n := 3600) ((ml_246 hM)) (by omega) (by omega) (v := s) (h5) (fun r55 => ?_)
      refine wa_istore_n (n := 3) rfl ?_
      refine wa_aload_n (n := 0) rfl ?_
      refine wb_gf5 237 rfl (wy_pr rfl) wt_237 wf_15_13 (v := 241) (h13) (fun r56 => ?_)
      refine wb_gf4 241 rfl (wy_pr rfl) wt_241 wf_12_2 (v := 243) wl_241_2 ?_
      refine wa_iload_n (n := 3) rfl ?_
      refine wb_zald 243 rfl (wy_pr rfl) wt_243 (n := 60) ((ml_243 hM)) (by omega) (by omega) (v := (Ib cs s)) (h2) (fun r57 => ?_)
      refine wa_ifeq (w_rg0 (by omega) (by omega)) ⟨_, rfl⟩ (fun c58 => ?_) (fun c58 => ?_)
      · skip
        refine wa_iinc rfl rfl ?_
        refine wa_goto ⟨_, rfl⟩ ?_
        rw [if_neg (by omega)]
        exact wJ_S (ih (k + 1) l S hr2 (by omega) ho hi hM hK) ⟨rfl, rfl, rfl, trivial⟩
      · skip
        refine wa_aload_n (n := 0) rfl ?_
        refine wa_iload_n (n := 3) rfl ?_
        refine wa_cv 237 rfl (wy_pr rfl) wt_237 (M2 := fun _ => False) rfl at_M_addOrder ⟨_, rfl⟩ rfl rfl ⟨trivial, (Or.inr ⟨wy_pr rfl, fun q => q⟩), trivial, trivial, trivial⟩ trivial (fun _ _ q => False.elim q) (rao (S := S) (c := s) (l := l) hM ho ⟨by omega, by omega⟩) (fun oq59 Sq59 hp60 q59 => ?_)
        rcases q59 with ⟨rfl, ho2, hf2⟩
        show wJ _ _ _ _ _ _ _ _ _ _
        have hbs := bI_rg (decide (s ∉ l))
        refine wa_ifeq (w_rg0 (by omega) (by omega)) ⟨_, rfl⟩ (fun c61 => ?_) (fun c61 => ?_)
        · skip
          refine wa_iinc rfl rfl ?_
          refine wa_goto ⟨_, rfl⟩ ?_
          have hnl : s ∈ l := by have z := of_decide_eq_false (bI_0 (b := decide (s ∉ l)) (by omega)); exact Decidable.not_not.mp z
          have hI1 : Ib cs s = 1 := by omega
          rw [if_pos hI1, so2_old hi hI1 hsr.2 hnl]
          rw [show ad_l l s = l from if_pos hnl] at ho2
          have hMz : w_ML Sq59 := ML_w hM hf2 (fun j z => by unfold odM at z; omega)
          have hKz : KR 241 T n cs ms Sq59 := KR_ag hK (fun j x hj => hf2 j x (by unfold odM; omega))
          exact wJ_S (wJ_mono (ih (k + 1) l Sq59 hr2 (by omega) ho2 hi hMz hKz) (fun o Z hz => ⟨hz.1, hz.2.1, fun j x hj => (hz.2.2 j x hj).trans (hf2 j x hj)⟩)) ⟨rfl, rfl, rfl, trivial⟩
        · skip
          refine wa_aload_n (n := 0) rfl ?_
          refine wa_iload_n (n := 3) rfl ?_
          have hnl : s ∉ l := of_decide_eq_true (bI_1 (by omega))
          rw [show ad_l l s = l ++ [s] from if_neg hnl] at ho2
          have hMz : w_ML Sq59 := ML_w hM hf2 (fun j z => by unfold odM at z; omega)
          have hKz : KR 241 T n cs ms Sq59 := KR_ag hK (fun j x hj => hf2 j x (by unfold odM; omega))
          refine wa_cv 237 rfl (wy_pr rfl) wt_237 (M2 := fun _ => False) rfl at_M_ordersSupers ⟨_, rfl⟩ rfl rfl ⟨trivial, (Or.inr ⟨wy_pr rfl, fun q => q⟩), trivial, trivial, trivial⟩ trivial (fun _ _ q => False.elim q) (hrec s (l ++ [s]) Sq59 hsr.1 hsr.2 ho2 (iCl_n hi hsr.2) hMz hKz) (fun oq62 Sq62 hp63 q62 => ?_)
          rcases q62 with ⟨rfl, ho3, hf3⟩
          show wJ _ _ _ _ _ _ _ _ _ _
          refine wa_fall ⟨_, rfl⟩ ?_
          refine wa_iinc rfl rfl ?_
          refine wa_goto ⟨_, rfl⟩ ?_
          have hI1 : Ib cs s = 1 := by omega
          rw [so2_new hO ⟨hsr.1, by omega⟩ hI1 hnl] at ho3
          rw [if_pos hI1]
          have hMy : w_ML Sq62 := ML_w hMz hf3 (fun j z => by unfold odM at z; omega)
          have hKy : KR 241 T n cs ms Sq62 := KR_ag hKz (fun j x hj => hf3 j x (by unfold odM; omega))
          exact wJ_S (wJ_mono (ih (k + 1) _ Sq62 hr2 (by omega) ho3 (iCl_s hO hi ⟨hsr.1, by omega⟩) hMy hKy) (fun o Z hz => ⟨hz.1, hz.2.1, fun j x hj => (hz.2.2 j x hj).trans ((hf3 j x hj).trans (hf2 j x hj))⟩)) ⟨rfl, rfl, rfl, trivial⟩
theorem ros_241 {S0 : wS} (hK0 : KR 241 T n cs ms S0) (hw : wHo cs ms os) (hO : wOs cs os) : ∀ (N : Nat) (c : Int) (l : List Int) (S : wS), c.toNat < N → 0 ≤ c → c < (cs.length : Int) → odI l S → iCl cs os c l → w_ML S → KR 241 T n cs ms S → wJ (pe_GA xs) wY0 (fun _ => False) (d + N + 1) t_M_ordersSupers ((pe_at t_M_ordersSupers.bl 0).getD (0, [])).2 [(0, (2, 237)), (1, (0, c))] [] S (fun o Z => o = .inl none ∧ odI (so_2 (Ib cs) os l (sup cs c)) Z ∧ ∀ (j : Nat) (x : Int), ¬ odM j x → Z j x = S j x) := by
  intro N
  induction N with
  | zero => intro c l S h; exact absurd h (Nat.not_lt_zero _)
  | succ N ih =>
    intro c l S hN c0 c1 ho hi hM hK
    refine wa_iconst ?_
    refine wa_istore_n (n := 2) rfl ?_
    refine wa_fall ⟨_, rfl⟩ ?_
    exact wJ_S (rosl_241 (D := d + N + 1) hK0 hw hO ⟨c0, c1⟩ (fun s l S s0 s1 h1 h2 h3 h4 => ih s l S (by omega) s0 (by omega) h1 h2 h3 h4) (by omega) (sup cs c) 0 l S (List.drop_zero).symm (by omega) ho hi hM hK) ⟨rfl, rfl, rfl, trivial⟩
theorem ror3_241 {c : Int} {S0 : wS} (hK0 : KR 241 T n cs ms S0) (hw : wHo cs ms os) (hO : wOs cs os) (hM0 : w_ML S0) (hc : 0 ≤ c ∧ c < (cs.length : Int)) : ∀ (r : List Int) (k : Nat) (l : List Int) (S : wS), r = (cnL cs c).drop k → k ≤ (cnL cs c).length → (∃ t : List Int, l = cnL cs c ++ t) → soC cs os l r = os c → odI l S → (∀ c2 r2, r = c2 :: r2 → iCl cs os c2 l ∧ (r2 ≠ [] → iCl cs os (cs.length : Int) l)) → (∀ (j : Nat) (x : Int), ¬ odM j x → S j x = S0 j x) → wJ (pe_GA xs) wY0 M (d + 63) t_M_orders ((pe_at t_M_orders.bl 3).getD (0, [])).2 [(0, (2, 237)), (2, (0, ((cnL cs c).length : Int))), (3, (0, (k : Int)))] [] S (fun o Z => o = .inl none ∧ odI (os c) Z ∧ ∀ (j : Nat) (x : Int), ¬ odM j x → Z j x = S0 j x) := by
  have h60 := hw.1.1
  have hcl := cnL_lt hO (c.toNat + 1) c (by omega) hc.2
  have hcn : ((cnL cs c).length : Int) ≤ 60 := su_nd_len (by first | decide | omega) ⟨hcl.1, fun x hx => by have := hcl.2 x hx; omega⟩
  intro r
  induction r with
  | nil =>
    intro k l S hr hkl hpre hso ho hicl hf
    have hk : (cnL cs c).length ≤ k := by
      have z := congrArg List.length hr
      rw [List.length_drop] at z
      have z2 : 0 = (cnL cs c).length - k := z
      omega
    refine wa_iload_n (n := 3) rfl ?_
    refine wa_iload_n (n := 2) rfl ?_
    refine wa_icmpge (w_rg0 (by omega) (by omega)) (w_rg0 (by omega) (by omega)) ⟨_, rfl⟩ (fun c1 => ?_) (fun c1 => ?_)
    · skip
      refine wa_return rfl ?_
      exact ⟨rfl, by rw [← hso]; exact ho, hf⟩
    · skip
      exfalso; omega
  | cons s r ih =>
    intro k l S hr hkl hpre hso ho hicl hf
    have hk : k < (cnL cs c).length := by
      have z := congrArg List.length hr
      rw [List.length_drop, List.length_cons] at z
      omega
    have hM : w_ML S := ML_w hM0 hf (fun j z => by unfold odM at z; omega)
    have hK : KR 241 T n cs ms S := KR_ag hK0 (fun j x hj => hf j x (by unfold odM; omega))
    have hdr := List.drop_eq_getElem_cons hk
    rw [← hr] at hdr
    have hs1 : (cnL cs c)[k] = s := (List.cons.inj hdr).1.symm
    have hr2 : r = (cnL cs c).drop (k + 1) := (List.cons.inj hdr).2
    have hsm : s ∈ cnL cs c := by rw [← hs1]; exact List.getElem_mem hk
    have hsr := hcl.2 s hsm
    obtain ⟨t, ht⟩ := hpre
    have hkl2 : k < l.length := by rw [ht, List.length_append]; omega
    have h53 : S 353 (k : Int) = s := (ho.2.1 k hkl2).trans (by rw [ht, List.getD_eq_getElem?_getD, List.getElem?_append_left hk, List.getElem?_eq_getElem hk]; exact hs1)
    have hic := hicl s r rfl
    refine wa_iload_n (n := 3) rfl ?_
    refine wa_iload_n (n := 2) rfl ?_
    refine wa_icmpge (w_rg0 (by omega) (by omega)) (w_rg0 (by omega) (by omega)) ⟨_, rfl⟩ (fun c51 => ?_) (fun c51 => ?_)
    · skip
      exfalso; omega
    · skip
      refine wa_aload_n (n := 0) rfl ?_
      refine wa_aload_n (n := 0) rfl ?_
      refine wb_gf4 237 rfl (wy_pr rfl) wt_237 wf_15_125 (v := 353) wl_237_125 ?_
      refine wa_iload_n (n := 3) rfl ?_
      refine wb_iald 353 rfl (wy_pr rfl) wt_353 (n := 60) ((ml_353 hM)) (by omega) (by omega) (v := s) (h53) (fun r52 => ?_)
      refine wa_cv 237 rfl (wy_pr rfl) wt_237 (M2 := fun _ => False) rfl at_M_ordersSupers ⟨_, rfl⟩ rfl rfl ⟨(Or.inr ⟨wy_pr rfl, fun q => q⟩), trivial, trivial, trivial⟩ trivial (fun _ _ q => False.elim q) (ros_241 (d := d + 1) hK0 hw hO 60 s l S (by omega) hsr.1 (by omega) ho hic.1 hM hK) (fun oq53 Sq53 hp54 q53 => ?_)
      rcases q53 with ⟨rfl, ho3, hf3⟩
      show wJ _ _ _ _ _ _ _ _ _ _
      refine wa_iinc rfl rfl ?_
      refine wa_goto ⟨_, rfl⟩ ?_
      have hsv := (hO s hsr.1 (by omega)).2.1
      obtain ⟨u, hu⟩ := so2_pre (os := os) (I := Ib cs) (sup cs s) l
      refine wJ_S (ih (k + 1) (so_2 (Ib cs) os l (sup cs s)) Sq53 hr2 (by omega) ⟨t ++ u, by rw [hu, ht, List.append_assoc]⟩ hso ho3 (fun c2 r2 hcr => ?_) (fun j x hj => (hf3 j x hj).trans (hf j x hj))) ⟨rfl, rfl, rfl, trivial⟩
      have hfull : iCl cs os (cs.length : Int) (so_2 (Ib cs) os l (sup cs s)) := iCl_so2 hO _ _ (fun z hz => ⟨(hsv z hz).1, by have := (hsv z hz).2; omega⟩) (hic.2 (by rw [hcr]; exact List.cons_ne_nil _ _))
      have hc2 : c2 ∈ cnL cs c := List.mem_of_mem_drop (i := k + 1) (by rw [← hr2, hcr]; exact List.mem_cons_self)
      exact ⟨fun x hx hi hc3 y hy => hfull x hx hi (by have := hcl.2 c2 hc2; omega) y hy, fun _ => hfull⟩
theorem ror1_241 {c : Int} {S0 : wS} (hK0 : KR 241 T n cs ms S0) (hw : wHo cs ms os) (hO : wOs cs os) (hA : wAb cs) (hM0 : w_ML S0) (hc : 0 ≤ c ∧ c < (cs.length : Int)) : ∀ (f : Nat) (k : Int) (l : List Int) (S : wS), (k + 1).toNat ≤ f → -1 ≤ k → k < (cs.length : Int) → l ++ ch_l (Ab cs) (k + 1).toNat k = cnL cs c → odI l S → (∀ (j : Nat) (x : Int), ¬ odM j x → S j x = S0 j x) → wJ (pe_GA xs) wY0 M (d + 63) t_M_orders ((pe_at t_M_orders.bl 1).getD (0, [])).2 [(0, (2, 237)), (2, (0, k))] [] S (fun o Z => o = .inl none ∧ odI (os c) Z ∧ ∀ (j : Nat) (x : Int), ¬ odM j x → Z j x = S0 j x) := by
  have h60 := hw.1.1
  have hcl := cnL_lt hO (c.toNat + 1) c (by omega) hc.2
  have hcn : ((cnL cs c).length : Int) ≤ 60 := su_nd_len (by first | decide | omega) ⟨hcl.1, fun x hx => by have := hcl.2 x hx; omega⟩
  have fin : ∀ (l : List Int) (S : wS), l = cnL cs c → odI l S → (∀ (j : Nat) (x : Int), ¬ odM j x → S j x = S0 j x) → wJ (pe_GA xs) wY0 M (d + 63) t_M_orders ((pe_at t_M_orders.bl 2).getD (0, [])).2 [(0, (2, 237))] [] S (fun o Z => o = .inl none ∧ odI (os c) Z ∧ ∀ (j : Nat) (x : Int), ¬ odM j x → Z j x = S0 j x) := by
    intro l S hl ho hf
    have h24 : S 237 124 = ((cnL cs c).length : Int) := by rw [ho.1, hl]
    have hM : w_ML S := ML_w hM0 hf (fun j z => by unfold odM at z; omega)
    have hcc := cnL_c hO hc.1 hc.2
    have hicl : ∀ c2 r2, cnL cs c = c2 :: r2 → iCl cs os c2 l ∧ (r2 ≠ [] → iCl cs os (cs.length : Int) l) := by
      intro c2 r2 he
      rw [hl]
      by_cases ci : Ib cs c = 1
      · have ha := (hO c hc.1 hc.2).2.2.1 ci
        rw [ha] at hcc
        have hcc2 : cnL cs c = [c] := hcc
        rw [hcc2] at he
        have e1 : c2 = c := (List.cons.inj he).1.symm
        have e2 : r2 = [] := (List.cons.inj he).2.symm
        refine ⟨fun x hx _ hlt => ?_, fun z => absurd e2 z⟩
        rw [hcc2] at hx
        rw [List.mem_singleton.mp hx, e1] at hlt
        omega
      · have hall : ∀ (f : Nat) (k : Int), -1 ≤ k → k < (cs.length : Int) → (k ≠ -1 → Ib cs k = 0) → ∀ x ∈ ch_l (Ab cs) f k, Ib cs x = 0 := by
          intro f
          induction f with
          | zero => intro k _ _ _ x hx; exact absurd hx List.not_mem_nil
          | succ f ih =>
            intro k k0 k1 hk x hx
            by_cases c1 : k = -1
            · rw [c1] at hx; exact absurd hx List.not_mem_nil
            · rw [chl_c c1] at hx
              rcases List.mem_cons.mp hx with e | z
              · rw [e]; exact hk c1
              · have ha := (hO k (by omega) k1).2.2.2.1
                exact ih (Ab cs k) ha.1 (by omega) (hA k (by omega) k1).1 x z
        have hno : ∀ x ∈ cnL cs c, Ib cs x = 0 := hall (c.toNat + 1) c (by omega) hc.2 (fun _ => by have := (hA c hc.1 hc.2).2; omega)
        exact ⟨fun x hx hi => absurd (hno x hx) (by omega), fun _ x hx hi => absurd (hno x hx) (by omega)⟩
    refine wa_aload_n (n := 0) rfl ?_
    refine wb_gfi 237 rfl (wy_pr rfl) wt_237 wf_15_124 (v := ((cnL cs c).length : Int)) (h24) (fun r301 => ?_)
    refine wa_istore_n (n := 2) rfl ?_
    refine wa_iconst ?_
    refine wa_istore_n (n := 3) rfl ?_
    refine wa_fall ⟨_, rfl⟩ ?_
    exact wJ_S (ror3_241 hK0 hw hO hM0 hc (cnL cs c) 0 l S (List.drop_zero).symm (by omega) ⟨[], by rw [hl, List.append_nil]⟩ (by rw [hl]; exact soC_os hO hc.1 hc.2) ho hicl hf) ⟨rfl, rfl, rfl, trivial⟩
  intro f
  induction f with
  | zero =>
    intro k l S hf0 k0 k1 hl ho hf
    have hke : k = -1 := by omega
    have hl2 : l = cnL cs c := by rw [hke] at hl; exact (List.append_nil l).symm.trans hl
    refine wa_iload_n (n := 2) rfl ?_
    refine wa_iflt (w_rg0 (by omega) (by omega)) ⟨_, rfl⟩ (fun c1 => ?_) (fun c1 => ?_)
    · skip
      exact wJ_S (fin l S hl2 ho hf) ⟨rfl, trivial⟩
    · skip
      exfalso; omega
  | succ f ih =>
    intro k l S hf0 k0 k1 hl ho hf
    have hM : w_ML S := ML_w hM0 hf (fun j z => by unfold odM at z; omega)
    have hK : KR 241 T n cs ms S := KR_ag hK0 (fun j x hj => hf j x (by unfold odM; omega))
    have h13 : S 237 13 = 241 := hK.1
    refine wa_iload_n (n := 2) rfl ?_
    refine wa_iflt (w_rg0 (by omega) (by omega)) ⟨_, rfl⟩ (fun c51 => ?_) (fun c51 => ?_)
    · skip
      have hke : k = -1 := by omega
      rw [hke] at hl
      exact wJ_S (fin l S ((List.append_nil l).symm.trans hl) ho hf) ⟨rfl, trivial⟩
    · skip
      have hkn : k ≠ -1 := by omega
      have ha := (hO k (by omega) k1).2.2.2.1
      have e1 : (k + 1).toNat = k.toNat + 1 := by omega
      rw [e1, chl_c hkn] at hl
      have h3 : S 244 k = Ab cs k := (KR_c hK (by omega) k1).2.2.2.1.2.1
      have hnl : k ∉ l := fun z => (List.nodup_append.mp (show (l ++ (k :: ch_l (Ab cs) k.toNat (Ab cs k))).Nodup by rw [hl]; exact hcl.1)).2.2 k z k List.mem_cons_self rfl
      refine wa_aload_n (n := 0) rfl ?_
      refine wa_iload_n (n := 2) rfl ?_
      refine wa_cv 237 rfl (wy_pr rfl) wt_237 (M2 := fun _ => False) rfl at_M_addOrder ⟨_, rfl⟩ rfl rfl ⟨(Or.inr ⟨wy_pr rfl, fun q => q⟩), trivial, trivial⟩ trivial (fun _ _ q => False.elim q) (rao (S := S) (c := k) (l := l) hM ho ⟨by omega, by omega⟩) (fun oq52 Sq52 hp53 q52 => ?_)
      rcases q52 with ⟨rfl, ho2, hf2⟩
      show wJ _ _ _ _ _ _ _ _ _ _
      rw [show ad_l l k = l ++ [k] from if_neg hnl] at ho2
      refine wa_pop (by decide) ?_
      refine wa_aload_n (n := 0) rfl ?_
      refine wb_gf5 237 rfl (wy_pr rfl) wt_237 wf_15_13 (v := 241) (((hf2 237 13 (by unfold odM; omega)).trans (h13))) (fun r54 => ?_)
      refine wb_gf4 241 rfl (wy_pr rfl) wt_241 wf_12_3 (v := 244) wl_241_3 ?_
      refine wa_iload_n (n := 2) rfl ?_
      refine wb_iald 244 rfl (wy_pr rfl) wt_244 (n := 60) (((hf2 244 (-1) (by unfold odM; omega)).trans ((ml_244 hM)))) (by omega) (by omega) (v := (Ab cs k)) (((hf2 244 k (by unfold odM; omega)).trans (h3))) (fun r55 => ?_)
      refine wa_istore_n (n := 2) rfl ?_
      refine wa_goto ⟨_, rfl⟩ ?_
      have hch : ch_l (Ab cs) k.toNat (Ab cs k) = ch_l (Ab cs) ((Ab cs k) + 1).toNat (Ab cs k) := chl_f hO _ _ _ ha.1 (by omega) (by omega) (by omega)
      exact wJ_S (ih (Ab cs k) (l ++ [k]) Sq52 (by omega) ha.1 (by omega) (by rw [List.append_assoc, ← hch]; exact hl) ho2 (fun j x hj => (hf2 j x hj).trans (hf j x hj))) ⟨rfl, rfl, trivial⟩
theorem ror_241 {c : Int} (hM : w_ML S) (hK : KR 241 T n cs ms S) (hw : wHo cs ms os) (hO : wOs cs os) (hA : wAb cs) (hc : 0 ≤ c ∧ c < (cs.length : Int)) : wJ (pe_GA xs) wY0 M (d + 63) t_M_orders ((pe_at t_M_orders.bl 0).getD (0, [])).2 [(0, (2, 237)), (1, (0, c))] [] S (fun o Z => o = .inl none ∧ odI (os c) Z ∧ ∀ (j : Nat) (x : Int), ¬ odM j x → Z j x = S j x) := by
  have hu := chl_u hO hc.1 hc.2
  refine wa_aload_n (n := 0) rfl ?_
  refine wa_iconst ?_
  refine wb_pfi 237 rfl (wy_pr rfl) wt_237 wf_15_124 (n := 124) rfl ⟨(by omega), (by omega)⟩ ?_
  refine wa_iload_n (n := 1) rfl ?_
  refine wa_istore_n (n := 2) rfl ?_
  refine wa_fall ⟨_, rfl⟩ ?_
  refine wJ_S (wJ_mono (ror1_241 (c := c) (S0 := (w_up S 237 124 0)) (KR_ag hK (fun j x hj => w_up_no (by omega))) hw hO hA (fun q hq => (w_up_at (by first | decide | omega)).trans (hM q hq)) hc (c + 1).toNat c [] (w_up S 237 124 0) (by omega) (by omega) hc.2 (by rw [List.nil_append]; exact hu) ⟨w_up_same _ _ _ _, fun i hi => absurd hi (Nat.not_lt_zero _), ⟨List.nodup_nil, fun x hx => absurd hx List.not_mem_nil⟩⟩ (fun j x _ => rfl)) (fun o Z hz => ⟨hz.1, hz.2.1, fun j x hj => (hz.2.2 j x hj).trans (w_up_no (by unfold odM at hj; omega))⟩)) ⟨rfl, rfl, trivial⟩
theorem rosl_261 {c : Int} {D : Nat} {S0 : wS} (hK0 : KR 261 T n cs ms S0) (hw : wHo cs ms os) (hO : wOs cs os) (hc : 0 ≤ c ∧ c < (cs.length : Int)) (hrec : ∀ (s : Int) (l : List Int) (S : wS), 0 ≤ s → s < c → odI l S → iCl cs os s l → w_ML S → KR 261 T n cs ms S → wJ (pe_GA xs) wY0 (fun _ => False) D t_M_ordersSupers ((pe_at t_M_ordersSupers.bl 0).getD (0, [])).2 [(0, (2, 237)), (1, (0, s))] [] S (fun o Z => o = .inl none ∧ odI (so_2 (Ib cs) os l (sup cs s)) Z ∧ ∀ (j : Nat) (x : Int), ¬ odM j x → Z j x = S j x)) (hD : 1 ≤ D) : ∀ (r : List Int) (k : Nat) (l : List Int) (S : wS), r = (sup cs c).drop k → k ≤ (sup cs c).length → odI l S → iCl cs os c l → w_ML S → KR 261 T n cs ms S → wJ (pe_GA xs) wY0 (fun _ => False) (D + 1) t_M_ordersSupers ((pe_at t_M_ordersSupers.bl 1).getD (0, [])).2 [(0, (2, 237)), (1, (0, c)), (2, (0, (k : Int)))] [] S (fun o Z => o = .inl none ∧ odI (so_2 (Ib cs) os l r) Z ∧ ∀ (j : Nat) (x : Int), ¬ odM j x → Z j x = S j x) := by
  have hsp := (hO c hc.1 hc.2).2.1
  have hsl := (hO c hc.1 hc.2).2.2.2.2
  have h60 := hw.1.1
  obtain ⟨E, rfl⟩ : ∃ E : Nat, D = E + 1 := ⟨D - 1, by omega⟩
  intro r
  induction r with
  | nil =>
    intro k l S hr hkl ho hi hM hK
    have hk : (sup cs c).length ≤ k := by
      have z := congrArg List.length hr
      rw [List.length_drop] at z
      have z2 : 0 = (sup cs c).length - k := z
      omega
    have h13 : S 237 13 = 261 := hK.1
    have hcc := KR_c hK hc.1 hc.2
    have h4 : S 265 c = ((sup cs c).length : Int) := hcc.2.2.2.1.1
    refine wa_iload_n (n := 2) rfl ?_
    refine wa_aload_n (n := 0) rfl ?_
    refine wb_gf5 237 rfl (wy_pr rfl) wt_237 wf_15_13 (v := 261) (h13) (fun r1 => ?_)
    refine wb_gf4 261 rfl (wy_pr rfl) wt_261 wf_12_4 (v := 265) wl_261_4 ?_
    refine wa_iload_n (n := 1) rfl ?_
    refine wb_iald 265 rfl (wy_pr rfl) wt_265 (n := 60) ((ml_265 hM)) (by omega) (by omega) (v := ((sup cs c).length : Int)) (h4) (fun r2 => ?_)
    refine wa_icmpge (w_rg0 (by omega) (by omega)) (w_rg0 (by omega) (by omega)) ⟨_, rfl⟩ (fun c3 => ?_) (fun c3 => ?_)
    · skip
      refine wa_return rfl ?_
      exact ⟨rfl, ho, fun j x _ => rfl⟩
    · skip
      exfalso; omega
  | cons s r ih =>
    intro k l S hr hkl ho hi hM hK
    have hk : k < (sup cs c).length := by
      have z := congrArg List.length hr
      rw [List.length_drop, List.length_cons] at z
      omega
    have h13 : S 237 13 = 261 := hK.1
    have hcc := KR_c hK hc.1 hc.2
    have h4 : S 265 c = ((sup cs c).length : Int) := hcc.2.2.2.1.1
    have hdr := List.drop_eq_getElem_cons hk
    rw [← hr] at hdr
    have hs1 : (sup cs c)[k] = s := (List.cons.inj hdr).1.symm
    have hr2 : r = (sup cs c).drop (k + 1) := (List.cons.inj hdr).2
    have hsm : s ∈ sup cs c := by rw [← hs1]; exact List.getElem_mem hk
    have hsr := hsp s hsm
    have h5 : S 266 ((60 * c) + (k : Int)) = s := (hcc.2.2.2.1.2.2.2 k hk).trans (by show (sup cs c).getD k 0 = s; rw [List.getD_eq_getElem?_getD, List.getElem?_eq_getElem hk]; exact hs1)
    have h2 : S 263 s = Ib cs s := (KR_c hK hsr.1 (by omega)).1
    have hIb : Ib cs s = 0 ∨ Ib cs s = 1 := (hw.2.1 s hsr.1 (by omega)).2.2
    rw [so2_c]
    refine wa_iload_n (n := 2) rfl ?_
    refine wa_aload_n (n := 0) rfl ?_
    refine wb_gf5 237 rfl (wy_pr rfl) wt_237 wf_15_13 (v := 261) (h13) (fun r51 => ?_)
    refine wb_gf4 261 rfl (wy_pr rfl) wt_261 wf_12_4 (v := 265) wl_261_4 ?_
    refine wa_iload_n (n := 1) rfl ?_
    refine wb_iald 265 rfl (wy_pr rfl) wt_265 (n := 60) ((ml_265 hM)) (by omega) (by omega) (v := ((sup cs c).length : Int)) (h4) (fun r52 => ?_)
    refine wa_icmpge (w_rg0 (by omega) (by omega)) (w_rg0 (by omega) (by omega)) ⟨_, rfl⟩ (fun c53 => ?_) (fun c53 => ?_)
    · skip
      exfalso; omega
    · skip
      refine wa_aload_n (n := 0) rfl ?_
      refine wb_gf5 237 rfl (wy_pr rfl) wt_237 wf_15_13 (v := 261) (h13) (fun r54 => ?_)
      refine wb_gf4 261 rfl (wy_pr rfl) wt_261 wf_12_5 (v := 266) wl_261_5 ?_
      refine wa_bipush (w_rg2 (by omega) (by omega)) ?_
      refine wa_iload_n (n := 1) rfl ?_
      refine wa_imul ?_
      refine wa_iload_n (n := 2) rfl ?_
      refine wa_iadd ?_
      refine wb_iald 266 rfl (wy_pr rfl) wt_266 (n := 3600) ((ml_266 hM)) (by omega) (by omega) (v := s) (h5) (fun r55 => ?_)
      refine wa_istore_n (n := 3) rfl ?_
      refine wa_aload_n (n := 0) rfl ?_
      refine wb_gf5 237 rfl (wy_pr rfl) wt_237 wf_15_13 (v := 261) (h13) (fun r56 => ?_)
      refine wb_gf4 261 rfl (wy_pr rfl) wt_261 wf_12_2 (v := 263) wl_261_2 ?_
      refine wa_iload_n (n := 3) rfl ?_
      refine wb_zald 263 rfl (wy_pr rfl) wt_263 (n := 60) ((ml_263 hM)) (by omega) (by omega) (v := (Ib cs s)) (h2) (fun r57 => ?_)
      refine wa_ifeq (w_rg0 (by omega) (by omega)) ⟨_, rfl⟩ (fun c58 => ?_) (fun c58 => ?_)
      · skip
        refine wa_iinc rfl rfl ?_
        refine wa_goto ⟨_, rfl⟩ ?_
        rw [if_neg (by omega)]
        exact wJ_S (ih (k + 1) l S hr2 (by omega) ho hi hM hK) ⟨rfl, rfl, rfl, trivial⟩
      · skip
        refine wa_aload_n (n := 0) rfl ?_
        refine wa_iload_n (n := 3) rfl ?_
        refine wa_cv 237 rfl (wy_pr rfl) wt_237 (M2 := fun _ => False) rfl at_M_addOrder ⟨_, rfl⟩ rfl rfl ⟨trivial, (Or.inr ⟨wy_pr rfl, fun q => q⟩), trivial, trivial, trivial⟩ trivial (fun _ _ q => False.elim q) (rao (S := S) (c := s) (l := l) hM ho ⟨by omega, by omega⟩) (fun oq59 Sq59 hp60 q59 => ?_)
        rcases q59 with ⟨rfl, ho2, hf2⟩
        show wJ _ _ _ _ _ _ _ _ _ _
        have hbs := bI_rg (decide (s ∉ l))
        refine wa_ifeq (w_rg0 (by omega) (by omega)) ⟨_, rfl⟩ (fun c61 => ?_) (fun c61 => ?_)
        · skip
          refine wa_iinc rfl rfl ?_
          refine wa_goto ⟨_, rfl⟩ ?_
          have hnl : s ∈ l := by have z := of_decide_eq_false (bI_0 (b := decide (s ∉ l)) (by omega)); exact Decidable.not_not.mp z
          have hI1 : Ib cs s = 1 := by omega
          rw [if_pos hI1, so2_old hi hI1 hsr.2 hnl]
          rw [show ad_l l s = l from if_pos hnl] at ho2
          have hMz : w_ML Sq59 := ML_w hM hf2 (fun j z => by unfold odM at z; omega)
          have hKz : KR 261 T n cs ms Sq59 := KR_ag hK (fun j x hj => hf2 j x (by unfold odM; omega))
          exact wJ_S (wJ_mono (ih (k + 1) l Sq59 hr2 (by omega) ho2 hi hMz hKz) (fun o Z hz => ⟨hz.1, hz.2.1, fun j x hj => (hz.2.2 j x hj).trans (hf2 j x hj)⟩)) ⟨rfl, rfl, rfl, trivial⟩
        · skip
          refine wa_aload_n (n := 0) rfl ?_
          refine wa_iload_n (n := 3) rfl ?_
          have hnl : s ∉ l := of_decide_eq_true (bI_1 (by omega))
          rw [show ad_l l s = l ++ [s] from if_neg hnl] at ho2
          have hMz : w_ML Sq59 := ML_w hM hf2 (fun j z => by unfold odM at z; omega)
          have hKz : KR 261 T n cs ms Sq59 := KR_ag hK (fun j x hj => hf2 j x (by unfold odM; omega))
          refine wa_cv 237 rfl (wy_pr rfl) wt_237 (M2 := fun _ => False) rfl at_M_ordersSupers ⟨_, rfl⟩ rfl rfl ⟨trivial, (Or.inr ⟨wy_pr rfl, fun q => q⟩), trivial, trivial, trivial⟩ trivial (fun _ _ q => False.elim q) (hrec s (l ++ [s]) Sq59 hsr.1 hsr.2 ho2 (iCl_n hi hsr.2) hMz hKz) (fun oq62 Sq62 hp63 q62 => ?_)
          rcases q62 with ⟨rfl, ho3, hf3⟩
          show wJ _ _ _ _ _ _ _ _ _ _
          refine wa_fall ⟨_, rfl⟩ ?_
          refine wa_iinc rfl rfl ?_
          refine wa_goto ⟨_, rfl⟩ ?_
          have hI1 : Ib cs s = 1 := by omega
          rw [so2_new hO ⟨hsr.1, by omega⟩ hI1 hnl] at ho3
          rw [if_pos hI1]
          have hMy : w_ML Sq62 := ML_w hMz hf3 (fun j z => by unfold odM at z; omega)
          have hKy : KR 261 T n cs ms Sq62 := KR_ag hKz (fun j x hj => hf3 j x (by unfold odM; omega))
          exact wJ_S (wJ_mono (ih (k + 1) _ Sq62 hr2 (by omega) ho3 (iCl_s hO hi ⟨hsr.1, by omega⟩) hMy hKy) (fun o Z hz => ⟨hz.1, hz.2.1, fun j x hj => (hz.2.2 j x hj).trans ((hf3 j x hj).trans (hf2 j x hj))⟩)) ⟨rfl, rfl, rfl, trivial⟩
theorem ros_261 {S0 : wS} (hK0 : KR 261 T n cs ms S0) (hw : wHo cs ms os) (hO : wOs cs os) : ∀ (N : Nat) (c : Int) (l : List Int) (S : wS), c.toNat < N → 0 ≤ c → c < (cs.length : Int) → odI l S → iCl cs os c l → w_ML S → KR 261 T n cs ms S → wJ (pe_GA xs) wY0 (fun _ => False) (d + N + 1) t_M_ordersSupers ((pe_at t_M_ordersSupers.bl 0).getD (0, [])).2 [(0, (2, 237)), (1, (0, c))] [] S (fun o Z => o = .inl none ∧ odI (so_2 (Ib cs) os l (sup cs c)) Z ∧ ∀ (j : Nat) (x : Int), ¬ odM j x → Z j x = S j x) := by
  intro N
  induction N with
  | zero => intro c l S h; exact absurd h (Nat.not_lt_zero _)
  | succ N ih =>
    intro c l S hN c0 c1 ho hi hM hK
    refine wa_iconst ?_
    refine wa_istore_n (n := 2) rfl ?_
    refine wa_fall ⟨_, rfl⟩ ?_
    exact wJ_S (rosl_261 (D := d + N + 1) hK0 hw hO ⟨c0, c1⟩ (fun s l S s0 s1 h1 h2 h3 h4 => ih s l S (by omega) s0 (by omega) h1 h2 h3 h4) (by omega) (sup cs c) 0 l S (List.drop_zero).symm (by omega) ho hi hM hK) ⟨rfl, rfl, rfl, trivial⟩
theorem ror3_261 {c : Int} {S0 : wS} (hK0 : KR 261 T n cs ms S0) (hw : wHo cs ms os) (hO : wOs cs os) (hM0 : w_ML S0) (hc : 0 ≤ c ∧ c < (cs.length : Int)) : ∀ (r : List Int) (k : Nat) (l : List Int) (S : wS), r = (cnL cs c).drop k → k ≤ (cnL cs c).length → (∃ t : List Int, l = cnL cs c ++ t) → soC cs os l r = os c → odI l S → (∀ c2 r2, r = c2 :: r2 → iCl cs os c2 l ∧ (r2 ≠ [] → iCl cs os (cs.length : Int) l)) → (∀ (j : Nat) (x : Int), ¬ odM j x → S j x = S0 j x) → wJ (pe_GA xs) wY0 M (d + 63) t_M_orders ((pe_at t_M_orders.bl 3).getD (0, [])).2 [(0, (2, 237)), (2, (0, ((cnL cs c).length : Int))), (3, (0, (k : Int)))] [] S (fun o Z => o = .inl none ∧ odI (os c) Z ∧ ∀ (j : Nat) (x : Int), ¬ odM j x → Z j x = S0 j x) := by
  have h60 := hw.1.1
  have hcl := cnL_lt hO (c.toNat + 1) c (by omega) hc.2
  have hcn : ((cnL cs c).length : Int) ≤ 60 := su_nd_len (by first | decide | omega) ⟨hcl.1, fun x hx => by have := hcl.2 x hx; omega⟩
  intro r
  induction r with
  | nil =>
    intro k l S hr hkl hpre hso ho hicl hf
    have hk : (cnL cs c).length ≤ k := by
      have z := congrArg List.length hr
      rw [List.length_drop] at z
      have z2 : 0 = (cnL cs c).length - k := z
      omega
    refine wa_iload_n (n := 3) rfl ?_
    refine wa_iload_n (n := 2) rfl ?_
    refine wa_icmpge (w_rg0 (by omega) (by omega)) (w_rg0 (by omega) (by omega)) ⟨_, rfl⟩ (fun c1 => ?_) (fun c1 => ?_)
    · skip
      refine wa_return rfl ?_
      exact ⟨rfl, by rw [← hso]; exact ho, hf⟩
    · skip
      exfalso; omega
  | cons s r ih =>
    intro k l S hr hkl hpre hso ho hicl hf
    have hk : k < (cnL cs c).length := by
      have z := congrArg List.length hr
      rw [List.length_drop, List.length_cons] at z
      omega
    have hM : w_ML S := ML_w hM0 hf (fun j z => by unfold odM at z; omega)
    have hK : KR 261 T n cs ms S := KR_ag hK0 (fun j x hj => hf j x (by unfold odM; omega))
    have hdr := List.drop_eq_getElem_cons hk
    rw [← hr] at hdr
    have hs1 : (cnL cs c)[k] = s := (List.cons.inj hdr).1.symm
    have hr2 : r = (cnL cs c).drop (k + 1) := (List.cons.inj hdr).2
    have hsm : s ∈ cnL cs c := by rw [← hs1]; exact List.getElem_mem hk
    have hsr := hcl.2 s hsm
    obtain ⟨t, ht⟩ := hpre
    have hkl2 : k < l.length := by rw [ht, List.length_append]; omega
    have h53 : S 353 (k : Int) = s := (ho.2.1 k hkl2).trans (by rw [ht, List.getD_eq_getElem?_getD, List.getElem?_append_left hk, List.getElem?_eq_getElem hk]; exact hs1)
    have hic := hicl s r rfl
    refine wa_iload_n (n := 3) rfl ?_
    refine wa_iload_n (n := 2) rfl ?_
    refine wa_icmpge (w_rg0 (by omega) (by omega)) (w_rg0 (by omega) (by omega)) ⟨_, rfl⟩ (fun c51 => ?_) (fun c51 => ?_)
    · skip
      exfalso; omega
    · skip
      refine wa_aload_n (n := 0) rfl ?_
      refine wa_aload_n (n := 0) rfl ?_
      refine wb_gf4 237 rfl (wy_pr rfl) wt_237 wf_15_125 (v := 353) wl_237_125 ?_
      refine wa_iload_n (n := 3) rfl ?_
      refine wb_iald 353 rfl (wy_pr rfl) wt_353 (n := 60) ((ml_353 hM)) (by omega) (by omega) (v := s) (h53) (fun r52 => ?_)
      refine wa_cv 237 rfl (wy_pr rfl) wt_237 (M2 := fun _ => False) rfl at_M_ordersSupers ⟨_, rfl⟩ rfl rfl ⟨(Or.inr ⟨wy_pr rfl, fun q => q⟩), trivial, trivial, trivial⟩ trivial (fun _ _ q => False.elim q) (ros_261 (d := d + 1) hK0 hw hO 60 s l S (by omega) hsr.1 (by omega) ho hic.1 hM hK) (fun oq53 Sq53 hp54 q53 => ?_)
      rcases q53 with ⟨rfl, ho3, hf3⟩
      show wJ _ _ _ _ _ _ _ _ _ _
      refine wa_iinc rfl rfl ?_
      refine wa_goto ⟨_, rfl⟩ ?_
      have hsv := (hO s hsr.1 (by omega)).2.1
      obtain ⟨u, hu⟩ := so2_pre (os := os) (I := Ib cs) (sup cs s) l
      refine wJ_S (ih (k + 1) (so_2 (Ib cs) os l (sup cs s)) Sq53 hr2 (by omega) ⟨t ++ u, by rw [hu, ht, List.append_assoc]⟩ hso ho3 (fun c2 r2 hcr => ?_) (fun j x hj => (hf3 j x hj).trans (hf j x hj))) ⟨rfl, rfl, rfl, trivial⟩
      have hfull : iCl cs os (cs.length : Int) (so_2 (Ib cs) os l (sup cs s)) := iCl_so2 hO _ _ (fun z hz => ⟨(hsv z hz).1, by have := (hsv z hz).2; omega⟩) (hic.2 (by rw [hcr]; exact List.cons_ne_nil _ _))
      have hc2 : c2 ∈ cnL cs c := List.mem_of_mem_drop (i := k + 1) (by rw [← hr2, hcr]; exact List.mem_cons_self)
      exact ⟨fun x hx hi hc3 y hy => hfull x hx hi (by have := hcl.2 c2 hc2; omega) y hy, fun _ => hfull⟩
theorem ror1_261 {c : Int} {S0 : wS} (hK0 : KR 261 T n cs ms S0) (hw : wHo cs ms os) (hO : wOs cs os) (hA : wAb cs) (hM0 : w_ML S0) (hc : 0 ≤ c ∧ c < (cs.length : Int)) : ∀ (f : Nat) (k : Int) (l : List Int) (S : wS), (k + 1).toNat ≤ f → -1 ≤ k → k < (cs.length : Int) → l ++ ch_l (Ab cs) (k + 1).toNat k = cnL cs c → odI l S → (∀ (j : Nat) (x : Int), ¬ odM j x → S j x = S0 j x) → wJ (pe_GA xs) wY0 M (d + 63) t_M_orders ((pe_at t_M_orders.bl 1).getD (0, [])).2 [(0, (2, 237)), (2, (0, k))] [] S (fun o Z => o = .inl none ∧ odI (os c) Z ∧ ∀ (j : Nat) (x : Int), ¬ odM j x → Z j x = S0 j x) := by
  have h60 := hw.1.1
  have hcl := cnL_lt hO (c.toNat + 1) c (by omega) hc.2
  have hcn : ((cnL cs c).length : Int) ≤ 60 := su_nd_len (by first | decide | omega) ⟨hcl.1, fun x hx => by have := hcl.2 x hx; omega⟩
  have fin : ∀ (l : List Int) (S : wS), l = cnL cs c → odI l S → (∀ (j : Nat) (x : Int), ¬ odM j x → S j x = S0 j x) → wJ (pe_GA xs) wY0 M (d + 63) t_M_orders ((pe_at t_M_orders.bl 2).getD (0, [])).2 [(0, (2, 237))] [] S (fun o Z => o = .inl none ∧ odI (os c) Z ∧ ∀ (j : Nat) (x : Int), ¬ odM j x → Z j x = S0 j x) := by
    intro l S hl ho hf
    have h24 : S 237 124 = ((cnL cs c).length : Int) := by rw [ho.1, hl]
    have hM : w_ML S := ML_w hM0 hf (fun j z => by unfold odM at z; omega)
    have hcc := cnL_c hO hc.1 hc.2
    have hicl : ∀ c2 r2, cnL cs c = c2 :: r2 → iCl cs os c2 l ∧ (r2 ≠ [] → iCl cs os (cs.length : Int) l) := by
      intro c2 r2 he
      rw [hl]
      by_cases ci : Ib cs c = 1
      · have ha := (hO c hc.1 hc.2).2.2.1 ci
        rw [ha] at hcc
        have hcc2 : cnL cs c = [c] := hcc
        rw [hcc2] at he
        have e1 : c2 = c := (List.cons.inj he).1.symm
        have e2 : r2 = [] := (List.cons.inj he).2.symm
        refine ⟨fun x hx _ hlt => ?_, fun z => absurd e2 z⟩
        rw [hcc2] at hx
        rw [List.mem_singleton.mp hx, e1] at hlt
        omega
      · have hall : ∀ (f : Nat) (k : Int), -1 ≤ k → k < (cs.length : Int) → (k ≠ -1 → Ib cs k = 0) → ∀ x ∈ ch_l (Ab cs) f k, Ib cs x = 0 := by
          intro f
          induction f with
          | zero => intro k _ _ _ x hx; exact absurd hx List.not_mem_nil
          | succ f ih =>
            intro k k0 k1 hk x hx
            by_cases c1 : k = -1
            · rw [c1] at hx; exact absurd hx List.not_mem_nil
            · rw [chl_c c1] at hx
              rcases List.mem_cons.mp hx with e | z
              · rw [e]; exact hk c1
              · have ha := (hO k (by omega) k1).2.2.2.1
                exact ih (Ab cs k) ha.1 (by omega) (hA k (by omega) k1).1 x z
        have hno : ∀ x ∈ cnL cs c, Ib cs x = 0 := hall (c.toNat + 1) c (by omega) hc.2 (fun _ => by have := (hA c hc.1 hc.2).2; omega)
        exact ⟨fun x hx hi => absurd (hno x hx) (by omega), fun _ x hx hi => absurd (hno x hx) (by omega)⟩
    refine wa_aload_n (n := 0) rfl ?_
    refine wb_gfi 237 rfl (wy_pr rfl) wt_237 wf_15_124 (v := ((cnL cs c).length : Int)) (h24) (fun r301 => ?_)
    refine wa_istore_n (n := 2) rfl ?_
    refine wa_iconst ?_
    refine wa_istore_n (n := 3) rfl ?_
    refine wa_fall ⟨_, rfl⟩ ?_
    exact wJ_S (ror3_261 hK0 hw hO hM0 hc (cnL cs c) 0 l S (List.drop_zero).symm (by omega) ⟨[], by rw [hl, List.append_nil]⟩ (by rw [hl]; exact soC_os hO hc.1 hc.2) ho hicl hf) ⟨rfl, rfl, rfl, trivial⟩
  intro f
  induction f with
  | zero =>
    intro k l S hf0 k0 k1 hl ho hf
    have hke : k = -1 := by omega
    have hl2 : l = cnL cs c := by rw [hke] at hl; exact (List.append_nil l).symm.trans hl
    refine wa_iload_n (n := 2) rfl ?_
    refine wa_iflt (w_rg0 (by omega) (by omega)) ⟨_, rfl⟩ (fun c1 => ?_) (fun c1 => ?_)
    · skip
      exact wJ_S (fin l S hl2 ho hf) ⟨rfl, trivial⟩
    · skip
      exfalso; omega
  | succ f ih =>
    intro k l S hf0 k0 k1 hl ho hf
    have hM : w_ML S := ML_w hM0 hf (fun j z => by unfold odM at z; omega)
    have hK : KR 261 T n cs ms S := KR_ag hK0 (fun j x hj => hf j x (by unfold odM; omega))
    have h13 : S 237 13 = 261 := hK.1
    refine wa_iload_n (n := 2) rfl ?_
    refine wa_iflt (w_rg0 (by omega) (by omega)) ⟨_, rfl⟩ (fun c51 => ?_) (fun c51 => ?_)
    · skip
      have hke : k = -1 := by omega
      rw [hke] at hl
      exact wJ_S (fin l S ((List.append_nil l).symm.trans hl) ho hf) ⟨rfl, trivial⟩
    · skip
      have hkn : k ≠ -1 := by omega
      have ha := (hO k (by omega) k1).2.2.2.1
      have e1 : (k + 1).toNat = k.toNat + 1 := by omega
      rw [e1, chl_c hkn] at hl
      have h3 : S 264 k = Ab cs k := (KR_c hK (by omega) k1).2.2.2.1.2.1
      have hnl : k ∉ l := fun z => (List.nodup_append.mp (show (l ++ (k :: ch_l (Ab cs) k.toNat (Ab cs k))).Nodup by rw [hl]; exact hcl.1)).2.2 k z k List.mem_cons_self rfl
      refine wa_aload_n (n := 0) rfl ?_
      refine wa_iload_n (n := 2) rfl ?_
      refine wa_cv 237 rfl (wy_pr rfl) wt_237 (M2 := fun _ => False) rfl at_M_addOrder ⟨_, rfl⟩ rfl rfl ⟨(Or.inr ⟨wy_pr rfl, fun q => q⟩), trivial, trivial⟩ trivial (fun _ _ q => False.elim q) (rao (S := S) (c := k) (l := l) hM ho ⟨by omega, by omega⟩) (fun oq52 Sq52 hp53 q52 => ?_)
      rcases q52 with ⟨rfl, ho2, hf2⟩
      show wJ _ _ _ _ _ _ _ _ _ _
      rw [show ad_l l k = l ++ [k] from if_neg hnl] at ho2
      refine wa_pop (by decide) ?_
      refine wa_aload_n (n := 0) rfl ?_
      refine wb_gf5 237 rfl (wy_pr rfl) wt_237 wf_15_13 (v := 261) (((hf2 237 13 (by unfold odM; omega)).trans (h13))) (fun r54 => ?_)
      refine wb_gf4 261 rfl (wy_pr rfl) wt_261 wf_12_3 (v := 264) wl_261_3 ?_
      refine wa_iload_n (n := 2) rfl ?_
      refine wb_iald 264 rfl (wy_pr rfl) wt_264 (n := 60) (((hf2 264 (-1) (by unfold odM; omega)).trans ((ml_264 hM)))) (by omega) (by omega) (v := (Ab cs k)) (((hf2 264 k (by unfold odM; omega)).trans (h3))) (fun r55 => ?_)
      refine wa_istore_n (n := 2) rfl ?_
      refine wa_goto ⟨_, rfl⟩ ?_
      have hch : ch_l (Ab cs) k.toNat (Ab cs k) = ch_l (Ab cs) ((Ab cs k) + 1).toNat (Ab cs k) := chl_f hO _ _ _ ha.1 (by omega) (by omega) (by omega)
      exact wJ_S (ih (Ab cs k) (l ++ [k]) Sq52 (by omega) ha.1 (by omega) (by rw [List.append_assoc, ← hch]; exact hl) ho2 (fun j x hj => (hf2 j x hj).trans (hf j x hj))) ⟨rfl, rfl, trivial⟩
theorem ror_261 {c : Int} (hM : w_ML S) (hK : KR 261 T n cs ms S) (hw : wHo cs ms os) (hO : wOs cs os) (hA : wAb cs) (hc : 0 ≤ c ∧ c < (cs.length : Int)) : wJ (pe_GA xs) wY0 M (d + 63) t_M_orders ((pe_at t_M_orders.bl 0).getD (0, [])).2 [(0, (2, 237)), (1, (0, c))] [] S (fun o Z => o = .inl none ∧ odI (os c) Z ∧ ∀ (j : Nat) (x : Int), ¬ odM j x → Z j x = S j x) := by
  have hu := chl_u hO hc.1 hc.2
  refine wa_aload_n (n := 0) rfl ?_
  refine wa_iconst ?_
  refine wb_pfi 237 rfl (wy_pr rfl) wt_237 wf_15_124 (n := 124) rfl ⟨(by omega), (by omega)⟩ ?_
  refine wa_iload_n (n := 1) rfl ?_
  refine wa_istore_n (n := 2) rfl ?_
  refine wa_fall ⟨_, rfl⟩ ?_
  refine wJ_S (wJ_mono (ror1_261 (c := c) (S0 := (w_up S 237 124 0)) (KR_ag hK (fun j x hj => w_up_no (by omega))) hw hO hA (fun q hq => (w_up_at (by first | decide | omega)).trans (hM q hq)) hc (c + 1).toNat c [] (w_up S 237 124 0) (by omega) (by omega) hc.2 (by rw [List.nil_append]; exact hu) ⟨w_up_same _ _ _ _, fun i hi => absurd hi (Nat.not_lt_zero _), ⟨List.nodup_nil, fun x hx => absurd hx List.not_mem_nil⟩⟩ (fun j x _ => rfl)) (fun o Z hz => ⟨hz.1, hz.2.1, fun j x hj => (hz.2.2 j x hj).trans (w_up_no (by unfold odM at hj; omega))⟩)) ⟨rfl, rfl, trivial⟩
end Whd
