/-! PART 81: what is asked is the same where the text and the names are; the reference's readsField. -/
section W81
variable {xs : List (Nat × List Int32)} {M : Nat → Prop} {d : Nat} {S A B : wS} {Q : wO → wS → Prop} {b : Nat} {p : Int}
/-- the same text and the same classes' names -/
def zE (A B : wS) (b : Nat) : Prop := A 239 = B 239 ∧ A 237 4 = B 237 4 ∧ A 237 5 = B 237 5 ∧ A b 1 = B b 1 ∧ A (b + 9) = B (b + 9) ∧ A (b + 10) = B (b + 10)
theorem zE_6 (h : zE A B b) (p : Int) : zq A p 237 6 = zq B p 237 6 := by rw [zq_6, zq_6, h.1, h.2.1, h.2.2.1]
theorem zE_8 (h : zE A B b) (p : Int) : zq A p 237 8 = zq B p 237 8 := by rw [zq_8, zq_8, h.1, h.2.1, h.2.2.1]
theorem zE_9 (h : zE A B b) (p : Int) : zq A p 237 9 = zq B p 237 9 := by rw [zq_9, zq_9, h.1, h.2.1, h.2.2.1]
theorem zE_T (h : zE A B b) (p : Int) : zq A p 239 = zq B p 239 := by rw [zq_o (by decide), zq_o (by decide), h.1]
theorem zE_pl (h : zE A B b) (p : Int) (tx : List Int32) : pl_of (zq A p) tx = pl_of (zq B p) tx := pl_f_congr (zE_6 h p) rfl (zE_8 h p) (zE_T h p) tx _ _ _
theorem zE_is (h : zE A B b) (p c : Int) : lx_is (zq A p) c = lx_is (zq B p) c := by unfold lx_is; rw [zE_6 h p, zE_9 h p]
theorem zE_w (h : zE A B b) (p : Int) (tx : List Int32) : lx_w (zq A p) tx = lx_w (zq B p) tx := by
  unfold lx_w
  rw [zE_6 h p, zE_8 h p, zE_T h p, zq_7, zq_7]
theorem zE_oo (h : zE A B b) (p : Int) (tx : List Int32) : lx_oo (zq A p) tx = lx_oo (zq B p) tx := by unfold lx_oo; rw [zE_6 h p, zE_pl h p]
theorem zE_ne (h : zE A B b) (p : Int) : lx_ne (zq A p) p = lx_ne (zq B p) p := by
  unfold lx_ne
  rw [zE_T h p, zq_4, zq_4, zq_5, zq_5, h.2.1, h.2.2.1]
theorem zE_ch (h : zE A B b) (hb : b ≠ 237 ∧ b + 9 ≠ 237 ∧ b + 10 ≠ 237) (p : Int) : ch_of (zq A p) b = ch_of (zq B p) b := by
  unfold ch_of
  rw [zE_6 h p, zE_8 h p, zE_T h p, zq_7, zq_7, zq_o hb.1, zq_o hb.1, zq_o hb.2.1, zq_o hb.2.1, zq_o hb.2.2, zq_o hb.2.2, h.2.2.2.1, h.2.2.2.2.1, h.2.2.2.2.2]
theorem zE_type (h : zE A B b) (hb : b ≠ 237 ∧ b + 9 ≠ 237 ∧ b + 10 ≠ 237) (p av : Int) : hy_type (zq A p) b p av = hy_type (zq B p) b p av := by
  unfold hy_type
  rw [zE_6 h p, zE_pl h p, zE_ch h hb p, zE_ne h p]
theorem zE_pr (h : zE A B b) (hb : b ≠ 237 ∧ b + 9 ≠ 237 ∧ b + 10 ≠ 237) : ∀ (f : Nat) (p : Int) (l : List Int), pr_f A b f p l = pr_f B b f p l := by
  intro f
  induction f with
  | zero => intro p l; rfl
  | succ f ih =>
    intro p l
    rw [pr_f_s, pr_f_s, zE_6 h p, zE_pl h p, zE_ch h hb p, zE_type h hb p]
    cases hy_type (zq B p) b p 0 with
    | inl e => rfl
    | inr tq =>
      obtain ⟨t, q⟩ := tq
      simp only [zE_is h q, zE_ne h q, ih]
theorem zE_pq (h : zE A B b) (hb : b ≠ 237 ∧ b + 9 ≠ 237 ∧ b + 10 ≠ 237) (p : Int) : pq_r A b p = pq_r B b p := by
  unfold pq_r
  rw [zE_is h p, zE_pr h hb, h.2.1]
/-- and the same rows of members up to m -/
theorem dp_f_congr {m : Int} {l : List Int} (hT : A 239 = B 239) (h12 : A (b + 12) = B (b + 12)) (h15 : A (b + 15) = B (b + 15)) (h17 : A (b + 17) = B (b + 17)) (h18 : A (b + 18) = B (b + 18)) (h19 : A (b + 19) = B (b + 19)) : ∀ (f : Nat) (k : Int), dp_f A b m l f k = dp_f B b m l f k := by
  intro f
  induction f with
  | zero => intro k; rfl
  | succ f ih =>
    intro k
    have ha : al_q A b m l k = al_q B b m l k := by unfold al_q; rw [hT, h12, h15, h17, h18, h19]
    rw [dp_f_s, dp_f_s, ha, ih]
theorem zE_pk {c m : Int} {r : (Int × Int) ⊕ (Int × List Int × Int)} (h : zE A B b) (h7 : A (b + 7) = B (b + 7)) (h12 : A (b + 12) = B (b + 12)) (h15 : A (b + 15) = B (b + 15)) (h17 : A (b + 17) = B (b + 17)) (h18 : A (b + 18) = B (b + 18)) (h19 : A (b + 19) = B (b + 19)) : pq_k A b c m r = pq_k B b c m r := by
  cases r with
  | inl e => rfl
  | inr t =>
    obtain ⟨q, l, v⟩ := t
    show (if lx_is (zq A q) 41 = true then (if dp_f A b m l ((m - A (b + 7) c).toNat + 1) (A (b + 7) c) = true then (.inl (7, q) : (Int × Int) ⊕ (Int × List Int × Int)) else .inr (lx_ne (zq A q) q, l, v)) else .inl (1, q)) = (if lx_is (zq B q) 41 = true then (if dp_f B b m l ((m - B (b + 7) c).toNat + 1) (B (b + 7) c) = true then .inl (7, q) else .inr (lx_ne (zq B q) q, l, v)) else .inl (1, q))
    rw [zE_is h q, zE_ne h q, h7, dp_f_congr h.1 h12 h15 h17 h18 h19]
/-- a field of m's name is there before m -/
def df_f (A : wS) (b : Nat) (m : Int) : Nat → Int → Bool
  | 0, _ => false
  | f + 1, k => if k < m then (decide (A (b + 12) k = 0) && tp_q (A 239) (A (b + 18) k) (A (b + 19) k) (A (b + 18) m) (A (b + 19) m)) || df_f A b m f (k + 1) else false
theorem df_f_s (A : wS) (b : Nat) (m : Int) (f : Nat) (k : Int) : df_f A b m (f + 1) k = if k < m then (decide (A (b + 12) k = 0) && tp_q (A 239) (A (b + 18) k) (A (b + 19) k) (A (b + 18) m) (A (b + 19) m)) || df_f A b m f (k + 1) else false := rfl
/-- a field: a fault, or none -/
def rf_of (A : wS) (b : Nat) (c m p pl : Int) : Option (Int × Int) := if lx_is (zq A p) 59 = true ∧ A (b + 14) m ≠ 0 then (if df_f A b m ((m - A (b + 7) c).toNat + 1) (A (b + 7) c) = true then some (2, pl) else if A (b + 2) c = 0 then none else some (6, pl)) else some (1, p)
theorem rf_3_241 {c m p pl : Int} {R : Option (Int × Int)} (hA15 : A 237 15 = 241) (hm : 0 ≤ m ∧ m < 400) (hmm : ho_mm A 241 m) (hm2 : 0 ≤ A 259 m ∧ A 259 m ≤ A 260 m ∧ A 260 m ≤ 65540) (hfi : 0 ≤ A 248 c ∧ A 248 c ≤ m) (hcc : 0 ≤ c ∧ c < 60) (hE : lx_E A A p) (hpl : 0 ≤ pl ∧ pl ≤ 65540) : ∀ (f : Nat) (k : Int), (m - k).toNat < f → 0 ≤ k → k ≤ m → (if df_f A 241 m f k = true then some (2, pl) else if A 243 c = 0 then none else some (6, pl)) = R → wJ (pe_GA xs) wY0 M (d + 6) t_M_readsField ((pe_at t_M_readsField.bl 3).getD (0, [])).2 [(0, (2, 237)), (1, (0, c)), (2, (0, m)), (3, (0, pl)), (4, (0, k))] [] (w_up (w_up (w_up A 253 m 0) 256 m 0) 257 m 0) (fun o S2 => (R = none ∧ o = .inl none ∧ (w_up (w_up (w_up A 253 m 0) 256 m 0) 257 m 0) = S2) ∨ (∃ e q : Int, R = some (e, q) ∧ o = .inr 238 ∧ hm_ag 241 m A S2 ∧ S2 238 5 = e ∧ S2 238 6 = q)) := by
  intro f
  induction f with
  | zero => intros; omega
  | succ f ih =>
    intro k hf hk0 hkm he
    have hMz : w_ML A := hE.1.1
    have h7 : A 237 7 = p := hE.1.2.2.2.1
    have hagA : hm_ag 241 m A (w_up (w_up (w_up A 253 m 0) 256 m 0) 257 m 0) := hm_ag_up (hm_ag_up (hm_ag_up hm_ag_rf (by decide) (by omega) (by decide)) (by decide) (by omega) (by decide)) (by decide) (by omega) (by decide)
    rw [df_f_s] at he
    have hmk := fun (z : k < m) => hmm k hk0 z
    have hMZ : w_ML (w_up (w_up (w_up A 253 m 0) 256 m 0) 257 m 0) := hm_ag_ML hagA hm.1 hMz
    have z15 : (w_up (w_up (w_up A 253 m 0) 256 m 0) 257 m 0) 237 15 = 241 := hA15
    have z18 : (w_up (w_up (w_up A 253 m 0) 256 m 0) 257 m 0) 259 = A 259 := rfl
    have z19 : (w_up (w_up (w_up A 253 m 0) 256 m 0) 257 m 0) 260 = A 260 := rfl
    refine wa_iload (n := 4) rfl ?_
    refine wa_iload_n (n := 2) rfl ?_
    refine wa_icmpge (w_rg0 (by omega) (by omega)) (w_rg0 (by omega) (by omega)) ⟨_, rfl⟩ (fun c1 => ?_) (fun c1 => ?_)
    · skip
      refine wa_aload_n (n := 0) rfl ?_
      refine wb_gf5 237 rfl (wy_pr rfl) wt_237 wf_15_15 (v := 241) ((w_up_slot (by decide)).trans ((w_up_slot (by decide)).trans ((w_up_slot (by decide)).trans (hA15)))) (fun r2 => ?_)
      refine wb_gf4 241 rfl (wy_pr rfl) wt_241 wf_12_2 (v := 243) wl_241_2 ?_
      refine wa_iload_n (n := 1) rfl ?_
      refine wb_zald 243 rfl (wy_pr rfl) wt_243 (n := 60) ((w_up_slot (by decide)).trans ((w_up_slot (by decide)).trans ((w_up_slot (by decide)).trans ((ml_243 hMz))))) (by omega) (by omega) (v := (A 243 c)) ((w_up_slot (by decide)).trans ((w_up_slot (by decide)).trans (w_up_slot (by decide)))) (fun r3 => ?_)
      refine wa_ifeq (w_rg0 (by omega) (by omega)) ⟨_, rfl⟩ (fun c4 => ?_) (fun c4 => ?_)
      · skip
        refine wa_return rfl ?_
        rw [if_neg (show ¬ k < m by omega), if_neg (by decide), if_pos (by omega)] at he
        exact Or.inl ⟨he.symm, rfl, rfl⟩
      · skip
        refine wa_aload_n (n := 0) rfl ?_
        refine wb_gf4 237 rfl (wy_pr rfl) wt_237 wf_15_1 (v := 238) wl_237_1 ?_
        refine wa_bipush (w_rg2 (by omega) (by omega)) ?_
        refine wa_iload_n (n := 3) rfl ?_
        refine wa_cv 238 rfl (wy_pr rfl) wt_238 (M2 := fun _ => False) rfl at_MH_of ⟨_, rfl⟩ rfl rfl ⟨(Or.inr ⟨wy_pr rfl, fun q => q⟩), trivial, trivial, trivial, trivial, trivial⟩ trivial (fun _ _ q => False.elim q) ?_ (fun _ _ _ q => q)
        refine wa_aload_n (n := 0) rfl ?_
        refine wa_iload_n (n := 1) rfl ?_
        refine wb_pfi 238 rfl (wy_pr rfl) wt_238 wf_11_5 (n := 5) rfl ⟨(by omega), (by omega)⟩ ?_
        refine wa_aload_n (n := 0) rfl ?_
        refine wa_iload_n (n := 2) rfl ?_
        refine wb_pfi 238 rfl (wy_pr rfl) wt_238 wf_11_6 (n := 6) rfl ⟨(by omega), (by omega)⟩ ?_
        refine wa_aload_n (n := 0) rfl ?_
        refine wa_oreturn rfl ?_
        show wJ _ _ _ _ _ _ _ _ _ _
        refine wa_th (j := 238) ?_
        rw [if_neg (show ¬ k < m by omega), if_neg (by decide), if_neg (by omega)] at he
        exact Or.inr ⟨_, _, he.symm, rfl, hm_ag_hl hagA, rfl, rfl⟩
    · skip
      refine wa_aload_n (n := 0) rfl ?_
      refine wb_gf5 237 rfl (wy_pr rfl) wt_237 wf_15_15 (v := 241) ((w_up_slot (by decide)).trans ((w_up_slot (by decide)).trans ((w_up_slot (by decide)).trans (hA15)))) (fun r5 => ?_)
      refine wb_gf4 241 rfl (wy_pr rfl) wt_241 wf_12_13 (v := 253) wl_241_13 ?_
      refine wa_iload (n := 4) rfl ?_
      refine wb_iald 253 rfl (wy_pr rfl) wt_253 (n := 400) ((w_up_slot (by decide)).trans ((w_up_slot (by decide)).trans ((w_up_at (by omega)).trans ((ml_253 hMz))))) (by omega) (by omega) (v := (A 253 k)) ((w_up_slot (by decide)).trans ((w_up_slot (by decide)).trans (w_up_at (by omega)))) (fun r6 => ?_)
      refine wa_ifne (w_rg0 (by omega) (by omega)) ⟨_, rfl⟩ (fun c7 => ?_) (fun c7 => ?_)
      · skip
        refine wa_iinc rfl rfl ?_
        refine wa_goto ⟨_, rfl⟩ ?_
        have hal : (decide (A (241 + 12) k = 0) && tp_q (A 239) (A (241 + 18) k) (A (241 + 19) k) (A (241 + 18) m) (A (241 + 19) m)) = false := by
          first | (rw [decide_eq_false (show ¬ A (241 + 12) k = 0 from (show ¬ A 253 k = 0 by omega)), Bool.false_and]) | (rw [show tp_q (A 239) (A (241 + 18) k) (A (241 + 19) k) (A (241 + 18) m) (A (241 + 19) m) = false from gs, Bool.and_false])
        rw [if_pos (show k < m by omega), hal, Bool.false_or] at he
        exact wJ_S (ih (k + 1) (by omega) (by omega) (by omega) he) ⟨rfl, rfl, rfl, rfl, rfl, trivial⟩
      · skip
        refine wa_aload_n (n := 0) rfl ?_
        refine wa_iload (n := 4) rfl ?_
        refine wa_iload_n (n := 2) rfl ?_
        refine wa_cv 237 rfl (wy_pr rfl) wt_237 (M2 := fun _ => False) rfl at_M_sameOnTape ⟨_, rfl⟩ rfl rfl ⟨(Or.inr ⟨wy_pr rfl, fun q => q⟩), trivial, trivial, trivial, trivial, trivial⟩ trivial (fun _ _ q => False.elim q) (sameOnTape_241 (S := (w_up (w_up (w_up A 253 m 0) 256 m 0) 257 m 0)) hMZ z15 ⟨by omega, by omega⟩ ⟨by omega, by omega⟩ (by rw [z18, z19]; exact (hmk (by omega)).1) (by rw [z18, z19]; exact hm2)) (fun oq8 Sq8 hp9 q8 => ?_)
        rcases q8 with ⟨rfl, ⟨rfl, gs⟩ | ⟨rfl, gs⟩⟩
        · skip
          show wJ _ _ _ _ _ _ _ _ _ _
          refine wa_ifeq (w_rg0 (by omega) (by omega)) ⟨_, rfl⟩ (fun c10 => ?_) (fun c10 => ?_)
          · skip
            exact absurd c10 (by omega)
          · skip
            refine wa_aload_n (n := 0) rfl ?_
            refine wb_gf4 237 rfl (wy_pr rfl) wt_237 wf_15_1 (v := 238) wl_237_1 ?_
            refine wa_iconst ?_
            refine wa_iload_n (n := 3) rfl ?_
            refine wa_cv 238 rfl (wy_pr rfl) wt_238 (M2 := fun _ => False) rfl at_MH_of ⟨_, rfl⟩ rfl rfl ⟨(Or.inr ⟨wy_pr rfl, fun q => q⟩), trivial, trivial, trivial, trivial, trivial⟩ trivial (fun _ _ q => False.elim q) ?_ (fun _ _ _ q => q)
            refine wa_aload_n (n := 0) rfl ?_
            refine wa_iload_n (n := 1) rfl ?_
            refine wb_pfi 238 rfl (wy_pr rfl) wt_238 wf_11_5 (n := 5) rfl ⟨(by omega), (by omega)⟩ ?_
            refine wa_aload_n (n := 0) rfl ?_
            refine wa_iload_n (n := 2) rfl ?_
            refine wb_pfi 238 rfl (wy_pr rfl) wt_238 wf_11_6 (n := 6) rfl ⟨(by omega), (by omega)⟩ ?_
            refine wa_aload_n (n := 0) rfl ?_
            refine wa_oreturn rfl ?_
            show wJ _ _ _ _ _ _ _ _ _ _
            refine wa_th (j := 238) ?_
            have hal : (decide (A (241 + 12) k = 0) && tp_q (A 239) (A (241 + 18) k) (A (241 + 19) k) (A (241 + 18) m) (A (241 + 19) m)) = true := by
              rw [decide_eq_true (show A (241 + 12) k = 0 from (show A 253 k = 0 by omega)), show tp_q (A 239) (A (241 + 18) k) (A (241 + 19) k) (A (241 + 18) m) (A (241 + 19) m) = true from gs]; rfl
            rw [if_pos (show k < m by omega), hal, Bool.true_or, if_pos rfl] at he
            exact Or.inr ⟨_, _, he.symm, rfl, hm_ag_hl hagA, rfl, rfl⟩
        · skip
          show wJ _ _ _ _ _ _ _ _ _ _
          refine wa_ifeq (w_rg0 (by omega) (by omega)) ⟨_, rfl⟩ (fun c11 => ?_) (fun c11 => ?_)
          · skip
            refine wa_iinc rfl rfl ?_
            refine wa_goto ⟨_, rfl⟩ ?_
            have hal : (decide (A (241 + 12) k = 0) && tp_q (A 239) (A (241 + 18) k) (A (241 + 19) k) (A (241 + 18) m) (A (241 + 19) m)) = false := by
              first | (rw [decide_eq_false (show ¬ A (241 + 12) k = 0 from (show ¬ A 253 k = 0 by omega)), Bool.false_and]) | (rw [show tp_q (A 239) (A (241 + 18) k) (A (241 + 19) k) (A (241 + 18) m) (A (241 + 19) m) = false from gs, Bool.and_false])
            rw [if_pos (show k < m by omega), hal, Bool.false_or] at he
            exact wJ_S (ih (k + 1) (by omega) (by omega) (by omega) he) ⟨rfl, rfl, rfl, rfl, rfl, trivial⟩
          · skip
            exact absurd c11 (by omega)
theorem readsField_241 {c m p pl : Int} {R : Option (Int × Int)} (hA15 : A 237 15 = 241) (hm : 0 ≤ m ∧ m < 400) (hmm : ho_mm A 241 m) (hm2 : 0 ≤ A 259 m ∧ A 259 m ≤ A 260 m ∧ A 260 m ≤ 65540) (hfi : 0 ≤ A 248 c ∧ A 248 c ≤ m) (hcc : 0 ≤ c ∧ c < 60) (hE : lx_E A A p) (hpl : 0 ≤ pl ∧ pl ≤ 65540) (he : rf_of A 241 c m p pl = R) : wJ (pe_GA xs) wY0 M (d + 6) t_M_readsField ((pe_at t_M_readsField.bl 0).getD (0, [])).2 [(0, (2, 237)), (1, (0, c)), (2, (0, m)), (3, (0, pl))] [] A (fun o S2 => (R = none ∧ o = .inl none ∧ (w_up (w_up (w_up A 253 m 0) 256 m 0) 257 m 0) = S2) ∨ (∃ e q : Int, R = some (e, q) ∧ o = .inr 238 ∧ hm_ag 241 m A S2 ∧ S2 238 5 = e ∧ S2 238 6 = q)) := by
    have hMz : w_ML A := hE.1.1
    have h7 : A 237 7 = p := hE.1.2.2.2.1
    have hagA : hm_ag 241 m A (w_up (w_up (w_up A 253 m 0) 256 m 0) 257 m 0) := hm_ag_up (hm_ag_up (hm_ag_up hm_ag_rf (by decide) (by omega) (by decide)) (by decide) (by omega) (by decide)) (by decide) (by omega) (by decide)
    replace he : (if lx_is (zq A p) 59 = true ∧ A 255 m ≠ 0 then (if df_f A 241 m ((m - A 248 c).toNat + 1) (A 248 c) = true then some (2, pl) else if A 243 c = 0 then none else some (6, pl)) else some (1, p)) = R := he
    refine wa_aload_n (n := 0) rfl ?_
    refine wa_aload_n (n := 0) rfl ?_
    refine wa_bipush (w_rg2 (by omega) (by omega)) ?_
    refine wa_cv 237 rfl (wy_pr rfl) wt_237 (M2 := fun _ => False) rfl at_M_isSign ⟨_, rfl⟩ rfl rfl ⟨(Or.inr ⟨wy_pr rfl, fun q => q⟩), trivial, trivial, trivial, trivial⟩ ⟨(Or.inr ⟨wy_pr rfl, fun q => q⟩), trivial⟩ (fun _ _ q => False.elim q) (isSign_ok ⟨by omega, by omega⟩) (fun oq1 Sq1 hp2 q1 => ?_)
    rcases q1 with ⟨rfl, ⟨rfl, gi⟩ | ⟨rfl, gi⟩⟩
    · skip
      show wJ _ _ _ _ _ _ _ _ _ _
      rw [lx_E_is hE] at gi
      refine wa_ifeq (w_rg0 (by omega) (by omega)) ⟨_, rfl⟩ (fun c3 => ?_) (fun c3 => ?_)
      · skip
        exact absurd c3 (by omega)
      · skip
        refine wa_aload_n (n := 0) rfl ?_
        refine wb_gf5 237 rfl (wy_pr rfl) wt_237 wf_15_15 (v := 241) (hA15) (fun r4 => ?_)
        refine wb_gf4 241 rfl (wy_pr rfl) wt_241 wf_12_15 (v := 255) wl_241_15 ?_
        refine wa_iload_n (n := 2) rfl ?_
        refine wb_iald 255 rfl (wy_pr rfl) wt_255 (n := 400) ((ml_255 hMz)) (by omega) (by omega) (v := (A 255 m)) rfl (fun r5 => ?_)
        refine wa_ifeq (w_rg0 (by omega) (by omega)) ⟨_, rfl⟩ (fun c6 => ?_) (fun c6 => ?_)
        · skip
          refine wa_iconst ?_
          refine wa_fall ⟨_, rfl⟩ ?_
          refine wa_iconst ?_
          refine wa_cv 237 rfl (wy_pr rfl) wt_237 (M2 := fun _ => False) rfl at_M_must ⟨_, rfl⟩ rfl rfl ⟨(Or.inr ⟨wy_pr rfl, fun q => q⟩), trivial, trivial, trivial, trivial⟩ trivial (fun _ _ q => False.elim q) (must_ok (g := 0) (n := 1) (Or.inl rfl) ⟨by omega, by omega⟩) (fun oq8 Sq8 hp9 q8 => ?_)
          rcases q8 with ⟨m7, _, _⟩ | ⟨_, rfl, rfl⟩
          · skip
            exact absurd m7 (by decide)
          · skip
            refine ⟨rfl, ?_⟩
            rw [if_neg (by first | (rw [gi]; exact fun z => absurd z.1 (by decide)) | (intro z; omega))] at he
            exact Or.inr ⟨_, _, he.symm, rfl, hm_ag_hl hm_ag_rf, rfl, h7⟩
        · skip
          refine wa_iconst ?_
          refine wa_goto ⟨_, rfl⟩ ?_
          refine wa_iconst ?_
          refine wa_cv 237 rfl (wy_pr rfl) wt_237 (M2 := fun _ => False) rfl at_M_must ⟨_, rfl⟩ rfl rfl ⟨(Or.inr ⟨wy_pr rfl, fun q => q⟩), trivial, trivial, trivial, trivial⟩ trivial (fun _ _ q => False.elim q) (must_ok (g := 1) (n := 1) (Or.inr rfl) ⟨by omega, by omega⟩) (fun oq11 Sq11 hp12 q11 => ?_)
          rcases q11 with ⟨_, rfl, rfl⟩ | ⟨m10, _, _⟩
          · skip
            show wJ _ _ _ _ _ _ _ _ _ _
            refine wa_aload_n (n := 0) rfl ?_
            refine wb_gf5 237 rfl (wy_pr rfl) wt_237 wf_15_15 (v := 241) (hA15) (fun r13 => ?_)
            refine wb_gf4 241 rfl (wy_pr rfl) wt_241 wf_12_13 (v := 253) wl_241_13 ?_
            refine wa_iload_n (n := 2) rfl ?_
            refine wa_iconst ?_
            refine wb_iast 253 rfl (wy_pr rfl) wt_253 (n := 400) ((ml_253 hMz)) (by omega) (by omega) ⟨(by omega), (by omega)⟩ ?_
            refine wa_aload_n (n := 0) rfl ?_
            refine wb_gf5 237 rfl (wy_pr rfl) wt_237 wf_15_15 (v := 241) ((w_up_slot (by decide)).trans (hA15)) (fun r14 => ?_)
            refine wb_gf4 241 rfl (wy_pr rfl) wt_241 wf_12_16 (v := 256) wl_241_16 ?_
            refine wa_iload_n (n := 2) rfl ?_
            refine wa_iconst ?_
            refine wb_iast 256 rfl (wy_pr rfl) wt_256 (n := 400) ((w_up_slot (by decide)).trans ((ml_256 hMz))) (by omega) (by omega) ⟨(by omega), (by omega)⟩ ?_
            refine wa_aload_n (n := 0) rfl ?_
            refine wb_gf5 237 rfl (wy_pr rfl) wt_237 wf_15_15 (v := 241) ((w_up_slot (by decide)).trans ((w_up_slot (by decide)).trans (hA15))) (fun r15 => ?_)
            refine wb_gf4 241 rfl (wy_pr rfl) wt_241 wf_12_17 (v := 257) wl_241_17 ?_
            refine wa_iload_n (n := 2) rfl ?_
            refine wa_iconst ?_
            refine wb_zast 257 rfl (wy_pr rfl) wt_257 (n := 400) ((w_up_slot (by decide)).trans ((w_up_slot (by decide)).trans ((ml_257 hMz)))) (by omega) (by omega) ⟨(by omega), (by omega)⟩ ?_
            refine wa_aload_n (n := 0) rfl ?_
            refine wb_gf5 237 rfl (wy_pr rfl) wt_237 wf_15_15 (v := 241) ((w_up_slot (by decide)).trans ((w_up_slot (by decide)).trans ((w_up_slot (by decide)).trans (hA15)))) (fun r16 => ?_)
            refine wb_gf4 241 rfl (wy_pr rfl) wt_241 wf_12_7 (v := 248) wl_241_7 ?_
            refine wa_iload_n (n := 1) rfl ?_
            refine wb_iald 248 rfl (wy_pr rfl) wt_248 (n := 60) ((w_up_slot (by decide)).trans ((w_up_slot (by decide)).trans ((w_up_slot (by decide)).trans ((ml_248 hMz))))) (by omega) (by omega) (v := (A 248 c)) ((w_up_slot (by decide)).trans ((w_up_slot (by decide)).trans (w_up_slot (by decide)))) (fun r17 => ?_)
            refine wa_istore (n := 4) rfl ?_
            refine wa_fall ⟨_, rfl⟩ ?_
            rw [if_pos ⟨gi, by omega⟩] at he
            exact wJ_S (rf_3_241 hA15 hm hmm hm2 hfi hcc hE hpl ((m - A 248 c).toNat + 1) (A 248 c) (by omega) hfi.1 hfi.2 he) ⟨rfl, rfl, rfl, rfl, rfl, trivial⟩
          · skip
            exact absurd m10 (by decide)
    · skip
      show wJ _ _ _ _ _ _ _ _ _ _
      rw [lx_E_is hE] at gi
      refine wa_ifeq (w_rg0 (by omega) (by omega)) ⟨_, rfl⟩ (fun c18 => ?_) (fun c18 => ?_)
      · skip
        refine wa_iconst ?_
        refine wa_fall ⟨_, rfl⟩ ?_
        refine wa_iconst ?_
        refine wa_cv 237 rfl (wy_pr rfl) wt_237 (M2 := fun _ => False) rfl at_M_must ⟨_, rfl⟩ rfl rfl ⟨(Or.inr ⟨wy_pr rfl, fun q => q⟩), trivial, trivial, trivial, trivial⟩ trivial (fun _ _ q => False.elim q) (must_ok (g := 0) (n := 1) (Or.inl rfl) ⟨by omega, by omega⟩) (fun oq20 Sq20 hp21 q20 => ?_)
        rcases q20 with ⟨m19, _, _⟩ | ⟨_, rfl, rfl⟩
        · skip
          exact absurd m19 (by decide)
        · skip
          refine ⟨rfl, ?_⟩
          rw [if_neg (by first | (rw [gi]; exact fun z => absurd z.1 (by decide)) | (intro z; omega))] at he
          exact Or.inr ⟨_, _, he.symm, rfl, hm_ag_hl hm_ag_rf, rfl, h7⟩
      · skip
        exact absurd c18 (by omega)
theorem rf_3_261 {c m p pl : Int} {R : Option (Int × Int)} (hA15 : A 237 15 = 261) (hm : 0 ≤ m ∧ m < 400) (hmm : ho_mm A 261 m) (hm2 : 0 ≤ A 279 m ∧ A 279 m ≤ A 280 m ∧ A 280 m ≤ 65540) (hfi : 0 ≤ A 268 c ∧ A 268 c ≤ m) (hcc : 0 ≤ c ∧ c < 60) (hE : lx_E A A p) (hpl : 0 ≤ pl ∧ pl ≤ 65540) : ∀ (f : Nat) (k : Int), (m - k).toNat < f → 0 ≤ k → k ≤ m → (if df_f A 261 m f k = true then some (2, pl) else if A 263 c = 0 then none else some (6, pl)) = R → wJ (pe_GA xs) wY0 M (d + 6) t_M_readsField ((pe_at t_M_readsField.bl 3).getD (0, [])).2 [(0, (2, 237)), (1, (0, c)), (2, (0, m)), (3, (0, pl)), (4, (0, k))] [] (w_up (w_up (w_up A 273 m 0) 276 m 0) 277 m 0) (fun o S2 => (R = none ∧ o = .inl none ∧ (w_up (w_up (w_up A 273 m 0) 276 m 0) 277 m 0) = S2) ∨ (∃ e q : Int, R = some (e, q) ∧ o = .inr 238 ∧ hm_ag 261 m A S2 ∧ S2 238 5 = e ∧ S2 238 6 = q)) := by
  intro f
  induction f with
  | zero => intros; omega
  | succ f ih =>
    intro k hf hk0 hkm he
    have hMz : w_ML A := hE.1.1
    have h7 : A 237 7 = p := hE.1.2.2.2.1
    have hagA : hm_ag 261 m A (w_up (w_up (w_up A 273 m 0) 276 m 0) 277 m 0) := hm_ag_up (hm_ag_up (hm_ag_up hm_ag_rf (by decide) (by omega) (by decide)) (by decide) (by omega) (by decide)) (by decide) (by omega) (by decide)
    rw [df_f_s] at he
    have hmk := fun (z : k < m) => hmm k hk0 z
    have hMZ : w_ML (w_up (w_up (w_up A 273 m 0) 276 m 0) 277 m 0) := hm_ag_ML hagA hm.1 hMz
    have z15 : (w_up (w_up (w_up A 273 m 0) 276 m 0) 277 m 0) 237 15 = 261 := hA15
    have z18 : (w_up (w_up (w_up A 273 m 0) 276 m 0) 277 m 0) 279 = A 279 := rfl
    have z19 : (w_up (w_up (w_up A 273 m 0) 276 m 0) 277 m 0) 280 = A 280 := rfl
    refine wa_iload (n := 4) rfl ?_
    refine wa_iload_n (n := 2) rfl ?_
    refine wa_icmpge (w_rg0 (by omega) (by omega)) (w_rg0 (by omega) (by omega)) ⟨_, rfl⟩ (fun c1 => ?_) (fun c1 => ?_)
    · skip
      refine wa_aload_n (n := 0) rfl ?_
      refine wb_gf5 237 rfl (wy_pr rfl) wt_237 wf_15_15 (v := 261) ((w_up_slot (by decide)).trans ((w_up_slot (by decide)).trans ((w_up_slot (by decide)).trans (hA15)))) (fun r2 => ?_)
      refine wb_gf4 261 rfl (wy_pr rfl) wt_261 wf_12_2 (v := 263) wl_261_2 ?_
      refine wa_iload_n (n := 1) rfl ?_
      refine wb_zald 263 rfl (wy_pr rfl) wt_263 (n := 60) ((w_up_slot (by decide)).trans ((w_up_slot (by decide)).trans ((w_up_slot (by decide)).trans ((ml_263 hMz))))) (by omega) (by omega) (v := (A 263 c)) ((w_up_slot (by decide)).trans ((w_up_slot (by decide)).trans (w_up_slot (by decide)))) (fun r3 => ?_)
      refine wa_ifeq (w_rg0 (by omega) (by omega)) ⟨_, rfl⟩ (fun c4 => ?_) (fun c4 => ?_)
      · skip
        refine wa_return rfl ?_
        rw [if_neg (show ¬ k < m by omega), if_neg (by decide), if_pos (by omega)] at he
        exact Or.inl ⟨he.symm, rfl, rfl⟩
      · skip
        refine wa_aload_n (n := 0) rfl ?_
        refine wb_gf4 237 rfl (wy_pr rfl) wt_237 wf_15_1 (v := 238) wl_237_1 ?_
        refine wa_bipush (w_rg2 (by omega) (by omega)) ?_
        refine wa_iload_n (n := 3) rfl ?_
        refine wa_cv 238 rfl (wy_pr rfl) wt_238 (M2 := fun _ => False) rfl at_MH_of ⟨_, rfl⟩ rfl rfl ⟨(Or.inr ⟨wy_pr rfl, fun q => q⟩), trivial, trivial, trivial, trivial, trivial⟩ trivial (fun _ _ q => False.elim q) ?_ (fun _ _ _ q => q)
        refine wa_aload_n (n := 0) rfl ?_
        refine wa_iload_n (n := 1) rfl ?_
        refine wb_pfi 238 rfl (wy_pr rfl) wt_238 wf_11_5 (n := 5) rfl ⟨(by omega), (by omega)⟩ ?_
        refine wa_aload_n (n := 0) rfl ?_
        refine wa_iload_n (n := 2) rfl ?_
        refine wb_pfi 238 rfl (wy_pr rfl) wt_238 wf_11_6 (n := 6) rfl ⟨(by omega), (by omega)⟩ ?_
        refine wa_aload_n (n := 0) rfl ?_
        refine wa_oreturn rfl ?_
        show wJ _ _ _ _ _ _ _ _ _ _
        refine wa_th (j := 238) ?_
        rw [if_neg (show ¬ k < m by omega), if_neg (by decide), if_neg (by omega)] at he
        exact Or.inr ⟨_, _, he.symm, rfl, hm_ag_hl hagA, rfl, rfl⟩
    · skip
      refine wa_aload_n (n := 0) rfl ?_
      refine wb_gf5 237 rfl (wy_pr rfl) wt_237 wf_15_15 (v := 261) ((w_up_slot (by decide)).trans ((w_up_slot (by decide)).trans ((w_up_slot (by decide)).trans (hA15)))) (fun r5 => ?_)
      refine wb_gf4 261 rfl (wy_pr rfl) wt_261 wf_12_13 (v := 273) wl_261_13 ?_
      refine wa_iload (n := 4) rfl ?_
      refine wb_iald 273 rfl (wy_pr rfl) wt_273 (n := 400) ((w_up_slot (by decide)).trans ((w_up_slot (by decide)).trans ((w_up_at (by omega)).trans ((ml_273 hMz))))) (by omega) (by omega) (v := (A 273 k)) ((w_up_slot (by decide)).trans ((w_up_slot (by decide)).trans (w_up_at (by omega)))) (fun r6 => ?_)
      refine wa_ifne (w_rg0 (by omega) (by omega)) ⟨_, rfl⟩ (fun c7 => ?_) (fun c7 => ?_)
      · skip
        refine wa_iinc rfl rfl ?_
        refine wa_goto ⟨_, rfl⟩ ?_
        have hal : (decide (A (261 + 12) k = 0) && tp_q (A 239) (A (261 + 18) k) (A (261 + 19) k) (A (261 + 18) m) (A (261 + 19) m)) = false := by
          first | (rw [decide_eq_false (show ¬ A (261 + 12) k = 0 from (show ¬ A 273 k = 0 by omega)), Bool.false_and]) | (rw [show tp_q (A 239) (A (261 + 18) k) (A (261 + 19) k) (A (261 + 18) m) (A (261 + 19) m) = false from gs, Bool.and_false])
        rw [if_pos (show k < m by omega), hal, Bool.false_or] at he
        exact wJ_S (ih (k + 1) (by omega) (by omega) (by omega) he) ⟨rfl, rfl, rfl, rfl, rfl, trivial⟩
      · skip
        refine wa_aload_n (n := 0) rfl ?_
        refine wa_iload (n := 4) rfl ?_
        refine wa_iload_n (n := 2) rfl ?_
        refine wa_cv 237 rfl (wy_pr rfl) wt_237 (M2 := fun _ => False) rfl at_M_sameOnTape ⟨_, rfl⟩ rfl rfl ⟨(Or.inr ⟨wy_pr rfl, fun q => q⟩), trivial, trivial, trivial, trivial, trivial⟩ trivial (fun _ _ q => False.elim q) (sameOnTape_261 (S := (w_up (w_up (w_up A 273 m 0) 276 m 0) 277 m 0)) hMZ z15 ⟨by omega, by omega⟩ ⟨by omega, by omega⟩ (by rw [z18, z19]; exact (hmk (by omega)).1) (by rw [z18, z19]; exact hm2)) (fun oq8 Sq8 hp9 q8 => ?_)
        rcases q8 with ⟨rfl, ⟨rfl, gs⟩ | ⟨rfl, gs⟩⟩
        · skip
          show wJ _ _ _ _ _ _ _ _ _ _
          refine wa_ifeq (w_rg0 (by omega) (by omega)) ⟨_, rfl⟩ (fun c10 => ?_) (fun c10 => ?_)
          · skip
            exact absurd c10 (by omega)
          · skip
            refine wa_aload_n (n := 0) rfl ?_
            refine wb_gf4 237 rfl (wy_pr rfl) wt_237 wf_15_1 (v := 238) wl_237_1 ?_
            refine wa_iconst ?_
            refine wa_iload_n (n := 3) rfl ?_
            refine wa_cv 238 rfl (wy_pr rfl) wt_238 (M2 := fun _ => False) rfl at_MH_of ⟨_, rfl⟩ rfl rfl ⟨(Or.inr ⟨wy_pr rfl, fun q => q⟩), trivial, trivial, trivial, trivial, trivial⟩ trivial (fun _ _ q => False.elim q) ?_ (fun _ _ _ q => q)
            refine wa_aload_n (n := 0) rfl ?_
            refine wa_iload_n (n := 1) rfl ?_
            refine wb_pfi 238 rfl (wy_pr rfl) wt_238 wf_11_5 (n := 5) rfl ⟨(by omega), (by omega)⟩ ?_
            refine wa_aload_n (n := 0) rfl ?_
            refine wa_iload_n (n := 2) rfl ?_
            refine wb_pfi 238 rfl (wy_pr rfl) wt_238 wf_11_6 (n := 6) rfl ⟨(by omega), (by omega)⟩ ?_
            refine wa_aload_n (n := 0) rfl ?_
            refine wa_oreturn rfl ?_
            show wJ _ _ _ _ _ _ _ _ _ _
            refine wa_th (j := 238) ?_
            have hal : (decide (A (261 + 12) k = 0) && tp_q (A 239) (A (261 + 18) k) (A (261 + 19) k) (A (261 + 18) m) (A (261 + 19) m)) = true := by
              rw [decide_eq_true (show A (261 + 12) k = 0 from (show A 273 k = 0 by omega)), show tp_q (A 239) (A (261 + 18) k) (A (261 + 19) k) (A (261 + 18) m) (A (261 + 19) m) = true from gs]; rfl
            rw [if_pos (show k < m by omega), hal, Bool.true_or, if_pos rfl] at he
            exact Or.inr ⟨_, _, he.symm, rfl, hm_ag_hl hagA, rfl, rfl⟩
        · skip
          show wJ _ _ _ _ _ _ _ _ _ _
          refine wa_ifeq (w_rg0 (by omega) (by omega)) ⟨_, rfl⟩ (fun c11 => ?_) (fun c11 => ?_)
          · skip
            refine wa_iinc rfl rfl ?_
            refine wa_goto ⟨_, rfl⟩ ?_
            have hal : (decide (A (261 + 12) k = 0) && tp_q (A 239) (A (261 + 18) k) (A (261 + 19) k) (A (261 + 18) m) (A (261 + 19) m)) = false := by
              first | (rw [decide_eq_false (show ¬ A (261 + 12) k = 0 from (show ¬ A 273 k = 0 by omega)), Bool.false_and]) | (rw [show tp_q (A 239) (A (261 + 18) k) (A (261 + 19) k) (A (261 + 18) m) (A (261 + 19) m) = false from gs, Bool.and_false])
            rw [if_pos (show k < m by omega), hal, Bool.false_or] at he
            exact wJ_S (ih (k + 1) (by omega) (by omega) (by omega) he) ⟨rfl, rfl, rfl, rfl, rfl, trivial⟩
          · skip
            exact absurd c11 (by omega)
theorem readsField_261 {c m p pl : Int} {R : Option (Int × Int)} (hA15 : A 237 15 = 261) (hm : 0 ≤ m ∧ m < 400) (hmm : ho_mm A 261 m) (hm2 : 0 ≤ A 279 m ∧ A 279 m ≤ A 280 m ∧ A 280 m ≤ 65540) (hfi : 0 ≤ A 268 c ∧ A 268 c ≤ m) (hcc : 0 ≤ c ∧ c < 60) (hE : lx_E A A p) (hpl : 0 ≤ pl ∧ pl ≤ 65540) (he : rf_of A 261 c m p pl = R) : wJ (pe_GA xs) wY0 M (d + 6) t_M_readsField ((pe_at t_M_readsField.bl 0).getD (0, [])).2 [(0, (2, 237)), (1, (0, c)), (2, (0, m)), (3, (0, pl))] [] A (fun o S2 => (R = none ∧ o = .inl none ∧ (w_up (w_up (w_up A 273 m 0) 276 m 0) 277 m 0) = S2) ∨ (∃ e q : Int, R = some (e, q) ∧ o = .inr 238 ∧ hm_ag 261 m A S2 ∧ S2 238 5 = e ∧ S2 238 6 = q)) := by
    have hMz : w_ML A := hE.1.1
    have h7 : A 237 7 = p := hE.1.2.2.2.1
    have hagA : hm_ag 261 m A (w_up (w_up (w_up A 273 m 0) 276 m 0) 277 m 0) := hm_ag_up (hm_ag_up (hm_ag_up hm_ag_rf (by decide) (by omega) (by decide)) (by decide) (by omega) (by decide)) (by decide) (by omega) (by decide)
    replace he : (if lx_is (zq A p) 59 = true ∧ A 275 m ≠ 0 then (if df_f A 261 m ((m - A 268 c).toNat + 1) (A 268 c) = true then some (2, pl) else if A 263 c = 0 then none else some (6, pl)) else some (1, p)) = R := he
    refine wa_aload_n (n := 0) rfl ?_
    refine wa_aload_n (n := 0) rfl ?_
    refine wa_bipush (w_rg2 (by omega) (by omega)) ?_
    refine wa_cv 237 rfl (wy_pr rfl) wt_237 (M2 := fun _ => False) rfl at_M_isSign ⟨_, rfl⟩ rfl rfl ⟨(Or.inr ⟨wy_pr rfl, fun q => q⟩), trivial, trivial, trivial, trivial⟩ ⟨(Or.inr ⟨wy_pr rfl, fun q => q⟩), trivial⟩ (fun _ _ q => False.elim q) (isSign_ok ⟨by omega, by omega⟩) (fun oq1 Sq1 hp2 q1 => ?_)
    rcases q1 with ⟨rfl, ⟨rfl, gi⟩ | ⟨rfl, gi⟩⟩
    · skip
      show wJ _ _ _ _ _ _ _ _ _ _
      rw [lx_E_is hE] at gi
      refine wa_ifeq (w_rg0 (by omega) (by omega)) ⟨_, rfl⟩ (fun c3 => ?_) (fun c3 => ?_)
      · skip
        exact absurd c3 (by omega)
      · skip
        refine wa_aload_n (n := 0) rfl ?_
        refine wb_gf5 237 rfl (wy_pr rfl) wt_237 wf_15_15 (v := 261) (hA15) (fun r4 => ?_)
        refine wb_gf4 261 rfl (wy_pr rfl) wt_261 wf_12_15 (v := 275) wl_261_15 ?_
        refine wa_iload_n (n := 2) rfl ?_
        refine wb_iald 275 rfl (wy_pr rfl) wt_275 (n := 400) ((ml_275 hMz)) (by omega) (by omega) (v := (A 275 m)) rfl (fun r5 => ?_)
        refine wa_ifeq (w_rg0 (by omega) (by omega)) ⟨_, rfl⟩ (fun c6 => ?_) (fun c6 => ?_)
        · skip
          refine wa_iconst ?_
          refine wa_fall ⟨_, rfl⟩ ?_
          refine wa_iconst ?_
          refine wa_cv 237 rfl (wy_pr rfl) wt_237 (M2 := fun _ => False) rfl at_M_must ⟨_, rfl⟩ rfl rfl ⟨(Or.inr ⟨wy_pr rfl, fun q => q⟩), trivial, trivial, trivial, trivial⟩ trivial (fun _ _ q => False.elim q) (must_ok (g := 0) (n := 1) (Or.inl rfl) ⟨by omega, by omega⟩) (fun oq8 Sq8 hp9 q8 => ?_)
          rcases q8 with ⟨m7, _, _⟩ | ⟨_, rfl, rfl⟩
          · skip
            exact absurd m7 (by decide)
          · skip
            refine ⟨rfl, ?_⟩
            rw [if_neg (by first | (rw [gi]; exact fun z => absurd z.1 (by decide)) | (intro z; omega))] at he
            exact Or.inr ⟨_, _, he.symm, rfl, hm_ag_hl hm_ag_rf, rfl, h7⟩
        · skip
          refine wa_iconst ?_
          refine wa_goto ⟨_, rfl⟩ ?_
          refine wa_iconst ?_
          refine wa_cv 237 rfl (wy_pr rfl) wt_237 (M2 := fun _ => False) rfl at_M_must ⟨_, rfl⟩ rfl rfl ⟨(Or.inr ⟨wy_pr rfl, fun q => q⟩), trivial, trivial, trivial, trivial⟩ trivial (fun _ _ q => False.elim q) (must_ok (g := 1) (n := 1) (Or.inr rfl) ⟨by omega, by omega⟩) (fun oq11 Sq11 hp12 q11 => ?_)
          rcases q11 with ⟨_, rfl, rfl⟩ | ⟨m10, _, _⟩
          · skip
            show wJ _ _ _ _ _ _ _ _ _ _
            refine wa_aload_n (n := 0) rfl ?_
            refine wb_gf5 237 rfl (wy_pr rfl) wt_237 wf_15_15 (v := 261) (hA15) (fun r13 => ?_)
            refine wb_gf4 261 rfl (wy_pr rfl) wt_261 wf_12_13 (v := 273) wl_261_13 ?_
            refine wa_iload_n (n := 2) rfl ?_
            refine wa_iconst ?_
            refine wb_iast 273 rfl (wy_pr rfl) wt_273 (n := 400) ((ml_273 hMz)) (by omega) (by omega) ⟨(by omega), (by omega)⟩ ?_
            refine wa_aload_n (n := 0) rfl ?_
            refine wb_gf5 237 rfl (wy_pr rfl) wt_237 wf_15_15 (v := 261) ((w_up_slot (by decide)).trans (hA15)) (fun r14 => ?_)
            refine wb_gf4 261 rfl (wy_pr rfl) wt_261 wf_12_16 (v := 276) wl_261_16 ?_
            refine wa_iload_n (n := 2) rfl ?_
            refine wa_iconst ?_
            refine wb_iast 276 rfl (wy_pr rfl) wt_276 (n := 400) ((w_up_slot (by decide)).trans ((ml_276 hMz))) (by omega) (by omega) ⟨(by omega), (by omega)⟩ ?_
            refine wa_aload_n (n := 0) rfl ?_
            refine wb_gf5 237 rfl (wy_pr rfl) wt_237 wf_15_15 (v := 261) ((w_up_slot (by decide)).trans ((w_up_slot (by decide)).trans (hA15))) (fun r15 => ?_)
            refine wb_gf4 261 rfl (wy_pr rfl) wt_261 wf_12_17 (v := 277) wl_261_17 ?_
            refine wa_iload_n (n := 2) rfl ?_
            refine wa_iconst ?_
            refine wb_zast 277 rfl (wy_pr rfl) wt_277 (n := 400) ((w_up_slot (by decide)).trans ((w_up_slot (by decide)).trans ((ml_277 hMz)))) (by omega) (by omega) ⟨(by omega), (by omega)⟩ ?_
            refine wa_aload_n (n := 0) rfl ?_
            refine wb_gf5 237 rfl (wy_pr rfl) wt_237 wf_15_15 (v := 261) ((w_up_slot (by decide)).trans ((w_up_slot (by decide)).trans ((w_up_slot (by decide)).trans (hA15)))) (fun r16 => ?_)
            refine wb_gf4 261 rfl (wy_pr rfl) wt_261 wf_12_7 (v := 268) wl_261_7 ?_
            refine wa_iload_n (n := 1) rfl ?_
            refine wb_iald 268 rfl (wy_pr rfl) wt_268 (n := 60) ((w_up_slot (by decide)).trans ((w_up_slot (by decide)).trans ((w_up_slot (by decide)).trans ((ml_268 hMz))))) (by omega) (by omega) (v := (A 268 c)) ((w_up_slot (by decide)).trans ((w_up_slot (by decide)).trans (w_up_slot (by decide)))) (fun r17 => ?_)
            refine wa_istore (n := 4) rfl ?_
            refine wa_fall ⟨_, rfl⟩ ?_
            rw [if_pos ⟨gi, by omega⟩] at he
            exact wJ_S (rf_3_261 hA15 hm hmm hm2 hfi hcc hE hpl ((m - A 268 c).toNat + 1) (A 268 c) (by omega) hfi.1 hfi.2 he) ⟨rfl, rfl, rfl, rfl, rfl, trivial⟩
          · skip
            exact absurd m10 (by decide)
    · skip
      show wJ _ _ _ _ _ _ _ _ _ _
      rw [lx_E_is hE] at gi
      refine wa_ifeq (w_rg0 (by omega) (by omega)) ⟨_, rfl⟩ (fun c18 => ?_) (fun c18 => ?_)
      · skip
        refine wa_iconst ?_
        refine wa_fall ⟨_, rfl⟩ ?_
        refine wa_iconst ?_
        refine wa_cv 237 rfl (wy_pr rfl) wt_237 (M2 := fun _ => False) rfl at_M_must ⟨_, rfl⟩ rfl rfl ⟨(Or.inr ⟨wy_pr rfl, fun q => q⟩), trivial, trivial, trivial, trivial⟩ trivial (fun _ _ q => False.elim q) (must_ok (g := 0) (n := 1) (Or.inl rfl) ⟨by omega, by omega⟩) (fun oq20 Sq20 hp21 q20 => ?_)
        rcases q20 with ⟨m19, _, _⟩ | ⟨_, rfl, rfl⟩
        · skip
          exact absurd m19 (by decide)
        · skip
          refine ⟨rfl, ?_⟩
          rw [if_neg (by first | (rw [gi]; exact fun z => absurd z.1 (by decide)) | (intro z; omega))] at he
          exact Or.inr ⟨_, _, he.symm, rfl, hm_ag_hl hm_ag_rf, rfl, h7⟩
      · skip
        exact absurd c18 (by omega)
end W81
