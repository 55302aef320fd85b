/-! PART 80: the reference's readsParameters, whole. -/
section W80
variable {xs : List (Nat × List Int32)} {M : Nat → Prop} {d : Nat} {S A : wS} {Q : wO → wS → Prop} {b : Nat} {p : Int}
/-- the members k and m are alike: sort (not a field), name, types (of m: l) -/
def al_q (A : wS) (b : Nat) (m : Int) (l : List Int) (k : Int) : Bool := decide (A (b + 12) k = A (b + 12) m ∧ A (b + 12) m ≠ 0) && (tp_q (A 239) (A (b + 18) k) (A (b + 19) k) (A (b + 18) m) (A (b + 19) m) && decide (A (b + 15) k = (l.length : Int) ∧ ∀ i : Nat, i < l.length → A (b + 17) (8 * k + (i : Int)) = l.getD i 0))
def dp_f (A : wS) (b : Nat) (m : Int) (l : List Int) : Nat → Int → Bool
  | 0, _ => false
  | f + 1, k => if k < m then al_q A b m l k || dp_f A b m l f (k + 1) else false
theorem dp_f_s (A : wS) (b : Nat) (m : Int) (l : List Int) (f : Nat) (k : Int) : dp_f A b m l (f + 1) k = if k < m then al_q A b m l k || dp_f A b m l f (k + 1) else false := rfl
/-- a member's rows before m are in their bounds -/
def ho_mm (A : wS) (b : Nat) (m : Int) : Prop := ∀ k : Int, 0 ≤ k → k < m → (0 ≤ A (b + 18) k ∧ A (b + 18) k ≤ A (b + 19) k ∧ A (b + 19) k ≤ 65540) ∧ (0 ≤ A (b + 15) k ∧ A (b + 15) k ≤ 8)
theorem pt_ps {m v k : Int} {Z : wS} {l : List Int} (hm : 0 ≤ m) (hk : 0 ≤ k ∧ k < m) (hag : hp_ag b m A Z) (hb : b = 241 ∨ b = 261) (hps : hm_ps b m Z l v) (hl : l.length ≤ 8) : pt_q (Z (b + 15)) (Z (b + 17)) k m = decide (A (b + 15) k = (l.length : Int) ∧ ∀ i : Nat, i < l.length → A (b + 17) (8 * k + (i : Int)) = l.getD i 0) := by
  have e1 : Z (b + 15) k = A (b + 15) k := hag (b + 15) k (by omega) (by omega) (by omega) (by omega)
  have e2 : ∀ i : Nat, i < l.length → Z (b + 17) (8 * k + (i : Int)) = A (b + 17) (8 * k + (i : Int)) := fun i hi => hag (b + 17) _ (by omega) (by omega) (by omega) (by omega)
  have hiff : (Z (b + 15) k = Z (b + 15) m ∧ ∀ i : Nat, i < (Z (b + 15) k).toNat → Z (b + 17) (8 * k + (i : Int)) = Z (b + 17) (8 * m + (i : Int))) ↔ (A (b + 15) k = (l.length : Int) ∧ ∀ i : Nat, i < l.length → A (b + 17) (8 * k + (i : Int)) = l.getD i 0) := by
    constructor
    · rintro ⟨q1, q2⟩
      rw [e1, hps.1] at q1
      refine ⟨q1, fun i hi => ?_⟩
      rw [← e2 i hi, q2 i (by rw [e1, q1]; omega)]
      exact hps.2.2 i hi
    · rintro ⟨q1, q2⟩
      refine ⟨by rw [e1, hps.1]; exact q1, fun i hi => ?_⟩
      rw [e1, q1] at hi
      have hi2 : i < l.length := by omega
      rw [e2 i hi2, q2 i hi2]
      exact (hps.2.2 i hi2).symm
  unfold pt_q
  exact decide_eq_decide.mpr hiff
/-- parameters and what must hold of them: a fault, or the place behind, the types, the mark -/
def pq_r (A : wS) (b : Nat) (p : Int) : (Int × Int) ⊕ (Int × List Int × Int) := if lx_is (zq A p) 41 = true then .inr (p, [], 0) else pr_f A b ((A 237 4 - p).toNat + 1) p []
def pq_k (A : wS) (b : Nat) (c m : Int) (r : (Int × Int) ⊕ (Int × List Int × Int)) : (Int × Int) ⊕ (Int × List Int × Int) := match r with
  | .inl e => .inl e
  | .inr (q, l, v) => if lx_is (zq A q) 41 = true then (if dp_f A b m l ((m - A (b + 7) c).toNat + 1) (A (b + 7) c) = true then .inl (7, q) else .inr (lx_ne (zq A q) q, l, v)) else .inl (1, q)
theorem pm_15_241 {c m q v : Int} {l : List Int} {R : (Int × Int) ⊕ (Int × List Int × Int)} {Z : wS} (hA15 : A 237 15 = 241) (hm : 0 ≤ m ∧ m < 400) (hmm : ho_mm A 241 m) (hm2 : 0 ≤ A 259 m ∧ A 259 m ≤ A 260 m ∧ A 260 m ≤ 65540) (hfi : 0 ≤ A 248 c ∧ A 248 c ≤ m) (hcc : 0 ≤ c ∧ c < 60) (hag : hp_ag 241 m A Z) (hE : lx_E Z A q) (hps : hm_ps 241 m Z l v) (hl : l.length ≤ 8) (h41 : lx_is (zq A q) 41 = true) : ∀ (f : Nat) (k : Int), (m - k).toNat < f → 0 ≤ k → k ≤ m → (if dp_f A 241 m l f k = true then (.inl (7, q) : (Int × Int) ⊕ (Int × List Int × Int)) else .inr (lx_ne (zq A q) q, l, v)) = R → wJ (pe_GA xs) wY0 M (d + 6) t_M_readsParameters ((pe_at t_M_readsParameters.bl 15).getD (0, [])).2 [(0, (2, 237)), (1, (0, c)), (2, (0, m)), (4, (0, k))] [] Z (fun o S2 => (∃ (q v : Int) (l : List Int), R = .inr (q, l, v) ∧ o = .inl none ∧ hp_ag 241 m A S2 ∧ lx_E S2 A q ∧ hm_ps 241 m S2 l v ∧ l.length ≤ 8) ∨ (∃ e q : Int, R = .inl (e, q) ∧ o = .inr 238 ∧ hp_ag 241 m A S2 ∧ S2 238 5 = e ∧ S2 238 6 = q)) := by
  intro f
  induction f with
  | zero => intros; omega
  | succ f ih =>
    intro k hf hk0 hkm he
    have hMz : w_ML Z := hE.1.1
    have hb15 : Z 237 15 = 241 := (hag 237 15 (by omega) (by omega) (by omega) (by omega)).trans hA15
    have e12 : Z 253 = A 253 := hp_ag_row hag (by decide)
    have e18 : Z 259 = A 259 := hp_ag_row hag (by decide)
    have e19 : Z 260 = A 260 := hp_ag_row hag (by decide)
    have e239 : Z 239 = A 239 := hE.2.1
    have h7 : Z 237 7 = q := hE.1.2.2.2.1
    rw [dp_f_s] at he
    have hmk := fun (z : k < m) => hmm k hk0 z
    have g1 : Z 253 k = A 253 k := by rw [e12]
    have g2 : Z 253 m = A 253 m := by rw [e12]
    have q41 : lx_is Z 41 = true := by rw [lx_E_is hE]; exact h41
    refine wa_iload (n := 4) rfl ?_
    refine wa_iload_n (n := 2) rfl ?_
    refine wa_icmpge (w_rg0 (by omega) (by omega)) (w_rg0 (by omega) (by omega)) ⟨_, rfl⟩ (fun c1 => ?_) (fun c1 => ?_)
    · skip
      refine wa_aload_n (n := 0) rfl ?_
      refine wa_cv 237 rfl (wy_pr rfl) wt_237 (M2 := fun _ => False) rfl at_M_next ⟨_, rfl⟩ rfl rfl ⟨(Or.inr ⟨wy_pr rfl, fun q => q⟩), trivial, trivial, trivial, trivial⟩ trivial (fun _ _ q => False.elim q) (nx_I hE.1 (by rw [(lx_is4 q41).1]; decide)) (fun oq2 Sq2 hp3 q2 => ?_)
      rcases q2 with ⟨rfl, a1, a2⟩
      show wJ _ _ _ _ _ _ _ _ _ _
      refine wa_return rfl ?_
      rw [if_neg (show ¬ k < m by omega), if_neg (by decide)] at he
      exact Or.inl ⟨_, _, _, he.symm, rfl, hp_ag_lx hag a1, by rw [← lx_E_ne hE]; exact lx_E_ag hE a1 a2, hm_ps_ag (by decide) hps a1, hl⟩
    · skip
      refine wa_aload_n (n := 0) rfl ?_
      refine wb_gf5 237 rfl (wy_pr rfl) wt_237 wf_15_15 (v := 241) (hb15) (fun r4 => ?_)
      refine wb_gf4 241 rfl (wy_pr rfl) wt_241 wf_12_13 (v := 253) wl_241_13 ?_
      refine wa_iload (n := 4) rfl ?_
      refine wb_iald 253 rfl (wy_pr rfl) wt_253 (n := 400) ((ml_253 hMz)) (by omega) (by omega) (v := (A 253 k)) (g1) (fun r5 => ?_)
      refine wa_aload_n (n := 0) rfl ?_
      refine wb_gf5 237 rfl (wy_pr rfl) wt_237 wf_15_15 (v := 241) (hb15) (fun r6 => ?_)
      refine wb_gf4 241 rfl (wy_pr rfl) wt_241 wf_12_13 (v := 253) wl_241_13 ?_
      refine wa_iload_n (n := 2) rfl ?_
      refine wb_iald 253 rfl (wy_pr rfl) wt_253 (n := 400) ((ml_253 hMz)) (by omega) (by omega) (v := (A 253 m)) (g2) (fun r7 => ?_)
      refine wa_icmpne (w_rg0 (by omega) (by omega)) (w_rg0 (by omega) (by omega)) ⟨_, rfl⟩ (fun c8 => ?_) (fun c8 => ?_)
      · skip
        refine wa_iconst ?_
        refine wa_fall ⟨_, rfl⟩ ?_
        refine wa_istore (n := 5) rfl ?_
        refine wa_aload_n (n := 0) rfl ?_
        refine wa_iload (n := 5) rfl ?_
        refine wa_ifne (w_rg0 (by omega) (by omega)) ⟨_, rfl⟩ (fun c9 => ?_) (fun c9 => ?_)
        · skip
          exact absurd c9 (by omega)
        · skip
          refine wa_iconst ?_
          refine wa_goto ⟨_, rfl⟩ ?_
          refine wa_bipush (w_rg2 (by omega) (by omega)) ?_
          refine wa_cv 237 rfl (wy_pr rfl) wt_237 (M2 := fun _ => False) rfl at_M_must ⟨_, rfl⟩ rfl rfl ⟨trivial, (Or.inr ⟨wy_pr rfl, fun q => q⟩), trivial, trivial, trivial, trivial⟩ trivial (fun _ _ q => False.elim q) (must_ok (g := 1) (n := 7) (Or.inr rfl) ⟨by omega, by omega⟩) (fun oq11 Sq11 hp12 q11 => ?_)
          rcases q11 with ⟨_, rfl, rfl⟩ | ⟨m10, _, _⟩
          · skip
            show wJ _ _ _ _ _ _ _ _ _ _
            refine wa_iinc rfl rfl ?_
            refine wa_goto ⟨_, rfl⟩ ?_
            have hal : al_q A 241 m l k = false := by
              unfold al_q
              first | (rw [decide_eq_false (show ¬ (A (241 + 12) k = A (241 + 12) m ∧ A (241 + 12) m ≠ 0) from (show ¬ (A 253 k = A 253 m ∧ A 253 m ≠ 0) by omega)), Bool.false_and]) | (rw [show tp_q (A 239) (A (241 + 18) k) (A (241 + 19) k) (A (241 + 18) m) (A (241 + 19) m) = false from gs, Bool.false_and, Bool.and_false]) | (rw [gt, Bool.and_false, Bool.and_false])
            rw [if_pos (show k < m by omega), hal, Bool.false_or] at he
            exact wJ_S (ih (k + 1) (by omega) (by omega) (by omega) he) ⟨rfl, rfl, rfl, rfl, trivial⟩
          · skip
            exact absurd m10 (by decide)
      · skip
        refine wa_aload_n (n := 0) rfl ?_
        refine wb_gf5 237 rfl (wy_pr rfl) wt_237 wf_15_15 (v := 241) (hb15) (fun r13 => ?_)
        refine wb_gf4 241 rfl (wy_pr rfl) wt_241 wf_12_13 (v := 253) wl_241_13 ?_
        refine wa_iload_n (n := 2) rfl ?_
        refine wb_iald 253 rfl (wy_pr rfl) wt_253 (n := 400) ((ml_253 hMz)) (by omega) (by omega) (v := (A 253 m)) (g2) (fun r14 => ?_)
        refine wa_ifeq (w_rg0 (by omega) (by omega)) ⟨_, rfl⟩ (fun c15 => ?_) (fun c15 => ?_)
        · skip
          refine wa_iconst ?_
          refine wa_fall ⟨_, rfl⟩ ?_
          refine wa_istore (n := 5) rfl ?_
          refine wa_aload_n (n := 0) rfl ?_
          refine wa_iload (n := 5) rfl ?_
          refine wa_ifne (w_rg0 (by omega) (by omega)) ⟨_, rfl⟩ (fun c16 => ?_) (fun c16 => ?_)
          · skip
            exact absurd c16 (by omega)
          · skip
            refine wa_iconst ?_
            refine wa_goto ⟨_, rfl⟩ ?_
            refine wa_bipush (w_rg2 (by omega) (by omega)) ?_
            refine wa_cv 237 rfl (wy_pr rfl) wt_237 (M2 := fun _ => False) rfl at_M_must ⟨_, rfl⟩ rfl rfl ⟨trivial, (Or.inr ⟨wy_pr rfl, fun q => q⟩), trivial, trivial, trivial, trivial⟩ trivial (fun _ _ q => False.elim q) (must_ok (g := 1) (n := 7) (Or.inr rfl) ⟨by omega, by omega⟩) (fun oq18 Sq18 hp19 q18 => ?_)
            rcases q18 with ⟨_, rfl, rfl⟩ | ⟨m17, _, _⟩
            · skip
              show wJ _ _ _ _ _ _ _ _ _ _
              refine wa_iinc rfl rfl ?_
              refine wa_goto ⟨_, rfl⟩ ?_
              have hal : al_q A 241 m l k = false := by
                unfold al_q
                first | (rw [decide_eq_false (show ¬ (A (241 + 12) k = A (241 + 12) m ∧ A (241 + 12) m ≠ 0) from (show ¬ (A 253 k = A 253 m ∧ A 253 m ≠ 0) by omega)), Bool.false_and]) | (rw [show tp_q (A 239) (A (241 + 18) k) (A (241 + 19) k) (A (241 + 18) m) (A (241 + 19) m) = false from gs, Bool.false_and, Bool.and_false]) | (rw [gt, Bool.and_false, Bool.and_false])
              rw [if_pos (show k < m by omega), hal, Bool.false_or] at he
              exact wJ_S (ih (k + 1) (by omega) (by omega) (by omega) he) ⟨rfl, rfl, rfl, rfl, trivial⟩
            · skip
              exact absurd m17 (by decide)
        · skip
          refine wa_aload_n (n := 0) rfl ?_
          refine wa_iload (n := 4) rfl ?_
          refine wa_iload_n (n := 2) rfl ?_
          refine wa_cv 237 rfl (wy_pr rfl) wt_237 (M2 := fun _ => False) rfl at_M_sameOnTape ⟨_, rfl⟩ rfl rfl ⟨(Or.inr ⟨wy_pr rfl, fun q => q⟩), trivial, trivial, trivial, trivial⟩ trivial (fun _ _ q => False.elim q) (sameOnTape_241 hMz hb15 ⟨by omega, by omega⟩ ⟨by omega, by omega⟩ (by rw [e18, e19]; exact (hmk (by omega)).1) (by rw [e18, e19]; exact hm2)) (fun oq20 Sq20 hp21 q20 => ?_)
          rcases q20 with ⟨rfl, ⟨rfl, gs⟩ | ⟨rfl, gs⟩⟩
          · skip
            show wJ _ _ _ _ _ _ _ _ _ _
            rw [e18, e19, e239] at gs
            refine wa_ifeq (w_rg0 (by omega) (by omega)) ⟨_, rfl⟩ (fun c22 => ?_) (fun c22 => ?_)
            · skip
              exact absurd c22 (by omega)
            · skip
              refine wa_aload_n (n := 0) rfl ?_
              refine wb_gf5 237 rfl (wy_pr rfl) wt_237 wf_15_15 (v := 241) (hb15) (fun r23 => ?_)
              refine wa_iload (n := 4) rfl ?_
              refine wa_iload_n (n := 2) rfl ?_
              refine wa_cv 241 rfl (wy_pr rfl) wt_241 (M2 := fun _ => False) rfl at_MO_haveSameTypes ⟨_, rfl⟩ rfl rfl ⟨(Or.inr ⟨wy_pr rfl, fun q => q⟩), trivial, trivial, trivial, trivial⟩ trivial (fun _ _ q => False.elim q) (haveSameTypes_241 hMz ⟨by omega, by omega⟩ ⟨by omega, by omega⟩ (by rw [hag 256 k (by omega) (by omega) (by omega) (by omega)]; exact (hmk (by omega)).2) (by rw [show Z 256 m = (l.length : Int) from hps.1]; omega)) (fun oq24 Sq24 hp25 q24 => ?_)
              rcases q24 with ⟨rfl, ⟨rfl, gt⟩ | ⟨rfl, gt⟩⟩
              · skip
                show wJ _ _ _ _ _ _ _ _ _ _
                rw [pt_ps (b := 241) hm.1 ⟨by omega, by omega⟩ hag (by decide) hps hl] at gt
                refine wa_ifeq (w_rg0 (by omega) (by omega)) ⟨_, rfl⟩ (fun c26 => ?_) (fun c26 => ?_)
                · skip
                  exact absurd c26 (by omega)
                · skip
                  refine wa_iconst ?_
                  refine wa_goto ⟨_, rfl⟩ ?_
                  refine wa_istore (n := 5) rfl ?_
                  refine wa_aload_n (n := 0) rfl ?_
                  refine wa_iload (n := 5) rfl ?_
                  refine wa_ifne (w_rg0 (by omega) (by omega)) ⟨_, rfl⟩ (fun c27 => ?_) (fun c27 => ?_)
                  · skip
                    refine wa_iconst ?_
                    refine wa_fall ⟨_, rfl⟩ ?_
                    refine wa_bipush (w_rg2 (by omega) (by omega)) ?_
                    refine wa_cv 237 rfl (wy_pr rfl) wt_237 (M2 := fun _ => False) rfl at_M_must ⟨_, rfl⟩ rfl rfl ⟨trivial, (Or.inr ⟨wy_pr rfl, fun q => q⟩), trivial, trivial, trivial, trivial⟩ trivial (fun _ _ q => False.elim q) (must_ok (g := 0) (n := 7) (Or.inl rfl) ⟨by omega, by omega⟩) (fun oq29 Sq29 hp30 q29 => ?_)
                    rcases q29 with ⟨m28, _, _⟩ | ⟨_, rfl, rfl⟩
                    · skip
                      exact absurd m28 (by decide)
                    · skip
                      refine ⟨rfl, ?_⟩
                      have hal : al_q A 241 m l k = true := by
                        unfold al_q
                        rw [decide_eq_true (show A (241 + 12) k = A (241 + 12) m ∧ A (241 + 12) m ≠ 0 from (show A 253 k = A 253 m ∧ A 253 m ≠ 0 from ⟨by omega, by omega⟩)), show tp_q (A 239) (A (241 + 18) k) (A (241 + 19) k) (A (241 + 18) m) (A (241 + 19) m) = true from gs, gt]; rfl
                      rw [if_pos (show k < m by omega), hal, Bool.true_or, if_pos rfl] at he
                      exact Or.inr ⟨_, _, he.symm, rfl, hp_ag_hl hag, rfl, h7⟩
                  · skip
                    exact absurd c27 (by omega)
              · skip
                show wJ _ _ _ _ _ _ _ _ _ _
                rw [pt_ps (b := 241) hm.1 ⟨by omega, by omega⟩ hag (by decide) hps hl] at gt
                refine wa_ifeq (w_rg0 (by omega) (by omega)) ⟨_, rfl⟩ (fun c31 => ?_) (fun c31 => ?_)
                · skip
                  refine wa_iconst ?_
                  refine wa_fall ⟨_, rfl⟩ ?_
                  refine wa_istore (n := 5) rfl ?_
                  refine wa_aload_n (n := 0) rfl ?_
                  refine wa_iload (n := 5) rfl ?_
                  refine wa_ifne (w_rg0 (by omega) (by omega)) ⟨_, rfl⟩ (fun c32 => ?_) (fun c32 => ?_)
                  · skip
                    exact absurd c32 (by omega)
                  · skip
                    refine wa_iconst ?_
                    refine wa_goto ⟨_, rfl⟩ ?_
                    refine wa_bipush (w_rg2 (by omega) (by omega)) ?_
                    refine wa_cv 237 rfl (wy_pr rfl) wt_237 (M2 := fun _ => False) rfl at_M_must ⟨_, rfl⟩ rfl rfl ⟨trivial, (Or.inr ⟨wy_pr rfl, fun q => q⟩), trivial, trivial, trivial, trivial⟩ trivial (fun _ _ q => False.elim q) (must_ok (g := 1) (n := 7) (Or.inr rfl) ⟨by omega, by omega⟩) (fun oq34 Sq34 hp35 q34 => ?_)
                    rcases q34 with ⟨_, rfl, rfl⟩ | ⟨m33, _, _⟩
                    · skip
                      show wJ _ _ _ _ _ _ _ _ _ _
                      refine wa_iinc rfl rfl ?_
                      refine wa_goto ⟨_, rfl⟩ ?_
                      have hal : al_q A 241 m l k = false := by
                        unfold al_q
                        first | (rw [decide_eq_false (show ¬ (A (241 + 12) k = A (241 + 12) m ∧ A (241 + 12) m ≠ 0) from (show ¬ (A 253 k = A 253 m ∧ A 253 m ≠ 0) by omega)), Bool.false_and]) | (rw [show tp_q (A 239) (A (241 + 18) k) (A (241 + 19) k) (A (241 + 18) m) (A (241 + 19) m) = false from gs, Bool.false_and, Bool.and_false]) | (rw [gt, Bool.and_false, Bool.and_false])
                      rw [if_pos (show k < m by omega), hal, Bool.false_or] at he
                      exact wJ_S (ih (k + 1) (by omega) (by omega) (by omega) he) ⟨rfl, rfl, rfl, rfl, trivial⟩
                    · skip
                      exact absurd m33 (by decide)
                · skip
                  exact absurd c31 (by omega)
          · skip
            show wJ _ _ _ _ _ _ _ _ _ _
            rw [e18, e19, e239] at gs
            refine wa_ifeq (w_rg0 (by omega) (by omega)) ⟨_, rfl⟩ (fun c36 => ?_) (fun c36 => ?_)
            · skip
              refine wa_iconst ?_
              refine wa_fall ⟨_, rfl⟩ ?_
              refine wa_istore (n := 5) rfl ?_
              refine wa_aload_n (n := 0) rfl ?_
              refine wa_iload (n := 5) rfl ?_
              refine wa_ifne (w_rg0 (by omega) (by omega)) ⟨_, rfl⟩ (fun c37 => ?_) (fun c37 => ?_)
              · skip
                exact absurd c37 (by omega)
              · skip
                refine wa_iconst ?_
                refine wa_goto ⟨_, rfl⟩ ?_
                refine wa_bipush (w_rg2 (by omega) (by omega)) ?_
                refine wa_cv 237 rfl (wy_pr rfl) wt_237 (M2 := fun _ => False) rfl at_M_must ⟨_, rfl⟩ rfl rfl ⟨trivial, (Or.inr ⟨wy_pr rfl, fun q => q⟩), trivial, trivial, trivial, trivial⟩ trivial (fun _ _ q => False.elim q) (must_ok (g := 1) (n := 7) (Or.inr rfl) ⟨by omega, by omega⟩) (fun oq39 Sq39 hp40 q39 => ?_)
                rcases q39 with ⟨_, rfl, rfl⟩ | ⟨m38, _, _⟩
                · skip
                  show wJ _ _ _ _ _ _ _ _ _ _
                  refine wa_iinc rfl rfl ?_
                  refine wa_goto ⟨_, rfl⟩ ?_
                  have hal : al_q A 241 m l k = false := by
                    unfold al_q
                    first | (rw [decide_eq_false (show ¬ (A (241 + 12) k = A (241 + 12) m ∧ A (241 + 12) m ≠ 0) from (show ¬ (A 253 k = A 253 m ∧ A 253 m ≠ 0) by omega)), Bool.false_and]) | (rw [show tp_q (A 239) (A (241 + 18) k) (A (241 + 19) k) (A (241 + 18) m) (A (241 + 19) m) = false from gs, Bool.false_and, Bool.and_false]) | (rw [gt, Bool.and_false, Bool.and_false])
                  rw [if_pos (show k < m by omega), hal, Bool.false_or] at he
                  exact wJ_S (ih (k + 1) (by omega) (by omega) (by omega) he) ⟨rfl, rfl, rfl, rfl, trivial⟩
                · skip
                  exact absurd m38 (by decide)
            · skip
              exact absurd c36 (by omega)
theorem pm_14_241 {c m q v : Int} {l : List Int} {R : (Int × Int) ⊕ (Int × List Int × Int)} {Z : wS} (hA15 : A 237 15 = 241) (hm : 0 ≤ m ∧ m < 400) (hmm : ho_mm A 241 m) (hm2 : 0 ≤ A 259 m ∧ A 259 m ≤ A 260 m ∧ A 260 m ≤ 65540) (hfi : 0 ≤ A 248 c ∧ A 248 c ≤ m) (hcc : 0 ≤ c ∧ c < 60) (hag : hp_ag 241 m A Z) (hE : lx_E Z A q) (hps : hm_ps 241 m Z l v) (hl : l.length ≤ 8) (he : pq_k A 241 c m (.inr (q, l, v)) = R) : wJ (pe_GA xs) wY0 M (d + 6) t_M_readsParameters ((pe_at t_M_readsParameters.bl 14).getD (0, [])).2 [(0, (2, 237)), (1, (0, c)), (2, (0, m))] [] Z (fun o S2 => (∃ (q v : Int) (l : List Int), R = .inr (q, l, v) ∧ o = .inl none ∧ hp_ag 241 m A S2 ∧ lx_E S2 A q ∧ hm_ps 241 m S2 l v ∧ l.length ≤ 8) ∨ (∃ e q : Int, R = .inl (e, q) ∧ o = .inr 238 ∧ hp_ag 241 m A S2 ∧ S2 238 5 = e ∧ S2 238 6 = q)) := by
  have hMz : w_ML Z := hE.1.1
  have hb15 : Z 237 15 = 241 := (hag 237 15 (by omega) (by omega) (by omega) (by omega)).trans hA15
  have e7 : Z 248 c = A 248 c := hag 248 c (by omega) (by omega) (by omega) (by omega)
  have h7 : Z 237 7 = q := hE.1.2.2.2.1
  replace he : (if lx_is (zq A q) 41 = true then (if dp_f A 241 m l ((m - A 248 c).toNat + 1) (A 248 c) = true then .inl (7, q) else .inr (lx_ne (zq A q) q, l, v)) else .inl (1, q)) = R := he
  refine wa_aload_n (n := 0) rfl ?_
  refine wa_aload_n (n := 0) rfl ?_
  refine wa_bipush (w_rg2 (by omega) (by omega)) ?_
  refine wa_cv 237 rfl (wy_pr rfl) wt_237 (M2 := fun _ => False) rfl at_M_isSign ⟨_, rfl⟩ rfl rfl ⟨(Or.inr ⟨wy_pr rfl, fun q => q⟩), trivial, trivial, trivial⟩ ⟨(Or.inr ⟨wy_pr rfl, fun q => q⟩), trivial⟩ (fun _ _ q => False.elim q) (isSign_ok ⟨by omega, by omega⟩) (fun oq1 Sq1 hp2 q1 => ?_)
  rcases q1 with ⟨rfl, ⟨rfl, gi⟩ | ⟨rfl, gi⟩⟩
  · skip
    show wJ _ _ _ _ _ _ _ _ _ _
    rw [lx_E_is hE] at gi
    refine wa_iconst ?_
    refine wa_cv 237 rfl (wy_pr rfl) wt_237 (M2 := fun _ => False) rfl at_M_must ⟨_, rfl⟩ rfl rfl ⟨(Or.inr ⟨wy_pr rfl, fun q => q⟩), trivial, trivial, trivial⟩ trivial (fun _ _ q => False.elim q) (must_ok (g := 1) (n := 1) (Or.inr rfl) ⟨by omega, by omega⟩) (fun oq4 Sq4 hp5 q4 => ?_)
    rcases q4 with ⟨_, rfl, rfl⟩ | ⟨m3, _, _⟩
    · skip
      show wJ _ _ _ _ _ _ _ _ _ _
      refine wa_aload_n (n := 0) rfl ?_
      refine wb_gf5 237 rfl (wy_pr rfl) wt_237 wf_15_15 (v := 241) (hb15) (fun r6 => ?_)
      refine wb_gf4 241 rfl (wy_pr rfl) wt_241 wf_12_7 (v := 248) wl_241_7 ?_
      refine wa_iload_n (n := 1) rfl ?_
      refine wb_iald 248 rfl (wy_pr rfl) wt_248 (n := 60) ((ml_248 hMz)) (by omega) (by omega) (v := (A 248 c)) (e7) (fun r7 => ?_)
      refine wa_istore (n := 4) rfl ?_
      refine wa_fall ⟨_, rfl⟩ ?_
      rw [if_pos gi] at he
      exact wJ_S (pm_15_241 hA15 hm hmm hm2 hfi hcc hag hE hps hl gi ((m - A 248 c).toNat + 1) (A 248 c) (by omega) hfi.1 hfi.2 he) ⟨rfl, rfl, rfl, rfl, trivial⟩
    · skip
      exact absurd m3 (by decide)
  · skip
    show wJ _ _ _ _ _ _ _ _ _ _
    rw [lx_E_is hE] at gi
    refine wa_iconst ?_
    refine wa_cv 237 rfl (wy_pr rfl) wt_237 (M2 := fun _ => False) rfl at_M_must ⟨_, rfl⟩ rfl rfl ⟨(Or.inr ⟨wy_pr rfl, fun q => q⟩), trivial, trivial, trivial⟩ trivial (fun _ _ q => False.elim q) (must_ok (g := 0) (n := 1) (Or.inl rfl) ⟨by omega, by omega⟩) (fun oq9 Sq9 hp10 q9 => ?_)
    rcases q9 with ⟨m8, _, _⟩ | ⟨_, rfl, rfl⟩
    · skip
      exact absurd m8 (by decide)
    · skip
      refine ⟨rfl, ?_⟩
      rw [if_neg (by rw [gi]; decide)] at he
      exact Or.inr ⟨_, _, he.symm, rfl, hp_ag_hl hag, rfl, h7⟩
theorem readsParameters_241 {c m : Int} {R : (Int × Int) ⊕ (Int × List Int × Int)} (hX : w_X xs) (hA15 : A 237 15 = 241) (hm : 0 ≤ m ∧ m < 400) (hmm : ho_mm A 241 m) (hm2 : 0 ≤ A 259 m ∧ A 259 m ≤ A 260 m ∧ A 260 m ≤ 65540) (hfi : 0 ≤ A 248 c ∧ A 248 c ≤ m) (hcc : 0 ≤ c ∧ c < 60) (hAn : ho_nm A 241) (hE : lx_E A A p) (he : pq_k A 241 c m (pq_r A 241 p) = R) : wJ (pe_GA xs) wY0 M (d + 6) t_M_readsParameters ((pe_at t_M_readsParameters.bl 0).getD (0, [])).2 [(0, (2, 237)), (1, (0, c)), (2, (0, m))] [] A (fun o S2 => (∃ (q v : Int) (l : List Int), R = .inr (q, l, v) ∧ o = .inl none ∧ hp_ag 241 m A S2 ∧ lx_E S2 A q ∧ hm_ps 241 m S2 l v ∧ l.length ≤ 8) ∨ (∃ e q : Int, R = .inl (e, q) ∧ o = .inr 238 ∧ hp_ag 241 m A S2 ∧ S2 238 5 = e ∧ S2 238 6 = q)) := by
  have hMz : w_ML A := hE.1.1
  have hagA : hp_ag 241 m A (w_up (w_up A 256 m 0) 257 m 0) := hp_ag_up (hp_ag_up hp_ag_rf (by decide) (by omega) (by decide)) (by decide) (by omega) (by decide)
  have hEA : lx_E (w_up (w_up A 256 m 0) 257 m 0) A p := lx_E_up (lx_E_up hE (by decide) (by omega)) (by decide) (by omega)
  have hpsA : hm_ps 241 m (w_up (w_up A 256 m 0) 257 m 0) [] 0 := ⟨(w_up_slot (by decide)).trans (w_up_same _ _ _ _), w_up_same _ _ _ _, fun i hi => absurd hi (Nat.not_lt_zero i)⟩
  unfold pq_r at he
  refine wa_aload_n (n := 0) rfl ?_
  refine wb_gf5 237 rfl (wy_pr rfl) wt_237 wf_15_15 (v := 241) (hA15) (fun r1 => ?_)
  refine wb_gf4 241 rfl (wy_pr rfl) wt_241 wf_12_16 (v := 256) wl_241_16 ?_
  refine wa_iload_n (n := 2) rfl ?_
  refine wa_iconst ?_
  refine wb_iast 256 rfl (wy_pr rfl) wt_256 (n := 400) ((ml_256 hMz)) (by omega) (by omega) ⟨(by omega), (by omega)⟩ ?_
  refine wa_aload_n (n := 0) rfl ?_
  refine wb_gf5 237 rfl (wy_pr rfl) wt_237 wf_15_15 (v := 241) ((w_up_slot (by decide)).trans (hA15)) (fun r2 => ?_)
  refine wb_gf4 241 rfl (wy_pr rfl) wt_241 wf_12_17 (v := 257) wl_241_17 ?_
  refine wa_iload_n (n := 2) rfl ?_
  refine wa_iconst ?_
  refine wb_zast 257 rfl (wy_pr rfl) wt_257 (n := 400) ((w_up_slot (by decide)).trans ((ml_257 hMz))) (by omega) (by omega) ⟨(by omega), (by omega)⟩ ?_
  refine wa_aload_n (n := 0) rfl ?_
  refine wa_bipush (w_rg2 (by omega) (by omega)) ?_
  refine wa_cv 237 rfl (wy_pr rfl) wt_237 (M2 := fun _ => False) rfl at_M_isSign ⟨_, rfl⟩ rfl rfl ⟨(Or.inr ⟨wy_pr rfl, fun q => q⟩), trivial, trivial, trivial⟩ trivial (fun _ _ q => False.elim q) (isSign_ok ⟨by omega, by omega⟩) (fun oq3 Sq3 hp4 q3 => ?_)
  rcases q3 with ⟨rfl, ⟨rfl, gi⟩ | ⟨rfl, gi⟩⟩
  · skip
    show wJ _ _ _ _ _ _ _ _ _ _
    rw [lx_E_is hEA] at gi
    refine wa_ifne (w_rg0 (by omega) (by omega)) ⟨_, rfl⟩ (fun c5 => ?_) (fun c5 => ?_)
    · skip
      refine wa_iconst ?_
      refine wa_fall ⟨_, rfl⟩ ?_
      refine wa_istore_n (n := 3) rfl ?_
      refine wa_fall ⟨_, rfl⟩ ?_
      refine wa_iload_n (n := 3) rfl ?_
      refine wa_ifeq (w_rg0 (by omega) (by omega)) ⟨_, rfl⟩ (fun c6 => ?_) (fun c6 => ?_)
      · skip
        rw [if_pos gi] at he
        exact wJ_S (pm_14_241 hA15 hm hmm hm2 hfi hcc hagA hEA hpsA (Nat.zero_le _) he) ⟨rfl, rfl, rfl, trivial⟩
      · skip
        exact absurd c6 (by omega)
    · skip
      exact absurd c5 (by omega)
  · skip
    show wJ _ _ _ _ _ _ _ _ _ _
    rw [lx_E_is hEA] at gi
    refine wa_ifne (w_rg0 (by omega) (by omega)) ⟨_, rfl⟩ (fun c7 => ?_) (fun c7 => ?_)
    · skip
      exact absurd c7 (by omega)
    · skip
      refine wa_iconst ?_
      refine wa_goto ⟨_, rfl⟩ ?_
      refine wa_istore_n (n := 3) rfl ?_
      refine wa_fall ⟨_, rfl⟩ ?_
      rw [if_neg (by rw [gi]; decide)] at he
      refine wJ_S (pr_3_241 (r := pr_f A 241 ((A 237 4 - p).toNat + 1) p []) hX hA15 hAn hm (fun Z q v l hr h1 h2 h3 h4 => pm_14_241 hA15 hm hmm hm2 hfi hcc h1 h2 h3 h4 (by rw [← hr]; exact he)) (fun Z e q hr h1 h2 h3 => ?_) ((A 237 4 - p).toNat + 1) p [] _ (by omega) (Nat.zero_le _) rfl hagA hEA hpsA) ⟨rfl, rfl, rfl, rfl, trivial⟩
      rw [hr] at he
      exact Or.inr ⟨_, _, he.symm, rfl, h1, h2, h3⟩
theorem pm_15_261 {c m q v : Int} {l : List Int} {R : (Int × Int) ⊕ (Int × List Int × Int)} {Z : wS} (hA15 : A 237 15 = 261) (hm : 0 ≤ m ∧ m < 400) (hmm : ho_mm A 261 m) (hm2 : 0 ≤ A 279 m ∧ A 279 m ≤ A 280 m ∧ A 280 m ≤ 65540) (hfi : 0 ≤ A 268 c ∧ A 268 c ≤ m) (hcc : 0 ≤ c ∧ c < 60) (hag : hp_ag 261 m A Z) (hE : lx_E Z A q) (hps : hm_ps 261 m Z l v) (hl : l.length ≤ 8) (h41 : lx_is (zq A q) 41 = true) : ∀ (f : Nat) (k : Int), (m - k).toNat < f → 0 ≤ k → k ≤ m → (if dp_f A 261 m l f k = true then (.inl (7, q) : (Int × Int) ⊕ (Int × List Int × Int)) else .inr (lx_ne (zq A q) q, l, v)) = R → wJ (pe_GA xs) wY0 M (d + 6) t_M_readsParameters ((pe_at t_M_readsParameters.bl 15).getD (0, [])).2 [(0, (2, 237)), (1, (0, c)), (2, (0, m)), (4, (0, k))] [] Z (fun o S2 => (∃ (q v : Int) (l : List Int), R = .inr (q, l, v) ∧ o = .inl none ∧ hp_ag 261 m A S2 ∧ lx_E S2 A q ∧ hm_ps 261 m S2 l v ∧ l.length ≤ 8) ∨ (∃ e q : Int, R = .inl (e, q) ∧ o = .inr 238 ∧ hp_ag 261 m A S2 ∧ S2 238 5 = e ∧ S2 238 6 = q)) := by
  intro f
  induction f with
  | zero => intros; omega
  | succ f ih =>
    intro k hf hk0 hkm he
    have hMz : w_ML Z := hE.1.1
    have hb15 : Z 237 15 = 261 := (hag 237 15 (by omega) (by omega) (by omega) (by omega)).trans hA15
    have e12 : Z 273 = A 273 := hp_ag_row hag (by decide)
    have e18 : Z 279 = A 279 := hp_ag_row hag (by decide)
    have e19 : Z 280 = A 280 := hp_ag_row hag (by decide)
    have e239 : Z 239 = A 239 := hE.2.1
    have h7 : Z 237 7 = q := hE.1.2.2.2.1
    rw [dp_f_s] at he
    have hmk := fun (z : k < m) => hmm k hk0 z
    have g1 : Z 273 k = A 273 k := by rw [e12]
    have g2 : Z 273 m = A 273 m := by rw [e12]
    have q41 : lx_is Z 41 = true := by rw [lx_E_is hE]; exact h41
    refine wa_iload (n := 4) rfl ?_
    refine wa_iload_n (n := 2) rfl ?_
    refine wa_icmpge (w_rg0 (by omega) (by omega)) (w_rg0 (by omega) (by omega)) ⟨_, rfl⟩ (fun c1 => ?_) (fun c1 => ?_)
    · skip
      refine wa_aload_n (n := 0) rfl ?_
      refine wa_cv 237 rfl (wy_pr rfl) wt_237 (M2 := fun _ => False) rfl at_M_next ⟨_, rfl⟩ rfl rfl ⟨(Or.inr ⟨wy_pr rfl, fun q => q⟩), trivial, trivial, trivial, trivial⟩ trivial (fun _ _ q => False.elim q) (nx_I hE.1 (by rw [(lx_is4 q41).1]; decide)) (fun oq2 Sq2 hp3 q2 => ?_)
      rcases q2 with ⟨rfl, a1, a2⟩
      show wJ _ _ _ _ _ _ _ _ _ _
      refine wa_return rfl ?_
      rw [if_neg (show ¬ k < m by omega), if_neg (by decide)] at he
      exact Or.inl ⟨_, _, _, he.symm, rfl, hp_ag_lx hag a1, by rw [← lx_E_ne hE]; exact lx_E_ag hE a1 a2, hm_ps_ag (by decide) hps a1, hl⟩
    · skip
      refine wa_aload_n (n := 0) rfl ?_
      refine wb_gf5 237 rfl (wy_pr rfl) wt_237 wf_15_15 (v := 261) (hb15) (fun r4 => ?_)
      refine wb_gf4 261 rfl (wy_pr rfl) wt_261 wf_12_13 (v := 273) wl_261_13 ?_
      refine wa_iload (n := 4) rfl ?_
      refine wb_iald 273 rfl (wy_pr rfl) wt_273 (n := 400) ((ml_273 hMz)) (by omega) (by omega) (v := (A 273 k)) (g1) (fun r5 => ?_)
      refine wa_aload_n (n := 0) rfl ?_
      refine wb_gf5 237 rfl (wy_pr rfl) wt_237 wf_15_15 (v := 261) (hb15) (fun r6 => ?_)
      refine wb_gf4 261 rfl (wy_pr rfl) wt_261 wf_12_13 (v := 273) wl_261_13 ?_
      refine wa_iload_n (n := 2) rfl ?_
      refine wb_iald 273 rfl (wy_pr rfl) wt_273 (n := 400) ((ml_273 hMz)) (by omega) (by omega) (v := (A 273 m)) (g2) (fun r7 => ?_)
      refine wa_icmpne (w_rg0 (by omega) (by omega)) (w_rg0 (by omega) (by omega)) ⟨_, rfl⟩ (fun c8 => ?_) (fun c8 => ?_)
      · skip
        refine wa_iconst ?_
        refine wa_fall ⟨_, rfl⟩ ?_
        refine wa_istore (n := 5) rfl ?_
        refine wa_aload_n (n := 0) rfl ?_
        refine wa_iload (n := 5) rfl ?_
        refine wa_ifne (w_rg0 (by omega) (by omega)) ⟨_, rfl⟩ (fun c9 => ?_) (fun c9 => ?_)
        · skip
          exact absurd c9 (by omega)
        · skip
          refine wa_iconst ?_
          refine wa_goto ⟨_, rfl⟩ ?_
          refine wa_bipush (w_rg2 (by omega) (by omega)) ?_
          refine wa_cv 237 rfl (wy_pr rfl) wt_237 (M2 := fun _ => False) rfl at_M_must ⟨_, rfl⟩ rfl rfl ⟨trivial, (Or.inr ⟨wy_pr rfl, fun q => q⟩), trivial, trivial, trivial, trivial⟩ trivial (fun _ _ q => False.elim q) (must_ok (g := 1) (n := 7) (Or.inr rfl) ⟨by omega, by omega⟩) (fun oq11 Sq11 hp12 q11 => ?_)
          rcases q11 with ⟨_, rfl, rfl⟩ | ⟨m10, _, _⟩
          · skip
            show wJ _ _ _ _ _ _ _ _ _ _
            refine wa_iinc rfl rfl ?_
            refine wa_goto ⟨_, rfl⟩ ?_
            have hal : al_q A 261 m l k = false := by
              unfold al_q
              first | (rw [decide_eq_false (show ¬ (A (261 + 12) k = A (261 + 12) m ∧ A (261 + 12) m ≠ 0) from (show ¬ (A 273 k = A 273 m ∧ A 273 m ≠ 0) by omega)), Bool.false_and]) | (rw [show tp_q (A 239) (A (261 + 18) k) (A (261 + 19) k) (A (261 + 18) m) (A (261 + 19) m) = false from gs, Bool.false_and, Bool.and_false]) | (rw [gt, Bool.and_false, Bool.and_false])
            rw [if_pos (show k < m by omega), hal, Bool.false_or] at he
            exact wJ_S (ih (k + 1) (by omega) (by omega) (by omega) he) ⟨rfl, rfl, rfl, rfl, trivial⟩
          · skip
            exact absurd m10 (by decide)
      · skip
        refine wa_aload_n (n := 0) rfl ?_
        refine wb_gf5 237 rfl (wy_pr rfl) wt_237 wf_15_15 (v := 261) (hb15) (fun r13 => ?_)
        refine wb_gf4 261 rfl (wy_pr rfl) wt_261 wf_12_13 (v := 273) wl_261_13 ?_
        refine wa_iload_n (n := 2) rfl ?_
        refine wb_iald 273 rfl (wy_pr rfl) wt_273 (n := 400) ((ml_273 hMz)) (by omega) (by omega) (v := (A 273 m)) (g2) (fun r14 => ?_)
        refine wa_ifeq (w_rg0 (by omega) (by omega)) ⟨_, rfl⟩ (fun c15 => ?_) (fun c15 => ?_)
        · skip
          refine wa_iconst ?_
          refine wa_fall ⟨_, rfl⟩ ?_
          refine wa_istore (n := 5) rfl ?_
          refine wa_aload_n (n := 0) rfl ?_
          refine wa_iload (n := 5) rfl ?_
          refine wa_ifne (w_rg0 (by omega) (by omega)) ⟨_, rfl⟩ (fun c16 => ?_) (fun c16 => ?_)
          · skip
            exact absurd c16 (by omega)
          · skip
            refine wa_iconst ?_
            refine wa_goto ⟨_, rfl⟩ ?_
            refine wa_bipush (w_rg2 (by omega) (by omega)) ?_
            refine wa_cv 237 rfl (wy_pr rfl) wt_237 (M2 := fun _ => False) rfl at_M_must ⟨_, rfl⟩ rfl rfl ⟨trivial, (Or.inr ⟨wy_pr rfl, fun q => q⟩), trivial, trivial, trivial, trivial⟩ trivial (fun _ _ q => False.elim q) (must_ok (g := 1) (n := 7) (Or.inr rfl) ⟨by omega, by omega⟩) (fun oq18 Sq18 hp19 q18 => ?_)
            rcases q18 with ⟨_, rfl, rfl⟩ | ⟨m17, _, _⟩
            · skip
              show wJ _ _ _ _ _ _ _ _ _ _
              refine wa_iinc rfl rfl ?_
              refine wa_goto ⟨_, rfl⟩ ?_
              have hal : al_q A 261 m l k = false := by
                unfold al_q
                first | (rw [decide_eq_false (show ¬ (A (261 + 12) k = A (261 + 12) m ∧ A (261 + 12) m ≠ 0) from (show ¬ (A 273 k = A 273 m ∧ A 273 m ≠ 0) by omega)), Bool.false_and]) | (rw [show tp_q (A 239) (A (261 + 18) k) (A (261 + 19) k) (A (261 + 18) m) (A (261 + 19) m) = false from gs, Bool.false_and, Bool.and_false]) | (rw [gt, Bool.and_false, Bool.and_false])
              rw [if_pos (show k < m by omega), hal, Bool.false_or] at he
              exact wJ_S (ih (k + 1) (by omega) (by omega) (by omega) he) ⟨rfl, rfl, rfl, rfl, trivial⟩
            · skip
              exact absurd m17 (by decide)
        · skip
          refine wa_aload_n (n := 0) rfl ?_
          refine wa_iload (n := 4) rfl ?_
          refine wa_iload_n (n := 2) rfl ?_
          refine wa_cv 237 rfl (wy_pr rfl) wt_237 (M2 := fun _ => False) rfl at_M_sameOnTape ⟨_, rfl⟩ rfl rfl ⟨(Or.inr ⟨wy_pr rfl, fun q => q⟩), trivial, trivial, trivial, trivial⟩ trivial (fun _ _ q => False.elim q) (sameOnTape_261 hMz hb15 ⟨by omega, by omega⟩ ⟨by omega, by omega⟩ (by rw [e18, e19]; exact (hmk (by omega)).1) (by rw [e18, e19]; exact hm2)) (fun oq20 Sq20 hp21 q20 => ?_)
          rcases q20 with ⟨rfl, ⟨rfl, gs⟩ | ⟨rfl, gs⟩⟩
          · skip
            show wJ _ _ _ _ _ _ _ _ _ _
            rw [e18, e19, e239] at gs
            refine wa_ifeq (w_rg0 (by omega) (by omega)) ⟨_, rfl⟩ (fun c22 => ?_) (fun c22 => ?_)
            · skip
              exact absurd c22 (by omega)
            · skip
              refine wa_aload_n (n := 0) rfl ?_
              refine wb_gf5 237 rfl (wy_pr rfl) wt_237 wf_15_15 (v := 261) (hb15) (fun r23 => ?_)
              refine wa_iload (n := 4) rfl ?_
              refine wa_iload_n (n := 2) rfl ?_
              refine wa_cv 261 rfl (wy_pr rfl) wt_261 (M2 := fun _ => False) rfl at_MO_haveSameTypes ⟨_, rfl⟩ rfl rfl ⟨(Or.inr ⟨wy_pr rfl, fun q => q⟩), trivial, trivial, trivial, trivial⟩ trivial (fun _ _ q => False.elim q) (haveSameTypes_261 hMz ⟨by omega, by omega⟩ ⟨by omega, by omega⟩ (by rw [hag 276 k (by omega) (by omega) (by omega) (by omega)]; exact (hmk (by omega)).2) (by rw [show Z 276 m = (l.length : Int) from hps.1]; omega)) (fun oq24 Sq24 hp25 q24 => ?_)
              rcases q24 with ⟨rfl, ⟨rfl, gt⟩ | ⟨rfl, gt⟩⟩
              · skip
                show wJ _ _ _ _ _ _ _ _ _ _
                rw [pt_ps (b := 261) hm.1 ⟨by omega, by omega⟩ hag (by decide) hps hl] at gt
                refine wa_ifeq (w_rg0 (by omega) (by omega)) ⟨_, rfl⟩ (fun c26 => ?_) (fun c26 => ?_)
                · skip
                  exact absurd c26 (by omega)
                · skip
                  refine wa_iconst ?_
                  refine wa_goto ⟨_, rfl⟩ ?_
                  refine wa_istore (n := 5) rfl ?_
                  refine wa_aload_n (n := 0) rfl ?_
                  refine wa_iload (n := 5) rfl ?_
                  refine wa_ifne (w_rg0 (by omega) (by omega)) ⟨_, rfl⟩ (fun c27 => ?_) (fun c27 => ?_)
                  · skip
                    refine wa_iconst ?_
                    refine wa_fall ⟨_, rfl⟩ ?_
                    refine wa_bipush (w_rg2 (by omega) (by omega)) ?_
                    refine wa_cv 237 rfl (wy_pr rfl) wt_237 (M2 := fun _ => False) rfl at_M_must ⟨_, rfl⟩ rfl rfl ⟨trivial, (Or.inr ⟨wy_pr rfl, fun q => q⟩), trivial, trivial, trivial, trivial⟩ trivial (fun _ _ q => False.elim q) (must_ok (g := 0) (n := 7) (Or.inl rfl) ⟨by omega, by omega⟩) (fun oq29 Sq29 hp30 q29 => ?_)
                    rcases q29 with ⟨m28, _, _⟩ | ⟨_, rfl, rfl⟩
                    · skip
                      exact absurd m28 (by decide)
                    · skip
                      refine ⟨rfl, ?_⟩
                      have hal : al_q A 261 m l k = true := by
                        unfold al_q
                        rw [decide_eq_true (show A (261 + 12) k = A (261 + 12) m ∧ A (261 + 12) m ≠ 0 from (show A 273 k = A 273 m ∧ A 273 m ≠ 0 from ⟨by omega, by omega⟩)), show tp_q (A 239) (A (261 + 18) k) (A (261 + 19) k) (A (261 + 18) m) (A (261 + 19) m) = true from gs, gt]; rfl
                      rw [if_pos (show k < m by omega), hal, Bool.true_or, if_pos rfl] at he
                      exact Or.inr ⟨_, _, he.symm, rfl, hp_ag_hl hag, rfl, h7⟩
                  · skip
                    exact absurd c27 (by omega)
              · skip
                show wJ _ _ _ _ _ _ _ _ _ _
                rw [pt_ps (b := 261) hm.1 ⟨by omega, by omega⟩ hag (by decide) hps hl] at gt
                refine wa_ifeq (w_rg0 (by omega) (by omega)) ⟨_, rfl⟩ (fun c31 => ?_) (fun c31 => ?_)
                · skip
                  refine wa_iconst ?_
                  refine wa_fall ⟨_, rfl⟩ ?_
                  refine wa_istore (n := 5) rfl ?_
                  refine wa_aload_n (n := 0) rfl ?_
                  refine wa_iload (n := 5) rfl ?_
                  refine wa_ifne (w_rg0 (by omega) (by omega)) ⟨_, rfl⟩ (fun c32 => ?_) (fun c32 => ?_)
                  · skip
                    exact absurd c32 (by omega)
                  · skip
                    refine wa_iconst ?_
                    refine wa_goto ⟨_, rfl⟩ ?_
                    refine wa_bipush (w_rg2 (by omega) (by omega)) ?_
                    refine wa_cv 237 rfl (wy_pr rfl) wt_237 (M2 := fun _ => False) rfl at_M_must ⟨_, rfl⟩ rfl rfl ⟨trivial, (Or.inr ⟨wy_pr rfl, fun q => q⟩), trivial, trivial, trivial, trivial⟩ trivial (fun _ _ q => False.elim q) (must_ok (g := 1) (n := 7) (Or.inr rfl) ⟨by omega, by omega⟩) (fun oq34 Sq34 hp35 q34 => ?_)
                    rcases q34 with ⟨_, rfl, rfl⟩ | ⟨m33, _, _⟩
                    · skip
                      show wJ _ _ _ _ _ _ _ _ _ _
                      refine wa_iinc rfl rfl ?_
                      refine wa_goto ⟨_, rfl⟩ ?_
                      have hal : al_q A 261 m l k = false := by
                        unfold al_q
                        first | (rw [decide_eq_false (show ¬ (A (261 + 12) k = A (261 + 12) m ∧ A (261 + 12) m ≠ 0) from (show ¬ (A 273 k = A 273 m ∧ A 273 m ≠ 0) by omega)), Bool.false_and]) | (rw [show tp_q (A 239) (A (261 + 18) k) (A (261 + 19) k) (A (261 + 18) m) (A (261 + 19) m) = false from gs, Bool.false_and, Bool.and_false]) | (rw [gt, Bool.and_false, Bool.and_false])
                      rw [if_pos (show k < m by omega), hal, Bool.false_or] at he
                      exact wJ_S (ih (k + 1) (by omega) (by omega) (by omega) he) ⟨rfl, rfl, rfl, rfl, trivial⟩
                    · skip
                      exact absurd m33 (by decide)
                · skip
                  exact absurd c31 (by omega)
          · skip
            show wJ _ _ _ _ _ _ _ _ _ _
            rw [e18, e19, e239] at gs
            refine wa_ifeq (w_rg0 (by omega) (by omega)) ⟨_, rfl⟩ (fun c36 => ?_) (fun c36 => ?_)
            · skip
              refine wa_iconst ?_
              refine wa_fall ⟨_, rfl⟩ ?_
              refine wa_istore (n := 5) rfl ?_
              refine wa_aload_n (n := 0) rfl ?_
              refine wa_iload (n := 5) rfl ?_
              refine wa_ifne (w_rg0 (by omega) (by omega)) ⟨_, rfl⟩ (fun c37 => ?_) (fun c37 => ?_)
              · skip
                exact absurd c37 (by omega)
              · skip
                refine wa_iconst ?_
                refine wa_goto ⟨_, rfl⟩ ?_
                refine wa_bipush (w_rg2 (by omega) (by omega)) ?_
                refine wa_cv 237 rfl (wy_pr rfl) wt_237 (M2 := fun _ => False) rfl at_M_must ⟨_, rfl⟩ rfl rfl ⟨trivial, (Or.inr ⟨wy_pr rfl, fun q => q⟩), trivial, trivial, trivial, trivial⟩ trivial (fun _ _ q => False.elim q) (must_ok (g := 1) (n := 7) (Or.inr rfl) ⟨by omega, by omega⟩) (fun oq39 Sq39 hp40 q39 => ?_)
                rcases q39 with ⟨_, rfl, rfl⟩ | ⟨m38, _, _⟩
                · skip
                  show wJ _ _ _ _ _ _ _ _ _ _
                  refine wa_iinc rfl rfl ?_
                  refine wa_goto ⟨_, rfl⟩ ?_
                  have hal : al_q A 261 m l k = false := by
                    unfold al_q
                    first | (rw [decide_eq_false (show ¬ (A (261 + 12) k = A (261 + 12) m ∧ A (261 + 12) m ≠ 0) from (show ¬ (A 273 k = A 273 m ∧ A 273 m ≠ 0) by omega)), Bool.false_and]) | (rw [show tp_q (A 239) (A (261 + 18) k) (A (261 + 19) k) (A (261 + 18) m) (A (261 + 19) m) = false from gs, Bool.false_and, Bool.and_false]) | (rw [gt, Bool.and_false, Bool.and_false])
                  rw [if_pos (show k < m by omega), hal, Bool.false_or] at he
                  exact wJ_S (ih (k + 1) (by omega) (by omega) (by omega) he) ⟨rfl, rfl, rfl, rfl, trivial⟩
                · skip
                  exact absurd m38 (by decide)
            · skip
              exact absurd c36 (by omega)
theorem pm_14_261 {c m q v : Int} {l : List Int} {R : (Int × Int) ⊕ (Int × List Int × Int)} {Z : wS} (hA15 : A 237 15 = 261) (hm : 0 ≤ m ∧ m < 400) (hmm : ho_mm A 261 m) (hm2 : 0 ≤ A 279 m ∧ A 279 m ≤ A 280 m ∧ A 280 m ≤ 65540) (hfi : 0 ≤ A 268 c ∧ A 268 c ≤ m) (hcc : 0 ≤ c ∧ c < 60) (hag : hp_ag 261 m A Z) (hE : lx_E Z A q) (hps : hm_ps 261 m Z l v) (hl : l.length ≤ 8) (he : pq_k A 261 c m (.inr (q, l, v)) = R) : wJ (pe_GA xs) wY0 M (d + 6) t_M_readsParameters ((pe_at t_M_readsParameters.bl 14).getD (0, [])).2 [(0, (2, 237)), (1, (0, c)), (2, (0, m))] [] Z (fun o S2 => (∃ (q v : Int) (l : List Int), R = .inr (q, l, v) ∧ o = .inl none ∧ hp_ag 261 m A S2 ∧ lx_E S2 A q ∧ hm_ps 261 m S2 l v ∧ l.length ≤ 8) ∨ (∃ e q : Int, R = .inl (e, q) ∧ o = .inr 238 ∧ hp_ag 261 m A S2 ∧ S2 238 5 = e ∧ S2 238 6 = q)) := by
  have hMz : w_ML Z := hE.1.1
  have hb15 : Z 237 15 = 261 := (hag 237 15 (by omega) (by omega) (by omega) (by omega)).trans hA15
  have e7 : Z 268 c = A 268 c := hag 268 c (by omega) (by omega) (by omega) (by omega)
  have h7 : Z 237 7 = q := hE.1.2.2.2.1
  replace he : (if lx_is (zq A q) 41 = true then (if dp_f A 261 m l ((m - A 268 c).toNat + 1) (A 268 c) = true then .inl (7, q) else .inr (lx_ne (zq A q) q, l, v)) else .inl (1, q)) = R := he
  refine wa_aload_n (n := 0) rfl ?_
  refine wa_aload_n (n := 0) rfl ?_
  refine wa_bipush (w_rg2 (by omega) (by omega)) ?_
  refine wa_cv 237 rfl (wy_pr rfl) wt_237 (M2 := fun _ => False) rfl at_M_isSign ⟨_, rfl⟩ rfl rfl ⟨(Or.inr ⟨wy_pr rfl, fun q => q⟩), trivial, trivial, trivial⟩ ⟨(Or.inr ⟨wy_pr rfl, fun q => q⟩), trivial⟩ (fun _ _ q => False.elim q) (isSign_ok ⟨by omega, by omega⟩) (fun oq1 Sq1 hp2 q1 => ?_)
  rcases q1 with ⟨rfl, ⟨rfl, gi⟩ | ⟨rfl, gi⟩⟩
  · skip
    show wJ _ _ _ _ _ _ _ _ _ _
    rw [lx_E_is hE] at gi
    refine wa_iconst ?_
    refine wa_cv 237 rfl (wy_pr rfl) wt_237 (M2 := fun _ => False) rfl at_M_must ⟨_, rfl⟩ rfl rfl ⟨(Or.inr ⟨wy_pr rfl, fun q => q⟩), trivial, trivial, trivial⟩ trivial (fun _ _ q => False.elim q) (must_ok (g := 1) (n := 1) (Or.inr rfl) ⟨by omega, by omega⟩) (fun oq4 Sq4 hp5 q4 => ?_)
    rcases q4 with ⟨_, rfl, rfl⟩ | ⟨m3, _, _⟩
    · skip
      show wJ _ _ _ _ _ _ _ _ _ _
      refine wa_aload_n (n := 0) rfl ?_
      refine wb_gf5 237 rfl (wy_pr rfl) wt_237 wf_15_15 (v := 261) (hb15) (fun r6 => ?_)
      refine wb_gf4 261 rfl (wy_pr rfl) wt_261 wf_12_7 (v := 268) wl_261_7 ?_
      refine wa_iload_n (n := 1) rfl ?_
      refine wb_iald 268 rfl (wy_pr rfl) wt_268 (n := 60) ((ml_268 hMz)) (by omega) (by omega) (v := (A 268 c)) (e7) (fun r7 => ?_)
      refine wa_istore (n := 4) rfl ?_
      refine wa_fall ⟨_, rfl⟩ ?_
      rw [if_pos gi] at he
      exact wJ_S (pm_15_261 hA15 hm hmm hm2 hfi hcc hag hE hps hl gi ((m - A 268 c).toNat + 1) (A 268 c) (by omega) hfi.1 hfi.2 he) ⟨rfl, rfl, rfl, rfl, trivial⟩
    · skip
      exact absurd m3 (by decide)
  · skip
    show wJ _ _ _ _ _ _ _ _ _ _
    rw [lx_E_is hE] at gi
    refine wa_iconst ?_
    refine wa_cv 237 rfl (wy_pr rfl) wt_237 (M2 := fun _ => False) rfl at_M_must ⟨_, rfl⟩ rfl rfl ⟨(Or.inr ⟨wy_pr rfl, fun q => q⟩), trivial, trivial, trivial⟩ trivial (fun _ _ q => False.elim q) (must_ok (g := 0) (n := 1) (Or.inl rfl) ⟨by omega, by omega⟩) (fun oq9 Sq9 hp10 q9 => ?_)
    rcases q9 with ⟨m8, _, _⟩ | ⟨_, rfl, rfl⟩
    · skip
      exact absurd m8 (by decide)
    · skip
      refine ⟨rfl, ?_⟩
      rw [if_neg (by rw [gi]; decide)] at he
      exact Or.inr ⟨_, _, he.symm, rfl, hp_ag_hl hag, rfl, h7⟩
theorem readsParameters_261 {c m : Int} {R : (Int × Int) ⊕ (Int × List Int × Int)} (hX : w_X xs) (hA15 : A 237 15 = 261) (hm : 0 ≤ m ∧ m < 400) (hmm : ho_mm A 261 m) (hm2 : 0 ≤ A 279 m ∧ A 279 m ≤ A 280 m ∧ A 280 m ≤ 65540) (hfi : 0 ≤ A 268 c ∧ A 268 c ≤ m) (hcc : 0 ≤ c ∧ c < 60) (hAn : ho_nm A 261) (hE : lx_E A A p) (he : pq_k A 261 c m (pq_r A 261 p) = R) : wJ (pe_GA xs) wY0 M (d + 6) t_M_readsParameters ((pe_at t_M_readsParameters.bl 0).getD (0, [])).2 [(0, (2, 237)), (1, (0, c)), (2, (0, m))] [] A (fun o S2 => (∃ (q v : Int) (l : List Int), R = .inr (q, l, v) ∧ o = .inl none ∧ hp_ag 261 m A S2 ∧ lx_E S2 A q ∧ hm_ps 261 m S2 l v ∧ l.length ≤ 8) ∨ (∃ e q : Int, R = .inl (e, q) ∧ o = .inr 238 ∧ hp_ag 261 m A S2 ∧ S2 238 5 = e ∧ S2 238 6 = q)) := by
  have hMz : w_ML A := hE.1.1
  have hagA : hp_ag 261 m A (w_up (w_up A 276 m 0) 277 m 0) := hp_ag_up (hp_ag_up hp_ag_rf (by decide) (by omega) (by decide)) (by decide) (by omega) (by decide)
  have hEA : lx_E (w_up (w_up A 276 m 0) 277 m 0) A p := lx_E_up (lx_E_up hE (by decide) (by omega)) (by decide) (by omega)
  have hpsA : hm_ps 261 m (w_up (w_up A 276 m 0) 277 m 0) [] 0 := ⟨(w_up_slot (by decide)).trans (w_up_same _ _ _ _), w_up_same _ _ _ _, fun i hi => absurd hi (Nat.not_lt_zero i)⟩
  unfold pq_r at he
  refine wa_aload_n (n := 0) rfl ?_
  refine wb_gf5 237 rfl (wy_pr rfl) wt_237 wf_15_15 (v := 261) (hA15) (fun r1 => ?_)
  refine wb_gf4 261 rfl (wy_pr rfl) wt_261 wf_12_16 (v := 276) wl_261_16 ?_
  refine wa_iload_n (n := 2) rfl ?_
  refine wa_iconst ?_
  refine wb_iast 276 rfl (wy_pr rfl) wt_276 (n := 400) ((ml_276 hMz)) (by omega) (by omega) ⟨(by omega), (by omega)⟩ ?_
  refine wa_aload_n (n := 0) rfl ?_
  refine wb_gf5 237 rfl (wy_pr rfl) wt_237 wf_15_15 (v := 261) ((w_up_slot (by decide)).trans (hA15)) (fun r2 => ?_)
  refine wb_gf4 261 rfl (wy_pr rfl) wt_261 wf_12_17 (v := 277) wl_261_17 ?_
  refine wa_iload_n (n := 2) rfl ?_
  refine wa_iconst ?_
  refine wb_zast 277 rfl (wy_pr rfl) wt_277 (n := 400) ((w_up_slot (by decide)).trans ((ml_277 hMz))) (by omega) (by omega) ⟨(by omega), (by omega)⟩ ?_
  refine wa_aload_n (n := 0) rfl ?_
  refine wa_bipush (w_rg2 (by omega) (by omega)) ?_
  refine wa_cv 237 rfl (wy_pr rfl) wt_237 (M2 := fun _ => False) rfl at_M_isSign ⟨_, rfl⟩ rfl rfl ⟨(Or.inr ⟨wy_pr rfl, fun q => q⟩), trivial, trivial, trivial⟩ trivial (fun _ _ q => False.elim q) (isSign_ok ⟨by omega, by omega⟩) (fun oq3 Sq3 hp4 q3 => ?_)
  rcases q3 with ⟨rfl, ⟨rfl, gi⟩ | ⟨rfl, gi⟩⟩
  · skip
    show wJ _ _ _ _ _ _ _ _ _ _
    rw [lx_E_is hEA] at gi
    refine wa_ifne (w_rg0 (by omega) (by omega)) ⟨_, rfl⟩ (fun c5 => ?_) (fun c5 => ?_)
    · skip
      refine wa_iconst ?_
      refine wa_fall ⟨_, rfl⟩ ?_
      refine wa_istore_n (n := 3) rfl ?_
      refine wa_fall ⟨_, rfl⟩ ?_
      refine wa_iload_n (n := 3) rfl ?_
      refine wa_ifeq (w_rg0 (by omega) (by omega)) ⟨_, rfl⟩ (fun c6 => ?_) (fun c6 => ?_)
      · skip
        rw [if_pos gi] at he
        exact wJ_S (pm_14_261 hA15 hm hmm hm2 hfi hcc hagA hEA hpsA (Nat.zero_le _) he) ⟨rfl, rfl, rfl, trivial⟩
      · skip
        exact absurd c6 (by omega)
    · skip
      exact absurd c5 (by omega)
  · skip
    show wJ _ _ _ _ _ _ _ _ _ _
    rw [lx_E_is hEA] at gi
    refine wa_ifne (w_rg0 (by omega) (by omega)) ⟨_, rfl⟩ (fun c7 => ?_) (fun c7 => ?_)
    · skip
      exact absurd c7 (by omega)
    · skip
      refine wa_iconst ?_
      refine wa_goto ⟨_, rfl⟩ ?_
      refine wa_istore_n (n := 3) rfl ?_
      refine wa_fall ⟨_, rfl⟩ ?_
      rw [if_neg (by rw [gi]; decide)] at he
      refine wJ_S (pr_3_261 (r := pr_f A 261 ((A 237 4 - p).toNat + 1) p []) hX hA15 hAn hm (fun Z q v l hr h1 h2 h3 h4 => pm_14_261 hA15 hm hmm hm2 hfi hcc h1 h2 h3 h4 (by rw [← hr]; exact he)) (fun Z e q hr h1 h2 h3 => ?_) ((A 237 4 - p).toNat + 1) p [] _ (by omega) (Nat.zero_le _) rfl hagA hEA hpsA) ⟨rfl, rfl, rfl, rfl, trivial⟩
      rw [hr] at he
      exact Or.inr ⟨_, _, he.symm, rfl, h1, h2, h3⟩
end W80
