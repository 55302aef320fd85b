/-! PART 74: the reference's classHere, sameOnTape, haveSameTypes. -/
section W74
variable {xs : List (Nat × List Int32)} {M : Nat → Prop} {d : Nat} {S : wS} {Q : wO → wS → Prop}
/-- the bytes of the tape from a to b are those from e to g -/
def tp_q (T : Int → Int) (a b e g : Int) : Bool := decide (b - a = g - e ∧ ∀ i : Nat, i < (b - a).toNat → T (a + (i : Int)) = T (e + (i : Int)))
/-- the first class from c on whose name the token is -/
def ch_f (T : Int → Int) (tk p e : Int) (F N : Int → Int) (n : Int) : Nat → Int → Int
  | 0, _ => -1
  | f + 1, c => if c < n then (if tk = 1 ∧ tp_q T (F c) (N c) p e = true then c else ch_f T tk p e F N n f (c + 1)) else -1
theorem ch_f_s (T : Int → Int) (tk p e : Int) (F N : Int → Int) (n : Int) (f : Nat) (c : Int) : ch_f T tk p e F N n (f + 1) c = if c < n then (if tk = 1 ∧ tp_q T (F c) (N c) p e = true then c else ch_f T tk p e F N n f (c + 1)) else -1 := rfl
theorem ch_f_rg (T : Int → Int) (tk p e : Int) (F N : Int → Int) (n : Int) : ∀ (f : Nat) (c : Int), ch_f T tk p e F N n f c = -1 ∨ (c ≤ ch_f T tk p e F N n f c ∧ ch_f T tk p e F N n f c < n) := by
  intro f
  induction f with
  | zero => intro c; exact Or.inl rfl
  | succ f ih =>
    intro c
    rw [ch_f_s]
    split
    · split
      · omega
      · have := ih (c + 1); omega
    · exact Or.inl rfl
def ch_of (S : wS) (b : Nat) : Int := ch_f (S 239) (S 237 6) (S 237 7) (S 237 8) (S (b + 9)) (S (b + 10)) (S b 1) ((S b 1).toNat + 1) 0
/-- names lie on the tape -/
def ho_nm (S : wS) (b : Nat) : Prop := (0 ≤ S b 1 ∧ S b 1 ≤ 60) ∧ ∀ c : Int, 0 ≤ c → c < S b 1 → 0 ≤ S (b + 9) c ∧ S (b + 9) c ≤ S (b + 10) c ∧ S (b + 10) c ≤ 65536
theorem ch_4_241 {c : Int} (hM : w_ML S) (hb : S 237 15 = 241) (hc : ho_nm S 241) (hp : 0 ≤ S 237 7 ∧ S 237 7 ≤ 65540 ∧ 0 ≤ S 237 8 ∧ S 237 8 ≤ 65540) (hc0 : 0 ≤ c ∧ c < S 241 1) (hk : ∀ q : Int, ((q = 1 ∧ (S 237 6 = 1 ∧ tp_q (S 239) (S 250 c) (S 251 c) (S 237 7) (S 237 8) = true)) ∨ (q = 0 ∧ ¬ (S 237 6 = 1 ∧ tp_q (S 239) (S 250 c) (S 251 c) (S 237 7) (S 237 8) = true))) → wJ (pe_GA xs) wY0 M d t_M_classHere ((pe_at t_M_classHere.bl 7).getD (0, [])).2 [(0, (2, 237)), (1, (0, c)), (3, (0, q))] [] S Q) : ∀ (f i : Nat) (q : Int), (S 251 c - S 250 c).toNat - i < f → i ≤ (S 251 c - S 250 c).toNat → ((q = 1 ∧ (S 237 6 = 1 ∧ S 251 c - S 250 c = S 237 8 - S 237 7) ∧ ∀ z : Nat, z < i → S 239 (S 250 c + (z : Int)) = S 239 (S 237 7 + (z : Int))) ∨ (q = 0 ∧ ¬ (S 237 6 = 1 ∧ tp_q (S 239) (S 250 c) (S 251 c) (S 237 7) (S 237 8) = true))) → wJ (pe_GA xs) wY0 M d t_M_classHere ((pe_at t_M_classHere.bl 4).getD (0, [])).2 [(0, (2, 237)), (1, (0, c)), (2, (0, S 251 c - S 250 c)), (3, (0, q)), (4, (0, (i : Int)))] [] S Q := by
  intro f
  induction f with
  | zero => intros; omega
  | succ f ih =>
    intro i q hf hi hq
    have hq01 : q = 0 ∨ q = 1 := by rcases hq with z | z <;> omega
    obtain ⟨hn1, hn2⟩ := hc
    have hn3 : 0 ≤ S 250 c ∧ S 250 c ≤ S 251 c ∧ S 251 c ≤ 65536 := hn2 c hc0.1 hc0.2
    refine wa_iload (n := 4) rfl ?_
    refine wa_iload_n (n := 2) rfl ?_
    refine wa_icmpge (w_rg0 (by omega) (by omega)) (w_rg0 (by omega) (by omega)) ⟨_, rfl⟩ (fun c1 => ?_) (fun c1 => ?_)
    · skip
      refine wJ_S (hk q ?_) ⟨rfl, rfl, rfl, trivial⟩
      rcases hq with ⟨q1, q2, q3⟩ | ⟨q1, q2⟩
      · first | (exact absurd q1 (by omega)) | exact Or.inl ⟨q1, q2.1, decide_eq_true ⟨q2.2, fun z hz => q3 z (by omega)⟩⟩
      · exact Or.inr ⟨q1, q2⟩
    · skip
      refine wa_iload_n (n := 3) rfl ?_
      refine wa_ifeq (w_rg0 (by omega) (by omega)) ⟨_, rfl⟩ (fun c2 => ?_) (fun c2 => ?_)
      · skip
        refine wJ_S (hk q ?_) ⟨rfl, rfl, rfl, trivial⟩
        rcases hq with ⟨q1, q2, q3⟩ | ⟨q1, q2⟩
        · first | (exact absurd q1 (by omega)) | exact Or.inl ⟨q1, q2.1, decide_eq_true ⟨q2.2, fun z hz => q3 z (by omega)⟩⟩
        · exact Or.inr ⟨q1, q2⟩
      · skip
        have hq2 : S 237 6 = 1 ∧ S 251 c - S 250 c = S 237 8 - S 237 7 := by
          rcases hq with z | z
          · exact z.2.1
          · exact absurd z.1 (by omega)
        refine wa_aload_n (n := 0) rfl ?_
        refine wb_gf4 237 rfl (wy_pr rfl) wt_237 wf_15_2 (v := 239) wl_237_2 ?_
        refine wa_aload_n (n := 0) rfl ?_
        refine wb_gf5 237 rfl (wy_pr rfl) wt_237 wf_15_15 (v := 241) (hb) (fun r3 => ?_)
        refine wb_gf4 241 rfl (wy_pr rfl) wt_241 wf_12_9 (v := 250) wl_241_9 ?_
        refine wa_iload_n (n := 1) rfl ?_
        refine wb_iald 250 rfl (wy_pr rfl) wt_250 (n := 60) ((ml_250 hM)) (by omega) (by omega) (v := (S 250 c)) rfl (fun r4 => ?_)
        refine wa_iload (n := 4) rfl ?_
        refine wa_iadd ?_
        refine wb_bald 239 rfl (wy_pr rfl) wt_239 (n := 65552) ((ml_239 hM)) (by omega) (by omega) (v := (S 239 ((S 250 c) + (i : Int)))) rfl (fun r5 => ?_)
        refine wa_aload_n (n := 0) rfl ?_
        refine wb_gf4 237 rfl (wy_pr rfl) wt_237 wf_15_2 (v := 239) wl_237_2 ?_
        refine wa_aload_n (n := 0) rfl ?_
        refine wb_gfi 237 rfl (wy_pr rfl) wt_237 wf_15_7 (v := (S 237 7)) rfl (fun r6 => ?_)
        refine wa_iload (n := 4) rfl ?_
        refine wa_iadd ?_
        refine wb_bald 239 rfl (wy_pr rfl) wt_239 (n := 65552) ((ml_239 hM)) (by omega) (by omega) (v := (S 239 ((S 237 7) + (i : Int)))) rfl (fun r7 => ?_)
        refine wa_icmpne (w_rg0 (by omega) (by omega)) (w_rg0 (by omega) (by omega)) ⟨_, rfl⟩ (fun c8 => ?_) (fun c8 => ?_)
        · skip
          refine wa_iconst ?_
          refine wa_fall ⟨_, rfl⟩ ?_
          refine wa_istore_n (n := 3) rfl ?_
          refine wa_iinc rfl rfl ?_
          refine wa_goto ⟨_, rfl⟩ ?_
          rcases hq with ⟨q1, q2, q3⟩ | ⟨q1, q2⟩
          · refine wJ_S (ih (i + 1) 0 (by omega) (by omega) (Or.inr ⟨rfl, fun h => ?_⟩)) ⟨rfl, rfl, rfl, rfl, rfl, trivial⟩
            have := (of_decide_eq_true h.2).2 i (by omega); omega
          · omega
        · skip
          refine wa_iconst ?_
          refine wa_goto ⟨_, rfl⟩ ?_
          refine wa_istore_n (n := 3) rfl ?_
          refine wa_iinc rfl rfl ?_
          refine wa_goto ⟨_, rfl⟩ ?_
          rcases hq with ⟨q1, q2, q3⟩ | ⟨q1, q2⟩
          · refine wJ_S (ih (i + 1) 1 (by omega) (by omega) (Or.inl ⟨rfl, q2, fun z hz => ?_⟩)) ⟨rfl, rfl, rfl, rfl, rfl, trivial⟩
            by_cases hqi : z = i
            · subst hqi; omega
            · exact q3 z (by omega)
          · omega
theorem ch_1_241 {r : Int} (hM : w_ML S) (hb : S 237 15 = 241) (hc : ho_nm S 241) (hp : 0 ≤ S 237 7 ∧ S 237 7 ≤ 65540 ∧ 0 ≤ S 237 8 ∧ S 237 8 ≤ 65540) : ∀ (f : Nat) (c : Int), (S 241 1 - c).toNat < f → 0 ≤ c → c ≤ S 241 1 → ch_f (S 239) (S 237 6) (S 237 7) (S 237 8) (S 250) (S 251) (S 241 1) f c = r → wJ (pe_GA xs) wY0 M d t_M_classHere ((pe_at t_M_classHere.bl 1).getD (0, [])).2 [(0, (2, 237)), (1, (0, c))] [] S (fun o S2 => S = S2 ∧ o = .inl (some (0, r))) := by
  intro f
  induction f with
  | zero => intros; omega
  | succ f ih =>
    intro c hf hc0 hc1 he
    rw [ch_f_s] at he
    obtain ⟨hn1, hn2⟩ := hc
    refine wa_iload_n (n := 1) rfl ?_
    refine wa_aload_n (n := 0) rfl ?_
    refine wb_gf5 237 rfl (wy_pr rfl) wt_237 wf_15_15 (v := 241) (hb) (fun r1 => ?_)
    refine wb_gfi 241 rfl (wy_pr rfl) wt_241 wf_12_1 (v := (S 241 1)) rfl (fun r2 => ?_)
    refine wa_icmpge (w_rg0 (by omega) (by omega)) (w_rg0 (by omega) (by omega)) ⟨_, rfl⟩ (fun c3 => ?_) (fun c3 => ?_)
    · skip
      refine wa_iconst ?_
      refine wa_ireturn rfl ?_
      rw [if_neg (by omega)] at he
      exact ⟨rfl, by rw [← he]⟩
    · skip
      have hn3 : 0 ≤ S 250 c ∧ S 250 c ≤ S 251 c ∧ S 251 c ≤ 65536 := hn2 c (by omega) (by omega)
      refine wa_aload_n (n := 0) rfl ?_
      refine wb_gf5 237 rfl (wy_pr rfl) wt_237 wf_15_15 (v := 241) (hb) (fun r4 => ?_)
      refine wb_gf4 241 rfl (wy_pr rfl) wt_241 wf_12_10 (v := 251) wl_241_10 ?_
      refine wa_iload_n (n := 1) rfl ?_
      refine wb_iald 251 rfl (wy_pr rfl) wt_251 (n := 60) ((ml_251 hM)) (by omega) (by omega) (v := (S 251 c)) rfl (fun r5 => ?_)
      refine wa_aload_n (n := 0) rfl ?_
      refine wb_gf5 237 rfl (wy_pr rfl) wt_237 wf_15_15 (v := 241) (hb) (fun r6 => ?_)
      refine wb_gf4 241 rfl (wy_pr rfl) wt_241 wf_12_9 (v := 250) wl_241_9 ?_
      refine wa_iload_n (n := 1) rfl ?_
      refine wb_iald 250 rfl (wy_pr rfl) wt_250 (n := 60) ((ml_250 hM)) (by omega) (by omega) (v := (S 250 c)) rfl (fun r7 => ?_)
      refine wa_isub ?_
      refine wa_istore_n (n := 2) rfl ?_
      refine wa_aload_n (n := 0) rfl ?_
      refine wb_gfi 237 rfl (wy_pr rfl) wt_237 wf_15_6 (v := (S 237 6)) rfl (fun r8 => ?_)
      refine wa_iconst ?_
      refine wa_icmpne (w_rg0 (by omega) (by omega)) (w_rg0 (by omega) (by omega)) ⟨_, rfl⟩ (fun c9 => ?_) (fun c9 => ?_)
      · skip
        refine wa_iconst ?_
        refine wa_fall ⟨_, rfl⟩ ?_
        refine wa_istore_n (n := 3) rfl ?_
        refine wa_iconst ?_
        refine wa_istore (n := 4) rfl ?_
        refine wa_fall ⟨_, rfl⟩ ?_
        rw [if_pos (by omega)] at he
        refine wJ_S (ch_4_241 hM hb ⟨hn1, hn2⟩ hp ⟨by omega, by omega⟩ (fun q hq => ?_) ((S 251 c - S 250 c).toNat + 1) 0 0 (by omega) (by omega) (Or.inr ⟨rfl, fun h => by have := (of_decide_eq_true h.2).1; omega⟩)) ⟨rfl, rfl, rfl, rfl, rfl, trivial⟩
        have hq01 : q = 0 ∨ q = 1 := by rcases hq with z | z <;> omega
        refine wa_iload_n (n := 3) rfl ?_
        refine wa_ifeq (w_rg0 (by omega) (by omega)) ⟨_, rfl⟩ (fun c61 => ?_) (fun c61 => ?_)
        · skip
          refine wa_iinc rfl rfl ?_
          refine wa_goto ⟨_, rfl⟩ ?_
          rw [if_neg (by
            rcases hq with z | z
            · exact absurd z.1 (by omega)
            · exact z.2)] at he
          exact wJ_S (ih (c + 1) (by omega) (by omega) (by omega) he) ⟨rfl, rfl, trivial⟩
        · skip
          refine wa_iload_n (n := 1) rfl ?_
          refine wa_ireturn rfl ?_
          rw [if_pos (by
            rcases hq with z | z
            · exact z.2
            · exact absurd z.1 (by omega))] at he
          exact ⟨rfl, by rw [he]⟩
      · skip
        refine wa_iload_n (n := 2) rfl ?_
        refine wa_aload_n (n := 0) rfl ?_
        refine wb_gfi 237 rfl (wy_pr rfl) wt_237 wf_15_8 (v := (S 237 8)) rfl (fun r10 => ?_)
        refine wa_aload_n (n := 0) rfl ?_
        refine wb_gfi 237 rfl (wy_pr rfl) wt_237 wf_15_7 (v := (S 237 7)) rfl (fun r11 => ?_)
        refine wa_isub ?_
        refine wa_icmpne (w_rg0 (by omega) (by omega)) (w_rg0 (by omega) (by omega)) ⟨_, rfl⟩ (fun c12 => ?_) (fun c12 => ?_)
        · skip
          refine wa_iconst ?_
          refine wa_fall ⟨_, rfl⟩ ?_
          refine wa_istore_n (n := 3) rfl ?_
          refine wa_iconst ?_
          refine wa_istore (n := 4) rfl ?_
          refine wa_fall ⟨_, rfl⟩ ?_
          rw [if_pos (by omega)] at he
          refine wJ_S (ch_4_241 hM hb ⟨hn1, hn2⟩ hp ⟨by omega, by omega⟩ (fun q hq => ?_) ((S 251 c - S 250 c).toNat + 1) 0 0 (by omega) (by omega) (Or.inr ⟨rfl, fun h => by have := (of_decide_eq_true h.2).1; omega⟩)) ⟨rfl, rfl, rfl, rfl, rfl, trivial⟩
          have hq01 : q = 0 ∨ q = 1 := by rcases hq with z | z <;> omega
          refine wa_iload_n (n := 3) rfl ?_
          refine wa_ifeq (w_rg0 (by omega) (by omega)) ⟨_, rfl⟩ (fun c61 => ?_) (fun c61 => ?_)
          · skip
            refine wa_iinc rfl rfl ?_
            refine wa_goto ⟨_, rfl⟩ ?_
            rw [if_neg (by
              rcases hq with z | z
              · exact absurd z.1 (by omega)
              · exact z.2)] at he
            exact wJ_S (ih (c + 1) (by omega) (by omega) (by omega) he) ⟨rfl, rfl, trivial⟩
          · skip
            refine wa_iload_n (n := 1) rfl ?_
            refine wa_ireturn rfl ?_
            rw [if_pos (by
              rcases hq with z | z
              · exact z.2
              · exact absurd z.1 (by omega))] at he
            exact ⟨rfl, by rw [he]⟩
        · skip
          refine wa_iconst ?_
          refine wa_goto ⟨_, rfl⟩ ?_
          refine wa_istore_n (n := 3) rfl ?_
          refine wa_iconst ?_
          refine wa_istore (n := 4) rfl ?_
          refine wa_fall ⟨_, rfl⟩ ?_
          rw [if_pos (by omega)] at he
          refine wJ_S (ch_4_241 hM hb ⟨hn1, hn2⟩ hp ⟨by omega, by omega⟩ (fun q hq => ?_) ((S 251 c - S 250 c).toNat + 1) 0 1 (by omega) (by omega) (Or.inl ⟨rfl, ⟨by omega, by omega⟩, fun z hz => absurd hz (Nat.not_lt_zero z)⟩)) ⟨rfl, rfl, rfl, rfl, rfl, trivial⟩
          have hq01 : q = 0 ∨ q = 1 := by rcases hq with z | z <;> omega
          refine wa_iload_n (n := 3) rfl ?_
          refine wa_ifeq (w_rg0 (by omega) (by omega)) ⟨_, rfl⟩ (fun c61 => ?_) (fun c61 => ?_)
          · skip
            refine wa_iinc rfl rfl ?_
            refine wa_goto ⟨_, rfl⟩ ?_
            rw [if_neg (by
              rcases hq with z | z
              · exact absurd z.1 (by omega)
              · exact z.2)] at he
            exact wJ_S (ih (c + 1) (by omega) (by omega) (by omega) he) ⟨rfl, rfl, trivial⟩
          · skip
            refine wa_iload_n (n := 1) rfl ?_
            refine wa_ireturn rfl ?_
            rw [if_pos (by
              rcases hq with z | z
              · exact z.2
              · exact absurd z.1 (by omega))] at he
            exact ⟨rfl, by rw [he]⟩
theorem classHere_241 (hM : w_ML S) (hb : S 237 15 = 241) (hc : ho_nm S 241) (hp : 0 ≤ S 237 7 ∧ S 237 7 ≤ 65540 ∧ 0 ≤ S 237 8 ∧ S 237 8 ≤ 65540) : wJ (pe_GA xs) wY0 M d t_M_classHere ((pe_at t_M_classHere.bl 0).getD (0, [])).2 [(0, (2, 237))] [] S (fun o S2 => S = S2 ∧ o = .inl (some (0, ch_of S 241))) := by
  refine wa_iconst ?_
  refine wa_istore_n (n := 1) rfl ?_
  refine wa_fall ⟨_, rfl⟩ ?_
  exact wJ_S (ch_1_241 hM hb hc hp ((S 241 1).toNat + 1) 0 (by have := hc.1; omega) (by omega) (by have := hc.1; omega) rfl) ⟨rfl, rfl, trivial⟩
theorem ch_4_261 {c : Int} (hM : w_ML S) (hb : S 237 15 = 261) (hc : ho_nm S 261) (hp : 0 ≤ S 237 7 ∧ S 237 7 ≤ 65540 ∧ 0 ≤ S 237 8 ∧ S 237 8 ≤ 65540) (hc0 : 0 ≤ c ∧ c < S 261 1) (hk : ∀ q : Int, ((q = 1 ∧ (S 237 6 = 1 ∧ tp_q (S 239) (S 270 c) (S 271 c) (S 237 7) (S 237 8) = true)) ∨ (q = 0 ∧ ¬ (S 237 6 = 1 ∧ tp_q (S 239) (S 270 c) (S 271 c) (S 237 7) (S 237 8) = true))) → wJ (pe_GA xs) wY0 M d t_M_classHere ((pe_at t_M_classHere.bl 7).getD (0, [])).2 [(0, (2, 237)), (1, (0, c)), (3, (0, q))] [] S Q) : ∀ (f i : Nat) (q : Int), (S 271 c - S 270 c).toNat - i < f → i ≤ (S 271 c - S 270 c).toNat → ((q = 1 ∧ (S 237 6 = 1 ∧ S 271 c - S 270 c = S 237 8 - S 237 7) ∧ ∀ z : Nat, z < i → S 239 (S 270 c + (z : Int)) = S 239 (S 237 7 + (z : Int))) ∨ (q = 0 ∧ ¬ (S 237 6 = 1 ∧ tp_q (S 239) (S 270 c) (S 271 c) (S 237 7) (S 237 8) = true))) → wJ (pe_GA xs) wY0 M d t_M_classHere ((pe_at t_M_classHere.bl 4).getD (0, [])).2 [(0, (2, 237)), (1, (0, c)), (2, (0, S 271 c - S 270 c)), (3, (0, q)), (4, (0, (i : Int)))] [] S Q := by
  intro f
  induction f with
  | zero => intros; omega
  | succ f ih =>
    intro i q hf hi hq
    have hq01 : q = 0 ∨ q = 1 := by rcases hq with z | z <;> omega
    obtain ⟨hn1, hn2⟩ := hc
    have hn3 : 0 ≤ S 270 c ∧ S 270 c ≤ S 271 c ∧ S 271 c ≤ 65536 := hn2 c hc0.1 hc0.2
    refine wa_iload (n := 4) rfl ?_
    refine wa_iload_n (n := 2) rfl ?_
    refine wa_icmpge (w_rg0 (by omega) (by omega)) (w_rg0 (by omega) (by omega)) ⟨_, rfl⟩ (fun c1 => ?_) (fun c1 => ?_)
    · skip
      refine wJ_S (hk q ?_) ⟨rfl, rfl, rfl, trivial⟩
      rcases hq with ⟨q1, q2, q3⟩ | ⟨q1, q2⟩
      · first | (exact absurd q1 (by omega)) | exact Or.inl ⟨q1, q2.1, decide_eq_true ⟨q2.2, fun z hz => q3 z (by omega)⟩⟩
      · exact Or.inr ⟨q1, q2⟩
    · skip
      refine wa_iload_n (n := 3) rfl ?_
      refine wa_ifeq (w_rg0 (by omega) (by omega)) ⟨_, rfl⟩ (fun c2 => ?_) (fun c2 => ?_)
      · skip
        refine wJ_S (hk q ?_) ⟨rfl, rfl, rfl, trivial⟩
        rcases hq with ⟨q1, q2, q3⟩ | ⟨q1, q2⟩
        · first | (exact absurd q1 (by omega)) | exact Or.inl ⟨q1, q2.1, decide_eq_true ⟨q2.2, fun z hz => q3 z (by omega)⟩⟩
        · exact Or.inr ⟨q1, q2⟩
      · skip
        have hq2 : S 237 6 = 1 ∧ S 271 c - S 270 c = S 237 8 - S 237 7 := by
          rcases hq with z | z
          · exact z.2.1
          · exact absurd z.1 (by omega)
        refine wa_aload_n (n := 0) rfl ?_
        refine wb_gf4 237 rfl (wy_pr rfl) wt_237 wf_15_2 (v := 239) wl_237_2 ?_
        refine wa_aload_n (n := 0) rfl ?_
        refine wb_gf5 237 rfl (wy_pr rfl) wt_237 wf_15_15 (v := 261) (hb) (fun r3 => ?_)
        refine wb_gf4 261 rfl (wy_pr rfl) wt_261 wf_12_9 (v := 270) wl_261_9 ?_
        refine wa_iload_n (n := 1) rfl ?_
        refine wb_iald 270 rfl (wy_pr rfl) wt_270 (n := 60) ((ml_270 hM)) (by omega) (by omega) (v := (S 270 c)) rfl (fun r4 => ?_)
        refine wa_iload (n := 4) rfl ?_
        refine wa_iadd ?_
        refine wb_bald 239 rfl (wy_pr rfl) wt_239 (n := 65552) ((ml_239 hM)) (by omega) (by omega) (v := (S 239 ((S 270 c) + (i : Int)))) rfl (fun r5 => ?_)
        refine wa_aload_n (n := 0) rfl ?_
        refine wb_gf4 237 rfl (wy_pr rfl) wt_237 wf_15_2 (v := 239) wl_237_2 ?_
        refine wa_aload_n (n := 0) rfl ?_
        refine wb_gfi 237 rfl (wy_pr rfl) wt_237 wf_15_7 (v := (S 237 7)) rfl (fun r6 => ?_)
        refine wa_iload (n := 4) rfl ?_
        refine wa_iadd ?_
        refine wb_bald 239 rfl (wy_pr rfl) wt_239 (n := 65552) ((ml_239 hM)) (by omega) (by omega) (v := (S 239 ((S 237 7) + (i : Int)))) rfl (fun r7 => ?_)
        refine wa_icmpne (w_rg0 (by omega) (by omega)) (w_rg0 (by omega) (by omega)) ⟨_, rfl⟩ (fun c8 => ?_) (fun c8 => ?_)
        · skip
          refine wa_iconst ?_
          refine wa_fall ⟨_, rfl⟩ ?_
          refine wa_istore_n (n := 3) rfl ?_
          refine wa_iinc rfl rfl ?_
          refine wa_goto ⟨_, rfl⟩ ?_
          rcases hq with ⟨q1, q2, q3⟩ | ⟨q1, q2⟩
          · refine wJ_S (ih (i + 1) 0 (by omega) (by omega) (Or.inr ⟨rfl, fun h => ?_⟩)) ⟨rfl, rfl, rfl, rfl, rfl, trivial⟩
            have := (of_decide_eq_true h.2).2 i (by omega); omega
          · omega
        · skip
          refine wa_iconst ?_
          refine wa_goto ⟨_, rfl⟩ ?_
          refine wa_istore_n (n := 3) rfl ?_
          refine wa_iinc rfl rfl ?_
          refine wa_goto ⟨_, rfl⟩ ?_
          rcases hq with ⟨q1, q2, q3⟩ | ⟨q1, q2⟩
          · refine wJ_S (ih (i + 1) 1 (by omega) (by omega) (Or.inl ⟨rfl, q2, fun z hz => ?_⟩)) ⟨rfl, rfl, rfl, rfl, rfl, trivial⟩
            by_cases hqi : z = i
            · subst hqi; omega
            · exact q3 z (by omega)
          · omega
theorem ch_1_261 {r : Int} (hM : w_ML S) (hb : S 237 15 = 261) (hc : ho_nm S 261) (hp : 0 ≤ S 237 7 ∧ S 237 7 ≤ 65540 ∧ 0 ≤ S 237 8 ∧ S 237 8 ≤ 65540) : ∀ (f : Nat) (c : Int), (S 261 1 - c).toNat < f → 0 ≤ c → c ≤ S 261 1 → ch_f (S 239) (S 237 6) (S 237 7) (S 237 8) (S 270) (S 271) (S 261 1) f c = r → wJ (pe_GA xs) wY0 M d t_M_classHere ((pe_at t_M_classHere.bl 1).getD (0, [])).2 [(0, (2, 237)), (1, (0, c))] [] S (fun o S2 => S = S2 ∧ o = .inl (some (0, r))) := by
  intro f
  induction f with
  | zero => intros; omega
  | succ f ih =>
    intro c hf hc0 hc1 he
    rw [ch_f_s] at he
    obtain ⟨hn1, hn2⟩ := hc
    refine wa_iload_n (n := 1) rfl ?_
    refine wa_aload_n (n := 0) rfl ?_
    refine wb_gf5 237 rfl (wy_pr rfl) wt_237 wf_15_15 (v := 261) (hb) (fun r1 => ?_)
    refine wb_gfi 261 rfl (wy_pr rfl) wt_261 wf_12_1 (v := (S 261 1)) rfl (fun r2 => ?_)
    refine wa_icmpge (w_rg0 (by omega) (by omega)) (w_rg0 (by omega) (by omega)) ⟨_, rfl⟩ (fun c3 => ?_) (fun c3 => ?_)
    · skip
      refine wa_iconst ?_
      refine wa_ireturn rfl ?_
      rw [if_neg (by omega)] at he
      exact ⟨rfl, by rw [← he]⟩
    · skip
      have hn3 : 0 ≤ S 270 c ∧ S 270 c ≤ S 271 c ∧ S 271 c ≤ 65536 := hn2 c (by omega) (by omega)
      refine wa_aload_n (n := 0) rfl ?_
      refine wb_gf5 237 rfl (wy_pr rfl) wt_237 wf_15_15 (v := 261) (hb) (fun r4 => ?_)
      refine wb_gf4 261 rfl (wy_pr rfl) wt_261 wf_12_10 (v := 271) wl_261_10 ?_
      refine wa_iload_n (n := 1) rfl ?_
      refine wb_iald 271 rfl (wy_pr rfl) wt_271 (n := 60) ((ml_271 hM)) (by omega) (by omega) (v := (S 271 c)) rfl (fun r5 => ?_)
      refine wa_aload_n (n := 0) rfl ?_
      refine wb_gf5 237 rfl (wy_pr rfl) wt_237 wf_15_15 (v := 261) (hb) (fun r6 => ?_)
      refine wb_gf4 261 rfl (wy_pr rfl) wt_261 wf_12_9 (v := 270) wl_261_9 ?_
      refine wa_iload_n (n := 1) rfl ?_
      refine wb_iald 270 rfl (wy_pr rfl) wt_270 (n := 60) ((ml_270 hM)) (by omega) (by omega) (v := (S 270 c)) rfl (fun r7 => ?_)
      refine wa_isub ?_
      refine wa_istore_n (n := 2) rfl ?_
      refine wa_aload_n (n := 0) rfl ?_
      refine wb_gfi 237 rfl (wy_pr rfl) wt_237 wf_15_6 (v := (S 237 6)) rfl (fun r8 => ?_)
      refine wa_iconst ?_
      refine wa_icmpne (w_rg0 (by omega) (by omega)) (w_rg0 (by omega) (by omega)) ⟨_, rfl⟩ (fun c9 => ?_) (fun c9 => ?_)
      · skip
        refine wa_iconst ?_
        refine wa_fall ⟨_, rfl⟩ ?_
        refine wa_istore_n (n := 3) rfl ?_
        refine wa_iconst ?_
        refine wa_istore (n := 4) rfl ?_
        refine wa_fall ⟨_, rfl⟩ ?_
        rw [if_pos (by omega)] at he
        refine wJ_S (ch_4_261 hM hb ⟨hn1, hn2⟩ hp ⟨by omega, by omega⟩ (fun q hq => ?_) ((S 271 c - S 270 c).toNat + 1) 0 0 (by omega) (by omega) (Or.inr ⟨rfl, fun h => by have := (of_decide_eq_true h.2).1; omega⟩)) ⟨rfl, rfl, rfl, rfl, rfl, trivial⟩
        have hq01 : q = 0 ∨ q = 1 := by rcases hq with z | z <;> omega
        refine wa_iload_n (n := 3) rfl ?_
        refine wa_ifeq (w_rg0 (by omega) (by omega)) ⟨_, rfl⟩ (fun c61 => ?_) (fun c61 => ?_)
        · skip
          refine wa_iinc rfl rfl ?_
          refine wa_goto ⟨_, rfl⟩ ?_
          rw [if_neg (by
            rcases hq with z | z
            · exact absurd z.1 (by omega)
            · exact z.2)] at he
          exact wJ_S (ih (c + 1) (by omega) (by omega) (by omega) he) ⟨rfl, rfl, trivial⟩
        · skip
          refine wa_iload_n (n := 1) rfl ?_
          refine wa_ireturn rfl ?_
          rw [if_pos (by
            rcases hq with z | z
            · exact z.2
            · exact absurd z.1 (by omega))] at he
          exact ⟨rfl, by rw [he]⟩
      · skip
        refine wa_iload_n (n := 2) rfl ?_
        refine wa_aload_n (n := 0) rfl ?_
        refine wb_gfi 237 rfl (wy_pr rfl) wt_237 wf_15_8 (v := (S 237 8)) rfl (fun r10 => ?_)
        refine wa_aload_n (n := 0) rfl ?_
        refine wb_gfi 237 rfl (wy_pr rfl) wt_237 wf_15_7 (v := (S 237 7)) rfl (fun r11 => ?_)
        refine wa_isub ?_
        refine wa_icmpne (w_rg0 (by omega) (by omega)) (w_rg0 (by omega) (by omega)) ⟨_, rfl⟩ (fun c12 => ?_) (fun c12 => ?_)
        · skip
          refine wa_iconst ?_
          refine wa_fall ⟨_, rfl⟩ ?_
          refine wa_istore_n (n := 3) rfl ?_
          refine wa_iconst ?_
          refine wa_istore (n := 4) rfl ?_
          refine wa_fall ⟨_, rfl⟩ ?_
          rw [if_pos (by omega)] at he
          refine wJ_S (ch_4_261 hM hb ⟨hn1, hn2⟩ hp ⟨by omega, by omega⟩ (fun q hq => ?_) ((S 271 c - S 270 c).toNat + 1) 0 0 (by omega) (by omega) (Or.inr ⟨rfl, fun h => by have := (of_decide_eq_true h.2).1; omega⟩)) ⟨rfl, rfl, rfl, rfl, rfl, trivial⟩
          have hq01 : q = 0 ∨ q = 1 := by rcases hq with z | z <;> omega
          refine wa_iload_n (n := 3) rfl ?_
          refine wa_ifeq (w_rg0 (by omega) (by omega)) ⟨_, rfl⟩ (fun c61 => ?_) (fun c61 => ?_)
          · skip
            refine wa_iinc rfl rfl ?_
            refine wa_goto ⟨_, rfl⟩ ?_
            rw [if_neg (by
              rcases hq with z | z
              · exact absurd z.1 (by omega)
              · exact z.2)] at he
            exact wJ_S (ih (c + 1) (by omega) (by omega) (by omega) he) ⟨rfl, rfl, trivial⟩
          · skip
            refine wa_iload_n (n := 1) rfl ?_
            refine wa_ireturn rfl ?_
            rw [if_pos (by
              rcases hq with z | z
              · exact z.2
              · exact absurd z.1 (by omega))] at he
            exact ⟨rfl, by rw [he]⟩
        · skip
          refine wa_iconst ?_
          refine wa_goto ⟨_, rfl⟩ ?_
          refine wa_istore_n (n := 3) rfl ?_
          refine wa_iconst ?_
          refine wa_istore (n := 4) rfl ?_
          refine wa_fall ⟨_, rfl⟩ ?_
          rw [if_pos (by omega)] at he
          refine wJ_S (ch_4_261 hM hb ⟨hn1, hn2⟩ hp ⟨by omega, by omega⟩ (fun q hq => ?_) ((S 271 c - S 270 c).toNat + 1) 0 1 (by omega) (by omega) (Or.inl ⟨rfl, ⟨by omega, by omega⟩, fun z hz => absurd hz (Nat.not_lt_zero z)⟩)) ⟨rfl, rfl, rfl, rfl, rfl, trivial⟩
          have hq01 : q = 0 ∨ q = 1 := by rcases hq with z | z <;> omega
          refine wa_iload_n (n := 3) rfl ?_
          refine wa_ifeq (w_rg0 (by omega) (by omega)) ⟨_, rfl⟩ (fun c61 => ?_) (fun c61 => ?_)
          · skip
            refine wa_iinc rfl rfl ?_
            refine wa_goto ⟨_, rfl⟩ ?_
            rw [if_neg (by
              rcases hq with z | z
              · exact absurd z.1 (by omega)
              · exact z.2)] at he
            exact wJ_S (ih (c + 1) (by omega) (by omega) (by omega) he) ⟨rfl, rfl, trivial⟩
          · skip
            refine wa_iload_n (n := 1) rfl ?_
            refine wa_ireturn rfl ?_
            rw [if_pos (by
              rcases hq with z | z
              · exact z.2
              · exact absurd z.1 (by omega))] at he
            exact ⟨rfl, by rw [he]⟩
theorem classHere_261 (hM : w_ML S) (hb : S 237 15 = 261) (hc : ho_nm S 261) (hp : 0 ≤ S 237 7 ∧ S 237 7 ≤ 65540 ∧ 0 ≤ S 237 8 ∧ S 237 8 ≤ 65540) : wJ (pe_GA xs) wY0 M d t_M_classHere ((pe_at t_M_classHere.bl 0).getD (0, [])).2 [(0, (2, 237))] [] S (fun o S2 => S = S2 ∧ o = .inl (some (0, ch_of S 261))) := by
  refine wa_iconst ?_
  refine wa_istore_n (n := 1) rfl ?_
  refine wa_fall ⟨_, rfl⟩ ?_
  exact wJ_S (ch_1_261 hM hb hc hp ((S 261 1).toNat + 1) 0 (by have := hc.1; omega) (by omega) (by have := hc.1; omega) rfl) ⟨rfl, rfl, trivial⟩
end W74
