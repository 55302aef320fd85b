/-! PART 9w: begins, nearestField. -/
section W9w
variable {xs : List (Nat × List Int32)} {M : Nat → Prop} {d : Nat} {A B C S Z : wS} {Q : wO → wS → Prop} {T : Int → Int} {n : Int} {c i : Nat}
/-- the word v begins with the text -/
def bg_q (P ST SZ : Int → Int) (v : Int) (tx : List Int32) : Prop := (tx.length : Int) ≤ SZ v ∧ ∀ q : Nat, q < tx.length → P (ST v + (q : Int)) = w_tx tx q
/-- the first field of the word from m on, ahead of e (st: static or not, -1: either) -/
def nf_m (SO WD STA : Int → Int) (word st e : Int) : Nat → Int → Int
  | 0, _ => -1
  | f + 1, m => if m < e then (if SO m = 0 ∧ WD m = word ∧ (st = -1 ∨ st = STA m) then m else nf_m SO WD STA word st e f (m + 1)) else -1
theorem nf_m_s (SO WD STA : Int → Int) (word st e : Int) (f : Nat) (m : Int) : nf_m SO WD STA word st e (f + 1) m = if m < e then (if SO m = 0 ∧ WD m = word ∧ (st = -1 ∨ st = STA m) then m else nf_m SO WD STA word st e f (m + 1)) else -1 := rfl
theorem nf_m_rg (SO WD STA : Int → Int) (word st e : Int) : ∀ (f : Nat) (m : Int), nf_m SO WD STA word st e f m = -1 ∨ (m ≤ nf_m SO WD STA word st e f m ∧ nf_m SO WD STA word st e f m < e) := by
  intro f
  induction f with
  | zero => intro m; exact Or.inl rfl
  | succ f ih =>
    intro m
    rw [nf_m_s]
    split
    · split
      · omega
      · have := ih (m + 1); omega
    · exact Or.inl rfl
/-- the same, from class to class above -/
def nf_f (SO WD STA FI MA AB : Int → Int) (word st : Int) : Nat → Int → Int
  | 0, _ => -1
  | f + 1, up => if up = -1 then -1 else if 0 ≤ nf_m SO WD STA word st (FI up + MA up) ((MA up).toNat + 1) (FI up) then nf_m SO WD STA word st (FI up + MA up) ((MA up).toNat + 1) (FI up) else nf_f SO WD STA FI MA AB word st f (AB up)
theorem nf_f_s (SO WD STA FI MA AB : Int → Int) (word st : Int) (f : Nat) (up : Int) : nf_f SO WD STA FI MA AB word st (f + 1) up = if up = -1 then -1 else if 0 ≤ nf_m SO WD STA word st (FI up + MA up) ((MA up).toNat + 1) (FI up) then nf_m SO WD STA word st (FI up + MA up) ((MA up).toNat + 1) (FI up) else nf_f SO WD STA FI MA AB word st f (AB up) := rfl
/-- the classes above each other, and where their members lie -/
def cb_I (t0 ho : Nat) (S : wS) : Prop := (0 ≤ S ho 2 ∧ S ho 2 ≤ 60) ∧ (0 ≤ S ho 4 ∧ S ho 4 ≤ 400) ∧ ∀ q : Int, 0 ≤ q → q < S ho 2 → (-1 ≤ S (t0 + 1) q ∧ S (t0 + 1) q < q) ∧ 0 ≤ S (t0 + 4) q ∧ 0 ≤ S (t0 + 3) q ∧ S (t0 + 4) q + S (t0 + 3) q ≤ S ho 4
theorem bg_l_73 {j : Nat} {tx : List Int32} {v : Int} (ht : pe_at (pe_GA xs).xs j = some (0, tx)) (htl : tx.length ≤ 200) (hI : wd_at S 74 64) (hL : wd_L S 74 64) (hv : 0 ≤ v ∧ v < S 74 7) (hz : (tx.length : Int) ≤ S 77 v) : ∀ (f q : Nat), tx.length - q < f → q ≤ tx.length → (∀ k : Nat, k < q → S 75 (S 76 v + (k : Int)) = w_tx tx k) → wJ (pe_GA xs) wY0 M (d + 4) t_XO_begins ((pe_at t_XO_begins.bl 2).getD (0, [])).2 [(0, (2, 73)), (1, (0, v)), (2, (2, -10 - (j : Int))), (3, (0, (q : Int)))] [] S (fun o Z => S = Z ∧ ((o = .inl (some (0, 1)) ∧ bg_q (S 75) (S 76) (S 77) v tx) ∨ (o = .inl (some (0, 0)) ∧ ¬ bg_q (S 75) (S 76) (S 77) v tx))) := by
  have h3 : 0 ≤ S 76 v ∧ 0 ≤ S 77 v ∧ S 77 v ≤ 60 ∧ S 76 v + S 77 v ≤ S 74 1 := hI.2.2.1 v hv.1 hv.2
  have hc1 : 0 ≤ S 74 7 ∧ S 74 7 ≤ S 76 (-1) := hI.1
  have hu1 : 0 ≤ S 74 1 ∧ S 74 1 ≤ S 75 (-1) := hI.2.1
  have l3 : S 77 (-1) = S 76 (-1) := hL.2.1
  have l8 : S 76 (-1) ≤ 2147483647 := hL.2.2.2.2.2.2.2.1
  have l9 : S 75 (-1) ≤ 2147483647 := hL.2.2.2.2.2.2.2.2
  intro f
  induction f with
  | zero => intro q h; exact absurd h (Nat.not_lt_zero _)
  | succ f ih =>
    intro q hf hq hk
    have hwr := w_tx_rg tx (q : Int)
    have hwr1 : -2147483648 ≤ w_tx tx (q : Int) := hwr.1
    have hwr2 : w_tx tx (q : Int) ≤ 2147483647 := hwr.2
    refine wa_iload_n (n := 3) rfl ?_
    refine wa_aload_n (n := 2) rfl ?_
    refine wa_sl j rfl ht rfl rfl ?_
    refine wa_icmpge (w_rg0 (by omega) (by omega)) (w_rg0 (by omega) (by omega)) ⟨_, rfl⟩ (fun c1 => ?_) (fun c1 => ?_)
    · skip
      refine wa_iconst ?_
      refine wa_zreturn rfl (Or.inr rfl) ?_
      exact ⟨rfl, Or.inl ⟨rfl, hz, fun k hk1 => hk k (by omega)⟩⟩
    · skip
      refine wa_aload_n (n := 0) rfl ?_
      refine wb_gf4 73 rfl (wy_pr rfl) wt_73 wf_3_0 (v := 74) wl_73_0 ?_
      refine wb_gf4 74 rfl (wy_pr rfl) wt_74 wf_9_0 (v := 75) wl_74_0 ?_
      refine wa_aload_n (n := 0) rfl ?_
      refine wb_gf4 73 rfl (wy_pr rfl) wt_73 wf_3_0 (v := 74) wl_73_0 ?_
      refine wb_gf4 74 rfl (wy_pr rfl) wt_74 wf_9_2 (v := 76) wl_74_2 ?_
      refine wa_iload_n (n := 1) rfl ?_
      refine wb_iald 76 rfl (wy_pr rfl) wt_76 (n := (S 76 (-1))) rfl (by omega) (by omega) (v := (S 76 v)) rfl (fun r2 => ?_)
      refine wa_iload_n (n := 3) rfl ?_
      refine wa_iadd ?_
      refine wb_bald 75 rfl (wy_pr rfl) wt_75 (n := (S 75 (-1))) rfl (by omega) (by omega) (v := (S 75 ((S 76 v) + (q : Int)))) rfl (fun r3 => ?_)
      refine wa_aload_n (n := 2) rfl ?_
      refine wa_iload_n (n := 3) rfl ?_
      refine wa_sc j rfl ht (by omega) rfl rfl (by omega) (by omega) ?_
      refine wa_icmpeq (w_rg0 (by omega) (by omega)) (w_rg0 (by omega) (by omega)) ⟨_, rfl⟩ (fun c4 => ?_) (fun c4 => ?_)
      · skip
        refine wa_iinc rfl rfl ?_
        refine wa_goto ⟨_, rfl⟩ ?_
        refine wJ_S (ih (q + 1) (by omega) (by omega) (fun k hk1 => ?_)) ⟨rfl, rfl, rfl, rfl, trivial⟩
        by_cases hkq : k = q
        · rw [hkq]; assumption
        · exact hk k (by omega)
      · skip
        refine wa_iconst ?_
        refine wa_zreturn rfl (Or.inl rfl) ?_
        refine ⟨rfl, Or.inr ⟨rfl, fun z => ?_⟩⟩
        have := z.2 q (by omega)
        contradiction
theorem bg_73 {j : Nat} {tx : List Int32} {v : Int} (ht : pe_at (pe_GA xs).xs j = some (0, tx)) (htl : tx.length ≤ 200) (hI : wd_at S 74 64) (hL : wd_L S 74 64) (hv : 0 ≤ v ∧ v < S 74 7) : wJ (pe_GA xs) wY0 M (d + 4) t_XO_begins ((pe_at t_XO_begins.bl 0).getD (0, [])).2 [(0, (2, 73)), (1, (0, v)), (2, (2, -10 - (j : Int)))] [] S (fun o Z => S = Z ∧ ((o = .inl (some (0, 1)) ∧ bg_q (S 75) (S 76) (S 77) v tx) ∨ (o = .inl (some (0, 0)) ∧ ¬ bg_q (S 75) (S 76) (S 77) v tx))) := by
  have h3 : 0 ≤ S 76 v ∧ 0 ≤ S 77 v ∧ S 77 v ≤ 60 ∧ S 76 v + S 77 v ≤ S 74 1 := hI.2.2.1 v hv.1 hv.2
  have hc1 : 0 ≤ S 74 7 ∧ S 74 7 ≤ S 76 (-1) := hI.1
  have hu1 : 0 ≤ S 74 1 ∧ S 74 1 ≤ S 75 (-1) := hI.2.1
  have l3 : S 77 (-1) = S 76 (-1) := hL.2.1
  have l8 : S 76 (-1) ≤ 2147483647 := hL.2.2.2.2.2.2.2.1
  have l9 : S 75 (-1) ≤ 2147483647 := hL.2.2.2.2.2.2.2.2
  refine wa_aload_n (n := 0) rfl ?_
  refine wb_gf4 73 rfl (wy_pr rfl) wt_73 wf_3_0 (v := 74) wl_73_0 ?_
  refine wb_gf4 74 rfl (wy_pr rfl) wt_74 wf_9_3 (v := 77) wl_74_3 ?_
  refine wa_iload_n (n := 1) rfl ?_
  refine wb_iald 77 rfl (wy_pr rfl) wt_77 (n := (S 77 (-1))) rfl (by omega) (by omega) (v := (S 77 v)) rfl (fun r1 => ?_)
  refine wa_aload_n (n := 2) rfl ?_
  refine wa_sl j rfl ht rfl rfl ?_
  refine wa_icmpge (w_rg0 (by omega) (by omega)) (w_rg0 (by omega) (by omega)) ⟨_, rfl⟩ (fun c2 => ?_) (fun c2 => ?_)
  · skip
    refine wa_iconst ?_
    refine wa_istore_n (n := 3) rfl ?_
    refine wa_fall ⟨_, rfl⟩ ?_
    exact wJ_S (bg_l_73 ht htl hI hL hv (by omega) (tx.length + 1) 0 (by omega) (by omega) (fun k hk => absurd hk (Nat.not_lt_zero _))) ⟨rfl, rfl, rfl, rfl, trivial⟩
  · skip
    refine wa_iconst ?_
    refine wa_zreturn rfl (Or.inl rfl) ?_
    exact ⟨rfl, Or.inr ⟨rfl, fun z => by have := z.1; omega⟩⟩
theorem nm_l_73 {word st up u : Int} (hC : w_CL S) (hcb : cb_I 87 73 S) (hst : -1 ≤ st ∧ st ≤ 1) (hwd : -1 ≤ word ∧ word ≤ 2147483647) (hup : 0 ≤ up ∧ up < S 73 2) (hu : 0 ≤ u ∧ u ≤ 60) : ∀ (f : Nat) (m : Int), (S 91 up + S 90 up - m).toNat < f → S 91 up ≤ m → m ≤ S 91 up + S 90 up → (hr : 0 ≤ nf_m (S 98) (S 111) (S 99) word st (S 91 up + S 90 up) f m → Q (.inl (some (0, nf_m (S 98) (S 111) (S 99) word st (S 91 up + S 90 up) f m))) S) → (h5 : ¬ 0 ≤ nf_m (S 98) (S 111) (S 99) word st (S 91 up + S 90 up) f m → wJ (pe_GA xs) wY0 M d t_XO_nearestField ((pe_at t_XO_nearestField.bl 5).getD (0, [])).2 [(0, (2, 73)), (2, (0, word)), (3, (0, st)), (4, (0, up)), (5, (0, u))] [] S Q) → wJ (pe_GA xs) wY0 M d t_XO_nearestField ((pe_at t_XO_nearestField.bl 2).getD (0, [])).2 [(0, (2, 73)), (2, (0, word)), (3, (0, st)), (4, (0, up)), (5, (0, u)), (6, (0, S 91 up + S 90 up)), (7, (0, m))] [] S Q := by
  have hcu := hcb.2.2 up hup.1 hup.2
  have hcu : (-1 ≤ S 88 up ∧ S 88 up < up) ∧ 0 ≤ S 91 up ∧ 0 ≤ S 90 up ∧ S 91 up + S 90 up ≤ S 73 4 := hcu
  have hm4 := hcb.2.1
  intro f
  induction f with
  | zero => intro m h; exact absurd h (Nat.not_lt_zero _)
  | succ f ih =>
    intro m hf h0 h1 hr h5
    rw [nf_m_s] at hr h5
    refine wa_iload (n := 7) rfl ?_
    refine wa_iload (n := 6) rfl ?_
    refine wa_icmpge (w_rg0 (by omega) (by omega)) (w_rg0 (by omega) (by omega)) ⟨_, rfl⟩ (fun c1 => ?_) (fun c1 => ?_)
    · skip
      rw [if_neg (by omega)] at h5
      exact wJ_S (h5 (by omega)) ⟨rfl, rfl, rfl, rfl, rfl, trivial⟩
    · skip
      refine wa_aload_n (n := 0) rfl ?_
      refine wb_gf4 73 rfl (wy_pr rfl) wt_73 wf_3_3 (v := 96) wl_73_3 ?_
      refine wa_iconst ?_
      refine wb_aald5 96 1 rfl rfl (wy_pr rfl) wt_96 (by rw [show _ = _ from ((cl_96 hC))]; omega) wl_96_1 ?_
      refine wa_iload (n := 7) rfl ?_
      refine wb_iald 98 rfl (wy_pr rfl) wt_98 (n := 400) ((cl_98 hC)) (by omega) (by omega) (v := (S 98 m)) rfl (fun r2 => ?_)
      refine wa_ifne (w_rg0 (by omega) (by omega)) ⟨_, rfl⟩ (fun c3 => ?_) (fun c3 => ?_)
      · skip
        refine wa_iinc rfl rfl ?_
        refine wa_goto ⟨_, rfl⟩ ?_
        rw [if_pos (by omega), if_neg (by omega)] at hr h5
        exact wJ_S (ih (m + 1) (by omega) (by omega) (by omega) hr h5) ⟨rfl, rfl, rfl, rfl, rfl, rfl, rfl, trivial⟩
      · skip
        refine wa_aload_n (n := 0) rfl ?_
        refine wb_gf4 73 rfl (wy_pr rfl) wt_73 wf_3_3 (v := 96) wl_73_3 ?_
        refine wa_bipush (w_rg2 (by omega) (by omega)) ?_
        refine wb_aald5 96 14 rfl rfl (wy_pr rfl) wt_96 (by rw [show _ = _ from ((cl_96 hC))]; omega) wl_96_14 ?_
        refine wa_iload (n := 7) rfl ?_
        refine wb_iald 111 rfl (wy_pr rfl) wt_111 (n := 400) ((cl_111 hC)) (by omega) (by omega) (v := (S 111 m)) rfl (fun r4 => ?_)
        refine wa_iload_n (n := 2) rfl ?_
        refine wa_icmpne (w_rg0 (by omega) (by omega)) (w_rg0 (by omega) (by omega)) ⟨_, rfl⟩ (fun c5 => ?_) (fun c5 => ?_)
        · skip
          refine wa_iinc rfl rfl ?_
          refine wa_goto ⟨_, rfl⟩ ?_
          rw [if_pos (by omega), if_neg (by omega)] at hr h5
          exact wJ_S (ih (m + 1) (by omega) (by omega) (by omega) hr h5) ⟨rfl, rfl, rfl, rfl, rfl, rfl, rfl, trivial⟩
        · skip
          refine wa_iload_n (n := 3) rfl ?_
          refine wa_iconst ?_
          refine wa_icmpeq (w_rg0 (by omega) (by omega)) (w_rg0 (by omega) (by omega)) ⟨_, rfl⟩ (fun c6 => ?_) (fun c6 => ?_)
          · skip
            refine wa_iload (n := 7) rfl ?_
            refine wa_ireturn rfl ?_
            rw [if_pos (by omega), if_pos (by omega)] at hr
            exact hr (by omega)
          · skip
            refine wa_iload_n (n := 3) rfl ?_
            refine wa_aload_n (n := 0) rfl ?_
            refine wb_gf4 73 rfl (wy_pr rfl) wt_73 wf_3_3 (v := 96) wl_73_3 ?_
            refine wa_iconst ?_
            refine wb_aald5 96 2 rfl rfl (wy_pr rfl) wt_96 (by rw [show _ = _ from ((cl_96 hC))]; omega) wl_96_2 ?_
            refine wa_iload (n := 7) rfl ?_
            refine wb_iald 99 rfl (wy_pr rfl) wt_99 (n := 400) ((cl_99 hC)) (by omega) (by omega) (v := (S 99 m)) rfl (fun r7 => ?_)
            refine wa_icmpne (w_rg0 (by omega) (by omega)) (w_rg0 (by omega) (by omega)) ⟨_, rfl⟩ (fun c8 => ?_) (fun c8 => ?_)
            · skip
              refine wa_iinc rfl rfl ?_
              refine wa_goto ⟨_, rfl⟩ ?_
              rw [if_pos (by omega), if_neg (by omega)] at hr h5
              exact wJ_S (ih (m + 1) (by omega) (by omega) (by omega) hr h5) ⟨rfl, rfl, rfl, rfl, rfl, rfl, rfl, trivial⟩
            · skip
              refine wa_fall ⟨_, rfl⟩ ?_
              refine wa_iload (n := 7) rfl ?_
              refine wa_ireturn rfl ?_
              rw [if_pos (by omega), if_pos (by omega)] at hr
              exact hr (by omega)
theorem nf_l_73 {word st k : Int} (hC : w_CL S) (hcb : cb_I 87 73 S) (hst : -1 ≤ st ∧ st ≤ 1) (hwd : -1 ≤ word ∧ word ≤ 2147483647) (hk : k < S 73 2) : ∀ (f : Nat) (up u : Int), (up + 1).toNat < f → -1 ≤ up → up ≤ k → (0 ≤ u ∧ u + up ≤ k) → wJ (pe_GA xs) wY0 M d t_XO_nearestField ((pe_at t_XO_nearestField.bl 1).getD (0, [])).2 [(0, (2, 73)), (2, (0, word)), (3, (0, st)), (4, (0, up)), (5, (0, u))] [] S (fun o Z => S = Z ∧ o = .inl (some (0, nf_f (S 98) (S 111) (S 99) (S 91) (S 90) (S 88) word st f up))) := by
  have hc2 := hcb.1
  have hm4 := hcb.2.1
  intro f
  induction f with
  | zero => intro up u h; exact absurd h (Nat.not_lt_zero _)
  | succ f ih =>
    intro up u hf h0 h1 hu
    rw [nf_f_s]
    refine wa_iload (n := 5) rfl ?_
    refine wa_aload_n (n := 0) rfl ?_
    refine wb_gfi 73 rfl (wy_pr rfl) wt_73 wf_3_2 (v := (S 73 2)) rfl (fun r1 => ?_)
    refine wa_icmpge (w_rg0 (by omega) (by omega)) (w_rg0 (by omega) (by omega)) ⟨_, rfl⟩ (fun c2 => ?_) (fun c2 => ?_)
    · skip
      refine wa_iconst ?_
      refine wa_ireturn rfl ?_
      rw [if_pos (by omega)]
      exact ⟨rfl, rfl⟩
    · skip
      refine wa_iload (n := 4) rfl ?_
      refine wa_iconst ?_
      refine wa_icmpeq (w_rg0 (by omega) (by omega)) (w_rg0 (by omega) (by omega)) ⟨_, rfl⟩ (fun c3 => ?_) (fun c3 => ?_)
      · skip
        refine wa_iconst ?_
        refine wa_ireturn rfl ?_
        rw [if_pos (by omega)]
        exact ⟨rfl, rfl⟩
      · skip
        have hcu := hcb.2.2 up (by omega) (by omega)
        have hcu : (-1 ≤ S 88 up ∧ S 88 up < up) ∧ 0 ≤ S 91 up ∧ 0 ≤ S 90 up ∧ S 91 up + S 90 up ≤ S 73 4 := hcu
        refine wa_aload_n (n := 0) rfl ?_
        refine wb_gf4 73 rfl (wy_pr rfl) wt_73 wf_3_1 (v := 86) wl_73_1 ?_
        refine wa_iconst ?_
        refine wb_aald5 86 4 rfl rfl (wy_pr rfl) wt_86 (by rw [show _ = _ from ((cl_86 hC))]; omega) wl_86_4 ?_
        refine wa_iload (n := 4) rfl ?_
        refine wb_iald 91 rfl (wy_pr rfl) wt_91 (n := 60) ((cl_91 hC)) (by omega) (by omega) (v := (S 91 up)) rfl (fun r4 => ?_)
        refine wa_aload_n (n := 0) rfl ?_
        refine wb_gf4 73 rfl (wy_pr rfl) wt_73 wf_3_1 (v := 86) wl_73_1 ?_
        refine wa_iconst ?_
        refine wb_aald5 86 3 rfl rfl (wy_pr rfl) wt_86 (by rw [show _ = _ from ((cl_86 hC))]; omega) wl_86_3 ?_
        refine wa_iload (n := 4) rfl ?_
        refine wb_iald 90 rfl (wy_pr rfl) wt_90 (n := 60) ((cl_90 hC)) (by omega) (by omega) (v := (S 90 up)) rfl (fun r5 => ?_)
        refine wa_iadd ?_
        refine wa_istore (n := 6) rfl ?_
        refine wa_aload_n (n := 0) rfl ?_
        refine wb_gf4 73 rfl (wy_pr rfl) wt_73 wf_3_1 (v := 86) wl_73_1 ?_
        refine wa_iconst ?_
        refine wb_aald5 86 4 rfl rfl (wy_pr rfl) wt_86 (by rw [show _ = _ from ((cl_86 hC))]; omega) wl_86_4 ?_
        refine wa_iload (n := 4) rfl ?_
        refine wb_iald 91 rfl (wy_pr rfl) wt_91 (n := 60) ((cl_91 hC)) (by omega) (by omega) (v := (S 91 up)) rfl (fun r6 => ?_)
        refine wa_istore (n := 7) rfl ?_
        refine wa_fall ⟨_, rfl⟩ ?_
        rw [if_neg (by omega)]
        refine wJ_S (nm_l_73 (up := up) (u := u) hC hcb hst hwd ⟨by omega, by omega⟩ ⟨by omega, by omega⟩ ((S 90 up).toNat + 1) (S 91 up) (by omega) (by omega) (by omega) (fun hq => ?_) (fun hq => ?_)) ⟨rfl, rfl, rfl, rfl, rfl, rfl, rfl, trivial⟩
        · rw [if_pos hq]; exact ⟨rfl, rfl⟩
        · rw [if_neg hq]
          refine wa_aload_n (n := 0) rfl ?_
          refine wb_gf4 73 rfl (wy_pr rfl) wt_73 wf_3_1 (v := 86) wl_73_1 ?_
          refine wa_iconst ?_
          refine wb_aald5 86 1 rfl rfl (wy_pr rfl) wt_86 (by rw [show _ = _ from ((cl_86 hC))]; omega) wl_86_1 ?_
          refine wa_iload (n := 4) rfl ?_
          refine wb_iald 88 rfl (wy_pr rfl) wt_88 (n := 60) ((cl_88 hC)) (by omega) (by omega) (v := (S 88 up)) rfl (fun r47 => ?_)
          refine wa_istore (n := 4) rfl ?_
          refine wa_iinc rfl rfl ?_
          refine wa_goto ⟨_, rfl⟩ ?_
          exact wJ_S (ih (S 88 up) (u + 1) (by omega) (by omega) (by omega) ⟨by omega, by omega⟩) ⟨rfl, rfl, rfl, rfl, rfl, trivial⟩
theorem nf_73 {word st k : Int} (hC : w_CL S) (hcb : cb_I 87 73 S) (hst : -1 ≤ st ∧ st ≤ 1) (hwd : -1 ≤ word ∧ word ≤ 2147483647) (hk : 0 ≤ k ∧ k < S 73 2) : wJ (pe_GA xs) wY0 M d t_XO_nearestField ((pe_at t_XO_nearestField.bl 0).getD (0, [])).2 [(0, (2, 73)), (1, (0, k)), (2, (0, word)), (3, (0, st))] [] S (fun o Z => S = Z ∧ o = .inl (some (0, nf_f (S 98) (S 111) (S 99) (S 91) (S 90) (S 88) word st (k.toNat + 2) k))) := by
  refine wa_iload_n (n := 1) rfl ?_
  refine wa_istore (n := 4) rfl ?_
  refine wa_iconst ?_
  refine wa_istore (n := 5) rfl ?_
  refine wa_fall ⟨_, rfl⟩ ?_
  exact wJ_S (nf_l_73 (k := k) hC hcb hst hwd hk.2 (k.toNat + 2) k 0 (by omega) (by omega) (by omega) ⟨by omega, by omega⟩) ⟨rfl, rfl, rfl, rfl, rfl, trivial⟩
theorem bg_l_162 {j : Nat} {tx : List Int32} {v : Int} (ht : pe_at (pe_GA xs).xs j = some (0, tx)) (htl : tx.length ≤ 200) (hI : wd_at S 163 64) (hL : wd_L S 163 64) (hv : 0 ≤ v ∧ v < S 163 7) (hz : (tx.length : Int) ≤ S 166 v) : ∀ (f q : Nat), tx.length - q < f → q ≤ tx.length → (∀ k : Nat, k < q → S 164 (S 165 v + (k : Int)) = w_tx tx k) → wJ (pe_GA xs) wY0 M (d + 4) t_XO_begins ((pe_at t_XO_begins.bl 2).getD (0, [])).2 [(0, (2, 162)), (1, (0, v)), (2, (2, -10 - (j : Int))), (3, (0, (q : Int)))] [] S (fun o Z => S = Z ∧ ((o = .inl (some (0, 1)) ∧ bg_q (S 164) (S 165) (S 166) v tx) ∨ (o = .inl (some (0, 0)) ∧ ¬ bg_q (S 164) (S 165) (S 166) v tx))) := by
  have h3 : 0 ≤ S 165 v ∧ 0 ≤ S 166 v ∧ S 166 v ≤ 60 ∧ S 165 v + S 166 v ≤ S 163 1 := hI.2.2.1 v hv.1 hv.2
  have hc1 : 0 ≤ S 163 7 ∧ S 163 7 ≤ S 165 (-1) := hI.1
  have hu1 : 0 ≤ S 163 1 ∧ S 163 1 ≤ S 164 (-1) := hI.2.1
  have l3 : S 166 (-1) = S 165 (-1) := hL.2.1
  have l8 : S 165 (-1) ≤ 2147483647 := hL.2.2.2.2.2.2.2.1
  have l9 : S 164 (-1) ≤ 2147483647 := hL.2.2.2.2.2.2.2.2
  intro f
  induction f with
  | zero => intro q h; exact absurd h (Nat.not_lt_zero _)
  | succ f ih =>
    intro q hf hq hk
    have hwr := w_tx_rg tx (q : Int)
    have hwr1 : -2147483648 ≤ w_tx tx (q : Int) := hwr.1
    have hwr2 : w_tx tx (q : Int) ≤ 2147483647 := hwr.2
    refine wa_iload_n (n := 3) rfl ?_
    refine wa_aload_n (n := 2) rfl ?_
    refine wa_sl j rfl ht rfl rfl ?_
    refine wa_icmpge (w_rg0 (by omega) (by omega)) (w_rg0 (by omega) (by omega)) ⟨_, rfl⟩ (fun c1 => ?_) (fun c1 => ?_)
    · skip
      refine wa_iconst ?_
      refine wa_zreturn rfl (Or.inr rfl) ?_
      exact ⟨rfl, Or.inl ⟨rfl, hz, fun k hk1 => hk k (by omega)⟩⟩
    · skip
      refine wa_aload_n (n := 0) rfl ?_
      refine wb_gf4 162 rfl (wy_pr rfl) wt_162 wf_3_0 (v := 163) wl_162_0 ?_
      refine wb_gf4 163 rfl (wy_pr rfl) wt_163 wf_9_0 (v := 164) wl_163_0 ?_
      refine wa_aload_n (n := 0) rfl ?_
      refine wb_gf4 162 rfl (wy_pr rfl) wt_162 wf_3_0 (v := 163) wl_162_0 ?_
      refine wb_gf4 163 rfl (wy_pr rfl) wt_163 wf_9_2 (v := 165) wl_163_2 ?_
      refine wa_iload_n (n := 1) rfl ?_
      refine wb_iald 165 rfl (wy_pr rfl) wt_165 (n := (S 165 (-1))) rfl (by omega) (by omega) (v := (S 165 v)) rfl (fun r2 => ?_)
      refine wa_iload_n (n := 3) rfl ?_
      refine wa_iadd ?_
      refine wb_bald 164 rfl (wy_pr rfl) wt_164 (n := (S 164 (-1))) rfl (by omega) (by omega) (v := (S 164 ((S 165 v) + (q : Int)))) rfl (fun r3 => ?_)
      refine wa_aload_n (n := 2) rfl ?_
      refine wa_iload_n (n := 3) rfl ?_
      refine wa_sc j rfl ht (by omega) rfl rfl (by omega) (by omega) ?_
      refine wa_icmpeq (w_rg0 (by omega) (by omega)) (w_rg0 (by omega) (by omega)) ⟨_, rfl⟩ (fun c4 => ?_) (fun c4 => ?_)
      · skip
        refine wa_iinc rfl rfl ?_
        refine wa_goto ⟨_, rfl⟩ ?_
        refine wJ_S (ih (q + 1) (by omega) (by omega) (fun k hk1 => ?_)) ⟨rfl, rfl, rfl, rfl, trivial⟩
        by_cases hkq : k = q
        · rw [hkq]; assumption
        · exact hk k (by omega)
      · skip
        refine wa_iconst ?_
        refine wa_zreturn rfl (Or.inl rfl) ?_
        refine ⟨rfl, Or.inr ⟨rfl, fun z => ?_⟩⟩
        have := z.2 q (by omega)
        contradiction
theorem bg_162 {j : Nat} {tx : List Int32} {v : Int} (ht : pe_at (pe_GA xs).xs j = some (0, tx)) (htl : tx.length ≤ 200) (hI : wd_at S 163 64) (hL : wd_L S 163 64) (hv : 0 ≤ v ∧ v < S 163 7) : wJ (pe_GA xs) wY0 M (d + 4) t_XO_begins ((pe_at t_XO_begins.bl 0).getD (0, [])).2 [(0, (2, 162)), (1, (0, v)), (2, (2, -10 - (j : Int)))] [] S (fun o Z => S = Z ∧ ((o = .inl (some (0, 1)) ∧ bg_q (S 164) (S 165) (S 166) v tx) ∨ (o = .inl (some (0, 0)) ∧ ¬ bg_q (S 164) (S 165) (S 166) v tx))) := by
  have h3 : 0 ≤ S 165 v ∧ 0 ≤ S 166 v ∧ S 166 v ≤ 60 ∧ S 165 v + S 166 v ≤ S 163 1 := hI.2.2.1 v hv.1 hv.2
  have hc1 : 0 ≤ S 163 7 ∧ S 163 7 ≤ S 165 (-1) := hI.1
  have hu1 : 0 ≤ S 163 1 ∧ S 163 1 ≤ S 164 (-1) := hI.2.1
  have l3 : S 166 (-1) = S 165 (-1) := hL.2.1
  have l8 : S 165 (-1) ≤ 2147483647 := hL.2.2.2.2.2.2.2.1
  have l9 : S 164 (-1) ≤ 2147483647 := hL.2.2.2.2.2.2.2.2
  refine wa_aload_n (n := 0) rfl ?_
  refine wb_gf4 162 rfl (wy_pr rfl) wt_162 wf_3_0 (v := 163) wl_162_0 ?_
  refine wb_gf4 163 rfl (wy_pr rfl) wt_163 wf_9_3 (v := 166) wl_163_3 ?_
  refine wa_iload_n (n := 1) rfl ?_
  refine wb_iald 166 rfl (wy_pr rfl) wt_166 (n := (S 166 (-1))) rfl (by omega) (by omega) (v := (S 166 v)) rfl (fun r1 => ?_)
  refine wa_aload_n (n := 2) rfl ?_
  refine wa_sl j rfl ht rfl rfl ?_
  refine wa_icmpge (w_rg0 (by omega) (by omega)) (w_rg0 (by omega) (by omega)) ⟨_, rfl⟩ (fun c2 => ?_) (fun c2 => ?_)
  · skip
    refine wa_iconst ?_
    refine wa_istore_n (n := 3) rfl ?_
    refine wa_fall ⟨_, rfl⟩ ?_
    exact wJ_S (bg_l_162 ht htl hI hL hv (by omega) (tx.length + 1) 0 (by omega) (by omega) (fun k hk => absurd hk (Nat.not_lt_zero _))) ⟨rfl, rfl, rfl, rfl, trivial⟩
  · skip
    refine wa_iconst ?_
    refine wa_zreturn rfl (Or.inl rfl) ?_
    exact ⟨rfl, Or.inr ⟨rfl, fun z => by have := z.1; omega⟩⟩
theorem nm_l_162 {word st up u : Int} (hC : w_CL S) (hcb : cb_I 176 162 S) (hst : -1 ≤ st ∧ st ≤ 1) (hwd : -1 ≤ word ∧ word ≤ 2147483647) (hup : 0 ≤ up ∧ up < S 162 2) (hu : 0 ≤ u ∧ u ≤ 60) : ∀ (f : Nat) (m : Int), (S 180 up + S 179 up - m).toNat < f → S 180 up ≤ m → m ≤ S 180 up + S 179 up → (hr : 0 ≤ nf_m (S 187) (S 200) (S 188) word st (S 180 up + S 179 up) f m → Q (.inl (some (0, nf_m (S 187) (S 200) (S 188) word st (S 180 up + S 179 up) f m))) S) → (h5 : ¬ 0 ≤ nf_m (S 187) (S 200) (S 188) word st (S 180 up + S 179 up) f m → wJ (pe_GA xs) wY0 M d t_XO_nearestField ((pe_at t_XO_nearestField.bl 5).getD (0, [])).2 [(0, (2, 162)), (2, (0, word)), (3, (0, st)), (4, (0, up)), (5, (0, u))] [] S Q) → wJ (pe_GA xs) wY0 M d t_XO_nearestField ((pe_at t_XO_nearestField.bl 2).getD (0, [])).2 [(0, (2, 162)), (2, (0, word)), (3, (0, st)), (4, (0, up)), (5, (0, u)), (6, (0, S 180 up + S 179 up)), (7, (0, m))] [] S Q := by
  have hcu := hcb.2.2 up hup.1 hup.2
  have hcu : (-1 ≤ S 177 up ∧ S 177 up < up) ∧ 0 ≤ S 180 up ∧ 0 ≤ S 179 up ∧ S 180 up + S 179 up ≤ S 162 4 := hcu
  have hm4 := hcb.2.1
  intro f
  induction f with
  | zero => intro m h; exact absurd h (Nat.not_lt_zero _)
  | succ f ih =>
    intro m hf h0 h1 hr h5
    rw [nf_m_s] at hr h5
    refine wa_iload (n := 7) rfl ?_
    refine wa_iload (n := 6) rfl ?_
    refine wa_icmpge (w_rg0 (by omega) (by omega)) (w_rg0 (by omega) (by omega)) ⟨_, rfl⟩ (fun c1 => ?_) (fun c1 => ?_)
    · skip
      rw [if_neg (by omega)] at h5
      exact wJ_S (h5 (by omega)) ⟨rfl, rfl, rfl, rfl, rfl, trivial⟩
    · skip
      refine wa_aload_n (n := 0) rfl ?_
      refine wb_gf4 162 rfl (wy_pr rfl) wt_162 wf_3_3 (v := 185) wl_162_3 ?_
      refine wa_iconst ?_
      refine wb_aald5 185 1 rfl rfl (wy_pr rfl) wt_185 (by rw [show _ = _ from ((cl_185 hC))]; omega) wl_185_1 ?_
      refine wa_iload (n := 7) rfl ?_
      refine wb_iald 187 rfl (wy_pr rfl) wt_187 (n := 400) ((cl_187 hC)) (by omega) (by omega) (v := (S 187 m)) rfl (fun r2 => ?_)
      refine wa_ifne (w_rg0 (by omega) (by omega)) ⟨_, rfl⟩ (fun c3 => ?_) (fun c3 => ?_)
      · skip
        refine wa_iinc rfl rfl ?_
        refine wa_goto ⟨_, rfl⟩ ?_
        rw [if_pos (by omega), if_neg (by omega)] at hr h5
        exact wJ_S (ih (m + 1) (by omega) (by omega) (by omega) hr h5) ⟨rfl, rfl, rfl, rfl, rfl, rfl, rfl, trivial⟩
      · skip
        refine wa_aload_n (n := 0) rfl ?_
        refine wb_gf4 162 rfl (wy_pr rfl) wt_162 wf_3_3 (v := 185) wl_162_3 ?_
        refine wa_bipush (w_rg2 (by omega) (by omega)) ?_
        refine wb_aald5 185 14 rfl rfl (wy_pr rfl) wt_185 (by rw [show _ = _ from ((cl_185 hC))]; omega) wl_185_14 ?_
        refine wa_iload (n := 7) rfl ?_
        refine wb_iald 200 rfl (wy_pr rfl) wt_200 (n := 400) ((cl_200 hC)) (by omega) (by omega) (v := (S 200 m)) rfl (fun r4 => ?_)
        refine wa_iload_n (n := 2) rfl ?_
        refine wa_icmpne (w_rg0 (by omega) (by omega)) (w_rg0 (by omega) (by omega)) ⟨_, rfl⟩ (fun c5 => ?_) (fun c5 => ?_)
        · skip
          refine wa_iinc rfl rfl ?_
          refine wa_goto ⟨_, rfl⟩ ?_
          rw [if_pos (by omega), if_neg (by omega)] at hr h5
          exact wJ_S (ih (m + 1) (by omega) (by omega) (by omega) hr h5) ⟨rfl, rfl, rfl, rfl, rfl, rfl, rfl, trivial⟩
        · skip
          refine wa_iload_n (n := 3) rfl ?_
          refine wa_iconst ?_
          refine wa_icmpeq (w_rg0 (by omega) (by omega)) (w_rg0 (by omega) (by omega)) ⟨_, rfl⟩ (fun c6 => ?_) (fun c6 => ?_)
          · skip
            refine wa_iload (n := 7) rfl ?_
            refine wa_ireturn rfl ?_
            rw [if_pos (by omega), if_pos (by omega)] at hr
            exact hr (by omega)
          · skip
            refine wa_iload_n (n := 3) rfl ?_
            refine wa_aload_n (n := 0) rfl ?_
            refine wb_gf4 162 rfl (wy_pr rfl) wt_162 wf_3_3 (v := 185) wl_162_3 ?_
            refine wa_iconst ?_
            refine wb_aald5 185 2 rfl rfl (wy_pr rfl) wt_185 (by rw [show _ = _ from ((cl_185 hC))]; omega) wl_185_2 ?_
            refine wa_iload (n := 7) rfl ?_
            refine wb_iald 188 rfl (wy_pr rfl) wt_188 (n := 400) ((cl_188 hC)) (by omega) (by omega) (v := (S 188 m)) rfl (fun r7 => ?_)
            refine wa_icmpne (w_rg0 (by omega) (by omega)) (w_rg0 (by omega) (by omega)) ⟨_, rfl⟩ (fun c8 => ?_) (fun c8 => ?_)
            · skip
              refine wa_iinc rfl rfl ?_
              refine wa_goto ⟨_, rfl⟩ ?_
              rw [if_pos (by omega), if_neg (by omega)] at hr h5
              exact wJ_S (ih (m + 1) (by omega) (by omega) (by omega) hr h5) ⟨rfl, rfl, rfl, rfl, rfl, rfl, rfl, trivial⟩
            · skip
              refine wa_fall ⟨_, rfl⟩ ?_
              refine wa_iload (n := 7) rfl ?_
              refine wa_ireturn rfl ?_
              rw [if_pos (by omega), if_pos (by omega)] at hr
              exact hr (by omega)
theorem nf_l_162 {word st k : Int} (hC : w_CL S) (hcb : cb_I 176 162 S) (hst : -1 ≤ st ∧ st ≤ 1) (hwd : -1 ≤ word ∧ word ≤ 2147483647) (hk : k < S 162 2) : ∀ (f : Nat) (up u : Int), (up + 1).toNat < f → -1 ≤ up → up ≤ k → (0 ≤ u ∧ u + up ≤ k) → wJ (pe_GA xs) wY0 M d t_XO_nearestField ((pe_at t_XO_nearestField.bl 1).getD (0, [])).2 [(0, (2, 162)), (2, (0, word)), (3, (0, st)), (4, (0, up)), (5, (0, u))] [] S (fun o Z => S = Z ∧ o = .inl (some (0, nf_f (S 187) (S 200) (S 188) (S 180) (S 179) (S 177) word st f up))) := by
  have hc2 := hcb.1
  have hm4 := hcb.2.1
  intro f
  induction f with
  | zero => intro up u h; exact absurd h (Nat.not_lt_zero _)
  | succ f ih =>
    intro up u hf h0 h1 hu
    rw [nf_f_s]
    refine wa_iload (n := 5) rfl ?_
    refine wa_aload_n (n := 0) rfl ?_
    refine wb_gfi 162 rfl (wy_pr rfl) wt_162 wf_3_2 (v := (S 162 2)) rfl (fun r1 => ?_)
    refine wa_icmpge (w_rg0 (by omega) (by omega)) (w_rg0 (by omega) (by omega)) ⟨_, rfl⟩ (fun c2 => ?_) (fun c2 => ?_)
    · skip
      refine wa_iconst ?_
      refine wa_ireturn rfl ?_
      rw [if_pos (by omega)]
      exact ⟨rfl, rfl⟩
    · skip
      refine wa_iload (n := 4) rfl ?_
      refine wa_iconst ?_
      refine wa_icmpeq (w_rg0 (by omega) (by omega)) (w_rg0 (by omega) (by omega)) ⟨_, rfl⟩ (fun c3 => ?_) (fun c3 => ?_)
      · skip
        refine wa_iconst ?_
        refine wa_ireturn rfl ?_
        rw [if_pos (by omega)]
        exact ⟨rfl, rfl⟩
      · skip
        have hcu := hcb.2.2 up (by omega) (by omega)
        have hcu : (-1 ≤ S 177 up ∧ S 177 up < up) ∧ 0 ≤ S 180 up ∧ 0 ≤ S 179 up ∧ S 180 up + S 179 up ≤ S 162 4 := hcu
        refine wa_aload_n (n := 0) rfl ?_
        refine wb_gf4 162 rfl (wy_pr rfl) wt_162 wf_3_1 (v := 175) wl_162_1 ?_
        refine wa_iconst ?_
        refine wb_aald5 175 4 rfl rfl (wy_pr rfl) wt_175 (by rw [show _ = _ from ((cl_175 hC))]; omega) wl_175_4 ?_
        refine wa_iload (n := 4) rfl ?_
        refine wb_iald 180 rfl (wy_pr rfl) wt_180 (n := 60) ((cl_180 hC)) (by omega) (by omega) (v := (S 180 up)) rfl (fun r4 => ?_)
        refine wa_aload_n (n := 0) rfl ?_
        refine wb_gf4 162 rfl (wy_pr rfl) wt_162 wf_3_1 (v := 175) wl_162_1 ?_
        refine wa_iconst ?_
        refine wb_aald5 175 3 rfl rfl (wy_pr rfl) wt_175 (by rw [show _ = _ from ((cl_175 hC))]; omega) wl_175_3 ?_
        refine wa_iload (n := 4) rfl ?_
        refine wb_iald 179 rfl (wy_pr rfl) wt_179 (n := 60) ((cl_179 hC)) (by omega) (by omega) (v := (S 179 up)) rfl (fun r5 => ?_)
        refine wa_iadd ?_
        refine wa_istore (n := 6) rfl ?_
        refine wa_aload_n (n := 0) rfl ?_
        refine wb_gf4 162 rfl (wy_pr rfl) wt_162 wf_3_1 (v := 175) wl_162_1 ?_
        refine wa_iconst ?_
        refine wb_aald5 175 4 rfl rfl (wy_pr rfl) wt_175 (by rw [show _ = _ from ((cl_175 hC))]; omega) wl_175_4 ?_
        refine wa_iload (n := 4) rfl ?_
        refine wb_iald 180 rfl (wy_pr rfl) wt_180 (n := 60) ((cl_180 hC)) (by omega) (by omega) (v := (S 180 up)) rfl (fun r6 => ?_)
        refine wa_istore (n := 7) rfl ?_
        refine wa_fall ⟨_, rfl⟩ ?_
        rw [if_neg (by omega)]
        refine wJ_S (nm_l_162 (up := up) (u := u) hC hcb hst hwd ⟨by omega, by omega⟩ ⟨by omega, by omega⟩ ((S 179 up).toNat + 1) (S 180 up) (by omega) (by omega) (by omega) (fun hq => ?_) (fun hq => ?_)) ⟨rfl, rfl, rfl, rfl, rfl, rfl, rfl, trivial⟩
        · rw [if_pos hq]; exact ⟨rfl, rfl⟩
        · rw [if_neg hq]
          refine wa_aload_n (n := 0) rfl ?_
          refine wb_gf4 162 rfl (wy_pr rfl) wt_162 wf_3_1 (v := 175) wl_162_1 ?_
          refine wa_iconst ?_
          refine wb_aald5 175 1 rfl rfl (wy_pr rfl) wt_175 (by rw [show _ = _ from ((cl_175 hC))]; omega) wl_175_1 ?_
          refine wa_iload (n := 4) rfl ?_
          refine wb_iald 177 rfl (wy_pr rfl) wt_177 (n := 60) ((cl_177 hC)) (by omega) (by omega) (v := (S 177 up)) rfl (fun r47 => ?_)
          refine wa_istore (n := 4) rfl ?_
          refine wa_iinc rfl rfl ?_
          refine wa_goto ⟨_, rfl⟩ ?_
          exact wJ_S (ih (S 177 up) (u + 1) (by omega) (by omega) (by omega) ⟨by omega, by omega⟩) ⟨rfl, rfl, rfl, rfl, rfl, trivial⟩
theorem nf_162 {word st k : Int} (hC : w_CL S) (hcb : cb_I 176 162 S) (hst : -1 ≤ st ∧ st ≤ 1) (hwd : -1 ≤ word ∧ word ≤ 2147483647) (hk : 0 ≤ k ∧ k < S 162 2) : wJ (pe_GA xs) wY0 M d t_XO_nearestField ((pe_at t_XO_nearestField.bl 0).getD (0, [])).2 [(0, (2, 162)), (1, (0, k)), (2, (0, word)), (3, (0, st))] [] S (fun o Z => S = Z ∧ o = .inl (some (0, nf_f (S 187) (S 200) (S 188) (S 180) (S 179) (S 177) word st (k.toNat + 2) k))) := by
  refine wa_iload_n (n := 1) rfl ?_
  refine wa_istore (n := 4) rfl ?_
  refine wa_iconst ?_
  refine wa_istore (n := 5) rfl ?_
  refine wa_fall ⟨_, rfl⟩ ?_
  exact wJ_S (nf_l_162 (k := k) hC hcb hst hwd hk.2 (k.toNat + 2) k 0 (by omega) (by omega) (by omega) ⟨by omega, by omega⟩) ⟨rfl, rfl, rfl, rfl, rfl, trivial⟩
end W9w
