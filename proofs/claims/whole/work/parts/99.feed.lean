/-! PART 99: the class's feed. -/
section W99
variable {xs : List (Nat × List Int32)} {M : Nat → Prop} {d : Nat} {S A B Z : wS} {Q : wO → wS → Prop}
theorem wb_pf6 {G : pe_G} {Y : wY} {mt : pe_Mt} {rest : List pe_I} {L : wL} {st : List wv} {x v n : Int} {ix ci k0 wd : Nat} {host : Option String} (j : Nat) (hx : x = j) (hp : w_pr Y S j) (ht : Y.ty j = 100 + ci) (hf : (Y.fk ci)[k0]? = some 6) (hn : (k0 : Int) = n) (hv : v < 0 ∨ w_pr Y S v.toNat) (k : wJ G Y M d mt rest L st (w_up S j n v) Q) : wJ G Y M d mt (.inr (.inr (.inr (.inr (.inl (ix, ci, k0, 2, host, wd))))) :: rest) L ((2, v) :: (2, x) :: st) S Q := by
  subst hn
  exact wa_pf6 j hx hp ht hf hv k
/-- the sixteen bytes that are fed, in their order -/
def fb (a b : Int) (q : Nat) : Int := if q < 8 then sb a (56 - 8 * (q : Int)) else sb b (120 - 8 * (q : Int))
theorem fb_rg (a b : Int) (q : Nat) : 0 ≤ fb a b q ∧ fb a b q ≤ 255 := by
  unfold fb
  split
  · exact sb_rg _ _
  · exact sb_rg _ _
/-- how many of the first t bytes aren't 0 -/
def fd_n (g : Nat → Int) : Nat → Nat
  | 0 => 0
  | t + 1 => fd_n g t + (if g t = 0 then 0 else 1)
theorem fd_n_le (g : Nat → Int) : ∀ t : Nat, fd_n g t ≤ t := by
  intro t
  induction t with
  | zero => exact Nat.le_refl _
  | succ t ih => unfold fd_n; split <;> omega
theorem fd_n_mono (g : Nat → Int) : ∀ (t q : Nat), q ≤ t → fd_n g q ≤ fd_n g t := by
  intro t
  induction t with
  | zero => intro q h; rw [show q = 0 by omega]; exact Nat.le_refl _
  | succ t ih =>
    intro q h
    by_cases hq : q = t + 1
    · rw [hq]; exact Nat.le_refl _
    · have := ih q (by omega)
      show fd_n g q ≤ fd_n g t + (if g t = 0 then 0 else 1)
      omega
theorem fd_n_0 {g : Nat → Int} {t : Nat} (h : g t = 0) : fd_n g (t + 1) = fd_n g t := by show fd_n g t + (if g t = 0 then 0 else 1) = _; rw [if_pos h]; rfl
theorem fd_n_1 {g : Nat → Int} {t : Nat} (h : g t ≠ 0) : fd_n g (t + 1) = fd_n g t + 1 := by show fd_n g t + (if g t = 0 then 0 else 1) = _; rw [if_neg h]
theorem fd_sur (g : Nat → Int) : ∀ (t m : Nat), m < fd_n g t → ∃ q : Nat, q < t ∧ fd_n g q = m ∧ g q ≠ 0 := by
  intro t
  induction t with
  | zero => intro m h; exact absurd h (Nat.not_lt_zero _)
  | succ t ih =>
    intro m h
    by_cases hg : g t = 0
    · rw [fd_n_0 hg] at h
      obtain ⟨q, q1, q2⟩ := ih m h
      exact ⟨q, by omega, q2⟩
    · rw [fd_n_1 hg] at h
      by_cases hm : m = fd_n g t
      · exact ⟨t, by omega, hm.symm, hg⟩
      · obtain ⟨q, q1, q2⟩ := ih m (by omega)
        exact ⟨q, by omega, q2⟩
theorem fedByte_ok {a b i : Int} {t : Nat} (hi : i = (t : Int)) (ht : t < 16) : wJ (pe_GA xs) wY0 M d t_X_fedByte ((pe_at t_X_fedByte.bl 0).getD (0, [])).2 [(0, (1, a)), (2, (1, b)), (4, (0, i))] [] S (fun o S2 => S = S2 ∧ o = .inl (some (0, fb a b t))) := by
  refine wa_iload (n := 4) rfl ?_
  refine wa_bipush (w_rg2 (by omega) (by omega)) ?_
  refine wa_icmpge (w_rg0 (by omega) (by omega)) (w_rg0 (by omega) (by omega)) ⟨_, rfl⟩ (fun c1 => ?_) (fun c1 => ?_)
  · skip
    refine wa_lload_n (n := 2) rfl ?_
    refine wa_bipush (w_rg2 (by omega) (by omega)) ?_
    refine wa_bipush (w_rg2 (by omega) (by omega)) ?_
    refine wa_iload (n := 4) rfl ?_
    refine wa_imul ?_
    refine wa_isub ?_
    refine wa_lushr ?_
    refine wa_l2i ?_
    refine wa_sipush (by omega) ?_
    refine wa_iand ?_
    refine wa_fall ⟨_, rfl⟩ ?_
    refine wa_ireturn rfl ?_
    refine ⟨rfl, congrArg (fun z => Sum.inl (some (0, z))) ?_⟩
    rw [sb_eq, hi]; unfold fb
    first | rw [if_pos (by omega)] | rw [if_neg (by omega)]
  · skip
    refine wa_lload_n (n := 0) rfl ?_
    refine wa_bipush (w_rg2 (by omega) (by omega)) ?_
    refine wa_bipush (w_rg2 (by omega) (by omega)) ?_
    refine wa_iload (n := 4) rfl ?_
    refine wa_imul ?_
    refine wa_isub ?_
    refine wa_lushr ?_
    refine wa_l2i ?_
    refine wa_sipush (by omega) ?_
    refine wa_iand ?_
    refine wa_goto ⟨_, rfl⟩ ?_
    refine wa_ireturn rfl ?_
    refine ⟨rfl, congrArg (fun z => Sum.inl (some (0, z))) ?_⟩
    rw [sb_eq, hi]; unfold fb
    first | rw [if_pos (by omega)] | rw [if_neg (by omega)]
theorem xIsSign_ok {c : Int} (hc : -2147483648 ≤ c ∧ c ≤ 2147483647) : wJ (pe_GA xs) wY0 M d t_X_isSign ((pe_at t_X_isSign.bl 0).getD (0, [])).2 [(0, (0, c))] [] S (fun o S2 => S = S2 ∧ ((o = .inl (some (0, 1)) ∧ (c = 10 ∨ (32 ≤ c ∧ c ≤ 126))) ∨ (o = .inl (some (0, 0)) ∧ ¬ (c = 10 ∨ (32 ≤ c ∧ c ≤ 126))))) := by
  refine wa_iload_n (n := 0) rfl ?_
  refine wa_bipush (w_rg2 (by omega) (by omega)) ?_
  refine wa_icmpeq (w_rg0 (by omega) (by omega)) (w_rg0 (by omega) (by omega)) ⟨_, rfl⟩ (fun c1 => ?_) (fun c1 => ?_)
  · skip
    refine wa_iconst ?_
    refine wa_goto ⟨_, rfl⟩ ?_
    refine wa_zreturn rfl (Or.inr rfl) ?_
    first | exact ⟨rfl, Or.inl ⟨rfl, by omega⟩⟩ | exact ⟨rfl, Or.inr ⟨rfl, by omega⟩⟩
  · skip
    refine wa_iload_n (n := 0) rfl ?_
    refine wa_bipush (w_rg2 (by omega) (by omega)) ?_
    refine wa_icmplt (w_rg0 (by omega) (by omega)) (w_rg0 (by omega) (by omega)) ⟨_, rfl⟩ (fun c2 => ?_) (fun c2 => ?_)
    · skip
      refine wa_iconst ?_
      refine wa_fall ⟨_, rfl⟩ ?_
      refine wa_zreturn rfl (Or.inl rfl) ?_
      first | exact ⟨rfl, Or.inl ⟨rfl, by omega⟩⟩ | exact ⟨rfl, Or.inr ⟨rfl, by omega⟩⟩
    · skip
      refine wa_iload_n (n := 0) rfl ?_
      refine wa_bipush (w_rg2 (by omega) (by omega)) ?_
      refine wa_icmpgt (w_rg0 (by omega) (by omega)) (w_rg0 (by omega) (by omega)) ⟨_, rfl⟩ (fun c3 => ?_) (fun c3 => ?_)
      · skip
        refine wa_iconst ?_
        refine wa_fall ⟨_, rfl⟩ ?_
        refine wa_zreturn rfl (Or.inl rfl) ?_
        first | exact ⟨rfl, Or.inl ⟨rfl, by omega⟩⟩ | exact ⟨rfl, Or.inr ⟨rfl, by omega⟩⟩
      · skip
        refine wa_fall ⟨_, rfl⟩ ?_
        refine wa_iconst ?_
        refine wa_goto ⟨_, rfl⟩ ?_
        refine wa_zreturn rfl (Or.inr rfl) ?_
        first | exact ⟨rfl, Or.inl ⟨rfl, by omega⟩⟩ | exact ⟨rfl, Or.inr ⟨rfl, by omega⟩⟩
theorem xf_1 {a b : Int} (hk : (∀ q : Nat, q < 16 → sg_ok (fb a b q)) → wJ (pe_GA xs) wY0 (mS [1]) (d + 3) t_X_feed ((pe_at t_X_feed.bl 4).getD (0, [])).2 [(0, (2, 0)), (1, (1, a)), (3, (1, b)), (5, (0, ((fd_n (fb a b) 16 : Nat) : Int)))] [] S Q) (hf : (¬ ∀ q : Nat, q < 16 → sg_ok (fb a b q)) → Q (.inl (some (0, -1))) S) : ∀ (f t : Nat) (i n : Int), 16 - t < f → t ≤ 16 → i = (t : Int) → n = ((fd_n (fb a b) t : Nat) : Int) → (∀ q : Nat, q < t → sg_ok (fb a b q)) → wJ (pe_GA xs) wY0 (mS [1]) (d + 3) t_X_feed ((pe_at t_X_feed.bl 1).getD (0, [])).2 [(0, (2, 0)), (1, (1, a)), (3, (1, b)), (5, (0, n)), (6, (0, i))] [] S Q := by
  intro f
  induction f with
  | zero => intro t i n h; exact absurd h (Nat.not_lt_zero _)
  | succ f ih =>
    intro t i n hf0 ht hi hn hq
    refine wa_iload (n := 6) rfl ?_
    refine wa_bipush (w_rg2 (by omega) (by omega)) ?_
    refine wa_icmpge (w_rg0 (by omega) (by omega)) (w_rg0 (by omega) (by omega)) ⟨_, rfl⟩ (fun c1 => ?_) (fun c1 => ?_)
    · skip
      have ht16 : t = 16 := by omega
      subst ht16
      subst hn
      exact wJ_S (hk hq) ⟨rfl, rfl, rfl, rfl, trivial⟩
    · skip
      refine wa_lload_n (n := 1) rfl ?_
      refine wa_lload_n (n := 3) rfl ?_
      refine wa_iload (n := 6) rfl ?_
      refine wa_cs (M2 := fun _ => False) rfl at_X_fedByte ⟨_, rfl⟩ rfl rfl ⟨(Or.inr ⟨wy_pr rfl, fun q => q⟩), trivial, trivial, trivial, trivial, trivial⟩ trivial (fun _ _ q => False.elim q) (fedByte_ok (S := S) (t := t) hi (by omega)) (fun oq2 Sq2 hp3 q2 => ?_)
      rcases q2 with ⟨rfl, rfl⟩
      show wJ _ _ _ _ _ _ _ _ _ _
      have hb := fb_rg a b t
      refine wa_istore (n := 7) rfl ?_
      refine wa_iload (n := 7) rfl ?_
      refine wa_ifeq (w_rg0 (by omega) (by omega)) ⟨_, rfl⟩ (fun c4 => ?_) (fun c4 => ?_)
      · skip
        refine wa_iinc rfl rfl ?_
        refine wa_goto ⟨_, rfl⟩ ?_
        refine wJ_S (ih (t + 1) (i + 1) n (by omega) (by omega) (by omega) ?_ (fun q hq1 => ?_)) ⟨rfl, rfl, rfl, rfl, rfl, trivial⟩
        · first | (rw [fd_n_0 (by omega)]; omega) | (rw [fd_n_1 (by omega)]; omega)
        · by_cases hqt : q = t
          · rw [hqt]; unfold sg_ok; omega
          · exact hq q (by omega)
      · skip
        refine wa_iload (n := 7) rfl ?_
        refine wa_cs (M2 := fun _ => False) rfl at_X_isSign ⟨_, rfl⟩ rfl rfl ⟨trivial, (Or.inr ⟨wy_pr rfl, fun q => q⟩), trivial, trivial, trivial, trivial, trivial⟩ trivial (fun _ _ q => False.elim q) (xIsSign_ok (S := S) ⟨by omega, by omega⟩) (fun oq5 Sq5 hp6 q5 => ?_)
        rcases q5 with ⟨rfl, ⟨rfl, hs⟩ | ⟨rfl, hs⟩⟩
        · skip
          show wJ _ _ _ _ _ _ _ _ _ _
          refine wa_ifne (w_rg0 (by omega) (by omega)) ⟨_, rfl⟩ (fun c7 => ?_) (fun c7 => ?_)
          · skip
            refine wa_iinc rfl rfl ?_
            refine wa_fall ⟨_, rfl⟩ ?_
            refine wa_iinc rfl rfl ?_
            refine wa_goto ⟨_, rfl⟩ ?_
            refine wJ_S (ih (t + 1) (i + 1) (n + 1) (by omega) (by omega) (by omega) ?_ (fun q hq1 => ?_)) ⟨rfl, rfl, rfl, rfl, rfl, trivial⟩
            · first | (rw [fd_n_0 (by omega)]; omega) | (rw [fd_n_1 (by omega)]; omega)
            · by_cases hqt : q = t
              · rw [hqt]; unfold sg_ok; omega
              · exact hq q (by omega)
          · skip
            exact absurd c7 (by omega)
        · skip
          show wJ _ _ _ _ _ _ _ _ _ _
          refine wa_ifne (w_rg0 (by omega) (by omega)) ⟨_, rfl⟩ (fun c8 => ?_) (fun c8 => ?_)
          · skip
            exact absurd c8 (by omega)
          · skip
            refine wa_iconst ?_
            refine wa_ireturn rfl ?_
            refine hf (fun hz => ?_)
            have := hz t (by omega)
            unfold sg_ok at this
            omega
/-- t bytes have been written to the tape -/
def xf_ag (g : Nat → Int) (S Z : wS) (t : Nat) : Prop := Z 0 1 = S 0 1 + (fd_n g t : Nat) ∧ (∀ q : Nat, q < t → g q ≠ 0 → Z 1 (S 0 1 + (fd_n g q : Nat)) = g q) ∧ (∀ i : Int, i < S 0 1 → Z 1 i = S 1 i) ∧ ∀ (j : Nat) (i : Int), j ≠ 1 → (j ≠ 0 ∨ i ≠ 1) → Z j i = S j i
theorem xf_7 {a b : Int} (h0 : 0 ≤ S 0 1 ∧ S 0 1 + (fd_n (fb a b) 16 : Nat) ≤ S 1 (-1) ∧ S 1 (-1) ≤ 131072) (hok : ∀ q : Nat, q < 16 → sg_ok (fb a b q)) (hk : ∀ Z, xf_ag (fb a b) S Z 16 → Q (.inl (some (0, S 0 1 + (fd_n (fb a b) 16 : Nat)))) Z) : ∀ (f t : Nat) (i : Int) (Z : wS), 16 - t < f → t ≤ 16 → i = (t : Int) → xf_ag (fb a b) S Z t → wJ (pe_GA xs) wY0 (mS [1]) (d + 3) t_X_feed ((pe_at t_X_feed.bl 7).getD (0, [])).2 [(0, (2, 0)), (1, (1, a)), (3, (1, b)), (6, (0, i))] [] Z Q := by
  intro f
  induction f with
  | zero => intro t i Z h; exact absurd h (Nat.not_lt_zero _)
  | succ f ih =>
    intro t i Z hf0 ht hi hag
    have hle := fd_n_mono (fb a b) 16 t ht
    have z1 : Z 0 1 = S 0 1 + (fd_n (fb a b) t : Nat) := hag.1
    have zl : Z 1 (-1) = S 1 (-1) := hag.2.2.1 (-1) (by omega)
    refine wa_iload (n := 6) rfl ?_
    refine wa_bipush (w_rg2 (by omega) (by omega)) ?_
    refine wa_icmpge (w_rg0 (by omega) (by omega)) (w_rg0 (by omega) (by omega)) ⟨_, rfl⟩ (fun c1 => ?_) (fun c1 => ?_)
    · skip
      refine wa_aload_n (n := 0) rfl ?_
      refine wb_gfi 0 rfl (wy_pr rfl) wt_0 wf_10_1 (v := (S 0 1 + (fd_n (fb a b) t : Nat))) (z1) (fun r2 => ?_)
      refine wa_ireturn rfl ?_
      have ht16 : t = 16 := by omega
      subst ht16
      exact hk Z hag
    · skip
      refine wa_lload_n (n := 1) rfl ?_
      refine wa_lload_n (n := 3) rfl ?_
      refine wa_iload (n := 6) rfl ?_
      refine wa_cs (M2 := fun _ => False) rfl at_X_fedByte ⟨_, rfl⟩ rfl rfl ⟨(Or.inr ⟨wy_pr rfl, fun q => q⟩), trivial, trivial, trivial, trivial⟩ trivial (fun _ _ q => False.elim q) (fedByte_ok (S := Z) (t := t) hi (by omega)) (fun oq3 Sq3 hp4 q3 => ?_)
      rcases q3 with ⟨rfl, rfl⟩
      show wJ _ _ _ _ _ _ _ _ _ _
      have hb := fb_rg a b t
      refine wa_istore (n := 7) rfl ?_
      refine wa_iload (n := 7) rfl ?_
      refine wa_ifeq (w_rg0 (by omega) (by omega)) ⟨_, rfl⟩ (fun c5 => ?_) (fun c5 => ?_)
      · skip
        refine wa_iinc rfl rfl ?_
        refine wa_goto ⟨_, rfl⟩ ?_
        refine wJ_S (ih (t + 1) (i + 1) _ (by omega) (by omega) (by omega) ⟨?_, fun q q1 q2 => ?_, hag.2.2.1, hag.2.2.2⟩) ⟨rfl, rfl, rfl, rfl, trivial⟩
        · rw [fd_n_0 (by omega)]; exact hag.1
        · by_cases hqt : q = t
          · rw [hqt] at q2; exact absurd (by omega) q2
          · exact hag.2.1 q (by omega) q2
      · skip
        have hs := hok t (by omega)
        unfold sg_ok at hs
        have hlt := fd_n_mono (fb a b) 16 (t + 1) (by omega)
        rw [fd_n_1 (by omega)] at hlt
        refine wa_aload_n (n := 0) rfl ?_
        refine wb_gf4 0 rfl (wy_pr rfl) wt_0 wf_10_0 (v := 1) wl_0_0 ?_
        refine wa_aload_n (n := 0) rfl ?_
        refine wb_gfi 0 rfl (wy_pr rfl) wt_0 wf_10_1 (v := (S 0 1 + (fd_n (fb a b) t : Nat))) (z1) (fun r6 => ?_)
        refine wa_iload (n := 7) rfl ?_
        refine wb_i2b_r (wb_i2b_id ⟨(by omega), (by omega)⟩) ?_
        refine wb_bast 1 rfl (wy_pr rfl) wt_1 (n := (S 1 (-1))) (zl) (by omega) (by omega) ⟨(by omega), (by omega)⟩ ?_
        refine wa_aload_n (n := 0) rfl ?_
        refine wa_dup (by decide) ?_
        refine wb_gfi 0 rfl (wy_pr rfl) wt_0 wf_10_1 (v := (S 0 1 + (fd_n (fb a b) t : Nat))) ((w_up_slot (by decide)).trans (z1)) (fun r7 => ?_)
        refine wa_iconst ?_
        refine wa_iadd ?_
        refine wb_pfi 0 rfl (wy_pr rfl) wt_0 wf_10_1 (n := 1) rfl ⟨(by omega), (by omega)⟩ ?_
        refine wa_fall ⟨_, rfl⟩ ?_
        refine wa_iinc rfl rfl ?_
        refine wa_goto ⟨_, rfl⟩ ?_
        refine wJ_S (ih (t + 1) (i + 1) _ (by omega) (by omega) (by omega) ⟨?_, fun q q1 q2 => ?_, fun q q1 => ?_, fun j q q1 q2 => ?_⟩) ⟨rfl, rfl, rfl, rfl, trivial⟩
        · rw [fd_n_1 (by omega)]; show S 0 1 + (fd_n (fb a b) t : Nat) + 1 = _; omega
        · rw [w_up_slot (by decide)]
          by_cases hqt : q = t
          · rw [hqt, w_up_same]
          · have := fd_n_mono (fb a b) t (q + 1) (by omega)
            rw [fd_n_1 q2] at this
            rw [w_up_at (by omega)]
            exact hag.2.1 q (by omega) q2
        · rw [w_up_slot (by decide), w_up_at (by omega)]; exact hag.2.2.1 q q1
        · rw [w_up_no (by omega), w_up_slot q1]; exact hag.2.2.2 j q q1 q2
/-- what feed leaves when it takes the bytes -/
def xfed (g : Nat → Int) (S Z : wS) : Prop := Z 0 1 = S 0 1 + (fd_n g 16 : Nat) ∧ (∀ q : Nat, q < 16 → g q ≠ 0 → Z 1 (S 0 1 + (fd_n g q : Nat)) = g q) ∧ (∀ i : Int, 0 ≤ i → i < S 0 1 → Z 1 i = S 1 i) ∧ (Z 0 1 ≤ Z 1 (-1) ∧ 256 ≤ Z 1 (-1) ∧ Z 1 (-1) ≤ 131072) ∧ gI Z ∧ (∀ (j : Nat) (i : Int), j < 4000000 → j ≠ wG → j ≠ 1 → (j ≠ 0 ∨ i ≠ 1) → (j ≠ 14 ∨ i ≠ 5) → Z j i = S j i) ∧ ((Z 1 (-1) = S 1 (-1) ∧ Z wG = S wG) ∨ (Z 1 (-1) = S 1 (-1) * 2 ∧ Z wG 0 = S wG 0 + Z 1 (-1) ∧ Z wG 1 = S wG 1 + 1 ∧ S 1 (-1) < Z 0 1))
theorem feed_c {a b : Int} (hI : gI S) (h0 : 0 ≤ S 0 1 ∧ S 0 1 ≤ 65536 ∧ S 0 1 ≤ S 1 (-1) ∧ 256 ≤ S 1 (-1) ∧ S 1 (-1) ≤ 131072) : wJ (pe_GA xs) wY0 (mS [1]) (d + 3) t_X_feed ((pe_at t_X_feed.bl 0).getD (0, [])).2 [(0, (2, 0)), (1, (1, a)), (3, (1, b))] [] S (fun o S2 => (¬ ((∀ q : Nat, q < 16 → sg_ok (fb a b q)) ∧ S 0 1 + (fd_n (fb a b) 16 : Nat) ≤ 65536) ∧ S2 = S ∧ o = .inl (some (0, -1))) ∨ (((∀ q : Nat, q < 16 → sg_ok (fb a b q)) ∧ S 0 1 + (fd_n (fb a b) 16 : Nat) ≤ 65536) ∧ xfed (fb a b) S S2 ∧ o = .inl (some (0, S 0 1 + (fd_n (fb a b) 16 : Nat))))) := by
  have h16 := fd_n_le (fb a b) 16
  refine wa_iconst ?_
  refine wa_istore (n := 5) rfl ?_
  refine wa_iconst ?_
  refine wa_istore (n := 6) rfl ?_
  refine wa_fall ⟨_, rfl⟩ ?_
  refine wJ_S (xf_1 (fun hok => ?_) (fun hz => Or.inl ⟨fun q => hz q.1, rfl, rfl⟩) 17 0 0 0 (by decide) (by decide) rfl rfl (fun q h => absurd h (Nat.not_lt_zero _))) ⟨rfl, rfl, rfl, rfl, rfl, trivial⟩
  refine wa_aload_n (n := 0) rfl ?_
  refine wb_gfi 0 rfl (wy_pr rfl) wt_0 wf_10_1 (v := (S 0 1)) rfl (fun r301 => ?_)
  refine wa_iload (n := 5) rfl ?_
  refine wa_iadd ?_
  refine wb_ki (n := 65536) rfl ?_
  refine wa_icmple (w_rg0 (by omega) (by omega)) (w_rg0 (by omega) (by omega)) ⟨_, rfl⟩ (fun c302 => ?_) (fun c302 => ?_)
  · skip
    refine wa_aload_n (n := 0) rfl ?_
    refine wb_gfi 0 rfl (wy_pr rfl) wt_0 wf_10_1 (v := (S 0 1)) rfl (fun r303 => ?_)
    refine wa_iload (n := 5) rfl ?_
    refine wa_iadd ?_
    refine wa_aload_n (n := 0) rfl ?_
    refine wb_gf4 0 rfl (wy_pr rfl) wt_0 wf_10_0 (v := 1) wl_0_0 ?_
    refine wb_alen 1 rfl (wy_pr rfl) (by rw [wt_1]; rfl) (v := (S 1 (-1))) rfl (fun r304 => ?_)
    refine wa_icmple (w_rg0 (by omega) (by omega)) (w_rg0 (by omega) (by omega)) ⟨_, rfl⟩ (fun c305 => ?_) (fun c305 => ?_)
    · skip
      refine wa_iconst ?_
      refine wa_istore (n := 6) rfl ?_
      refine wa_fall ⟨_, rfl⟩ ?_
      refine wJ_S (xf_7 (S := S) ⟨by omega, by omega, by omega⟩ hok (fun Z hz => Or.inr ⟨⟨hok, by omega⟩, ⟨hz.1, hz.2.1, fun i i0 i1 => hz.2.2.1 i i1, ?_, ?_, fun j i j1 j2 j3 j4 j5 => hz.2.2.2 j i j3 j4, Or.inl ⟨hz.2.2.1 (-1) (by omega), funext fun i => hz.2.2.2 wG i (by decide) (Or.inl (by decide))⟩⟩, rfl⟩) 17 0 0 S (by decide) (by decide) rfl ⟨(Int.add_zero _).symm, fun q h => absurd h (Nat.not_lt_zero _), fun i h => rfl, fun j i _ _ => rfl⟩) ⟨rfl, rfl, rfl, rfl, trivial⟩
      · have := hz.1; have := hz.2.2.1 (-1) (by omega); omega
      · exact ⟨fun q q1 q2 => hI.1 q q1 (by rw [hz.2.2.2 q (-1) (by omega) (by omega)] at q2; exact q2), fun q q1 => by rw [hz.2.2.2 238 q (by decide) (Or.inl (by decide))]; exact hI.2.1 q q1, by rw [hz.2.2.2 14 5 (by decide) (by decide)]; exact hI.2.2⟩
    · skip
      refine wJ_fg ?_
      refine wa_aload_n (n := 0) rfl ?_
      refine wa_aload_n (n := 0) rfl ?_
      refine wb_gf4 0 rfl (wy_pr rfl) wt_0 wf_10_0 (v := 1) wl_0_0 ?_
      refine wa_aload_n (n := 0) rfl ?_
      refine wb_gf4 0 rfl (wy_pr rfl) wt_0 wf_10_0 (v := 1) wl_0_0 ?_
      refine wb_alen 1 rfl (wy_pr rfl) (by rw [wt_1]; rfl) (v := (S 1 (-1))) (w_up_slot (by decide)) (fun r306 => ?_)
      refine wa_iconst ?_
      refine wa_imul ?_
      refine wa_cs (M2 := fun _ => False) rfl at_JA_copyOf ⟨_, rfl⟩ rfl rfl ⟨(Or.inr ⟨wy_pr rfl, fun q => q⟩), trivial, trivial, trivial, trivial⟩ ⟨(Or.inr ⟨wy_pr rfl, fun q => q⟩), trivial⟩ (fun _ _ q => False.elim q) (cp_B (S := (w_up S 14 5 (-2))) (a := 1) (n := ((S 1 (-1)) * 2)) (len := (S 1 (-1))) (wy_pr rfl) wt_1 (w_up_slot (by decide)) ⟨by omega, by omega, by omega⟩) (fun oq307 Sq307 _ q307 => ?_)
      rcases q307 with ⟨rfl, rfl⟩
      show wJ _ _ _ _ _ _ _ _ _ _
      refine wg_pf (S := (w_up S 14 5 (-2))) (len := (S 1 (-1))) 2 0 1 rfl rfl rfl wt_0 wf_10_0 wl_0_0 (by decide +kernel) wt_1 (by decide) (by decide +kernel) (gI_up hI (by omega) (by omega) (by omega)) (fun _ => by rw [w_up_same]; decide) (by decide) ⟨by omega, by omega⟩ (w_up_slot (by decide)) (fun _ => ⟨Or.inr (by decide), Or.inl (nN_ge _)⟩) ⟨(Or.inr ⟨wy_pr rfl, mS_no rfl⟩), trivial, trivial, trivial, trivial⟩ trivial (fun Z308 g309 gi310 => ?_)
      refine wa_fall ⟨_, rfl⟩ ?_
      refine wa_iconst ?_
      refine wa_istore (n := 6) rfl ?_
      refine wa_fall ⟨_, rfl⟩ ?_
      have zz : ∀ (j : Nat) (i : Int), j < 4000000 → j ≠ wG → j ≠ 1 → (j ≠ 14 ∨ i ≠ 5) → Z308 j i = S j i := fun j i j1 j2 j3 j4 => (congrFun (g309.2.2.1 j j3 j1 j2) i).trans (w_up_no (by omega))
      have z01 : Z308 0 1 = S 0 1 := zz 0 1 (by decide) (by decide) (by decide) (by decide)
      have zln : Z308 1 (-1) = S 1 (-1) * 2 := g309.1
      refine wJ_S (xf_7 (S := Z308) ⟨by omega, by omega, by omega⟩ hok (fun Z hz => ?_) 17 0 0 Z308 (by decide) (by decide) rfl ⟨(Int.add_zero _).symm, fun q h => absurd h (Nat.not_lt_zero _), fun i h => rfl, fun j i _ _ => rfl⟩) ⟨rfl, rfl, rfl, rfl, trivial⟩
      have hz1 := hz.1
      have hz2 := hz.2.1
      have hz3 := hz.2.2.1
      rw [z01] at hz1 hz2 hz3 ⊢
      refine Or.inr ⟨⟨hok, by omega⟩, ⟨hz1, hz2, fun i i0 i1 => (hz3 i i1).trans (g309.2.1 i i0 (by show i < S 1 (-1); omega)), ?_, ?_, fun j i j1 j2 j3 j4 j5 => (hz.2.2.2 j i j3 j4).trans (zz j i j1 j2 j3 j5), Or.inr ⟨(hz3 (-1) (by omega)).trans zln, ?_, ?_, by omega⟩⟩, rfl⟩
      · have := hz3 (-1) (by omega); omega
      · exact ⟨fun q q1 q2 => gi310.1 q q1 (by rw [hz.2.2.2 q (-1) (by omega) (by omega)] at q2; exact q2), fun q q1 => by rw [hz.2.2.2 238 q (by decide) (Or.inl (by decide))]; exact gi310.2.1 q q1, by rw [hz.2.2.2 14 5 (by decide) (by decide)]; exact gi310.2.2⟩
      · have e0 := g309.2.2.2.1; rw [hz.2.2.2 wG 0 (by decide) (by decide), hz3 (-1) (by omega), zln, e0]; rfl
      · have e0 := g309.2.2.2.2; rw [hz.2.2.2 wG 1 (by decide) (by decide), e0]; rfl
  · skip
    refine wa_iconst ?_
    refine wa_ireturn rfl ?_
    exact Or.inl ⟨fun q => by omega, rfl, rfl⟩
end W99
