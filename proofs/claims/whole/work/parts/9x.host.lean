/-! PART 9x: fieldOf. -/
section W9x
variable {xs : List (Nat × List Int32)} {M : Nat → Prop} {d : Nat} {A B C S Z : wS} {Q : wO → wS → Prop} {T : Int → Int} {n : Int} {c i : Nat}
/-- how many signs of a method's name stand ahead of its field's: 3 (get, set), 2 (is), 0: it has none -/
def fo_h (S : wS) (m0 w : Nat) (m hd : Int) : Prop :=
  (hd = 3 ∧ ((S (m0 + 4) m = 0 ∧ bg_q (S (w + 1)) (S (w + 2)) (S (w + 3)) (S (m0 + 14) m) tx_81) ∨ ((S (m0 + 3) m = 0 ∧ S (m0 + 4) m = 1 ∧ S (m0 + 5) m = 0) ∧ bg_q (S (w + 1)) (S (w + 2)) (S (w + 3)) (S (m0 + 14) m) tx_51))) ∨
  (hd = 2 ∧ ¬ ((S (m0 + 4) m = 0 ∧ bg_q (S (w + 1)) (S (w + 2)) (S (w + 3)) (S (m0 + 14) m) tx_81) ∨ ((S (m0 + 3) m = 0 ∧ S (m0 + 4) m = 1 ∧ S (m0 + 5) m = 0) ∧ bg_q (S (w + 1)) (S (w + 2)) (S (w + 3)) (S (m0 + 14) m) tx_51)) ∧ (S (m0 + 4) m = 0 ∧ S (m0 + 3) m = 3 ∧ bg_q (S (w + 1)) (S (w + 2)) (S (w + 3)) (S (m0 + 14) m) tx_83)) ∨
  (hd = 0 ∧ ¬ ((S (m0 + 4) m = 0 ∧ bg_q (S (w + 1)) (S (w + 2)) (S (w + 3)) (S (m0 + 14) m) tx_81) ∨ ((S (m0 + 3) m = 0 ∧ S (m0 + 4) m = 1 ∧ S (m0 + 5) m = 0) ∧ bg_q (S (w + 1)) (S (w + 2)) (S (w + 3)) (S (m0 + 14) m) tx_51)) ∧ ¬ (S (m0 + 4) m = 0 ∧ S (m0 + 3) m = 3 ∧ bg_q (S (w + 1)) (S (w + 2)) (S (w + 3)) (S (m0 + 14) m) tx_83))
/-- the name of the field: the first sign is made small -/
def fo_g (P : Int → Int) (s : Int) : Int → Int := fun i => if i = 0 then P s + 32 else P (s + i)
/-- the field of the word nd that the method m gives or sets -/
def fo_2 (S : wS) (m0 t0 : Nat) (m nd : Int) : Int := if nd = -1 then -1 else if nf_f (S (m0 + 1)) (S (m0 + 14)) (S (m0 + 2)) (S (t0 + 4)) (S (t0 + 3)) (S (t0 + 1)) nd (-1) ((S m0 m).toNat + 2) (S m0 m) = -1 then -1 else if S (m0 + 2) (nf_f (S (m0 + 1)) (S (m0 + 14)) (S (m0 + 2)) (S (t0 + 4)) (S (t0 + 3)) (S (t0 + 1)) nd (-1) ((S m0 m).toNat + 2) (S m0 m)) = S (m0 + 2) m ∧ S (m0 + 3) (nf_f (S (m0 + 1)) (S (m0 + 14)) (S (m0 + 2)) (S (t0 + 4)) (S (t0 + 3)) (S (t0 + 1)) nd (-1) ((S m0 m).toNat + 2) (S m0 m)) = (if S (m0 + 4) m = 0 then S (m0 + 3) m else S (m0 + 6) m) then nf_f (S (m0 + 1)) (S (m0 + 14)) (S (m0 + 2)) (S (t0 + 4)) (S (t0 + 3)) (S (t0 + 1)) nd (-1) ((S m0 m).toNat + 2) (S m0 m) else -1
/-- what fieldOf finds, when hd signs stand ahead -/
def fo_r (S : wS) (m0 t0 w : Nat) (m hd x : Int) : Prop :=
  ((hd = 0 ∨ S (w + 3) (S (m0 + 14) m) - hd < 1 ∨ ¬ (65 ≤ S (w + 1) (S (w + 2) (S (m0 + 14) m) + hd) ∧ S (w + 1) (S (w + 2) (S (m0 + 14) m) + hd) ≤ 90)) ∧ x = -1) ∨
  (¬ (hd = 0 ∨ S (w + 3) (S (m0 + 14) m) - hd < 1 ∨ ¬ (65 ≤ S (w + 1) (S (w + 2) (S (m0 + 14) m) + hd) ∧ S (w + 1) (S (w + 2) (S (m0 + 14) m) + hd) ≤ 90)) ∧ ∃ nd : Int, ((0 ≤ nd ∧ nd < S w 7 ∧ wq (S (w + 1)) (S (w + 2)) (S (w + 3)) (fo_g (S (w + 1)) (S (w + 2) (S (m0 + 14) m) + hd)) 0 (S (w + 3) (S (m0 + 14) m) - hd) nd) ∨ (nd = -1 ∧ ∀ k : Int, 0 ≤ k → k < S w 7 → ¬ wq (S (w + 1)) (S (w + 2)) (S (w + 3)) (fo_g (S (w + 1)) (S (w + 2) (S (m0 + 14) m) + hd)) 0 (S (w + 3) (S (m0 + 14) m) - hd) k)) ∧ x = fo_2 S m0 t0 m nd)
/-- the same but for the scratch -/
def sc_ag (s : Nat) (S Z : wS) : Prop := ∀ (j : Nat) (i : Int), (j ≠ s ∨ i < 0) → Z j i = S j i
theorem wq_g {P ST SZ g h : Int → Int} {a n k : Int} (e : ∀ i : Nat, i < n.toNat → g (a + (i : Int)) = h (a + (i : Int))) : wq P ST SZ g a n k ↔ wq P ST SZ h a n k := ⟨fun z => ⟨z.1, fun i hi => (z.2 i hi).trans (e i hi)⟩, fun z => ⟨z.1, fun i hi => (z.2 i hi).trans (e i hi).symm⟩⟩
theorem nf_f_rg (SO WD STA FI MA AB : Int → Int) (word st N : Int) (K : Int) (h : ∀ q : Int, 0 ≤ q → q < K → (-1 ≤ AB q ∧ AB q < q) ∧ 0 ≤ FI q ∧ FI q + MA q ≤ N) : ∀ (f : Nat) (up : Int), -1 ≤ up → up < K → nf_f SO WD STA FI MA AB word st f up = -1 ∨ (0 ≤ nf_f SO WD STA FI MA AB word st f up ∧ nf_f SO WD STA FI MA AB word st f up < N) := by
  intro f
  induction f with
  | zero => intro up _ _; exact Or.inl rfl
  | succ f ih =>
    intro up h0 h1
    rw [nf_f_s]
    by_cases c1 : up = -1
    · rw [if_pos c1]; exact Or.inl rfl
    · rw [if_neg c1]
      have hq := h up (by omega) h1
      have hr := nf_m_rg SO WD STA word st (FI up + MA up) ((MA up).toNat + 1) (FI up)
      by_cases c2 : 0 ≤ nf_m SO WD STA word st (FI up + MA up) ((MA up).toNat + 1) (FI up)
      · rw [if_pos c2]; omega
      · rw [if_neg c2]; exact ih (AB up) hq.1.1 (by omega)
theorem fo8_73 {m hd g0 : Int} (hI : gI S) (hC : w_CL S) (hcb : cb_I 87 73 S) (hW : wd_at S 74 64) (hL : wd_L S 74 64) (hm : 0 ≤ m ∧ m < 400) (hcl : 0 ≤ S 97 m ∧ S 97 m < S 73 2) (hv : 0 ≤ (S 111 m) ∧ (S 111 m) < S 74 7) (h30 : S 77 (S 111 m) ≤ 30) (hhd : hd = 0 ∨ hd = 2 ∨ hd = 3) (hg0 : (g0 = 1 ∧ S 101 m = 0) ∨ (g0 = 0 ∧ S 101 m ≠ 0)) : wJ (pe_GA xs) wY0 M (d + 5) t_XO_fieldOf ((pe_at t_XO_fieldOf.bl 8).getD (0, [])).2 [(0, (2, 73)), (1, (0, m)), (2, (0, (S 111 m))), (3, (0, g0)), (5, (0, hd))] [] S (fun o Z => ∃ x : Int, o = .inl (some (0, x)) ∧ sc_ag 119 S Z ∧ fo_r S 97 87 74 m hd x ∧ gI Z ∧ rmR S Z) := by
  have hrm := rmR_rfl S
  have h3 : 0 ≤ S 76 (S 111 m) ∧ 0 ≤ S 77 (S 111 m) ∧ S 77 (S 111 m) ≤ 60 ∧ S 76 (S 111 m) + S 77 (S 111 m) ≤ S 74 1 := hW.2.2.1 _ hv.1 hv.2
  have hc1 : 0 ≤ S 74 7 ∧ S 74 7 ≤ S 76 (-1) := hW.1
  have hu1 : 0 ≤ S 74 1 ∧ S 74 1 ≤ S 75 (-1) := hW.2.1
  have l3 : S 77 (-1) = S 76 (-1) := hL.2.1
  have l8 : S 76 (-1) ≤ 2147483647 := hL.2.2.2.2.2.2.2.1
  have l9 : S 75 (-1) ≤ 2147483647 := hL.2.2.2.2.2.2.2.2
  have lsc : S 119 (-1) = 30 := cl_119 hC
  refine wa_aload_n (n := 0) rfl ?_
  refine wb_gf4 73 rfl (wy_pr rfl) wt_73 wf_3_0 (v := 74) wl_73_0 ?_
  refine wb_gf4 74 rfl (wy_pr rfl) wt_74 wf_9_2 (v := 76) wl_74_2 ?_
  refine wa_iload_n (n := 2) rfl ?_
  refine wb_iald 76 rfl (wy_pr rfl) wt_76 (n := (S 76 (-1))) rfl (by omega) (by omega) (v := (S 76 (S 111 m))) rfl (fun r1 => ?_)
  refine wa_iload (n := 5) rfl ?_
  refine wa_iadd ?_
  refine wa_istore (n := 6) rfl ?_
  refine wa_aload_n (n := 0) rfl ?_
  refine wb_gf4 73 rfl (wy_pr rfl) wt_73 wf_3_0 (v := 74) wl_73_0 ?_
  refine wb_gf4 74 rfl (wy_pr rfl) wt_74 wf_9_3 (v := 77) wl_74_3 ?_
  refine wa_iload_n (n := 2) rfl ?_
  refine wb_iald 77 rfl (wy_pr rfl) wt_77 (n := (S 77 (-1))) rfl (by omega) (by omega) (v := (S 77 (S 111 m))) rfl (fun r2 => ?_)
  refine wa_iload (n := 5) rfl ?_
  refine wa_isub ?_
  refine wa_istore (n := 7) rfl ?_
  refine wa_iload (n := 5) rfl ?_
  refine wa_ifeq (w_rg0 (by omega) (by omega)) ⟨_, rfl⟩ (fun c3 => ?_) (fun c3 => ?_)
  · skip
    refine wa_iconst ?_
    refine wa_ireturn rfl ?_
    exact ⟨-1, rfl, fun _ _ _ => rfl, Or.inl ⟨show (hd = 0 ∨ S 77 (S 111 m) - hd < 1 ∨ ¬ (65 ≤ (S 75 (S 76 (S 111 m) + hd)) ∧ (S 75 (S 76 (S 111 m) + hd)) ≤ 90)) by omega, rfl⟩, hI, hrm⟩
  · skip
    refine wa_iload (n := 7) rfl ?_
    refine wa_iconst ?_
    refine wa_icmplt (w_rg0 (by omega) (by omega)) (w_rg0 (by omega) (by omega)) ⟨_, rfl⟩ (fun c4 => ?_) (fun c4 => ?_)
    · skip
      refine wa_iconst ?_
      refine wa_ireturn rfl ?_
      exact ⟨-1, rfl, fun _ _ _ => rfl, Or.inl ⟨show (hd = 0 ∨ S 77 (S 111 m) - hd < 1 ∨ ¬ (65 ≤ (S 75 (S 76 (S 111 m) + hd)) ∧ (S 75 (S 76 (S 111 m) + hd)) ≤ 90)) by omega, rfl⟩, hI, hrm⟩
    · skip
      refine wa_aload_n (n := 0) rfl ?_
      refine wb_gf4 73 rfl (wy_pr rfl) wt_73 wf_3_0 (v := 74) wl_73_0 ?_
      refine wb_gf4 74 rfl (wy_pr rfl) wt_74 wf_9_0 (v := 75) wl_74_0 ?_
      refine wa_iload (n := 6) rfl ?_
      refine wb_bald 75 rfl (wy_pr rfl) wt_75 (n := (S 75 (-1))) rfl (by omega) (by omega) (v := (S 75 ((S 76 (S 111 m)) + hd))) rfl (fun r5 => ?_)
      refine wa_cs (M2 := fun _ => False) rfl at_X_isCapital ⟨_, rfl⟩ rfl rfl ⟨trivial, trivial, (Or.inr ⟨wy_pr rfl, fun q => q⟩), trivial, trivial, trivial, trivial, trivial⟩ trivial (fun _ _ q => False.elim q) ?_ (fun _ _ _ q => q)
      refine wa_iload_n (n := 0) rfl ?_
      refine wa_bipush (w_rg2 (by omega) (by omega)) ?_
      refine wa_icmplt (w_rg0 (by omega) (by omega)) (w_rg0 (by omega) (by omega)) ⟨_, rfl⟩ (fun c6 => ?_) (fun c6 => ?_)
      · skip
        refine wa_iconst ?_
        refine wa_fall ⟨_, rfl⟩ ?_
        refine wa_zreturn rfl (Or.inl rfl) ?_
        show wJ _ _ _ _ _ _ _ _ _ _
        refine wa_ifne (w_rg0 (by omega) (by omega)) ⟨_, rfl⟩ (fun c7 => ?_) (fun c7 => ?_)
        · skip
          exact absurd c7 (by omega)
        · skip
          refine wa_fall ⟨_, rfl⟩ ?_
          refine wa_iconst ?_
          refine wa_ireturn rfl ?_
          exact ⟨-1, rfl, fun _ _ _ => rfl, Or.inl ⟨show (hd = 0 ∨ S 77 (S 111 m) - hd < 1 ∨ ¬ (65 ≤ (S 75 (S 76 (S 111 m) + hd)) ∧ (S 75 (S 76 (S 111 m) + hd)) ≤ 90)) by omega, rfl⟩, hI, hrm⟩
      · skip
        refine wa_iload_n (n := 0) rfl ?_
        refine wa_bipush (w_rg2 (by omega) (by omega)) ?_
        refine wa_icmpgt (w_rg0 (by omega) (by omega)) (w_rg0 (by omega) (by omega)) ⟨_, rfl⟩ (fun c8 => ?_) (fun c8 => ?_)
        · skip
          refine wa_iconst ?_
          refine wa_fall ⟨_, rfl⟩ ?_
          refine wa_zreturn rfl (Or.inl rfl) ?_
          show wJ _ _ _ _ _ _ _ _ _ _
          refine wa_ifne (w_rg0 (by omega) (by omega)) ⟨_, rfl⟩ (fun c9 => ?_) (fun c9 => ?_)
          · skip
            exact absurd c9 (by omega)
          · skip
            refine wa_fall ⟨_, rfl⟩ ?_
            refine wa_iconst ?_
            refine wa_ireturn rfl ?_
            exact ⟨-1, rfl, fun _ _ _ => rfl, Or.inl ⟨show (hd = 0 ∨ S 77 (S 111 m) - hd < 1 ∨ ¬ (65 ≤ (S 75 (S 76 (S 111 m) + hd)) ∧ (S 75 (S 76 (S 111 m) + hd)) ≤ 90)) by omega, rfl⟩, hI, hrm⟩
        · skip
          refine wa_iconst ?_
          refine wa_goto ⟨_, rfl⟩ ?_
          refine wa_zreturn rfl (Or.inr rfl) ?_
          show wJ _ _ _ _ _ _ _ _ _ _
          refine wa_ifne (w_rg0 (by omega) (by omega)) ⟨_, rfl⟩ (fun c10 => ?_) (fun c10 => ?_)
          · skip
            refine wa_aload_n (n := 0) rfl ?_
            refine wb_gf4 73 rfl (wy_pr rfl) wt_73 wf_3_0 (v := 74) wl_73_0 ?_
            refine wb_gf4 74 rfl (wy_pr rfl) wt_74 wf_9_0 (v := 75) wl_74_0 ?_
            refine wa_iload (n := 6) rfl ?_
            refine wa_aload_n (n := 0) rfl ?_
            refine wb_gf4 73 rfl (wy_pr rfl) wt_73 wf_3_8 (v := 119) wl_73_8 ?_
            refine wa_iconst ?_
            refine wa_iload (n := 7) rfl ?_
            refine wb_acB (S := S) 75 119 rfl rfl (wy_pr rfl) (wy_pr rfl) wt_75 wt_119 hI hrm (by decide) (by omega) (by omega) (by omega) (by have e : S 75 (-1) = (S 75 (-1)) := rfl; omega) (by have e : S 119 (-1) = 30 := ((cl_119 hC)); omega) (by omega) rfl (fun Z11 g12 gi13 rm14 => ?_)
            have hz0 : Z11 119 0 = (S 75 (S 76 (S 111 m) + hd)) := by
              have := g12.2 0 (by omega) (by omega)
              rw [show (0 : Int) + 0 = 0 by rfl, show S 76 (S 111 m) + hd + 0 = S 76 (S 111 m) + hd by omega] at this; exact this
            refine wa_aload_n (n := 0) rfl ?_
            refine wb_gf4 73 rfl (wy_pr rfl) wt_73 wf_3_8 (v := 119) wl_73_8 ?_
            refine wa_iconst ?_
            refine wa_dup2 (by decide) (by decide) ?_
            refine wb_bald 119 rfl (wy_pr rfl) wt_119 (n := 30) (((g12.1 119 (-1) (by omega)).trans ((cl_119 hC)))) (by omega) (by omega) (v := (Z11 119 0)) rfl (fun r15 => ?_)
            refine wa_bipush (w_rg2 (by omega) (by omega)) ?_
            refine wa_iadd ?_
            refine wb_i2b_r (wb_i2b_id ⟨(by omega), (by omega)⟩) ?_
            refine wb_bast 119 rfl (wy_pr rfl) wt_119 (n := 30) (((g12.1 119 (-1) (by omega)).trans ((cl_119 hC)))) (by omega) (by omega) ⟨(by omega), (by omega)⟩ ?_
            refine wa_aload_n (n := 0) rfl ?_
            refine wb_gf4 73 rfl (wy_pr rfl) wt_73 wf_3_0 (v := 74) wl_73_0 ?_
            refine wa_aload_n (n := 0) rfl ?_
            refine wb_gf4 73 rfl (wy_pr rfl) wt_73 wf_3_8 (v := 119) wl_73_8 ?_
            refine wa_iconst ?_
            refine wa_iload (n := 7) rfl ?_
            have hzs : ∀ (j : Nat) (i : Int), (j ≠ 119 ∨ i < 0) → (w_up Z11 119 0 ((Z11 119 0) + 32)) j i = S j i := fun j i hj => (w_up_no (by omega)).trans (g12.1 j i (by omega))
            have er : ∀ j : Nat, j ≠ 119 → (w_up Z11 119 0 ((Z11 119 0) + 32)) j = S j := fun j hj => funext fun i => hzs j i (Or.inl hj)
            have hWz : wd_at (w_up Z11 119 0 ((Z11 119 0) + 32)) 74 64 := wd_at_ag hW (fun x hx => er _ (by omega))
            have hLz : wd_L (w_up Z11 119 0 ((Z11 119 0) + 32)) 74 64 := wd_L_ag hL (fun x hx => hzs _ _ (Or.inr (by omega)))
            have hCz : w_CL (w_up Z11 119 0 ((Z11 119 0) + 32)) := fun y hy => (hzs y.1 (-1) (Or.inr (by omega))).trans (hC y hy)
            have lz : (w_up Z11 119 0 ((Z11 119 0) + 32)) 119 (-1) = 30 := (hzs 119 (-1) (by omega)).trans lsc
            have hgz : ∀ i : Nat, i < (S 77 (S 111 m) - hd).toNat → (w_up Z11 119 0 ((Z11 119 0) + 32)) 119 (0 + (i : Int)) = fo_g (S 75) (S 76 (S 111 m) + hd) (0 + (i : Int)) := by
              intro i hi
              unfold fo_g
              by_cases h0 : i = 0
              · subst h0
                rw [if_pos (by rfl)]
                show (w_up Z11 119 0 ((Z11 119 0) + 32)) 119 0 = _; rw [w_up_same, hz0]
              · rw [if_neg (by omega), w_up_at (by omega)]
                have := g12.2 (i : Int) (by omega) (by omega)
                rw [this]; congr 1; omega
            refine wa_cv 74 rfl (wy_pr rfl) wt_74 (M2 := fun _ => False) rfl at_XW_wordAt ⟨_, rfl⟩ rfl rfl ⟨trivial, trivial, (Or.inr ⟨wy_pr rfl, fun q => q⟩), trivial, trivial, trivial, trivial, trivial⟩ trivial (fun _ _ q => False.elim q) (wa_74 (S := (w_up Z11 119 0 ((Z11 119 0) + 32))) (b := 119) (a0 := 0) (n := S 77 (S 111 m) - hd) (wy_pr rfl) wt_119 ⟨by omega, by omega, by omega, by omega⟩ hWz hLz) (fun oq17 Sq17 hp18 q17 => ?_)
            rcases q17 with ⟨rfl, nd, rfl, hq16⟩
            show wJ _ _ _ _ _ _ _ _ _ _
            have hnd : (0 ≤ nd ∧ nd < S 74 7 ∧ wq (S 75) (S 76) (S 77) (fo_g (S 75) (S 76 (S 111 m) + hd)) 0 (S 77 (S 111 m) - hd) nd) ∨ (nd = -1 ∧ ∀ k : Int, 0 ≤ k → k < S 74 7 → ¬ wq (S 75) (S 76) (S 77) (fo_g (S 75) (S 76 (S 111 m) + hd)) 0 (S 77 (S 111 m) - hd) k) := by
              rw [er 74 (by decide), er 75 (by decide), er 76 (by decide), er 77 (by decide)] at hq16
              rcases hq16 with ⟨a1, a2, a3⟩ | ⟨a1, a2⟩
              · exact Or.inl ⟨a1, a2, (wq_g hgz).1 a3⟩
              · exact Or.inr ⟨a1, fun k k0 k1 z => a2 k k0 k1 ((wq_g hgz).2 z)⟩
            have hndr : -1 ≤ nd ∧ nd < S 74 7 := by rcases hnd with z | z <;> omega
            refine wa_istore (n := 8) rfl ?_
            refine wa_iload (n := 8) rfl ?_
            refine wa_iconst ?_
            refine wa_icmpne (w_rg0 (by omega) (by omega)) (w_rg0 (by omega) (by omega)) ⟨_, rfl⟩ (fun c19 => ?_) (fun c19 => ?_)
            · skip
              refine wa_aload_n (n := 0) rfl ?_
              refine wa_aload_n (n := 0) rfl ?_
              refine wb_gf4 73 rfl (wy_pr rfl) wt_73 wf_3_3 (v := 96) wl_73_3 ?_
              refine wa_iconst ?_
              refine wb_aald5 96 0 rfl rfl (wy_pr rfl) wt_96 (by rw [show _ = _ from ((w_up_slot (by decide)).trans (((g12.1 96 (-1) (Or.inl (by decide))).trans ((cl_96 hC)))))]; omega) wl_96_0 ?_
              refine wa_iload_n (n := 1) rfl ?_
              refine wb_iald 97 rfl (wy_pr rfl) wt_97 (n := 400) ((w_up_slot (by decide)).trans (((g12.1 97 (-1) (Or.inl (by decide))).trans ((cl_97 hC))))) (by omega) (by omega) (v := (S 97 m)) ((w_up_slot (by decide)).trans ((g12.1 97 m (Or.inl (by decide))))) (fun r20 => ?_)
              refine wa_iload (n := 8) rfl ?_
              refine wa_iconst ?_
              have hcbz : cb_I 87 73 (w_up Z11 119 0 ((Z11 119 0) + 32)) := by unfold cb_I; rw [er 73 (by decide), er (87 + 1) (by decide), er (87 + 3) (by decide), er (87 + 4) (by decide)]; exact hcb
              have hnf := nf_73 (xs := xs) (M := fun _ => False) (d := d + 4) (S := (w_up Z11 119 0 ((Z11 119 0) + 32))) (word := nd) (st := -1) (k := S 97 m) hCz hcbz ⟨by omega, by omega⟩ ⟨by omega, by omega⟩ ⟨by omega, by rw [er 73 (by decide)]; omega⟩
              rw [er 98 (by decide), er 111 (by decide), er 99 (by decide), er 91 (by decide), er 90 (by decide), er 88 (by decide)] at hnf
              have hnr := nf_f_rg (S 98) (S 111) (S 99) (S 91) (S 90) (S 88) nd (-1) (S 73 4) (S 73 2) (fun q q0 q1 => ⟨(hcb.2.2 q q0 q1).1, (hcb.2.2 q q0 q1).2.1, (hcb.2.2 q q0 q1).2.2.2⟩) ((S 97 m).toNat + 2) (S 97 m) (by omega) hcl.2
              have hm4 := hcb.2.1
              refine wa_cv 73 rfl (wy_pr rfl) wt_73 (M2 := fun _ => False) rfl at_XO_nearestField ⟨_, rfl⟩ rfl rfl ⟨trivial, trivial, trivial, (Or.inr ⟨wy_pr rfl, fun q => q⟩), trivial, trivial, trivial, trivial, trivial⟩ trivial (fun _ _ q => False.elim q) (hnf) (fun oq21 Sq21 hp22 q21 => ?_)
              rcases q21 with ⟨rfl, rfl⟩
              show wJ _ _ _ _ _ _ _ _ _ _
              refine wa_fall ⟨_, rfl⟩ ?_
              refine wa_istore (n := 9) rfl ?_
              refine wa_iload (n := 9) rfl ?_
              refine wa_iconst ?_
              refine wa_icmpeq (w_rg0 (by omega) (by omega)) (w_rg0 (by omega) (by omega)) ⟨_, rfl⟩ (fun c23 => ?_) (fun c23 => ?_)
              · skip
                refine wa_iconst ?_
                refine wa_ireturn rfl ?_
                refine ⟨_, rfl, hzs, Or.inr ⟨show ¬ (hd = 0 ∨ S 77 (S 111 m) - hd < 1 ∨ ¬ (65 ≤ (S 75 (S 76 (S 111 m) + hd)) ∧ (S 75 (S 76 (S 111 m) + hd)) ≤ 90)) by omega, nd, hnd, ?_⟩, (gI_up gi13 (by omega) (by omega) (by omega)), (rmR_up rm14 (by omega) (by decide))⟩
                show _ = (if nd = -1 then -1 else if (nf_f (S 98) (S 111) (S 99) (S 91) (S 90) (S 88) nd (-1) ((S 97 m).toNat + 2) (S 97 m)) = -1 then -1 else if S 99 (nf_f (S 98) (S 111) (S 99) (S 91) (S 90) (S 88) nd (-1) ((S 97 m).toNat + 2) (S 97 m)) = S 99 m ∧ S 100 (nf_f (S 98) (S 111) (S 99) (S 91) (S 90) (S 88) nd (-1) ((S 97 m).toNat + 2) (S 97 m)) = (if S 101 m = 0 then S 100 m else S 103 m) then (nf_f (S 98) (S 111) (S 99) (S 91) (S 90) (S 88) nd (-1) ((S 97 m).toNat + 2) (S 97 m)) else -1)
                first | (rw [if_pos (by omega)]) | (rw [if_neg (by omega), if_pos (by omega)]) | (rw [if_neg (by omega), if_neg (by omega), if_neg (fun z => by obtain ⟨z1, z2⟩ := z; omega)])
              · skip
                refine wa_aload_n (n := 0) rfl ?_
                refine wb_gf4 73 rfl (wy_pr rfl) wt_73 wf_3_3 (v := 96) wl_73_3 ?_
                refine wa_iconst ?_
                refine wb_aald5 96 2 rfl rfl (wy_pr rfl) wt_96 (by rw [show _ = _ from ((w_up_slot (by decide)).trans (((g12.1 96 (-1) (Or.inl (by decide))).trans ((cl_96 hC)))))]; omega) wl_96_2 ?_
                refine wa_iload (n := 9) rfl ?_
                refine wb_iald 99 rfl (wy_pr rfl) wt_99 (n := 400) ((w_up_slot (by decide)).trans (((g12.1 99 (-1) (Or.inl (by decide))).trans ((cl_99 hC))))) (by omega) (by omega) (v := (S 99 (nf_f (S 98) (S 111) (S 99) (S 91) (S 90) (S 88) nd (-1) ((S 97 m).toNat + 2) (S 97 m)))) ((w_up_slot (by decide)).trans ((g12.1 99 (nf_f (S 98) (S 111) (S 99) (S 91) (S 90) (S 88) nd (-1) ((S 97 m).toNat + 2) (S 97 m)) (Or.inl (by decide))))) (fun r24 => ?_)
                refine wa_aload_n (n := 0) rfl ?_
                refine wb_gf4 73 rfl (wy_pr rfl) wt_73 wf_3_3 (v := 96) wl_73_3 ?_
                refine wa_iconst ?_
                refine wb_aald5 96 2 rfl rfl (wy_pr rfl) wt_96 (by rw [show _ = _ from ((w_up_slot (by decide)).trans (((g12.1 96 (-1) (Or.inl (by decide))).trans ((cl_96 hC)))))]; omega) wl_96_2 ?_
                refine wa_iload_n (n := 1) rfl ?_
                refine wb_iald 99 rfl (wy_pr rfl) wt_99 (n := 400) ((w_up_slot (by decide)).trans (((g12.1 99 (-1) (Or.inl (by decide))).trans ((cl_99 hC))))) (by omega) (by omega) (v := (S 99 m)) ((w_up_slot (by decide)).trans ((g12.1 99 m (Or.inl (by decide))))) (fun r25 => ?_)
                refine wa_icmpeq (w_rg0 (by omega) (by omega)) (w_rg0 (by omega) (by omega)) ⟨_, rfl⟩ (fun c26 => ?_) (fun c26 => ?_)
                · skip
                  refine wa_aload_n (n := 0) rfl ?_
                  refine wb_gf4 73 rfl (wy_pr rfl) wt_73 wf_3_3 (v := 96) wl_73_3 ?_
                  refine wa_iload_n (n := 3) rfl ?_
                  refine wa_ifeq (w_rg0 (by omega) (by omega)) ⟨_, rfl⟩ (fun c27 => ?_) (fun c27 => ?_)
                  · skip
                    refine wa_bipush (w_rg2 (by omega) (by omega)) ?_
                    refine wa_fall ⟨_, rfl⟩ ?_
                    refine wb_aald5 96 6 rfl rfl (wy_pr rfl) wt_96 (by rw [show _ = _ from ((w_up_slot (by decide)).trans (((g12.1 96 (-1) (Or.inl (by decide))).trans ((cl_96 hC)))))]; omega) wl_96_6 ?_
                    refine wa_iload_n (n := 1) rfl ?_
                    refine wb_iald 103 rfl (wy_pr rfl) wt_103 (n := 400) ((w_up_slot (by decide)).trans (((g12.1 103 (-1) (Or.inl (by decide))).trans ((cl_103 hC))))) (by omega) (by omega) (v := (S 103 m)) ((w_up_slot (by decide)).trans ((g12.1 103 m (Or.inl (by decide))))) (fun r28 => ?_)
                    refine wa_istore (n := 10) rfl ?_
                    refine wa_aload_n (n := 0) rfl ?_
                    refine wb_gf4 73 rfl (wy_pr rfl) wt_73 wf_3_3 (v := 96) wl_73_3 ?_
                    refine wa_iconst ?_
                    refine wb_aald5 96 3 rfl rfl (wy_pr rfl) wt_96 (by rw [show _ = _ from ((w_up_slot (by decide)).trans (((g12.1 96 (-1) (Or.inl (by decide))).trans ((cl_96 hC)))))]; omega) wl_96_3 ?_
                    refine wa_iload (n := 9) rfl ?_
                    refine wb_iald 100 rfl (wy_pr rfl) wt_100 (n := 400) ((w_up_slot (by decide)).trans (((g12.1 100 (-1) (Or.inl (by decide))).trans ((cl_100 hC))))) (by omega) (by omega) (v := (S 100 (nf_f (S 98) (S 111) (S 99) (S 91) (S 90) (S 88) nd (-1) ((S 97 m).toNat + 2) (S 97 m)))) ((w_up_slot (by decide)).trans ((g12.1 100 (nf_f (S 98) (S 111) (S 99) (S 91) (S 90) (S 88) nd (-1) ((S 97 m).toNat + 2) (S 97 m)) (Or.inl (by decide))))) (fun r29 => ?_)
                    refine wa_iload (n := 10) rfl ?_
                    refine wa_icmpne (w_rg0 (by omega) (by omega)) (w_rg0 (by omega) (by omega)) ⟨_, rfl⟩ (fun c30 => ?_) (fun c30 => ?_)
                    · skip
                      refine wa_iconst ?_
                      refine wa_fall ⟨_, rfl⟩ ?_
                      refine wa_ireturn rfl ?_
                      refine ⟨_, rfl, hzs, Or.inr ⟨show ¬ (hd = 0 ∨ S 77 (S 111 m) - hd < 1 ∨ ¬ (65 ≤ (S 75 (S 76 (S 111 m) + hd)) ∧ (S 75 (S 76 (S 111 m) + hd)) ≤ 90)) by omega, nd, hnd, ?_⟩, (gI_up gi13 (by omega) (by omega) (by omega)), (rmR_up rm14 (by omega) (by decide))⟩
                      show _ = (if nd = -1 then -1 else if (nf_f (S 98) (S 111) (S 99) (S 91) (S 90) (S 88) nd (-1) ((S 97 m).toNat + 2) (S 97 m)) = -1 then -1 else if S 99 (nf_f (S 98) (S 111) (S 99) (S 91) (S 90) (S 88) nd (-1) ((S 97 m).toNat + 2) (S 97 m)) = S 99 m ∧ S 100 (nf_f (S 98) (S 111) (S 99) (S 91) (S 90) (S 88) nd (-1) ((S 97 m).toNat + 2) (S 97 m)) = (if S 101 m = 0 then S 100 m else S 103 m) then (nf_f (S 98) (S 111) (S 99) (S 91) (S 90) (S 88) nd (-1) ((S 97 m).toNat + 2) (S 97 m)) else -1)
                      have hwt : (if S 101 m = 0 then S 100 m else S 103 m) = (S 103 m) := by first | exact if_pos (by omega) | exact if_neg (by omega)
                      rw [hwt]
                      first | (rw [if_pos (by omega)]) | (rw [if_neg (by omega), if_pos (by omega)]) | (rw [if_neg (by omega), if_neg (by omega), if_neg (fun z => by obtain ⟨z1, z2⟩ := z; omega)])
                    · skip
                      refine wa_iload (n := 9) rfl ?_
                      refine wa_goto ⟨_, rfl⟩ ?_
                      refine wa_ireturn rfl ?_
                      refine ⟨_, rfl, hzs, Or.inr ⟨show ¬ (hd = 0 ∨ S 77 (S 111 m) - hd < 1 ∨ ¬ (65 ≤ (S 75 (S 76 (S 111 m) + hd)) ∧ (S 75 (S 76 (S 111 m) + hd)) ≤ 90)) by omega, nd, hnd, ?_⟩, (gI_up gi13 (by omega) (by omega) (by omega)), (rmR_up rm14 (by omega) (by decide))⟩
                      show _ = (if nd = -1 then -1 else if (nf_f (S 98) (S 111) (S 99) (S 91) (S 90) (S 88) nd (-1) ((S 97 m).toNat + 2) (S 97 m)) = -1 then -1 else if S 99 (nf_f (S 98) (S 111) (S 99) (S 91) (S 90) (S 88) nd (-1) ((S 97 m).toNat + 2) (S 97 m)) = S 99 m ∧ S 100 (nf_f (S 98) (S 111) (S 99) (S 91) (S 90) (S 88) nd (-1) ((S 97 m).toNat + 2) (S 97 m)) = (if S 101 m = 0 then S 100 m else S 103 m) then (nf_f (S 98) (S 111) (S 99) (S 91) (S 90) (S 88) nd (-1) ((S 97 m).toNat + 2) (S 97 m)) else -1)
                      have hwt : (if S 101 m = 0 then S 100 m else S 103 m) = (S 103 m) := by first | exact if_pos (by omega) | exact if_neg (by omega)
                      rw [hwt]
                      rw [if_neg (by omega), if_neg (by omega), if_pos ⟨by omega, by omega⟩]
                  · skip
                    refine wa_iconst ?_
                    refine wa_goto ⟨_, rfl⟩ ?_
                    refine wb_aald5 96 3 rfl rfl (wy_pr rfl) wt_96 (by rw [show _ = _ from ((w_up_slot (by decide)).trans (((g12.1 96 (-1) (Or.inl (by decide))).trans ((cl_96 hC)))))]; omega) wl_96_3 ?_
                    refine wa_iload_n (n := 1) rfl ?_
                    refine wb_iald 100 rfl (wy_pr rfl) wt_100 (n := 400) ((w_up_slot (by decide)).trans (((g12.1 100 (-1) (Or.inl (by decide))).trans ((cl_100 hC))))) (by omega) (by omega) (v := (S 100 m)) ((w_up_slot (by decide)).trans ((g12.1 100 m (Or.inl (by decide))))) (fun r31 => ?_)
                    refine wa_istore (n := 10) rfl ?_
                    refine wa_aload_n (n := 0) rfl ?_
                    refine wb_gf4 73 rfl (wy_pr rfl) wt_73 wf_3_3 (v := 96) wl_73_3 ?_
                    refine wa_iconst ?_
                    refine wb_aald5 96 3 rfl rfl (wy_pr rfl) wt_96 (by rw [show _ = _ from ((w_up_slot (by decide)).trans (((g12.1 96 (-1) (Or.inl (by decide))).trans ((cl_96 hC)))))]; omega) wl_96_3 ?_
                    refine wa_iload (n := 9) rfl ?_
                    refine wb_iald 100 rfl (wy_pr rfl) wt_100 (n := 400) ((w_up_slot (by decide)).trans (((g12.1 100 (-1) (Or.inl (by decide))).trans ((cl_100 hC))))) (by omega) (by omega) (v := (S 100 (nf_f (S 98) (S 111) (S 99) (S 91) (S 90) (S 88) nd (-1) ((S 97 m).toNat + 2) (S 97 m)))) ((w_up_slot (by decide)).trans ((g12.1 100 (nf_f (S 98) (S 111) (S 99) (S 91) (S 90) (S 88) nd (-1) ((S 97 m).toNat + 2) (S 97 m)) (Or.inl (by decide))))) (fun r32 => ?_)
                    refine wa_iload (n := 10) rfl ?_
                    refine wa_icmpne (w_rg0 (by omega) (by omega)) (w_rg0 (by omega) (by omega)) ⟨_, rfl⟩ (fun c33 => ?_) (fun c33 => ?_)
                    · skip
                      refine wa_iconst ?_
                      refine wa_fall ⟨_, rfl⟩ ?_
                      refine wa_ireturn rfl ?_
                      refine ⟨_, rfl, hzs, Or.inr ⟨show ¬ (hd = 0 ∨ S 77 (S 111 m) - hd < 1 ∨ ¬ (65 ≤ (S 75 (S 76 (S 111 m) + hd)) ∧ (S 75 (S 76 (S 111 m) + hd)) ≤ 90)) by omega, nd, hnd, ?_⟩, (gI_up gi13 (by omega) (by omega) (by omega)), (rmR_up rm14 (by omega) (by decide))⟩
                      show _ = (if nd = -1 then -1 else if (nf_f (S 98) (S 111) (S 99) (S 91) (S 90) (S 88) nd (-1) ((S 97 m).toNat + 2) (S 97 m)) = -1 then -1 else if S 99 (nf_f (S 98) (S 111) (S 99) (S 91) (S 90) (S 88) nd (-1) ((S 97 m).toNat + 2) (S 97 m)) = S 99 m ∧ S 100 (nf_f (S 98) (S 111) (S 99) (S 91) (S 90) (S 88) nd (-1) ((S 97 m).toNat + 2) (S 97 m)) = (if S 101 m = 0 then S 100 m else S 103 m) then (nf_f (S 98) (S 111) (S 99) (S 91) (S 90) (S 88) nd (-1) ((S 97 m).toNat + 2) (S 97 m)) else -1)
                      have hwt : (if S 101 m = 0 then S 100 m else S 103 m) = (S 100 m) := by first | exact if_pos (by omega) | exact if_neg (by omega)
                      rw [hwt]
                      first | (rw [if_pos (by omega)]) | (rw [if_neg (by omega), if_pos (by omega)]) | (rw [if_neg (by omega), if_neg (by omega), if_neg (fun z => by obtain ⟨z1, z2⟩ := z; omega)])
                    · skip
                      refine wa_iload (n := 9) rfl ?_
                      refine wa_goto ⟨_, rfl⟩ ?_
                      refine wa_ireturn rfl ?_
                      refine ⟨_, rfl, hzs, Or.inr ⟨show ¬ (hd = 0 ∨ S 77 (S 111 m) - hd < 1 ∨ ¬ (65 ≤ (S 75 (S 76 (S 111 m) + hd)) ∧ (S 75 (S 76 (S 111 m) + hd)) ≤ 90)) by omega, nd, hnd, ?_⟩, (gI_up gi13 (by omega) (by omega) (by omega)), (rmR_up rm14 (by omega) (by decide))⟩
                      show _ = (if nd = -1 then -1 else if (nf_f (S 98) (S 111) (S 99) (S 91) (S 90) (S 88) nd (-1) ((S 97 m).toNat + 2) (S 97 m)) = -1 then -1 else if S 99 (nf_f (S 98) (S 111) (S 99) (S 91) (S 90) (S 88) nd (-1) ((S 97 m).toNat + 2) (S 97 m)) = S 99 m ∧ S 100 (nf_f (S 98) (S 111) (S 99) (S 91) (S 90) (S 88) nd (-1) ((S 97 m).toNat + 2) (S 97 m)) = (if S 101 m = 0 then S 100 m else S 103 m) then (nf_f (S 98) (S 111) (S 99) (S 91) (S 90) (S 88) nd (-1) ((S 97 m).toNat + 2) (S 97 m)) else -1)
                      have hwt : (if S 101 m = 0 then S 100 m else S 103 m) = (S 100 m) := by first | exact if_pos (by omega) | exact if_neg (by omega)
                      rw [hwt]
                      rw [if_neg (by omega), if_neg (by omega), if_pos ⟨by omega, by omega⟩]
                · skip
                  refine wa_fall ⟨_, rfl⟩ ?_
                  refine wa_iconst ?_
                  refine wa_ireturn rfl ?_
                  refine ⟨_, rfl, hzs, Or.inr ⟨show ¬ (hd = 0 ∨ S 77 (S 111 m) - hd < 1 ∨ ¬ (65 ≤ (S 75 (S 76 (S 111 m) + hd)) ∧ (S 75 (S 76 (S 111 m) + hd)) ≤ 90)) by omega, nd, hnd, ?_⟩, (gI_up gi13 (by omega) (by omega) (by omega)), (rmR_up rm14 (by omega) (by decide))⟩
                  show _ = (if nd = -1 then -1 else if (nf_f (S 98) (S 111) (S 99) (S 91) (S 90) (S 88) nd (-1) ((S 97 m).toNat + 2) (S 97 m)) = -1 then -1 else if S 99 (nf_f (S 98) (S 111) (S 99) (S 91) (S 90) (S 88) nd (-1) ((S 97 m).toNat + 2) (S 97 m)) = S 99 m ∧ S 100 (nf_f (S 98) (S 111) (S 99) (S 91) (S 90) (S 88) nd (-1) ((S 97 m).toNat + 2) (S 97 m)) = (if S 101 m = 0 then S 100 m else S 103 m) then (nf_f (S 98) (S 111) (S 99) (S 91) (S 90) (S 88) nd (-1) ((S 97 m).toNat + 2) (S 97 m)) else -1)
                  first | (rw [if_pos (by omega)]) | (rw [if_neg (by omega), if_pos (by omega)]) | (rw [if_neg (by omega), if_neg (by omega), if_neg (fun z => by obtain ⟨z1, z2⟩ := z; omega)])
            · skip
              refine wa_iconst ?_
              refine wa_goto ⟨_, rfl⟩ ?_
              refine wa_istore (n := 9) rfl ?_
              refine wa_iload (n := 9) rfl ?_
              refine wa_iconst ?_
              refine wa_icmpeq (w_rg0 (by omega) (by omega)) (w_rg0 (by omega) (by omega)) ⟨_, rfl⟩ (fun c34 => ?_) (fun c34 => ?_)
              · skip
                refine wa_iconst ?_
                refine wa_ireturn rfl ?_
                refine ⟨_, rfl, hzs, Or.inr ⟨show ¬ (hd = 0 ∨ S 77 (S 111 m) - hd < 1 ∨ ¬ (65 ≤ (S 75 (S 76 (S 111 m) + hd)) ∧ (S 75 (S 76 (S 111 m) + hd)) ≤ 90)) by omega, nd, hnd, ?_⟩, (gI_up gi13 (by omega) (by omega) (by omega)), (rmR_up rm14 (by omega) (by decide))⟩
                show _ = (if nd = -1 then -1 else if (nf_f (S 98) (S 111) (S 99) (S 91) (S 90) (S 88) nd (-1) ((S 97 m).toNat + 2) (S 97 m)) = -1 then -1 else if S 99 (nf_f (S 98) (S 111) (S 99) (S 91) (S 90) (S 88) nd (-1) ((S 97 m).toNat + 2) (S 97 m)) = S 99 m ∧ S 100 (nf_f (S 98) (S 111) (S 99) (S 91) (S 90) (S 88) nd (-1) ((S 97 m).toNat + 2) (S 97 m)) = (if S 101 m = 0 then S 100 m else S 103 m) then (nf_f (S 98) (S 111) (S 99) (S 91) (S 90) (S 88) nd (-1) ((S 97 m).toNat + 2) (S 97 m)) else -1)
                first | (rw [if_pos (by omega)]) | (rw [if_neg (by omega), if_pos (by omega)]) | (rw [if_neg (by omega), if_neg (by omega), if_neg (fun z => by obtain ⟨z1, z2⟩ := z; omega)])
              · skip
                exact absurd c34 (by omega)
          · skip
            exact absurd c10 (by omega)
theorem fo_73 {m : Int} (hX : w_X xs) (hI : gI S) (hC : w_CL S) (hcb : cb_I 87 73 S) (hW : wd_at S 74 64) (hL : wd_L S 74 64) (hm : 0 ≤ m ∧ m < 400) (hcl : 0 ≤ S 97 m ∧ S 97 m < S 73 2) (hv : 0 ≤ (S 111 m) ∧ (S 111 m) < S 74 7) (h30 : S 77 (S 111 m) ≤ 30) : wJ (pe_GA xs) wY0 M (d + 5) t_XO_fieldOf ((pe_at t_XO_fieldOf.bl 0).getD (0, [])).2 [(0, (2, 73)), (1, (0, m))] [] S (fun o Z => ∃ hd x : Int, o = .inl (some (0, x)) ∧ sc_ag 119 S Z ∧ fo_h S 97 74 m hd ∧ fo_r S 97 87 74 m hd x ∧ gI Z ∧ rmR S Z) := by
  have hrm := rmR_rfl S
  have h3 : 0 ≤ S 76 (S 111 m) ∧ 0 ≤ S 77 (S 111 m) ∧ S 77 (S 111 m) ≤ 60 ∧ S 76 (S 111 m) + S 77 (S 111 m) ≤ S 74 1 := hW.2.2.1 _ hv.1 hv.2
  have hc1 : 0 ≤ S 74 7 ∧ S 74 7 ≤ S 76 (-1) := hW.1
  have hu1 : 0 ≤ S 74 1 ∧ S 74 1 ≤ S 75 (-1) := hW.2.1
  have l3 : S 77 (-1) = S 76 (-1) := hL.2.1
  have l8 : S 76 (-1) ≤ 2147483647 := hL.2.2.2.2.2.2.2.1
  have l9 : S 75 (-1) ≤ 2147483647 := hL.2.2.2.2.2.2.2.2
  have lsc : S 119 (-1) = 30 := cl_119 hC
  refine wa_aload_n (n := 0) rfl ?_
  refine wb_gf4 73 rfl (wy_pr rfl) wt_73 wf_3_3 (v := 96) wl_73_3 ?_
  refine wa_bipush (w_rg2 (by omega) (by omega)) ?_
  refine wb_aald5 96 14 rfl rfl (wy_pr rfl) wt_96 (by rw [show _ = _ from ((cl_96 hC))]; omega) wl_96_14 ?_
  refine wa_iload_n (n := 1) rfl ?_
  refine wb_iald 111 rfl (wy_pr rfl) wt_111 (n := 400) ((cl_111 hC)) (by omega) (by omega) (v := (S 111 m)) rfl (fun r1 => ?_)
  refine wa_istore_n (n := 2) rfl ?_
  refine wa_aload_n (n := 0) rfl ?_
  refine wb_gf4 73 rfl (wy_pr rfl) wt_73 wf_3_3 (v := 96) wl_73_3 ?_
  refine wa_iconst ?_
  refine wb_aald5 96 4 rfl rfl (wy_pr rfl) wt_96 (by rw [show _ = _ from ((cl_96 hC))]; omega) wl_96_4 ?_
  refine wa_iload_n (n := 1) rfl ?_
  refine wb_iald 101 rfl (wy_pr rfl) wt_101 (n := 400) ((cl_101 hC)) (by omega) (by omega) (v := (S 101 m)) rfl (fun r2 => ?_)
  refine wa_ifne (w_rg0 (by omega) (by omega)) ⟨_, rfl⟩ (fun c3 => ?_) (fun c3 => ?_)
  · skip
    refine wa_iconst ?_
    refine wa_fall ⟨_, rfl⟩ ?_
    refine wa_istore_n (n := 3) rfl ?_
    refine wa_aload_n (n := 0) rfl ?_
    refine wb_gf4 73 rfl (wy_pr rfl) wt_73 wf_3_3 (v := 96) wl_73_3 ?_
    refine wa_iconst ?_
    refine wb_aald5 96 3 rfl rfl (wy_pr rfl) wt_96 (by rw [show _ = _ from ((cl_96 hC))]; omega) wl_96_3 ?_
    refine wa_iload_n (n := 1) rfl ?_
    refine wb_iald 100 rfl (wy_pr rfl) wt_100 (n := 400) ((cl_100 hC)) (by omega) (by omega) (v := (S 100 m)) rfl (fun r4 => ?_)
    refine wa_ifne (w_rg0 (by omega) (by omega)) ⟨_, rfl⟩ (fun c5 => ?_) (fun c5 => ?_)
    · skip
      refine wa_iconst ?_
      refine wa_fall ⟨_, rfl⟩ ?_
      refine wa_istore (n := 4) rfl ?_
      refine wa_iconst ?_
      refine wa_istore (n := 5) rfl ?_
      refine wa_iload_n (n := 3) rfl ?_
      refine wa_ifeq (w_rg0 (by omega) (by omega)) ⟨_, rfl⟩ (fun c6 => ?_) (fun c6 => ?_)
      · skip
        refine wa_iload (n := 4) rfl ?_
        refine wa_ifeq (w_rg0 (by omega) (by omega)) ⟨_, rfl⟩ (fun c7 => ?_) (fun c7 => ?_)
        · skip
          refine wa_iload_n (n := 3) rfl ?_
          refine wa_ifeq (w_rg0 (by omega) (by omega)) ⟨_, rfl⟩ (fun c8 => ?_) (fun c8 => ?_)
          · skip
            have hfh : fo_h S 97 74 m 0 := by
              show ((0 : Int) = 3 ∧ ((S 101 m = 0 ∧ bg_q (S 75) (S 76) (S 77) (S 111 m) tx_81) ∨ ((S 100 m = 0 ∧ S 101 m = 1 ∧ S 102 m = 0) ∧ bg_q (S 75) (S 76) (S 77) (S 111 m) tx_51))) ∨ ((0 : Int) = 2 ∧ ¬ ((S 101 m = 0 ∧ bg_q (S 75) (S 76) (S 77) (S 111 m) tx_81) ∨ ((S 100 m = 0 ∧ S 101 m = 1 ∧ S 102 m = 0) ∧ bg_q (S 75) (S 76) (S 77) (S 111 m) tx_51)) ∧ (S 101 m = 0 ∧ S 100 m = 3 ∧ bg_q (S 75) (S 76) (S 77) (S 111 m) tx_83)) ∨ ((0 : Int) = 0 ∧ ¬ ((S 101 m = 0 ∧ bg_q (S 75) (S 76) (S 77) (S 111 m) tx_81) ∨ ((S 100 m = 0 ∧ S 101 m = 1 ∧ S 102 m = 0) ∧ bg_q (S 75) (S 76) (S 77) (S 111 m) tx_51)) ∧ ¬ (S 101 m = 0 ∧ S 100 m = 3 ∧ bg_q (S 75) (S 76) (S 77) (S 111 m) tx_83))
              exact Or.inr (Or.inr ⟨rfl, (fun z => by rcases z with ⟨z1, z2⟩ | ⟨⟨z1, z2, z3⟩, z4⟩ <;> first | omega | contradiction), (fun z => by obtain ⟨z1, z2, z3⟩ := z; first | omega | contradiction)⟩)
            refine wJ_mono (wJ_S (fo8_73 (S := S) (m := m) (hd := 0) (g0 := 0) hI hC hcb hW hL hm hcl hv h30 (by omega) (by omega)) ⟨rfl, rfl, rfl, rfl, rfl, trivial⟩) (fun o Z hz => ?_)
            obtain ⟨x, x1, x2, x3, x4, x5⟩ := hz
            exact ⟨0, x, x1, x2, hfh, x3, x4, x5⟩
          · skip
            exact absurd c8 (by omega)
        · skip
          exact absurd c7 (by omega)
      · skip
        exact absurd c6 (by omega)
    · skip
      refine wa_aload_n (n := 0) rfl ?_
      refine wb_gf4 73 rfl (wy_pr rfl) wt_73 wf_3_3 (v := 96) wl_73_3 ?_
      refine wa_iconst ?_
      refine wb_aald5 96 4 rfl rfl (wy_pr rfl) wt_96 (by rw [show _ = _ from ((cl_96 hC))]; omega) wl_96_4 ?_
      refine wa_iload_n (n := 1) rfl ?_
      refine wb_iald 101 rfl (wy_pr rfl) wt_101 (n := 400) ((cl_101 hC)) (by omega) (by omega) (v := (S 101 m)) rfl (fun r9 => ?_)
      refine wa_iconst ?_
      refine wa_icmpne (w_rg0 (by omega) (by omega)) (w_rg0 (by omega) (by omega)) ⟨_, rfl⟩ (fun c10 => ?_) (fun c10 => ?_)
      · skip
        refine wa_iconst ?_
        refine wa_fall ⟨_, rfl⟩ ?_
        refine wa_istore (n := 4) rfl ?_
        refine wa_iconst ?_
        refine wa_istore (n := 5) rfl ?_
        refine wa_iload_n (n := 3) rfl ?_
        refine wa_ifeq (w_rg0 (by omega) (by omega)) ⟨_, rfl⟩ (fun c11 => ?_) (fun c11 => ?_)
        · skip
          refine wa_iload (n := 4) rfl ?_
          refine wa_ifeq (w_rg0 (by omega) (by omega)) ⟨_, rfl⟩ (fun c12 => ?_) (fun c12 => ?_)
          · skip
            refine wa_iload_n (n := 3) rfl ?_
            refine wa_ifeq (w_rg0 (by omega) (by omega)) ⟨_, rfl⟩ (fun c13 => ?_) (fun c13 => ?_)
            · skip
              have hfh : fo_h S 97 74 m 0 := by
                show ((0 : Int) = 3 ∧ ((S 101 m = 0 ∧ bg_q (S 75) (S 76) (S 77) (S 111 m) tx_81) ∨ ((S 100 m = 0 ∧ S 101 m = 1 ∧ S 102 m = 0) ∧ bg_q (S 75) (S 76) (S 77) (S 111 m) tx_51))) ∨ ((0 : Int) = 2 ∧ ¬ ((S 101 m = 0 ∧ bg_q (S 75) (S 76) (S 77) (S 111 m) tx_81) ∨ ((S 100 m = 0 ∧ S 101 m = 1 ∧ S 102 m = 0) ∧ bg_q (S 75) (S 76) (S 77) (S 111 m) tx_51)) ∧ (S 101 m = 0 ∧ S 100 m = 3 ∧ bg_q (S 75) (S 76) (S 77) (S 111 m) tx_83)) ∨ ((0 : Int) = 0 ∧ ¬ ((S 101 m = 0 ∧ bg_q (S 75) (S 76) (S 77) (S 111 m) tx_81) ∨ ((S 100 m = 0 ∧ S 101 m = 1 ∧ S 102 m = 0) ∧ bg_q (S 75) (S 76) (S 77) (S 111 m) tx_51)) ∧ ¬ (S 101 m = 0 ∧ S 100 m = 3 ∧ bg_q (S 75) (S 76) (S 77) (S 111 m) tx_83))
                exact Or.inr (Or.inr ⟨rfl, (fun z => by rcases z with ⟨z1, z2⟩ | ⟨⟨z1, z2, z3⟩, z4⟩ <;> first | omega | contradiction), (fun z => by obtain ⟨z1, z2, z3⟩ := z; first | omega | contradiction)⟩)
              refine wJ_mono (wJ_S (fo8_73 (S := S) (m := m) (hd := 0) (g0 := 0) hI hC hcb hW hL hm hcl hv h30 (by omega) (by omega)) ⟨rfl, rfl, rfl, rfl, rfl, trivial⟩) (fun o Z hz => ?_)
              obtain ⟨x, x1, x2, x3, x4, x5⟩ := hz
              exact ⟨0, x, x1, x2, hfh, x3, x4, x5⟩
            · skip
              exact absurd c13 (by omega)
          · skip
            exact absurd c12 (by omega)
        · skip
          exact absurd c11 (by omega)
      · skip
        refine wa_aload_n (n := 0) rfl ?_
        refine wb_gf4 73 rfl (wy_pr rfl) wt_73 wf_3_3 (v := 96) wl_73_3 ?_
        refine wa_iconst ?_
        refine wb_aald5 96 5 rfl rfl (wy_pr rfl) wt_96 (by rw [show _ = _ from ((cl_96 hC))]; omega) wl_96_5 ?_
        refine wa_iload_n (n := 1) rfl ?_
        refine wb_iald 102 rfl (wy_pr rfl) wt_102 (n := 400) ((cl_102 hC)) (by omega) (by omega) (v := (S 102 m)) rfl (fun r14 => ?_)
        refine wa_ifne (w_rg0 (by omega) (by omega)) ⟨_, rfl⟩ (fun c15 => ?_) (fun c15 => ?_)
        · skip
          refine wa_iconst ?_
          refine wa_fall ⟨_, rfl⟩ ?_
          refine wa_istore (n := 4) rfl ?_
          refine wa_iconst ?_
          refine wa_istore (n := 5) rfl ?_
          refine wa_iload_n (n := 3) rfl ?_
          refine wa_ifeq (w_rg0 (by omega) (by omega)) ⟨_, rfl⟩ (fun c16 => ?_) (fun c16 => ?_)
          · skip
            refine wa_iload (n := 4) rfl ?_
            refine wa_ifeq (w_rg0 (by omega) (by omega)) ⟨_, rfl⟩ (fun c17 => ?_) (fun c17 => ?_)
            · skip
              refine wa_iload_n (n := 3) rfl ?_
              refine wa_ifeq (w_rg0 (by omega) (by omega)) ⟨_, rfl⟩ (fun c18 => ?_) (fun c18 => ?_)
              · skip
                have hfh : fo_h S 97 74 m 0 := by
                  show ((0 : Int) = 3 ∧ ((S 101 m = 0 ∧ bg_q (S 75) (S 76) (S 77) (S 111 m) tx_81) ∨ ((S 100 m = 0 ∧ S 101 m = 1 ∧ S 102 m = 0) ∧ bg_q (S 75) (S 76) (S 77) (S 111 m) tx_51))) ∨ ((0 : Int) = 2 ∧ ¬ ((S 101 m = 0 ∧ bg_q (S 75) (S 76) (S 77) (S 111 m) tx_81) ∨ ((S 100 m = 0 ∧ S 101 m = 1 ∧ S 102 m = 0) ∧ bg_q (S 75) (S 76) (S 77) (S 111 m) tx_51)) ∧ (S 101 m = 0 ∧ S 100 m = 3 ∧ bg_q (S 75) (S 76) (S 77) (S 111 m) tx_83)) ∨ ((0 : Int) = 0 ∧ ¬ ((S 101 m = 0 ∧ bg_q (S 75) (S 76) (S 77) (S 111 m) tx_81) ∨ ((S 100 m = 0 ∧ S 101 m = 1 ∧ S 102 m = 0) ∧ bg_q (S 75) (S 76) (S 77) (S 111 m) tx_51)) ∧ ¬ (S 101 m = 0 ∧ S 100 m = 3 ∧ bg_q (S 75) (S 76) (S 77) (S 111 m) tx_83))
                  exact Or.inr (Or.inr ⟨rfl, (fun z => by rcases z with ⟨z1, z2⟩ | ⟨⟨z1, z2, z3⟩, z4⟩ <;> first | omega | contradiction), (fun z => by obtain ⟨z1, z2, z3⟩ := z; first | omega | contradiction)⟩)
                refine wJ_mono (wJ_S (fo8_73 (S := S) (m := m) (hd := 0) (g0 := 0) hI hC hcb hW hL hm hcl hv h30 (by omega) (by omega)) ⟨rfl, rfl, rfl, rfl, rfl, trivial⟩) (fun o Z hz => ?_)
                obtain ⟨x, x1, x2, x3, x4, x5⟩ := hz
                exact ⟨0, x, x1, x2, hfh, x3, x4, x5⟩
              · skip
                exact absurd c18 (by omega)
            · skip
              exact absurd c17 (by omega)
          · skip
            exact absurd c16 (by omega)
        · skip
          refine wa_iconst ?_
          refine wa_goto ⟨_, rfl⟩ ?_
          refine wa_istore (n := 4) rfl ?_
          refine wa_iconst ?_
          refine wa_istore (n := 5) rfl ?_
          refine wa_iload_n (n := 3) rfl ?_
          refine wa_ifeq (w_rg0 (by omega) (by omega)) ⟨_, rfl⟩ (fun c19 => ?_) (fun c19 => ?_)
          · skip
            refine wa_iload (n := 4) rfl ?_
            refine wa_ifeq (w_rg0 (by omega) (by omega)) ⟨_, rfl⟩ (fun c20 => ?_) (fun c20 => ?_)
            · skip
              exact absurd c20 (by omega)
            · skip
              refine wa_aload_n (n := 0) rfl ?_
              refine wa_iload_n (n := 2) rfl ?_
              refine wa_ks ?_
              refine wa_cv 73 rfl (wy_pr rfl) wt_73 (M2 := fun _ => False) rfl at_XO_begins ⟨_, rfl⟩ rfl rfl ⟨trivial, trivial, trivial, trivial, (Or.inr ⟨wy_pr rfl, fun q => q⟩), trivial, trivial⟩ trivial (fun _ _ q => False.elim q) (bg_73 (S := S) (j := 131) (tx := tx_51) (wx_131 hX) (by decide) hW hL hv) (fun oq21 Sq21 hp22 q21 => ?_)
              rcases q21 with ⟨rfl, ⟨rfl, hb51⟩ | ⟨rfl, hb51⟩⟩
              · skip
                show wJ _ _ _ _ _ _ _ _ _ _
                refine wa_ifeq (w_rg0 (by omega) (by omega)) ⟨_, rfl⟩ (fun c23 => ?_) (fun c23 => ?_)
                · skip
                  exact absurd c23 (by omega)
                · skip
                  refine wa_fall ⟨_, rfl⟩ ?_
                  refine wa_iconst ?_
                  refine wa_istore (n := 5) rfl ?_
                  refine wa_goto ⟨_, rfl⟩ ?_
                  have hfh : fo_h S 97 74 m 3 := by
                    show ((3 : Int) = 3 ∧ ((S 101 m = 0 ∧ bg_q (S 75) (S 76) (S 77) (S 111 m) tx_81) ∨ ((S 100 m = 0 ∧ S 101 m = 1 ∧ S 102 m = 0) ∧ bg_q (S 75) (S 76) (S 77) (S 111 m) tx_51))) ∨ ((3 : Int) = 2 ∧ ¬ ((S 101 m = 0 ∧ bg_q (S 75) (S 76) (S 77) (S 111 m) tx_81) ∨ ((S 100 m = 0 ∧ S 101 m = 1 ∧ S 102 m = 0) ∧ bg_q (S 75) (S 76) (S 77) (S 111 m) tx_51)) ∧ (S 101 m = 0 ∧ S 100 m = 3 ∧ bg_q (S 75) (S 76) (S 77) (S 111 m) tx_83)) ∨ ((3 : Int) = 0 ∧ ¬ ((S 101 m = 0 ∧ bg_q (S 75) (S 76) (S 77) (S 111 m) tx_81) ∨ ((S 100 m = 0 ∧ S 101 m = 1 ∧ S 102 m = 0) ∧ bg_q (S 75) (S 76) (S 77) (S 111 m) tx_51)) ∧ ¬ (S 101 m = 0 ∧ S 100 m = 3 ∧ bg_q (S 75) (S 76) (S 77) (S 111 m) tx_83))
                    first | exact Or.inl ⟨rfl, Or.inl ⟨by omega, by assumption⟩⟩ | exact Or.inl ⟨rfl, Or.inr ⟨⟨by omega, by omega, by omega⟩, by assumption⟩⟩
                  refine wJ_mono (wJ_S (fo8_73 (S := S) (m := m) (hd := 3) (g0 := 0) hI hC hcb hW hL hm hcl hv h30 (by omega) (by omega)) ⟨rfl, rfl, rfl, rfl, rfl, trivial⟩) (fun o Z hz => ?_)
                  obtain ⟨x, x1, x2, x3, x4, x5⟩ := hz
                  exact ⟨3, x, x1, x2, hfh, x3, x4, x5⟩
              · skip
                show wJ _ _ _ _ _ _ _ _ _ _
                refine wa_ifeq (w_rg0 (by omega) (by omega)) ⟨_, rfl⟩ (fun c24 => ?_) (fun c24 => ?_)
                · skip
                  refine wa_iload_n (n := 3) rfl ?_
                  refine wa_ifeq (w_rg0 (by omega) (by omega)) ⟨_, rfl⟩ (fun c25 => ?_) (fun c25 => ?_)
                  · skip
                    have hfh : fo_h S 97 74 m 0 := by
                      show ((0 : Int) = 3 ∧ ((S 101 m = 0 ∧ bg_q (S 75) (S 76) (S 77) (S 111 m) tx_81) ∨ ((S 100 m = 0 ∧ S 101 m = 1 ∧ S 102 m = 0) ∧ bg_q (S 75) (S 76) (S 77) (S 111 m) tx_51))) ∨ ((0 : Int) = 2 ∧ ¬ ((S 101 m = 0 ∧ bg_q (S 75) (S 76) (S 77) (S 111 m) tx_81) ∨ ((S 100 m = 0 ∧ S 101 m = 1 ∧ S 102 m = 0) ∧ bg_q (S 75) (S 76) (S 77) (S 111 m) tx_51)) ∧ (S 101 m = 0 ∧ S 100 m = 3 ∧ bg_q (S 75) (S 76) (S 77) (S 111 m) tx_83)) ∨ ((0 : Int) = 0 ∧ ¬ ((S 101 m = 0 ∧ bg_q (S 75) (S 76) (S 77) (S 111 m) tx_81) ∨ ((S 100 m = 0 ∧ S 101 m = 1 ∧ S 102 m = 0) ∧ bg_q (S 75) (S 76) (S 77) (S 111 m) tx_51)) ∧ ¬ (S 101 m = 0 ∧ S 100 m = 3 ∧ bg_q (S 75) (S 76) (S 77) (S 111 m) tx_83))
                      exact Or.inr (Or.inr ⟨rfl, (fun z => by rcases z with ⟨z1, z2⟩ | ⟨⟨z1, z2, z3⟩, z4⟩ <;> first | omega | contradiction), (fun z => by obtain ⟨z1, z2, z3⟩ := z; first | omega | contradiction)⟩)
                    refine wJ_mono (wJ_S (fo8_73 (S := S) (m := m) (hd := 0) (g0 := 0) hI hC hcb hW hL hm hcl hv h30 (by omega) (by omega)) ⟨rfl, rfl, rfl, rfl, rfl, trivial⟩) (fun o Z hz => ?_)
                    obtain ⟨x, x1, x2, x3, x4, x5⟩ := hz
                    exact ⟨0, x, x1, x2, hfh, x3, x4, x5⟩
                  · skip
                    exact absurd c25 (by omega)
                · skip
                  exact absurd c24 (by omega)
          · skip
            exact absurd c19 (by omega)
  · skip
    refine wa_iconst ?_
    refine wa_goto ⟨_, rfl⟩ ?_
    refine wa_istore_n (n := 3) rfl ?_
    refine wa_aload_n (n := 0) rfl ?_
    refine wb_gf4 73 rfl (wy_pr rfl) wt_73 wf_3_3 (v := 96) wl_73_3 ?_
    refine wa_iconst ?_
    refine wb_aald5 96 3 rfl rfl (wy_pr rfl) wt_96 (by rw [show _ = _ from ((cl_96 hC))]; omega) wl_96_3 ?_
    refine wa_iload_n (n := 1) rfl ?_
    refine wb_iald 100 rfl (wy_pr rfl) wt_100 (n := 400) ((cl_100 hC)) (by omega) (by omega) (v := (S 100 m)) rfl (fun r26 => ?_)
    refine wa_ifne (w_rg0 (by omega) (by omega)) ⟨_, rfl⟩ (fun c27 => ?_) (fun c27 => ?_)
    · skip
      refine wa_iconst ?_
      refine wa_fall ⟨_, rfl⟩ ?_
      refine wa_istore (n := 4) rfl ?_
      refine wa_iconst ?_
      refine wa_istore (n := 5) rfl ?_
      refine wa_iload_n (n := 3) rfl ?_
      refine wa_ifeq (w_rg0 (by omega) (by omega)) ⟨_, rfl⟩ (fun c28 => ?_) (fun c28 => ?_)
      · skip
        exact absurd c28 (by omega)
      · skip
        refine wa_aload_n (n := 0) rfl ?_
        refine wa_iload_n (n := 2) rfl ?_
        refine wa_ks ?_
        refine wa_cv 73 rfl (wy_pr rfl) wt_73 (M2 := fun _ => False) rfl at_XO_begins ⟨_, rfl⟩ rfl rfl ⟨trivial, trivial, trivial, trivial, (Or.inr ⟨wy_pr rfl, fun q => q⟩), trivial, trivial⟩ trivial (fun _ _ q => False.elim q) (bg_73 (S := S) (j := 133) (tx := tx_81) (wx_133 hX) (by decide) hW hL hv) (fun oq29 Sq29 hp30 q29 => ?_)
        rcases q29 with ⟨rfl, ⟨rfl, hb81⟩ | ⟨rfl, hb81⟩⟩
        · skip
          show wJ _ _ _ _ _ _ _ _ _ _
          refine wa_ifne (w_rg0 (by omega) (by omega)) ⟨_, rfl⟩ (fun c31 => ?_) (fun c31 => ?_)
          · skip
            refine wa_iconst ?_
            refine wa_istore (n := 5) rfl ?_
            refine wa_goto ⟨_, rfl⟩ ?_
            have hfh : fo_h S 97 74 m 3 := by
              show ((3 : Int) = 3 ∧ ((S 101 m = 0 ∧ bg_q (S 75) (S 76) (S 77) (S 111 m) tx_81) ∨ ((S 100 m = 0 ∧ S 101 m = 1 ∧ S 102 m = 0) ∧ bg_q (S 75) (S 76) (S 77) (S 111 m) tx_51))) ∨ ((3 : Int) = 2 ∧ ¬ ((S 101 m = 0 ∧ bg_q (S 75) (S 76) (S 77) (S 111 m) tx_81) ∨ ((S 100 m = 0 ∧ S 101 m = 1 ∧ S 102 m = 0) ∧ bg_q (S 75) (S 76) (S 77) (S 111 m) tx_51)) ∧ (S 101 m = 0 ∧ S 100 m = 3 ∧ bg_q (S 75) (S 76) (S 77) (S 111 m) tx_83)) ∨ ((3 : Int) = 0 ∧ ¬ ((S 101 m = 0 ∧ bg_q (S 75) (S 76) (S 77) (S 111 m) tx_81) ∨ ((S 100 m = 0 ∧ S 101 m = 1 ∧ S 102 m = 0) ∧ bg_q (S 75) (S 76) (S 77) (S 111 m) tx_51)) ∧ ¬ (S 101 m = 0 ∧ S 100 m = 3 ∧ bg_q (S 75) (S 76) (S 77) (S 111 m) tx_83))
              first | exact Or.inl ⟨rfl, Or.inl ⟨by omega, by assumption⟩⟩ | exact Or.inl ⟨rfl, Or.inr ⟨⟨by omega, by omega, by omega⟩, by assumption⟩⟩
            refine wJ_mono (wJ_S (fo8_73 (S := S) (m := m) (hd := 3) (g0 := 1) hI hC hcb hW hL hm hcl hv h30 (by omega) (by omega)) ⟨rfl, rfl, rfl, rfl, rfl, trivial⟩) (fun o Z hz => ?_)
            obtain ⟨x, x1, x2, x3, x4, x5⟩ := hz
            exact ⟨3, x, x1, x2, hfh, x3, x4, x5⟩
          · skip
            exact absurd c31 (by omega)
        · skip
          show wJ _ _ _ _ _ _ _ _ _ _
          refine wa_ifne (w_rg0 (by omega) (by omega)) ⟨_, rfl⟩ (fun c32 => ?_) (fun c32 => ?_)
          · skip
            exact absurd c32 (by omega)
          · skip
            refine wa_fall ⟨_, rfl⟩ ?_
            refine wa_iload (n := 4) rfl ?_
            refine wa_ifeq (w_rg0 (by omega) (by omega)) ⟨_, rfl⟩ (fun c33 => ?_) (fun c33 => ?_)
            · skip
              refine wa_iload_n (n := 3) rfl ?_
              refine wa_ifeq (w_rg0 (by omega) (by omega)) ⟨_, rfl⟩ (fun c34 => ?_) (fun c34 => ?_)
              · skip
                exact absurd c34 (by omega)
              · skip
                refine wa_aload_n (n := 0) rfl ?_
                refine wb_gf4 73 rfl (wy_pr rfl) wt_73 wf_3_3 (v := 96) wl_73_3 ?_
                refine wa_iconst ?_
                refine wb_aald5 96 3 rfl rfl (wy_pr rfl) wt_96 (by rw [show _ = _ from ((cl_96 hC))]; omega) wl_96_3 ?_
                refine wa_iload_n (n := 1) rfl ?_
                refine wb_iald 100 rfl (wy_pr rfl) wt_100 (n := 400) ((cl_100 hC)) (by omega) (by omega) (v := (S 100 m)) rfl (fun r35 => ?_)
                refine wa_iconst ?_
                refine wa_icmpne (w_rg0 (by omega) (by omega)) (w_rg0 (by omega) (by omega)) ⟨_, rfl⟩ (fun c36 => ?_) (fun c36 => ?_)
                · skip
                  have hfh : fo_h S 97 74 m 0 := by
                    show ((0 : Int) = 3 ∧ ((S 101 m = 0 ∧ bg_q (S 75) (S 76) (S 77) (S 111 m) tx_81) ∨ ((S 100 m = 0 ∧ S 101 m = 1 ∧ S 102 m = 0) ∧ bg_q (S 75) (S 76) (S 77) (S 111 m) tx_51))) ∨ ((0 : Int) = 2 ∧ ¬ ((S 101 m = 0 ∧ bg_q (S 75) (S 76) (S 77) (S 111 m) tx_81) ∨ ((S 100 m = 0 ∧ S 101 m = 1 ∧ S 102 m = 0) ∧ bg_q (S 75) (S 76) (S 77) (S 111 m) tx_51)) ∧ (S 101 m = 0 ∧ S 100 m = 3 ∧ bg_q (S 75) (S 76) (S 77) (S 111 m) tx_83)) ∨ ((0 : Int) = 0 ∧ ¬ ((S 101 m = 0 ∧ bg_q (S 75) (S 76) (S 77) (S 111 m) tx_81) ∨ ((S 100 m = 0 ∧ S 101 m = 1 ∧ S 102 m = 0) ∧ bg_q (S 75) (S 76) (S 77) (S 111 m) tx_51)) ∧ ¬ (S 101 m = 0 ∧ S 100 m = 3 ∧ bg_q (S 75) (S 76) (S 77) (S 111 m) tx_83))
                    exact Or.inr (Or.inr ⟨rfl, (fun z => by rcases z with ⟨z1, z2⟩ | ⟨⟨z1, z2, z3⟩, z4⟩ <;> first | omega | contradiction), (fun z => by obtain ⟨z1, z2, z3⟩ := z; first | omega | contradiction)⟩)
                  refine wJ_mono (wJ_S (fo8_73 (S := S) (m := m) (hd := 0) (g0 := 1) hI hC hcb hW hL hm hcl hv h30 (by omega) (by omega)) ⟨rfl, rfl, rfl, rfl, rfl, trivial⟩) (fun o Z hz => ?_)
                  obtain ⟨x, x1, x2, x3, x4, x5⟩ := hz
                  exact ⟨0, x, x1, x2, hfh, x3, x4, x5⟩
                · skip
                  refine wa_aload_n (n := 0) rfl ?_
                  refine wa_iload_n (n := 2) rfl ?_
                  refine wa_ks ?_
                  refine wa_cv 73 rfl (wy_pr rfl) wt_73 (M2 := fun _ => False) rfl at_XO_begins ⟨_, rfl⟩ rfl rfl ⟨trivial, trivial, trivial, trivial, (Or.inr ⟨wy_pr rfl, fun q => q⟩), trivial, trivial⟩ trivial (fun _ _ q => False.elim q) (bg_73 (S := S) (j := 135) (tx := tx_83) (wx_135 hX) (by decide) hW hL hv) (fun oq37 Sq37 hp38 q37 => ?_)
                  rcases q37 with ⟨rfl, ⟨rfl, hb83⟩ | ⟨rfl, hb83⟩⟩
                  · skip
                    show wJ _ _ _ _ _ _ _ _ _ _
                    refine wa_ifeq (w_rg0 (by omega) (by omega)) ⟨_, rfl⟩ (fun c39 => ?_) (fun c39 => ?_)
                    · skip
                      exact absurd c39 (by omega)
                    · skip
                      refine wa_iconst ?_
                      refine wa_istore (n := 5) rfl ?_
                      refine wa_fall ⟨_, rfl⟩ ?_
                      have hfh : fo_h S 97 74 m 2 := by
                        show ((2 : Int) = 3 ∧ ((S 101 m = 0 ∧ bg_q (S 75) (S 76) (S 77) (S 111 m) tx_81) ∨ ((S 100 m = 0 ∧ S 101 m = 1 ∧ S 102 m = 0) ∧ bg_q (S 75) (S 76) (S 77) (S 111 m) tx_51))) ∨ ((2 : Int) = 2 ∧ ¬ ((S 101 m = 0 ∧ bg_q (S 75) (S 76) (S 77) (S 111 m) tx_81) ∨ ((S 100 m = 0 ∧ S 101 m = 1 ∧ S 102 m = 0) ∧ bg_q (S 75) (S 76) (S 77) (S 111 m) tx_51)) ∧ (S 101 m = 0 ∧ S 100 m = 3 ∧ bg_q (S 75) (S 76) (S 77) (S 111 m) tx_83)) ∨ ((2 : Int) = 0 ∧ ¬ ((S 101 m = 0 ∧ bg_q (S 75) (S 76) (S 77) (S 111 m) tx_81) ∨ ((S 100 m = 0 ∧ S 101 m = 1 ∧ S 102 m = 0) ∧ bg_q (S 75) (S 76) (S 77) (S 111 m) tx_51)) ∧ ¬ (S 101 m = 0 ∧ S 100 m = 3 ∧ bg_q (S 75) (S 76) (S 77) (S 111 m) tx_83))
                        exact Or.inr (Or.inl ⟨rfl, (fun z => by rcases z with ⟨z1, z2⟩ | ⟨⟨z1, z2, z3⟩, z4⟩ <;> first | omega | contradiction), ⟨by omega, by omega, by assumption⟩⟩)
                      refine wJ_mono (wJ_S (fo8_73 (S := S) (m := m) (hd := 2) (g0 := 1) hI hC hcb hW hL hm hcl hv h30 (by omega) (by omega)) ⟨rfl, rfl, rfl, rfl, rfl, trivial⟩) (fun o Z hz => ?_)
                      obtain ⟨x, x1, x2, x3, x4, x5⟩ := hz
                      exact ⟨2, x, x1, x2, hfh, x3, x4, x5⟩
                  · skip
                    show wJ _ _ _ _ _ _ _ _ _ _
                    refine wa_ifeq (w_rg0 (by omega) (by omega)) ⟨_, rfl⟩ (fun c40 => ?_) (fun c40 => ?_)
                    · skip
                      have hfh : fo_h S 97 74 m 0 := by
                        show ((0 : Int) = 3 ∧ ((S 101 m = 0 ∧ bg_q (S 75) (S 76) (S 77) (S 111 m) tx_81) ∨ ((S 100 m = 0 ∧ S 101 m = 1 ∧ S 102 m = 0) ∧ bg_q (S 75) (S 76) (S 77) (S 111 m) tx_51))) ∨ ((0 : Int) = 2 ∧ ¬ ((S 101 m = 0 ∧ bg_q (S 75) (S 76) (S 77) (S 111 m) tx_81) ∨ ((S 100 m = 0 ∧ S 101 m = 1 ∧ S 102 m = 0) ∧ bg_q (S 75) (S 76) (S 77) (S 111 m) tx_51)) ∧ (S 101 m = 0 ∧ S 100 m = 3 ∧ bg_q (S 75) (S 76) (S 77) (S 111 m) tx_83)) ∨ ((0 : Int) = 0 ∧ ¬ ((S 101 m = 0 ∧ bg_q (S 75) (S 76) (S 77) (S 111 m) tx_81) ∨ ((S 100 m = 0 ∧ S 101 m = 1 ∧ S 102 m = 0) ∧ bg_q (S 75) (S 76) (S 77) (S 111 m) tx_51)) ∧ ¬ (S 101 m = 0 ∧ S 100 m = 3 ∧ bg_q (S 75) (S 76) (S 77) (S 111 m) tx_83))
                        exact Or.inr (Or.inr ⟨rfl, (fun z => by rcases z with ⟨z1, z2⟩ | ⟨⟨z1, z2, z3⟩, z4⟩ <;> first | omega | contradiction), (fun z => by obtain ⟨z1, z2, z3⟩ := z; first | omega | contradiction)⟩)
                      refine wJ_mono (wJ_S (fo8_73 (S := S) (m := m) (hd := 0) (g0 := 1) hI hC hcb hW hL hm hcl hv h30 (by omega) (by omega)) ⟨rfl, rfl, rfl, rfl, rfl, trivial⟩) (fun o Z hz => ?_)
                      obtain ⟨x, x1, x2, x3, x4, x5⟩ := hz
                      exact ⟨0, x, x1, x2, hfh, x3, x4, x5⟩
                    · skip
                      exact absurd c40 (by omega)
            · skip
              exact absurd c33 (by omega)
    · skip
      refine wa_aload_n (n := 0) rfl ?_
      refine wb_gf4 73 rfl (wy_pr rfl) wt_73 wf_3_3 (v := 96) wl_73_3 ?_
      refine wa_iconst ?_
      refine wb_aald5 96 4 rfl rfl (wy_pr rfl) wt_96 (by rw [show _ = _ from ((cl_96 hC))]; omega) wl_96_4 ?_
      refine wa_iload_n (n := 1) rfl ?_
      refine wb_iald 101 rfl (wy_pr rfl) wt_101 (n := 400) ((cl_101 hC)) (by omega) (by omega) (v := (S 101 m)) rfl (fun r41 => ?_)
      refine wa_iconst ?_
      refine wa_icmpne (w_rg0 (by omega) (by omega)) (w_rg0 (by omega) (by omega)) ⟨_, rfl⟩ (fun c42 => ?_) (fun c42 => ?_)
      · skip
        refine wa_iconst ?_
        refine wa_fall ⟨_, rfl⟩ ?_
        refine wa_istore (n := 4) rfl ?_
        refine wa_iconst ?_
        refine wa_istore (n := 5) rfl ?_
        refine wa_iload_n (n := 3) rfl ?_
        refine wa_ifeq (w_rg0 (by omega) (by omega)) ⟨_, rfl⟩ (fun c43 => ?_) (fun c43 => ?_)
        · skip
          exact absurd c43 (by omega)
        · skip
          refine wa_aload_n (n := 0) rfl ?_
          refine wa_iload_n (n := 2) rfl ?_
          refine wa_ks ?_
          refine wa_cv 73 rfl (wy_pr rfl) wt_73 (M2 := fun _ => False) rfl at_XO_begins ⟨_, rfl⟩ rfl rfl ⟨trivial, trivial, trivial, trivial, (Or.inr ⟨wy_pr rfl, fun q => q⟩), trivial, trivial⟩ trivial (fun _ _ q => False.elim q) (bg_73 (S := S) (j := 133) (tx := tx_81) (wx_133 hX) (by decide) hW hL hv) (fun oq44 Sq44 hp45 q44 => ?_)
          rcases q44 with ⟨rfl, ⟨rfl, hb81⟩ | ⟨rfl, hb81⟩⟩
          · skip
            show wJ _ _ _ _ _ _ _ _ _ _
            refine wa_ifne (w_rg0 (by omega) (by omega)) ⟨_, rfl⟩ (fun c46 => ?_) (fun c46 => ?_)
            · skip
              refine wa_iconst ?_
              refine wa_istore (n := 5) rfl ?_
              refine wa_goto ⟨_, rfl⟩ ?_
              have hfh : fo_h S 97 74 m 3 := by
                show ((3 : Int) = 3 ∧ ((S 101 m = 0 ∧ bg_q (S 75) (S 76) (S 77) (S 111 m) tx_81) ∨ ((S 100 m = 0 ∧ S 101 m = 1 ∧ S 102 m = 0) ∧ bg_q (S 75) (S 76) (S 77) (S 111 m) tx_51))) ∨ ((3 : Int) = 2 ∧ ¬ ((S 101 m = 0 ∧ bg_q (S 75) (S 76) (S 77) (S 111 m) tx_81) ∨ ((S 100 m = 0 ∧ S 101 m = 1 ∧ S 102 m = 0) ∧ bg_q (S 75) (S 76) (S 77) (S 111 m) tx_51)) ∧ (S 101 m = 0 ∧ S 100 m = 3 ∧ bg_q (S 75) (S 76) (S 77) (S 111 m) tx_83)) ∨ ((3 : Int) = 0 ∧ ¬ ((S 101 m = 0 ∧ bg_q (S 75) (S 76) (S 77) (S 111 m) tx_81) ∨ ((S 100 m = 0 ∧ S 101 m = 1 ∧ S 102 m = 0) ∧ bg_q (S 75) (S 76) (S 77) (S 111 m) tx_51)) ∧ ¬ (S 101 m = 0 ∧ S 100 m = 3 ∧ bg_q (S 75) (S 76) (S 77) (S 111 m) tx_83))
                first | exact Or.inl ⟨rfl, Or.inl ⟨by omega, by assumption⟩⟩ | exact Or.inl ⟨rfl, Or.inr ⟨⟨by omega, by omega, by omega⟩, by assumption⟩⟩
              refine wJ_mono (wJ_S (fo8_73 (S := S) (m := m) (hd := 3) (g0 := 1) hI hC hcb hW hL hm hcl hv h30 (by omega) (by omega)) ⟨rfl, rfl, rfl, rfl, rfl, trivial⟩) (fun o Z hz => ?_)
              obtain ⟨x, x1, x2, x3, x4, x5⟩ := hz
              exact ⟨3, x, x1, x2, hfh, x3, x4, x5⟩
            · skip
              exact absurd c46 (by omega)
          · skip
            show wJ _ _ _ _ _ _ _ _ _ _
            refine wa_ifne (w_rg0 (by omega) (by omega)) ⟨_, rfl⟩ (fun c47 => ?_) (fun c47 => ?_)
            · skip
              exact absurd c47 (by omega)
            · skip
              refine wa_fall ⟨_, rfl⟩ ?_
              refine wa_iload (n := 4) rfl ?_
              refine wa_ifeq (w_rg0 (by omega) (by omega)) ⟨_, rfl⟩ (fun c48 => ?_) (fun c48 => ?_)
              · skip
                refine wa_iload_n (n := 3) rfl ?_
                refine wa_ifeq (w_rg0 (by omega) (by omega)) ⟨_, rfl⟩ (fun c49 => ?_) (fun c49 => ?_)
                · skip
                  exact absurd c49 (by omega)
                · skip
                  refine wa_aload_n (n := 0) rfl ?_
                  refine wb_gf4 73 rfl (wy_pr rfl) wt_73 wf_3_3 (v := 96) wl_73_3 ?_
                  refine wa_iconst ?_
                  refine wb_aald5 96 3 rfl rfl (wy_pr rfl) wt_96 (by rw [show _ = _ from ((cl_96 hC))]; omega) wl_96_3 ?_
                  refine wa_iload_n (n := 1) rfl ?_
                  refine wb_iald 100 rfl (wy_pr rfl) wt_100 (n := 400) ((cl_100 hC)) (by omega) (by omega) (v := (S 100 m)) rfl (fun r50 => ?_)
                  refine wa_iconst ?_
                  refine wa_icmpne (w_rg0 (by omega) (by omega)) (w_rg0 (by omega) (by omega)) ⟨_, rfl⟩ (fun c51 => ?_) (fun c51 => ?_)
                  · skip
                    have hfh : fo_h S 97 74 m 0 := by
                      show ((0 : Int) = 3 ∧ ((S 101 m = 0 ∧ bg_q (S 75) (S 76) (S 77) (S 111 m) tx_81) ∨ ((S 100 m = 0 ∧ S 101 m = 1 ∧ S 102 m = 0) ∧ bg_q (S 75) (S 76) (S 77) (S 111 m) tx_51))) ∨ ((0 : Int) = 2 ∧ ¬ ((S 101 m = 0 ∧ bg_q (S 75) (S 76) (S 77) (S 111 m) tx_81) ∨ ((S 100 m = 0 ∧ S 101 m = 1 ∧ S 102 m = 0) ∧ bg_q (S 75) (S 76) (S 77) (S 111 m) tx_51)) ∧ (S 101 m = 0 ∧ S 100 m = 3 ∧ bg_q (S 75) (S 76) (S 77) (S 111 m) tx_83)) ∨ ((0 : Int) = 0 ∧ ¬ ((S 101 m = 0 ∧ bg_q (S 75) (S 76) (S 77) (S 111 m) tx_81) ∨ ((S 100 m = 0 ∧ S 101 m = 1 ∧ S 102 m = 0) ∧ bg_q (S 75) (S 76) (S 77) (S 111 m) tx_51)) ∧ ¬ (S 101 m = 0 ∧ S 100 m = 3 ∧ bg_q (S 75) (S 76) (S 77) (S 111 m) tx_83))
                      exact Or.inr (Or.inr ⟨rfl, (fun z => by rcases z with ⟨z1, z2⟩ | ⟨⟨z1, z2, z3⟩, z4⟩ <;> first | omega | contradiction), (fun z => by obtain ⟨z1, z2, z3⟩ := z; first | omega | contradiction)⟩)
                    refine wJ_mono (wJ_S (fo8_73 (S := S) (m := m) (hd := 0) (g0 := 1) hI hC hcb hW hL hm hcl hv h30 (by omega) (by omega)) ⟨rfl, rfl, rfl, rfl, rfl, trivial⟩) (fun o Z hz => ?_)
                    obtain ⟨x, x1, x2, x3, x4, x5⟩ := hz
                    exact ⟨0, x, x1, x2, hfh, x3, x4, x5⟩
                  · skip
                    exact absurd c51 (by omega)
              · skip
                exact absurd c48 (by omega)
      · skip
        exact absurd c42 (by omega)
theorem fo8_162 {m hd g0 : Int} (hI : gI S) (hC : w_CL S) (hcb : cb_I 176 162 S) (hW : wd_at S 163 64) (hL : wd_L S 163 64) (hm : 0 ≤ m ∧ m < 400) (hcl : 0 ≤ S 186 m ∧ S 186 m < S 162 2) (hv : 0 ≤ (S 200 m) ∧ (S 200 m) < S 163 7) (h30 : S 166 (S 200 m) ≤ 30) (hhd : hd = 0 ∨ hd = 2 ∨ hd = 3) (hg0 : (g0 = 1 ∧ S 190 m = 0) ∨ (g0 = 0 ∧ S 190 m ≠ 0)) : wJ (pe_GA xs) wY0 M (d + 5) t_XO_fieldOf ((pe_at t_XO_fieldOf.bl 8).getD (0, [])).2 [(0, (2, 162)), (1, (0, m)), (2, (0, (S 200 m))), (3, (0, g0)), (5, (0, hd))] [] S (fun o Z => ∃ x : Int, o = .inl (some (0, x)) ∧ sc_ag 208 S Z ∧ fo_r S 186 176 163 m hd x ∧ gI Z ∧ rmR S Z) := by
  have hrm := rmR_rfl S
  have h3 : 0 ≤ S 165 (S 200 m) ∧ 0 ≤ S 166 (S 200 m) ∧ S 166 (S 200 m) ≤ 60 ∧ S 165 (S 200 m) + S 166 (S 200 m) ≤ S 163 1 := hW.2.2.1 _ hv.1 hv.2
  have hc1 : 0 ≤ S 163 7 ∧ S 163 7 ≤ S 165 (-1) := hW.1
  have hu1 : 0 ≤ S 163 1 ∧ S 163 1 ≤ S 164 (-1) := hW.2.1
  have l3 : S 166 (-1) = S 165 (-1) := hL.2.1
  have l8 : S 165 (-1) ≤ 2147483647 := hL.2.2.2.2.2.2.2.1
  have l9 : S 164 (-1) ≤ 2147483647 := hL.2.2.2.2.2.2.2.2
  have lsc : S 208 (-1) = 30 := cl_208 hC
  refine wa_aload_n (n := 0) rfl ?_
  refine wb_gf4 162 rfl (wy_pr rfl) wt_162 wf_3_0 (v := 163) wl_162_0 ?_
  refine wb_gf4 163 rfl (wy_pr rfl) wt_163 wf_9_2 (v := 165) wl_163_2 ?_
  refine wa_iload_n (n := 2) rfl ?_
  refine wb_iald 165 rfl (wy_pr rfl) wt_165 (n := (S 165 (-1))) rfl (by omega) (by omega) (v := (S 165 (S 200 m))) rfl (fun r1 => ?_)
  refine wa_iload (n := 5) rfl ?_
  refine wa_iadd ?_
  refine wa_istore (n := 6) rfl ?_
  refine wa_aload_n (n := 0) rfl ?_
  refine wb_gf4 162 rfl (wy_pr rfl) wt_162 wf_3_0 (v := 163) wl_162_0 ?_
  refine wb_gf4 163 rfl (wy_pr rfl) wt_163 wf_9_3 (v := 166) wl_163_3 ?_
  refine wa_iload_n (n := 2) rfl ?_
  refine wb_iald 166 rfl (wy_pr rfl) wt_166 (n := (S 166 (-1))) rfl (by omega) (by omega) (v := (S 166 (S 200 m))) rfl (fun r2 => ?_)
  refine wa_iload (n := 5) rfl ?_
  refine wa_isub ?_
  refine wa_istore (n := 7) rfl ?_
  refine wa_iload (n := 5) rfl ?_
  refine wa_ifeq (w_rg0 (by omega) (by omega)) ⟨_, rfl⟩ (fun c3 => ?_) (fun c3 => ?_)
  · skip
    refine wa_iconst ?_
    refine wa_ireturn rfl ?_
    exact ⟨-1, rfl, fun _ _ _ => rfl, Or.inl ⟨show (hd = 0 ∨ S 166 (S 200 m) - hd < 1 ∨ ¬ (65 ≤ (S 164 (S 165 (S 200 m) + hd)) ∧ (S 164 (S 165 (S 200 m) + hd)) ≤ 90)) by omega, rfl⟩, hI, hrm⟩
  · skip
    refine wa_iload (n := 7) rfl ?_
    refine wa_iconst ?_
    refine wa_icmplt (w_rg0 (by omega) (by omega)) (w_rg0 (by omega) (by omega)) ⟨_, rfl⟩ (fun c4 => ?_) (fun c4 => ?_)
    · skip
      refine wa_iconst ?_
      refine wa_ireturn rfl ?_
      exact ⟨-1, rfl, fun _ _ _ => rfl, Or.inl ⟨show (hd = 0 ∨ S 166 (S 200 m) - hd < 1 ∨ ¬ (65 ≤ (S 164 (S 165 (S 200 m) + hd)) ∧ (S 164 (S 165 (S 200 m) + hd)) ≤ 90)) by omega, rfl⟩, hI, hrm⟩
    · skip
      refine wa_aload_n (n := 0) rfl ?_
      refine wb_gf4 162 rfl (wy_pr rfl) wt_162 wf_3_0 (v := 163) wl_162_0 ?_
      refine wb_gf4 163 rfl (wy_pr rfl) wt_163 wf_9_0 (v := 164) wl_163_0 ?_
      refine wa_iload (n := 6) rfl ?_
      refine wb_bald 164 rfl (wy_pr rfl) wt_164 (n := (S 164 (-1))) rfl (by omega) (by omega) (v := (S 164 ((S 165 (S 200 m)) + hd))) rfl (fun r5 => ?_)
      refine wa_cs (M2 := fun _ => False) rfl at_X_isCapital ⟨_, rfl⟩ rfl rfl ⟨trivial, trivial, (Or.inr ⟨wy_pr rfl, fun q => q⟩), trivial, trivial, trivial, trivial, trivial⟩ trivial (fun _ _ q => False.elim q) ?_ (fun _ _ _ q => q)
      refine wa_iload_n (n := 0) rfl ?_
      refine wa_bipush (w_rg2 (by omega) (by omega)) ?_
      refine wa_icmplt (w_rg0 (by omega) (by omega)) (w_rg0 (by omega) (by omega)) ⟨_, rfl⟩ (fun c6 => ?_) (fun c6 => ?_)
      · skip
        refine wa_iconst ?_
        refine wa_fall ⟨_, rfl⟩ ?_
        refine wa_zreturn rfl (Or.inl rfl) ?_
        show wJ _ _ _ _ _ _ _ _ _ _
        refine wa_ifne (w_rg0 (by omega) (by omega)) ⟨_, rfl⟩ (fun c7 => ?_) (fun c7 => ?_)
        · skip
          exact absurd c7 (by omega)
        · skip
          refine wa_fall ⟨_, rfl⟩ ?_
          refine wa_iconst ?_
          refine wa_ireturn rfl ?_
          exact ⟨-1, rfl, fun _ _ _ => rfl, Or.inl ⟨show (hd = 0 ∨ S 166 (S 200 m) - hd < 1 ∨ ¬ (65 ≤ (S 164 (S 165 (S 200 m) + hd)) ∧ (S 164 (S 165 (S 200 m) + hd)) ≤ 90)) by omega, rfl⟩, hI, hrm⟩
      · skip
        refine wa_iload_n (n := 0) rfl ?_
        refine wa_bipush (w_rg2 (by omega) (by omega)) ?_
        refine wa_icmpgt (w_rg0 (by omega) (by omega)) (w_rg0 (by omega) (by omega)) ⟨_, rfl⟩ (fun c8 => ?_) (fun c8 => ?_)
        · skip
          refine wa_iconst ?_
          refine wa_fall ⟨_, rfl⟩ ?_
          refine wa_zreturn rfl (Or.inl rfl) ?_
          show wJ _ _ _ _ _ _ _ _ _ _
          refine wa_ifne (w_rg0 (by omega) (by omega)) ⟨_, rfl⟩ (fun c9 => ?_) (fun c9 => ?_)
          · skip
            exact absurd c9 (by omega)
          · skip
            refine wa_fall ⟨_, rfl⟩ ?_
            refine wa_iconst ?_
            refine wa_ireturn rfl ?_
            exact ⟨-1, rfl, fun _ _ _ => rfl, Or.inl ⟨show (hd = 0 ∨ S 166 (S 200 m) - hd < 1 ∨ ¬ (65 ≤ (S 164 (S 165 (S 200 m) + hd)) ∧ (S 164 (S 165 (S 200 m) + hd)) ≤ 90)) by omega, rfl⟩, hI, hrm⟩
        · skip
          refine wa_iconst ?_
          refine wa_goto ⟨_, rfl⟩ ?_
          refine wa_zreturn rfl (Or.inr rfl) ?_
          show wJ _ _ _ _ _ _ _ _ _ _
          refine wa_ifne (w_rg0 (by omega) (by omega)) ⟨_, rfl⟩ (fun c10 => ?_) (fun c10 => ?_)
          · skip
            refine wa_aload_n (n := 0) rfl ?_
            refine wb_gf4 162 rfl (wy_pr rfl) wt_162 wf_3_0 (v := 163) wl_162_0 ?_
            refine wb_gf4 163 rfl (wy_pr rfl) wt_163 wf_9_0 (v := 164) wl_163_0 ?_
            refine wa_iload (n := 6) rfl ?_
            refine wa_aload_n (n := 0) rfl ?_
            refine wb_gf4 162 rfl (wy_pr rfl) wt_162 wf_3_8 (v := 208) wl_162_8 ?_
            refine wa_iconst ?_
            refine wa_iload (n := 7) rfl ?_
            refine wb_acB (S := S) 164 208 rfl rfl (wy_pr rfl) (wy_pr rfl) wt_164 wt_208 hI hrm (by decide) (by omega) (by omega) (by omega) (by have e : S 164 (-1) = (S 164 (-1)) := rfl; omega) (by have e : S 208 (-1) = 30 := ((cl_208 hC)); omega) (by omega) rfl (fun Z11 g12 gi13 rm14 => ?_)
            have hz0 : Z11 208 0 = (S 164 (S 165 (S 200 m) + hd)) := by
              have := g12.2 0 (by omega) (by omega)
              rw [show (0 : Int) + 0 = 0 by rfl, show S 165 (S 200 m) + hd + 0 = S 165 (S 200 m) + hd by omega] at this; exact this
            refine wa_aload_n (n := 0) rfl ?_
            refine wb_gf4 162 rfl (wy_pr rfl) wt_162 wf_3_8 (v := 208) wl_162_8 ?_
            refine wa_iconst ?_
            refine wa_dup2 (by decide) (by decide) ?_
            refine wb_bald 208 rfl (wy_pr rfl) wt_208 (n := 30) (((g12.1 208 (-1) (by omega)).trans ((cl_208 hC)))) (by omega) (by omega) (v := (Z11 208 0)) rfl (fun r15 => ?_)
            refine wa_bipush (w_rg2 (by omega) (by omega)) ?_
            refine wa_iadd ?_
            refine wb_i2b_r (wb_i2b_id ⟨(by omega), (by omega)⟩) ?_
            refine wb_bast 208 rfl (wy_pr rfl) wt_208 (n := 30) (((g12.1 208 (-1) (by omega)).trans ((cl_208 hC)))) (by omega) (by omega) ⟨(by omega), (by omega)⟩ ?_
            refine wa_aload_n (n := 0) rfl ?_
            refine wb_gf4 162 rfl (wy_pr rfl) wt_162 wf_3_0 (v := 163) wl_162_0 ?_
            refine wa_aload_n (n := 0) rfl ?_
            refine wb_gf4 162 rfl (wy_pr rfl) wt_162 wf_3_8 (v := 208) wl_162_8 ?_
            refine wa_iconst ?_
            refine wa_iload (n := 7) rfl ?_
            have hzs : ∀ (j : Nat) (i : Int), (j ≠ 208 ∨ i < 0) → (w_up Z11 208 0 ((Z11 208 0) + 32)) j i = S j i := fun j i hj => (w_up_no (by omega)).trans (g12.1 j i (by omega))
            have er : ∀ j : Nat, j ≠ 208 → (w_up Z11 208 0 ((Z11 208 0) + 32)) j = S j := fun j hj => funext fun i => hzs j i (Or.inl hj)
            have hWz : wd_at (w_up Z11 208 0 ((Z11 208 0) + 32)) 163 64 := wd_at_ag hW (fun x hx => er _ (by omega))
            have hLz : wd_L (w_up Z11 208 0 ((Z11 208 0) + 32)) 163 64 := wd_L_ag hL (fun x hx => hzs _ _ (Or.inr (by omega)))
            have hCz : w_CL (w_up Z11 208 0 ((Z11 208 0) + 32)) := fun y hy => (hzs y.1 (-1) (Or.inr (by omega))).trans (hC y hy)
            have lz : (w_up Z11 208 0 ((Z11 208 0) + 32)) 208 (-1) = 30 := (hzs 208 (-1) (by omega)).trans lsc
            have hgz : ∀ i : Nat, i < (S 166 (S 200 m) - hd).toNat → (w_up Z11 208 0 ((Z11 208 0) + 32)) 208 (0 + (i : Int)) = fo_g (S 164) (S 165 (S 200 m) + hd) (0 + (i : Int)) := by
              intro i hi
              unfold fo_g
              by_cases h0 : i = 0
              · subst h0
                rw [if_pos (by rfl)]
                show (w_up Z11 208 0 ((Z11 208 0) + 32)) 208 0 = _; rw [w_up_same, hz0]
              · rw [if_neg (by omega), w_up_at (by omega)]
                have := g12.2 (i : Int) (by omega) (by omega)
                rw [this]; congr 1; omega
            refine wa_cv 163 rfl (wy_pr rfl) wt_163 (M2 := fun _ => False) rfl at_XW_wordAt ⟨_, rfl⟩ rfl rfl ⟨trivial, trivial, (Or.inr ⟨wy_pr rfl, fun q => q⟩), trivial, trivial, trivial, trivial, trivial⟩ trivial (fun _ _ q => False.elim q) (wa_163 (S := (w_up Z11 208 0 ((Z11 208 0) + 32))) (b := 208) (a0 := 0) (n := S 166 (S 200 m) - hd) (wy_pr rfl) wt_208 ⟨by omega, by omega, by omega, by omega⟩ hWz hLz) (fun oq17 Sq17 hp18 q17 => ?_)
            rcases q17 with ⟨rfl, nd, rfl, hq16⟩
            show wJ _ _ _ _ _ _ _ _ _ _
            have hnd : (0 ≤ nd ∧ nd < S 163 7 ∧ wq (S 164) (S 165) (S 166) (fo_g (S 164) (S 165 (S 200 m) + hd)) 0 (S 166 (S 200 m) - hd) nd) ∨ (nd = -1 ∧ ∀ k : Int, 0 ≤ k → k < S 163 7 → ¬ wq (S 164) (S 165) (S 166) (fo_g (S 164) (S 165 (S 200 m) + hd)) 0 (S 166 (S 200 m) - hd) k) := by
              rw [er 163 (by decide), er 164 (by decide), er 165 (by decide), er 166 (by decide)] at hq16
              rcases hq16 with ⟨a1, a2, a3⟩ | ⟨a1, a2⟩
              · exact Or.inl ⟨a1, a2, (wq_g hgz).1 a3⟩
              · exact Or.inr ⟨a1, fun k k0 k1 z => a2 k k0 k1 ((wq_g hgz).2 z)⟩
            have hndr : -1 ≤ nd ∧ nd < S 163 7 := by rcases hnd with z | z <;> omega
            refine wa_istore (n := 8) rfl ?_
            refine wa_iload (n := 8) rfl ?_
            refine wa_iconst ?_
            refine wa_icmpne (w_rg0 (by omega) (by omega)) (w_rg0 (by omega) (by omega)) ⟨_, rfl⟩ (fun c19 => ?_) (fun c19 => ?_)
            · skip
              refine wa_aload_n (n := 0) rfl ?_
              refine wa_aload_n (n := 0) rfl ?_
              refine wb_gf4 162 rfl (wy_pr rfl) wt_162 wf_3_3 (v := 185) wl_162_3 ?_
              refine wa_iconst ?_
              refine wb_aald5 185 0 rfl rfl (wy_pr rfl) wt_185 (by rw [show _ = _ from ((w_up_slot (by decide)).trans (((g12.1 185 (-1) (Or.inl (by decide))).trans ((cl_185 hC)))))]; omega) wl_185_0 ?_
              refine wa_iload_n (n := 1) rfl ?_
              refine wb_iald 186 rfl (wy_pr rfl) wt_186 (n := 400) ((w_up_slot (by decide)).trans (((g12.1 186 (-1) (Or.inl (by decide))).trans ((cl_186 hC))))) (by omega) (by omega) (v := (S 186 m)) ((w_up_slot (by decide)).trans ((g12.1 186 m (Or.inl (by decide))))) (fun r20 => ?_)
              refine wa_iload (n := 8) rfl ?_
              refine wa_iconst ?_
              have hcbz : cb_I 176 162 (w_up Z11 208 0 ((Z11 208 0) + 32)) := by unfold cb_I; rw [er 162 (by decide), er (176 + 1) (by decide), er (176 + 3) (by decide), er (176 + 4) (by decide)]; exact hcb
              have hnf := nf_162 (xs := xs) (M := fun _ => False) (d := d + 4) (S := (w_up Z11 208 0 ((Z11 208 0) + 32))) (word := nd) (st := -1) (k := S 186 m) hCz hcbz ⟨by omega, by omega⟩ ⟨by omega, by omega⟩ ⟨by omega, by rw [er 162 (by decide)]; omega⟩
              rw [er 187 (by decide), er 200 (by decide), er 188 (by decide), er 180 (by decide), er 179 (by decide), er 177 (by decide)] at hnf
              have hnr := nf_f_rg (S 187) (S 200) (S 188) (S 180) (S 179) (S 177) nd (-1) (S 162 4) (S 162 2) (fun q q0 q1 => ⟨(hcb.2.2 q q0 q1).1, (hcb.2.2 q q0 q1).2.1, (hcb.2.2 q q0 q1).2.2.2⟩) ((S 186 m).toNat + 2) (S 186 m) (by omega) hcl.2
              have hm4 := hcb.2.1
              refine wa_cv 162 rfl (wy_pr rfl) wt_162 (M2 := fun _ => False) rfl at_XO_nearestField ⟨_, rfl⟩ rfl rfl ⟨trivial, trivial, trivial, (Or.inr ⟨wy_pr rfl, fun q => q⟩), trivial, trivial, trivial, trivial, trivial⟩ trivial (fun _ _ q => False.elim q) (hnf) (fun oq21 Sq21 hp22 q21 => ?_)
              rcases q21 with ⟨rfl, rfl⟩
              show wJ _ _ _ _ _ _ _ _ _ _
              refine wa_fall ⟨_, rfl⟩ ?_
              refine wa_istore (n := 9) rfl ?_
              refine wa_iload (n := 9) rfl ?_
              refine wa_iconst ?_
              refine wa_icmpeq (w_rg0 (by omega) (by omega)) (w_rg0 (by omega) (by omega)) ⟨_, rfl⟩ (fun c23 => ?_) (fun c23 => ?_)
              · skip
                refine wa_iconst ?_
                refine wa_ireturn rfl ?_
                refine ⟨_, rfl, hzs, Or.inr ⟨show ¬ (hd = 0 ∨ S 166 (S 200 m) - hd < 1 ∨ ¬ (65 ≤ (S 164 (S 165 (S 200 m) + hd)) ∧ (S 164 (S 165 (S 200 m) + hd)) ≤ 90)) by omega, nd, hnd, ?_⟩, (gI_up gi13 (by omega) (by omega) (by omega)), (rmR_up rm14 (by omega) (by decide))⟩
                show _ = (if nd = -1 then -1 else if (nf_f (S 187) (S 200) (S 188) (S 180) (S 179) (S 177) nd (-1) ((S 186 m).toNat + 2) (S 186 m)) = -1 then -1 else if S 188 (nf_f (S 187) (S 200) (S 188) (S 180) (S 179) (S 177) nd (-1) ((S 186 m).toNat + 2) (S 186 m)) = S 188 m ∧ S 189 (nf_f (S 187) (S 200) (S 188) (S 180) (S 179) (S 177) nd (-1) ((S 186 m).toNat + 2) (S 186 m)) = (if S 190 m = 0 then S 189 m else S 192 m) then (nf_f (S 187) (S 200) (S 188) (S 180) (S 179) (S 177) nd (-1) ((S 186 m).toNat + 2) (S 186 m)) else -1)
                first | (rw [if_pos (by omega)]) | (rw [if_neg (by omega), if_pos (by omega)]) | (rw [if_neg (by omega), if_neg (by omega), if_neg (fun z => by obtain ⟨z1, z2⟩ := z; omega)])
              · skip
                refine wa_aload_n (n := 0) rfl ?_
                refine wb_gf4 162 rfl (wy_pr rfl) wt_162 wf_3_3 (v := 185) wl_162_3 ?_
                refine wa_iconst ?_
                refine wb_aald5 185 2 rfl rfl (wy_pr rfl) wt_185 (by rw [show _ = _ from ((w_up_slot (by decide)).trans (((g12.1 185 (-1) (Or.inl (by decide))).trans ((cl_185 hC)))))]; omega) wl_185_2 ?_
                refine wa_iload (n := 9) rfl ?_
                refine wb_iald 188 rfl (wy_pr rfl) wt_188 (n := 400) ((w_up_slot (by decide)).trans (((g12.1 188 (-1) (Or.inl (by decide))).trans ((cl_188 hC))))) (by omega) (by omega) (v := (S 188 (nf_f (S 187) (S 200) (S 188) (S 180) (S 179) (S 177) nd (-1) ((S 186 m).toNat + 2) (S 186 m)))) ((w_up_slot (by decide)).trans ((g12.1 188 (nf_f (S 187) (S 200) (S 188) (S 180) (S 179) (S 177) nd (-1) ((S 186 m).toNat + 2) (S 186 m)) (Or.inl (by decide))))) (fun r24 => ?_)
                refine wa_aload_n (n := 0) rfl ?_
                refine wb_gf4 162 rfl (wy_pr rfl) wt_162 wf_3_3 (v := 185) wl_162_3 ?_
                refine wa_iconst ?_
                refine wb_aald5 185 2 rfl rfl (wy_pr rfl) wt_185 (by rw [show _ = _ from ((w_up_slot (by decide)).trans (((g12.1 185 (-1) (Or.inl (by decide))).trans ((cl_185 hC)))))]; omega) wl_185_2 ?_
                refine wa_iload_n (n := 1) rfl ?_
                refine wb_iald 188 rfl (wy_pr rfl) wt_188 (n := 400) ((w_up_slot (by decide)).trans (((g12.1 188 (-1) (Or.inl (by decide))).trans ((cl_188 hC))))) (by omega) (by omega) (v := (S 188 m)) ((w_up_slot (by decide)).trans ((g12.1 188 m (Or.inl (by decide))))) (fun r25 => ?_)
                refine wa_icmpeq (w_rg0 (by omega) (by omega)) (w_rg0 (by omega) (by omega)) ⟨_, rfl⟩ (fun c26 => ?_) (fun c26 => ?_)
                · skip
                  refine wa_aload_n (n := 0) rfl ?_
                  refine wb_gf4 162 rfl (wy_pr rfl) wt_162 wf_3_3 (v := 185) wl_162_3 ?_
                  refine wa_iload_n (n := 3) rfl ?_
                  refine wa_ifeq (w_rg0 (by omega) (by omega)) ⟨_, rfl⟩ (fun c27 => ?_) (fun c27 => ?_)
                  · skip
                    refine wa_bipush (w_rg2 (by omega) (by omega)) ?_
                    refine wa_fall ⟨_, rfl⟩ ?_
                    refine wb_aald5 185 6 rfl rfl (wy_pr rfl) wt_185 (by rw [show _ = _ from ((w_up_slot (by decide)).trans (((g12.1 185 (-1) (Or.inl (by decide))).trans ((cl_185 hC)))))]; omega) wl_185_6 ?_
                    refine wa_iload_n (n := 1) rfl ?_
                    refine wb_iald 192 rfl (wy_pr rfl) wt_192 (n := 400) ((w_up_slot (by decide)).trans (((g12.1 192 (-1) (Or.inl (by decide))).trans ((cl_192 hC))))) (by omega) (by omega) (v := (S 192 m)) ((w_up_slot (by decide)).trans ((g12.1 192 m (Or.inl (by decide))))) (fun r28 => ?_)
                    refine wa_istore (n := 10) rfl ?_
                    refine wa_aload_n (n := 0) rfl ?_
                    refine wb_gf4 162 rfl (wy_pr rfl) wt_162 wf_3_3 (v := 185) wl_162_3 ?_
                    refine wa_iconst ?_
                    refine wb_aald5 185 3 rfl rfl (wy_pr rfl) wt_185 (by rw [show _ = _ from ((w_up_slot (by decide)).trans (((g12.1 185 (-1) (Or.inl (by decide))).trans ((cl_185 hC)))))]; omega) wl_185_3 ?_
                    refine wa_iload (n := 9) rfl ?_
                    refine wb_iald 189 rfl (wy_pr rfl) wt_189 (n := 400) ((w_up_slot (by decide)).trans (((g12.1 189 (-1) (Or.inl (by decide))).trans ((cl_189 hC))))) (by omega) (by omega) (v := (S 189 (nf_f (S 187) (S 200) (S 188) (S 180) (S 179) (S 177) nd (-1) ((S 186 m).toNat + 2) (S 186 m)))) ((w_up_slot (by decide)).trans ((g12.1 189 (nf_f (S 187) (S 200) (S 188) (S 180) (S 179) (S 177) nd (-1) ((S 186 m).toNat + 2) (S 186 m)) (Or.inl (by decide))))) (fun r29 => ?_)
                    refine wa_iload (n := 10) rfl ?_
                    refine wa_icmpne (w_rg0 (by omega) (by omega)) (w_rg0 (by omega) (by omega)) ⟨_, rfl⟩ (fun c30 => ?_) (fun c30 => ?_)
                    · skip
                      refine wa_iconst ?_
                      refine wa_fall ⟨_, rfl⟩ ?_
                      refine wa_ireturn rfl ?_
                      refine ⟨_, rfl, hzs, Or.inr ⟨show ¬ (hd = 0 ∨ S 166 (S 200 m) - hd < 1 ∨ ¬ (65 ≤ (S 164 (S 165 (S 200 m) + hd)) ∧ (S 164 (S 165 (S 200 m) + hd)) ≤ 90)) by omega, nd, hnd, ?_⟩, (gI_up gi13 (by omega) (by omega) (by omega)), (rmR_up rm14 (by omega) (by decide))⟩
                      show _ = (if nd = -1 then -1 else if (nf_f (S 187) (S 200) (S 188) (S 180) (S 179) (S 177) nd (-1) ((S 186 m).toNat + 2) (S 186 m)) = -1 then -1 else if S 188 (nf_f (S 187) (S 200) (S 188) (S 180) (S 179) (S 177) nd (-1) ((S 186 m).toNat + 2) (S 186 m)) = S 188 m ∧ S 189 (nf_f (S 187) (S 200) (S 188) (S 180) (S 179) (S 177) nd (-1) ((S 186 m).toNat + 2) (S 186 m)) = (if S 190 m = 0 then S 189 m else S 192 m) then (nf_f (S 187) (S 200) (S 188) (S 180) (S 179) (S 177) nd (-1) ((S 186 m).toNat + 2) (S 186 m)) else -1)
                      have hwt : (if S 190 m = 0 then S 189 m else S 192 m) = (S 192 m) := by first | exact if_pos (by omega) | exact if_neg (by omega)
                      rw [hwt]
                      first | (rw [if_pos (by omega)]) | (rw [if_neg (by omega), if_pos (by omega)]) | (rw [if_neg (by omega), if_neg (by omega), if_neg (fun z => by obtain ⟨z1, z2⟩ := z; omega)])
                    · skip
                      refine wa_iload (n := 9) rfl ?_
                      refine wa_goto ⟨_, rfl⟩ ?_
                      refine wa_ireturn rfl ?_
                      refine ⟨_, rfl, hzs, Or.inr ⟨show ¬ (hd = 0 ∨ S 166 (S 200 m) - hd < 1 ∨ ¬ (65 ≤ (S 164 (S 165 (S 200 m) + hd)) ∧ (S 164 (S 165 (S 200 m) + hd)) ≤ 90)) by omega, nd, hnd, ?_⟩, (gI_up gi13 (by omega) (by omega) (by omega)), (rmR_up rm14 (by omega) (by decide))⟩
                      show _ = (if nd = -1 then -1 else if (nf_f (S 187) (S 200) (S 188) (S 180) (S 179) (S 177) nd (-1) ((S 186 m).toNat + 2) (S 186 m)) = -1 then -1 else if S 188 (nf_f (S 187) (S 200) (S 188) (S 180) (S 179) (S 177) nd (-1) ((S 186 m).toNat + 2) (S 186 m)) = S 188 m ∧ S 189 (nf_f (S 187) (S 200) (S 188) (S 180) (S 179) (S 177) nd (-1) ((S 186 m).toNat + 2) (S 186 m)) = (if S 190 m = 0 then S 189 m else S 192 m) then (nf_f (S 187) (S 200) (S 188) (S 180) (S 179) (S 177) nd (-1) ((S 186 m).toNat + 2) (S 186 m)) else -1)
                      have hwt : (if S 190 m = 0 then S 189 m else S 192 m) = (S 192 m) := by first | exact if_pos (by omega) | exact if_neg (by omega)
                      rw [hwt]
                      rw [if_neg (by omega), if_neg (by omega), if_pos ⟨by omega, by omega⟩]
                  · skip
                    refine wa_iconst ?_
                    refine wa_goto ⟨_, rfl⟩ ?_
                    refine wb_aald5 185 3 rfl rfl (wy_pr rfl) wt_185 (by rw [show _ = _ from ((w_up_slot (by decide)).trans (((g12.1 185 (-1) (Or.inl (by decide))).trans ((cl_185 hC)))))]; omega) wl_185_3 ?_
                    refine wa_iload_n (n := 1) rfl ?_
                    refine wb_iald 189 rfl (wy_pr rfl) wt_189 (n := 400) ((w_up_slot (by decide)).trans (((g12.1 189 (-1) (Or.inl (by decide))).trans ((cl_189 hC))))) (by omega) (by omega) (v := (S 189 m)) ((w_up_slot (by decide)).trans ((g12.1 189 m (Or.inl (by decide))))) (fun r31 => ?_)
                    refine wa_istore (n := 10) rfl ?_
                    refine wa_aload_n (n := 0) rfl ?_
                    refine wb_gf4 162 rfl (wy_pr rfl) wt_162 wf_3_3 (v := 185) wl_162_3 ?_
                    refine wa_iconst ?_
                    refine wb_aald5 185 3 rfl rfl (wy_pr rfl) wt_185 (by rw [show _ = _ from ((w_up_slot (by decide)).trans (((g12.1 185 (-1) (Or.inl (by decide))).trans ((cl_185 hC)))))]; omega) wl_185_3 ?_
                    refine wa_iload (n := 9) rfl ?_
                    refine wb_iald 189 rfl (wy_pr rfl) wt_189 (n := 400) ((w_up_slot (by decide)).trans (((g12.1 189 (-1) (Or.inl (by decide))).trans ((cl_189 hC))))) (by omega) (by omega) (v := (S 189 (nf_f (S 187) (S 200) (S 188) (S 180) (S 179) (S 177) nd (-1) ((S 186 m).toNat + 2) (S 186 m)))) ((w_up_slot (by decide)).trans ((g12.1 189 (nf_f (S 187) (S 200) (S 188) (S 180) (S 179) (S 177) nd (-1) ((S 186 m).toNat + 2) (S 186 m)) (Or.inl (by decide))))) (fun r32 => ?_)
                    refine wa_iload (n := 10) rfl ?_
                    refine wa_icmpne (w_rg0 (by omega) (by omega)) (w_rg0 (by omega) (by omega)) ⟨_, rfl⟩ (fun c33 => ?_) (fun c33 => ?_)
                    · skip
                      refine wa_iconst ?_
                      refine wa_fall ⟨_, rfl⟩ ?_
                      refine wa_ireturn rfl ?_
                      refine ⟨_, rfl, hzs, Or.inr ⟨show ¬ (hd = 0 ∨ S 166 (S 200 m) - hd < 1 ∨ ¬ (65 ≤ (S 164 (S 165 (S 200 m) + hd)) ∧ (S 164 (S 165 (S 200 m) + hd)) ≤ 90)) by omega, nd, hnd, ?_⟩, (gI_up gi13 (by omega) (by omega) (by omega)), (rmR_up rm14 (by omega) (by decide))⟩
                      show _ = (if nd = -1 then -1 else if (nf_f (S 187) (S 200) (S 188) (S 180) (S 179) (S 177) nd (-1) ((S 186 m).toNat + 2) (S 186 m)) = -1 then -1 else if S 188 (nf_f (S 187) (S 200) (S 188) (S 180) (S 179) (S 177) nd (-1) ((S 186 m).toNat + 2) (S 186 m)) = S 188 m ∧ S 189 (nf_f (S 187) (S 200) (S 188) (S 180) (S 179) (S 177) nd (-1) ((S 186 m).toNat + 2) (S 186 m)) = (if S 190 m = 0 then S 189 m else S 192 m) then (nf_f (S 187) (S 200) (S 188) (S 180) (S 179) (S 177) nd (-1) ((S 186 m).toNat + 2) (S 186 m)) else -1)
                      have hwt : (if S 190 m = 0 then S 189 m else S 192 m) = (S 189 m) := by first | exact if_pos (by omega) | exact if_neg (by omega)
                      rw [hwt]
                      first | (rw [if_pos (by omega)]) | (rw [if_neg (by omega), if_pos (by omega)]) | (rw [if_neg (by omega), if_neg (by omega), if_neg (fun z => by obtain ⟨z1, z2⟩ := z; omega)])
                    · skip
                      refine wa_iload (n := 9) rfl ?_
                      refine wa_goto ⟨_, rfl⟩ ?_
                      refine wa_ireturn rfl ?_
                      refine ⟨_, rfl, hzs, Or.inr ⟨show ¬ (hd = 0 ∨ S 166 (S 200 m) - hd < 1 ∨ ¬ (65 ≤ (S 164 (S 165 (S 200 m) + hd)) ∧ (S 164 (S 165 (S 200 m) + hd)) ≤ 90)) by omega, nd, hnd, ?_⟩, (gI_up gi13 (by omega) (by omega) (by omega)), (rmR_up rm14 (by omega) (by decide))⟩
                      show _ = (if nd = -1 then -1 else if (nf_f (S 187) (S 200) (S 188) (S 180) (S 179) (S 177) nd (-1) ((S 186 m).toNat + 2) (S 186 m)) = -1 then -1 else if S 188 (nf_f (S 187) (S 200) (S 188) (S 180) (S 179) (S 177) nd (-1) ((S 186 m).toNat + 2) (S 186 m)) = S 188 m ∧ S 189 (nf_f (S 187) (S 200) (S 188) (S 180) (S 179) (S 177) nd (-1) ((S 186 m).toNat + 2) (S 186 m)) = (if S 190 m = 0 then S 189 m else S 192 m) then (nf_f (S 187) (S 200) (S 188) (S 180) (S 179) (S 177) nd (-1) ((S 186 m).toNat + 2) (S 186 m)) else -1)
                      have hwt : (if S 190 m = 0 then S 189 m else S 192 m) = (S 189 m) := by first | exact if_pos (by omega) | exact if_neg (by omega)
                      rw [hwt]
                      rw [if_neg (by omega), if_neg (by omega), if_pos ⟨by omega, by omega⟩]
                · skip
                  refine wa_fall ⟨_, rfl⟩ ?_
                  refine wa_iconst ?_
                  refine wa_ireturn rfl ?_
                  refine ⟨_, rfl, hzs, Or.inr ⟨show ¬ (hd = 0 ∨ S 166 (S 200 m) - hd < 1 ∨ ¬ (65 ≤ (S 164 (S 165 (S 200 m) + hd)) ∧ (S 164 (S 165 (S 200 m) + hd)) ≤ 90)) by omega, nd, hnd, ?_⟩, (gI_up gi13 (by omega) (by omega) (by omega)), (rmR_up rm14 (by omega) (by decide))⟩
                  show _ = (if nd = -1 then -1 else if (nf_f (S 187) (S 200) (S 188) (S 180) (S 179) (S 177) nd (-1) ((S 186 m).toNat + 2) (S 186 m)) = -1 then -1 else if S 188 (nf_f (S 187) (S 200) (S 188) (S 180) (S 179) (S 177) nd (-1) ((S 186 m).toNat + 2) (S 186 m)) = S 188 m ∧ S 189 (nf_f (S 187) (S 200) (S 188) (S 180) (S 179) (S 177) nd (-1) ((S 186 m).toNat + 2) (S 186 m)) = (if S 190 m = 0 then S 189 m else S 192 m) then (nf_f (S 187) (S 200) (S 188) (S 180) (S 179) (S 177) nd (-1) ((S 186 m).toNat + 2) (S 186 m)) else -1)
                  first | (rw [if_pos (by omega)]) | (rw [if_neg (by omega), if_pos (by omega)]) | (rw [if_neg (by omega), if_neg (by omega), if_neg (fun z => by obtain ⟨z1, z2⟩ := z; omega)])
            · skip
              refine wa_iconst ?_
              refine wa_goto ⟨_, rfl⟩ ?_
              refine wa_istore (n := 9) rfl ?_
              refine wa_iload (n := 9) rfl ?_
              refine wa_iconst ?_
              refine wa_icmpeq (w_rg0 (by omega) (by omega)) (w_rg0 (by omega) (by omega)) ⟨_, rfl⟩ (fun c34 => ?_) (fun c34 => ?_)
              · skip
                refine wa_iconst ?_
                refine wa_ireturn rfl ?_
                refine ⟨_, rfl, hzs, Or.inr ⟨show ¬ (hd = 0 ∨ S 166 (S 200 m) - hd < 1 ∨ ¬ (65 ≤ (S 164 (S 165 (S 200 m) + hd)) ∧ (S 164 (S 165 (S 200 m) + hd)) ≤ 90)) by omega, nd, hnd, ?_⟩, (gI_up gi13 (by omega) (by omega) (by omega)), (rmR_up rm14 (by omega) (by decide))⟩
                show _ = (if nd = -1 then -1 else if (nf_f (S 187) (S 200) (S 188) (S 180) (S 179) (S 177) nd (-1) ((S 186 m).toNat + 2) (S 186 m)) = -1 then -1 else if S 188 (nf_f (S 187) (S 200) (S 188) (S 180) (S 179) (S 177) nd (-1) ((S 186 m).toNat + 2) (S 186 m)) = S 188 m ∧ S 189 (nf_f (S 187) (S 200) (S 188) (S 180) (S 179) (S 177) nd (-1) ((S 186 m).toNat + 2) (S 186 m)) = (if S 190 m = 0 then S 189 m else S 192 m) then (nf_f (S 187) (S 200) (S 188) (S 180) (S 179) (S 177) nd (-1) ((S 186 m).toNat + 2) (S 186 m)) else -1)
                first | (rw [if_pos (by omega)]) | (rw [if_neg (by omega), if_pos (by omega)]) | (rw [if_neg (by omega), if_neg (by omega), if_neg (fun z => by obtain ⟨z1, z2⟩ := z; omega)])
              · skip
                exact absurd c34 (by omega)
          · skip
            exact absurd c10 (by omega)
theorem fo_162 {m : Int} (hX : w_X xs) (hI : gI S) (hC : w_CL S) (hcb : cb_I 176 162 S) (hW : wd_at S 163 64) (hL : wd_L S 163 64) (hm : 0 ≤ m ∧ m < 400) (hcl : 0 ≤ S 186 m ∧ S 186 m < S 162 2) (hv : 0 ≤ (S 200 m) ∧ (S 200 m) < S 163 7) (h30 : S 166 (S 200 m) ≤ 30) : wJ (pe_GA xs) wY0 M (d + 5) t_XO_fieldOf ((pe_at t_XO_fieldOf.bl 0).getD (0, [])).2 [(0, (2, 162)), (1, (0, m))] [] S (fun o Z => ∃ hd x : Int, o = .inl (some (0, x)) ∧ sc_ag 208 S Z ∧ fo_h S 186 163 m hd ∧ fo_r S 186 176 163 m hd x ∧ gI Z ∧ rmR S Z) := by
  have hrm := rmR_rfl S
  have h3 : 0 ≤ S 165 (S 200 m) ∧ 0 ≤ S 166 (S 200 m) ∧ S 166 (S 200 m) ≤ 60 ∧ S 165 (S 200 m) + S 166 (S 200 m) ≤ S 163 1 := hW.2.2.1 _ hv.1 hv.2
  have hc1 : 0 ≤ S 163 7 ∧ S 163 7 ≤ S 165 (-1) := hW.1
  have hu1 : 0 ≤ S 163 1 ∧ S 163 1 ≤ S 164 (-1) := hW.2.1
  have l3 : S 166 (-1) = S 165 (-1) := hL.2.1
  have l8 : S 165 (-1) ≤ 2147483647 := hL.2.2.2.2.2.2.2.1
  have l9 : S 164 (-1) ≤ 2147483647 := hL.2.2.2.2.2.2.2.2
  have lsc : S 208 (-1) = 30 := cl_208 hC
  refine wa_aload_n (n := 0) rfl ?_
  refine wb_gf4 162 rfl (wy_pr rfl) wt_162 wf_3_3 (v := 185) wl_162_3 ?_
  refine wa_bipush (w_rg2 (by omega) (by omega)) ?_
  refine wb_aald5 185 14 rfl rfl (wy_pr rfl) wt_185 (by rw [show _ = _ from ((cl_185 hC))]; omega) wl_185_14 ?_
  refine wa_iload_n (n := 1) rfl ?_
  refine wb_iald 200 rfl (wy_pr rfl) wt_200 (n := 400) ((cl_200 hC)) (by omega) (by omega) (v := (S 200 m)) rfl (fun r1 => ?_)
  refine wa_istore_n (n := 2) rfl ?_
  refine wa_aload_n (n := 0) rfl ?_
  refine wb_gf4 162 rfl (wy_pr rfl) wt_162 wf_3_3 (v := 185) wl_162_3 ?_
  refine wa_iconst ?_
  refine wb_aald5 185 4 rfl rfl (wy_pr rfl) wt_185 (by rw [show _ = _ from ((cl_185 hC))]; omega) wl_185_4 ?_
  refine wa_iload_n (n := 1) rfl ?_
  refine wb_iald 190 rfl (wy_pr rfl) wt_190 (n := 400) ((cl_190 hC)) (by omega) (by omega) (v := (S 190 m)) rfl (fun r2 => ?_)
  refine wa_ifne (w_rg0 (by omega) (by omega)) ⟨_, rfl⟩ (fun c3 => ?_) (fun c3 => ?_)
  · skip
    refine wa_iconst ?_
    refine wa_fall ⟨_, rfl⟩ ?_
    refine wa_istore_n (n := 3) rfl ?_
    refine wa_aload_n (n := 0) rfl ?_
    refine wb_gf4 162 rfl (wy_pr rfl) wt_162 wf_3_3 (v := 185) wl_162_3 ?_
    refine wa_iconst ?_
    refine wb_aald5 185 3 rfl rfl (wy_pr rfl) wt_185 (by rw [show _ = _ from ((cl_185 hC))]; omega) wl_185_3 ?_
    refine wa_iload_n (n := 1) rfl ?_
    refine wb_iald 189 rfl (wy_pr rfl) wt_189 (n := 400) ((cl_189 hC)) (by omega) (by omega) (v := (S 189 m)) rfl (fun r4 => ?_)
    refine wa_ifne (w_rg0 (by omega) (by omega)) ⟨_, rfl⟩ (fun c5 => ?_) (fun c5 => ?_)
    · skip
      refine wa_iconst ?_
      refine wa_fall ⟨_, rfl⟩ ?_
      refine wa_istore (n := 4) rfl ?_
      refine wa_iconst ?_
      refine wa_istore (n := 5) rfl ?_
      refine wa_iload_n (n := 3) rfl ?_
      refine wa_ifeq (w_rg0 (by omega) (by omega)) ⟨_, rfl⟩ (fun c6 => ?_) (fun c6 => ?_)
      · skip
        refine wa_iload (n := 4) rfl ?_
        refine wa_ifeq (w_rg0 (by omega) (by omega)) ⟨_, rfl⟩ (fun c7 => ?_) (fun c7 => ?_)
        · skip
          refine wa_iload_n (n := 3) rfl ?_
          refine wa_ifeq (w_rg0 (by omega) (by omega)) ⟨_, rfl⟩ (fun c8 => ?_) (fun c8 => ?_)
          · skip
            have hfh : fo_h S 186 163 m 0 := by
              show ((0 : Int) = 3 ∧ ((S 190 m = 0 ∧ bg_q (S 164) (S 165) (S 166) (S 200 m) tx_81) ∨ ((S 189 m = 0 ∧ S 190 m = 1 ∧ S 191 m = 0) ∧ bg_q (S 164) (S 165) (S 166) (S 200 m) tx_51))) ∨ ((0 : Int) = 2 ∧ ¬ ((S 190 m = 0 ∧ bg_q (S 164) (S 165) (S 166) (S 200 m) tx_81) ∨ ((S 189 m = 0 ∧ S 190 m = 1 ∧ S 191 m = 0) ∧ bg_q (S 164) (S 165) (S 166) (S 200 m) tx_51)) ∧ (S 190 m = 0 ∧ S 189 m = 3 ∧ bg_q (S 164) (S 165) (S 166) (S 200 m) tx_83)) ∨ ((0 : Int) = 0 ∧ ¬ ((S 190 m = 0 ∧ bg_q (S 164) (S 165) (S 166) (S 200 m) tx_81) ∨ ((S 189 m = 0 ∧ S 190 m = 1 ∧ S 191 m = 0) ∧ bg_q (S 164) (S 165) (S 166) (S 200 m) tx_51)) ∧ ¬ (S 190 m = 0 ∧ S 189 m = 3 ∧ bg_q (S 164) (S 165) (S 166) (S 200 m) tx_83))
              exact Or.inr (Or.inr ⟨rfl, (fun z => by rcases z with ⟨z1, z2⟩ | ⟨⟨z1, z2, z3⟩, z4⟩ <;> first | omega | contradiction), (fun z => by obtain ⟨z1, z2, z3⟩ := z; first | omega | contradiction)⟩)
            refine wJ_mono (wJ_S (fo8_162 (S := S) (m := m) (hd := 0) (g0 := 0) hI hC hcb hW hL hm hcl hv h30 (by omega) (by omega)) ⟨rfl, rfl, rfl, rfl, rfl, trivial⟩) (fun o Z hz => ?_)
            obtain ⟨x, x1, x2, x3, x4, x5⟩ := hz
            exact ⟨0, x, x1, x2, hfh, x3, x4, x5⟩
          · skip
            exact absurd c8 (by omega)
        · skip
          exact absurd c7 (by omega)
      · skip
        exact absurd c6 (by omega)
    · skip
      refine wa_aload_n (n := 0) rfl ?_
      refine wb_gf4 162 rfl (wy_pr rfl) wt_162 wf_3_3 (v := 185) wl_162_3 ?_
      refine wa_iconst ?_
      refine wb_aald5 185 4 rfl rfl (wy_pr rfl) wt_185 (by rw [show _ = _ from ((cl_185 hC))]; omega) wl_185_4 ?_
      refine wa_iload_n (n := 1) rfl ?_
      refine wb_iald 190 rfl (wy_pr rfl) wt_190 (n := 400) ((cl_190 hC)) (by omega) (by omega) (v := (S 190 m)) rfl (fun r9 => ?_)
      refine wa_iconst ?_
      refine wa_icmpne (w_rg0 (by omega) (by omega)) (w_rg0 (by omega) (by omega)) ⟨_, rfl⟩ (fun c10 => ?_) (fun c10 => ?_)
      · skip
        refine wa_iconst ?_
        refine wa_fall ⟨_, rfl⟩ ?_
        refine wa_istore (n := 4) rfl ?_
        refine wa_iconst ?_
        refine wa_istore (n := 5) rfl ?_
        refine wa_iload_n (n := 3) rfl ?_
        refine wa_ifeq (w_rg0 (by omega) (by omega)) ⟨_, rfl⟩ (fun c11 => ?_) (fun c11 => ?_)
        · skip
          refine wa_iload (n := 4) rfl ?_
          refine wa_ifeq (w_rg0 (by omega) (by omega)) ⟨_, rfl⟩ (fun c12 => ?_) (fun c12 => ?_)
          · skip
            refine wa_iload_n (n := 3) rfl ?_
            refine wa_ifeq (w_rg0 (by omega) (by omega)) ⟨_, rfl⟩ (fun c13 => ?_) (fun c13 => ?_)
            · skip
              have hfh : fo_h S 186 163 m 0 := by
                show ((0 : Int) = 3 ∧ ((S 190 m = 0 ∧ bg_q (S 164) (S 165) (S 166) (S 200 m) tx_81) ∨ ((S 189 m = 0 ∧ S 190 m = 1 ∧ S 191 m = 0) ∧ bg_q (S 164) (S 165) (S 166) (S 200 m) tx_51))) ∨ ((0 : Int) = 2 ∧ ¬ ((S 190 m = 0 ∧ bg_q (S 164) (S 165) (S 166) (S 200 m) tx_81) ∨ ((S 189 m = 0 ∧ S 190 m = 1 ∧ S 191 m = 0) ∧ bg_q (S 164) (S 165) (S 166) (S 200 m) tx_51)) ∧ (S 190 m = 0 ∧ S 189 m = 3 ∧ bg_q (S 164) (S 165) (S 166) (S 200 m) tx_83)) ∨ ((0 : Int) = 0 ∧ ¬ ((S 190 m = 0 ∧ bg_q (S 164) (S 165) (S 166) (S 200 m) tx_81) ∨ ((S 189 m = 0 ∧ S 190 m = 1 ∧ S 191 m = 0) ∧ bg_q (S 164) (S 165) (S 166) (S 200 m) tx_51)) ∧ ¬ (S 190 m = 0 ∧ S 189 m = 3 ∧ bg_q (S 164) (S 165) (S 166) (S 200 m) tx_83))
                exact Or.inr (Or.inr ⟨rfl, (fun z => by rcases z with ⟨z1, z2⟩ | ⟨⟨z1, z2, z3⟩, z4⟩ <;> first | omega | contradiction), (fun z => by obtain ⟨z1, z2, z3⟩ := z; first | omega | contradiction)⟩)
              refine wJ_mono (wJ_S (fo8_162 (S := S) (m := m) (hd := 0) (g0 := 0) hI hC hcb hW hL hm hcl hv h30 (by omega) (by omega)) ⟨rfl, rfl, rfl, rfl, rfl, trivial⟩) (fun o Z hz => ?_)
              obtain ⟨x, x1, x2, x3, x4, x5⟩ := hz
              exact ⟨0, x, x1, x2, hfh, x3, x4, x5⟩
            · skip
              exact absurd c13 (by omega)
          · skip
            exact absurd c12 (by omega)
        · skip
          exact absurd c11 (by omega)
      · skip
        refine wa_aload_n (n := 0) rfl ?_
        refine wb_gf4 162 rfl (wy_pr rfl) wt_162 wf_3_3 (v := 185) wl_162_3 ?_
        refine wa_iconst ?_
        refine wb_aald5 185 5 rfl rfl (wy_pr rfl) wt_185 (by rw [show _ = _ from ((cl_185 hC))]; omega) wl_185_5 ?_
        refine wa_iload_n (n := 1) rfl ?_
        refine wb_iald 191 rfl (wy_pr rfl) wt_191 (n := 400) ((cl_191 hC)) (by omega) (by omega) (v := (S 191 m)) rfl (fun r14 => ?_)
        refine wa_ifne (w_rg0 (by omega) (by omega)) ⟨_, rfl⟩ (fun c15 => ?_) (fun c15 => ?_)
        · skip
          refine wa_iconst ?_
          refine wa_fall ⟨_, rfl⟩ ?_
          refine wa_istore (n := 4) rfl ?_
          refine wa_iconst ?_
          refine wa_istore (n := 5) rfl ?_
          refine wa_iload_n (n := 3) rfl ?_
          refine wa_ifeq (w_rg0 (by omega) (by omega)) ⟨_, rfl⟩ (fun c16 => ?_) (fun c16 => ?_)
          · skip
            refine wa_iload (n := 4) rfl ?_
            refine wa_ifeq (w_rg0 (by omega) (by omega)) ⟨_, rfl⟩ (fun c17 => ?_) (fun c17 => ?_)
            · skip
              refine wa_iload_n (n := 3) rfl ?_
              refine wa_ifeq (w_rg0 (by omega) (by omega)) ⟨_, rfl⟩ (fun c18 => ?_) (fun c18 => ?_)
              · skip
                have hfh : fo_h S 186 163 m 0 := by
                  show ((0 : Int) = 3 ∧ ((S 190 m = 0 ∧ bg_q (S 164) (S 165) (S 166) (S 200 m) tx_81) ∨ ((S 189 m = 0 ∧ S 190 m = 1 ∧ S 191 m = 0) ∧ bg_q (S 164) (S 165) (S 166) (S 200 m) tx_51))) ∨ ((0 : Int) = 2 ∧ ¬ ((S 190 m = 0 ∧ bg_q (S 164) (S 165) (S 166) (S 200 m) tx_81) ∨ ((S 189 m = 0 ∧ S 190 m = 1 ∧ S 191 m = 0) ∧ bg_q (S 164) (S 165) (S 166) (S 200 m) tx_51)) ∧ (S 190 m = 0 ∧ S 189 m = 3 ∧ bg_q (S 164) (S 165) (S 166) (S 200 m) tx_83)) ∨ ((0 : Int) = 0 ∧ ¬ ((S 190 m = 0 ∧ bg_q (S 164) (S 165) (S 166) (S 200 m) tx_81) ∨ ((S 189 m = 0 ∧ S 190 m = 1 ∧ S 191 m = 0) ∧ bg_q (S 164) (S 165) (S 166) (S 200 m) tx_51)) ∧ ¬ (S 190 m = 0 ∧ S 189 m = 3 ∧ bg_q (S 164) (S 165) (S 166) (S 200 m) tx_83))
                  exact Or.inr (Or.inr ⟨rfl, (fun z => by rcases z with ⟨z1, z2⟩ | ⟨⟨z1, z2, z3⟩, z4⟩ <;> first | omega | contradiction), (fun z => by obtain ⟨z1, z2, z3⟩ := z; first | omega | contradiction)⟩)
                refine wJ_mono (wJ_S (fo8_162 (S := S) (m := m) (hd := 0) (g0 := 0) hI hC hcb hW hL hm hcl hv h30 (by omega) (by omega)) ⟨rfl, rfl, rfl, rfl, rfl, trivial⟩) (fun o Z hz => ?_)
                obtain ⟨x, x1, x2, x3, x4, x5⟩ := hz
                exact ⟨0, x, x1, x2, hfh, x3, x4, x5⟩
              · skip
                exact absurd c18 (by omega)
            · skip
              exact absurd c17 (by omega)
          · skip
            exact absurd c16 (by omega)
        · skip
          refine wa_iconst ?_
          refine wa_goto ⟨_, rfl⟩ ?_
          refine wa_istore (n := 4) rfl ?_
          refine wa_iconst ?_
          refine wa_istore (n := 5) rfl ?_
          refine wa_iload_n (n := 3) rfl ?_
          refine wa_ifeq (w_rg0 (by omega) (by omega)) ⟨_, rfl⟩ (fun c19 => ?_) (fun c19 => ?_)
          · skip
            refine wa_iload (n := 4) rfl ?_
            refine wa_ifeq (w_rg0 (by omega) (by omega)) ⟨_, rfl⟩ (fun c20 => ?_) (fun c20 => ?_)
            · skip
              exact absurd c20 (by omega)
            · skip
              refine wa_aload_n (n := 0) rfl ?_
              refine wa_iload_n (n := 2) rfl ?_
              refine wa_ks ?_
              refine wa_cv 162 rfl (wy_pr rfl) wt_162 (M2 := fun _ => False) rfl at_XO_begins ⟨_, rfl⟩ rfl rfl ⟨trivial, trivial, trivial, trivial, (Or.inr ⟨wy_pr rfl, fun q => q⟩), trivial, trivial⟩ trivial (fun _ _ q => False.elim q) (bg_162 (S := S) (j := 131) (tx := tx_51) (wx_131 hX) (by decide) hW hL hv) (fun oq21 Sq21 hp22 q21 => ?_)
              rcases q21 with ⟨rfl, ⟨rfl, hb51⟩ | ⟨rfl, hb51⟩⟩
              · skip
                show wJ _ _ _ _ _ _ _ _ _ _
                refine wa_ifeq (w_rg0 (by omega) (by omega)) ⟨_, rfl⟩ (fun c23 => ?_) (fun c23 => ?_)
                · skip
                  exact absurd c23 (by omega)
                · skip
                  refine wa_fall ⟨_, rfl⟩ ?_
                  refine wa_iconst ?_
                  refine wa_istore (n := 5) rfl ?_
                  refine wa_goto ⟨_, rfl⟩ ?_
                  have hfh : fo_h S 186 163 m 3 := by
                    show ((3 : Int) = 3 ∧ ((S 190 m = 0 ∧ bg_q (S 164) (S 165) (S 166) (S 200 m) tx_81) ∨ ((S 189 m = 0 ∧ S 190 m = 1 ∧ S 191 m = 0) ∧ bg_q (S 164) (S 165) (S 166) (S 200 m) tx_51))) ∨ ((3 : Int) = 2 ∧ ¬ ((S 190 m = 0 ∧ bg_q (S 164) (S 165) (S 166) (S 200 m) tx_81) ∨ ((S 189 m = 0 ∧ S 190 m = 1 ∧ S 191 m = 0) ∧ bg_q (S 164) (S 165) (S 166) (S 200 m) tx_51)) ∧ (S 190 m = 0 ∧ S 189 m = 3 ∧ bg_q (S 164) (S 165) (S 166) (S 200 m) tx_83)) ∨ ((3 : Int) = 0 ∧ ¬ ((S 190 m = 0 ∧ bg_q (S 164) (S 165) (S 166) (S 200 m) tx_81) ∨ ((S 189 m = 0 ∧ S 190 m = 1 ∧ S 191 m = 0) ∧ bg_q (S 164) (S 165) (S 166) (S 200 m) tx_51)) ∧ ¬ (S 190 m = 0 ∧ S 189 m = 3 ∧ bg_q (S 164) (S 165) (S 166) (S 200 m) tx_83))
                    first | exact Or.inl ⟨rfl, Or.inl ⟨by omega, by assumption⟩⟩ | exact Or.inl ⟨rfl, Or.inr ⟨⟨by omega, by omega, by omega⟩, by assumption⟩⟩
                  refine wJ_mono (wJ_S (fo8_162 (S := S) (m := m) (hd := 3) (g0 := 0) hI hC hcb hW hL hm hcl hv h30 (by omega) (by omega)) ⟨rfl, rfl, rfl, rfl, rfl, trivial⟩) (fun o Z hz => ?_)
                  obtain ⟨x, x1, x2, x3, x4, x5⟩ := hz
                  exact ⟨3, x, x1, x2, hfh, x3, x4, x5⟩
              · skip
                show wJ _ _ _ _ _ _ _ _ _ _
                refine wa_ifeq (w_rg0 (by omega) (by omega)) ⟨_, rfl⟩ (fun c24 => ?_) (fun c24 => ?_)
                · skip
                  refine wa_iload_n (n := 3) rfl ?_
                  refine wa_ifeq (w_rg0 (by omega) (by omega)) ⟨_, rfl⟩ (fun c25 => ?_) (fun c25 => ?_)
                  · skip
                    have hfh : fo_h S 186 163 m 0 := by
                      show ((0 : Int) = 3 ∧ ((S 190 m = 0 ∧ bg_q (S 164) (S 165) (S 166) (S 200 m) tx_81) ∨ ((S 189 m = 0 ∧ S 190 m = 1 ∧ S 191 m = 0) ∧ bg_q (S 164) (S 165) (S 166) (S 200 m) tx_51))) ∨ ((0 : Int) = 2 ∧ ¬ ((S 190 m = 0 ∧ bg_q (S 164) (S 165) (S 166) (S 200 m) tx_81) ∨ ((S 189 m = 0 ∧ S 190 m = 1 ∧ S 191 m = 0) ∧ bg_q (S 164) (S 165) (S 166) (S 200 m) tx_51)) ∧ (S 190 m = 0 ∧ S 189 m = 3 ∧ bg_q (S 164) (S 165) (S 166) (S 200 m) tx_83)) ∨ ((0 : Int) = 0 ∧ ¬ ((S 190 m = 0 ∧ bg_q (S 164) (S 165) (S 166) (S 200 m) tx_81) ∨ ((S 189 m = 0 ∧ S 190 m = 1 ∧ S 191 m = 0) ∧ bg_q (S 164) (S 165) (S 166) (S 200 m) tx_51)) ∧ ¬ (S 190 m = 0 ∧ S 189 m = 3 ∧ bg_q (S 164) (S 165) (S 166) (S 200 m) tx_83))
                      exact Or.inr (Or.inr ⟨rfl, (fun z => by rcases z with ⟨z1, z2⟩ | ⟨⟨z1, z2, z3⟩, z4⟩ <;> first | omega | contradiction), (fun z => by obtain ⟨z1, z2, z3⟩ := z; first | omega | contradiction)⟩)
                    refine wJ_mono (wJ_S (fo8_162 (S := S) (m := m) (hd := 0) (g0 := 0) hI hC hcb hW hL hm hcl hv h30 (by omega) (by omega)) ⟨rfl, rfl, rfl, rfl, rfl, trivial⟩) (fun o Z hz => ?_)
                    obtain ⟨x, x1, x2, x3, x4, x5⟩ := hz
                    exact ⟨0, x, x1, x2, hfh, x3, x4, x5⟩
                  · skip
                    exact absurd c25 (by omega)
                · skip
                  exact absurd c24 (by omega)
          · skip
            exact absurd c19 (by omega)
  · skip
    refine wa_iconst ?_
    refine wa_goto ⟨_, rfl⟩ ?_
    refine wa_istore_n (n := 3) rfl ?_
    refine wa_aload_n (n := 0) rfl ?_
    refine wb_gf4 162 rfl (wy_pr rfl) wt_162 wf_3_3 (v := 185) wl_162_3 ?_
    refine wa_iconst ?_
    refine wb_aald5 185 3 rfl rfl (wy_pr rfl) wt_185 (by rw [show _ = _ from ((cl_185 hC))]; omega) wl_185_3 ?_
    refine wa_iload_n (n := 1) rfl ?_
    refine wb_iald 189 rfl (wy_pr rfl) wt_189 (n := 400) ((cl_189 hC)) (by omega) (by omega) (v := (S 189 m)) rfl (fun r26 => ?_)
    refine wa_ifne (w_rg0 (by omega) (by omega)) ⟨_, rfl⟩ (fun c27 => ?_) (fun c27 => ?_)
    · skip
      refine wa_iconst ?_
      refine wa_fall ⟨_, rfl⟩ ?_
      refine wa_istore (n := 4) rfl ?_
      refine wa_iconst ?_
      refine wa_istore (n := 5) rfl ?_
      refine wa_iload_n (n := 3) rfl ?_
      refine wa_ifeq (w_rg0 (by omega) (by omega)) ⟨_, rfl⟩ (fun c28 => ?_) (fun c28 => ?_)
      · skip
        exact absurd c28 (by omega)
      · skip
        refine wa_aload_n (n := 0) rfl ?_
        refine wa_iload_n (n := 2) rfl ?_
        refine wa_ks ?_
        refine wa_cv 162 rfl (wy_pr rfl) wt_162 (M2 := fun _ => False) rfl at_XO_begins ⟨_, rfl⟩ rfl rfl ⟨trivial, trivial, trivial, trivial, (Or.inr ⟨wy_pr rfl, fun q => q⟩), trivial, trivial⟩ trivial (fun _ _ q => False.elim q) (bg_162 (S := S) (j := 133) (tx := tx_81) (wx_133 hX) (by decide) hW hL hv) (fun oq29 Sq29 hp30 q29 => ?_)
        rcases q29 with ⟨rfl, ⟨rfl, hb81⟩ | ⟨rfl, hb81⟩⟩
        · skip
          show wJ _ _ _ _ _ _ _ _ _ _
          refine wa_ifne (w_rg0 (by omega) (by omega)) ⟨_, rfl⟩ (fun c31 => ?_) (fun c31 => ?_)
          · skip
            refine wa_iconst ?_
            refine wa_istore (n := 5) rfl ?_
            refine wa_goto ⟨_, rfl⟩ ?_
            have hfh : fo_h S 186 163 m 3 := by
              show ((3 : Int) = 3 ∧ ((S 190 m = 0 ∧ bg_q (S 164) (S 165) (S 166) (S 200 m) tx_81) ∨ ((S 189 m = 0 ∧ S 190 m = 1 ∧ S 191 m = 0) ∧ bg_q (S 164) (S 165) (S 166) (S 200 m) tx_51))) ∨ ((3 : Int) = 2 ∧ ¬ ((S 190 m = 0 ∧ bg_q (S 164) (S 165) (S 166) (S 200 m) tx_81) ∨ ((S 189 m = 0 ∧ S 190 m = 1 ∧ S 191 m = 0) ∧ bg_q (S 164) (S 165) (S 166) (S 200 m) tx_51)) ∧ (S 190 m = 0 ∧ S 189 m = 3 ∧ bg_q (S 164) (S 165) (S 166) (S 200 m) tx_83)) ∨ ((3 : Int) = 0 ∧ ¬ ((S 190 m = 0 ∧ bg_q (S 164) (S 165) (S 166) (S 200 m) tx_81) ∨ ((S 189 m = 0 ∧ S 190 m = 1 ∧ S 191 m = 0) ∧ bg_q (S 164) (S 165) (S 166) (S 200 m) tx_51)) ∧ ¬ (S 190 m = 0 ∧ S 189 m = 3 ∧ bg_q (S 164) (S 165) (S 166) (S 200 m) tx_83))
              first | exact Or.inl ⟨rfl, Or.inl ⟨by omega, by assumption⟩⟩ | exact Or.inl ⟨rfl, Or.inr ⟨⟨by omega, by omega, by omega⟩, by assumption⟩⟩
            refine wJ_mono (wJ_S (fo8_162 (S := S) (m := m) (hd := 3) (g0 := 1) hI hC hcb hW hL hm hcl hv h30 (by omega) (by omega)) ⟨rfl, rfl, rfl, rfl, rfl, trivial⟩) (fun o Z hz => ?_)
            obtain ⟨x, x1, x2, x3, x4, x5⟩ := hz
            exact ⟨3, x, x1, x2, hfh, x3, x4, x5⟩
          · skip
            exact absurd c31 (by omega)
        · skip
          show wJ _ _ _ _ _ _ _ _ _ _
          refine wa_ifne (w_rg0 (by omega) (by omega)) ⟨_, rfl⟩ (fun c32 => ?_) (fun c32 => ?_)
          · skip
            exact absurd c32 (by omega)
          · skip
            refine wa_fall ⟨_, rfl⟩ ?_
            refine wa_iload (n := 4) rfl ?_
            refine wa_ifeq (w_rg0 (by omega) (by omega)) ⟨_, rfl⟩ (fun c33 => ?_) (fun c33 => ?_)
            · skip
              refine wa_iload_n (n := 3) rfl ?_
              refine wa_ifeq (w_rg0 (by omega) (by omega)) ⟨_, rfl⟩ (fun c34 => ?_) (fun c34 => ?_)
              · skip
                exact absurd c34 (by omega)
              · skip
                refine wa_aload_n (n := 0) rfl ?_
                refine wb_gf4 162 rfl (wy_pr rfl) wt_162 wf_3_3 (v := 185) wl_162_3 ?_
                refine wa_iconst ?_
                refine wb_aald5 185 3 rfl rfl (wy_pr rfl) wt_185 (by rw [show _ = _ from ((cl_185 hC))]; omega) wl_185_3 ?_
                refine wa_iload_n (n := 1) rfl ?_
                refine wb_iald 189 rfl (wy_pr rfl) wt_189 (n := 400) ((cl_189 hC)) (by omega) (by omega) (v := (S 189 m)) rfl (fun r35 => ?_)
                refine wa_iconst ?_
                refine wa_icmpne (w_rg0 (by omega) (by omega)) (w_rg0 (by omega) (by omega)) ⟨_, rfl⟩ (fun c36 => ?_) (fun c36 => ?_)
                · skip
                  have hfh : fo_h S 186 163 m 0 := by
                    show ((0 : Int) = 3 ∧ ((S 190 m = 0 ∧ bg_q (S 164) (S 165) (S 166) (S 200 m) tx_81) ∨ ((S 189 m = 0 ∧ S 190 m = 1 ∧ S 191 m = 0) ∧ bg_q (S 164) (S 165) (S 166) (S 200 m) tx_51))) ∨ ((0 : Int) = 2 ∧ ¬ ((S 190 m = 0 ∧ bg_q (S 164) (S 165) (S 166) (S 200 m) tx_81) ∨ ((S 189 m = 0 ∧ S 190 m = 1 ∧ S 191 m = 0) ∧ bg_q (S 164) (S 165) (S 166) (S 200 m) tx_51)) ∧ (S 190 m = 0 ∧ S 189 m = 3 ∧ bg_q (S 164) (S 165) (S 166) (S 200 m) tx_83)) ∨ ((0 : Int) = 0 ∧ ¬ ((S 190 m = 0 ∧ bg_q (S 164) (S 165) (S 166) (S 200 m) tx_81) ∨ ((S 189 m = 0 ∧ S 190 m = 1 ∧ S 191 m = 0) ∧ bg_q (S 164) (S 165) (S 166) (S 200 m) tx_51)) ∧ ¬ (S 190 m = 0 ∧ S 189 m = 3 ∧ bg_q (S 164) (S 165) (S 166) (S 200 m) tx_83))
                    exact Or.inr (Or.inr ⟨rfl, (fun z => by rcases z with ⟨z1, z2⟩ | ⟨⟨z1, z2, z3⟩, z4⟩ <;> first | omega | contradiction), (fun z => by obtain ⟨z1, z2, z3⟩ := z; first | omega | contradiction)⟩)
                  refine wJ_mono (wJ_S (fo8_162 (S := S) (m := m) (hd := 0) (g0 := 1) hI hC hcb hW hL hm hcl hv h30 (by omega) (by omega)) ⟨rfl, rfl, rfl, rfl, rfl, trivial⟩) (fun o Z hz => ?_)
                  obtain ⟨x, x1, x2, x3, x4, x5⟩ := hz
                  exact ⟨0, x, x1, x2, hfh, x3, x4, x5⟩
                · skip
                  refine wa_aload_n (n := 0) rfl ?_
                  refine wa_iload_n (n := 2) rfl ?_
                  refine wa_ks ?_
                  refine wa_cv 162 rfl (wy_pr rfl) wt_162 (M2 := fun _ => False) rfl at_XO_begins ⟨_, rfl⟩ rfl rfl ⟨trivial, trivial, trivial, trivial, (Or.inr ⟨wy_pr rfl, fun q => q⟩), trivial, trivial⟩ trivial (fun _ _ q => False.elim q) (bg_162 (S := S) (j := 135) (tx := tx_83) (wx_135 hX) (by decide) hW hL hv) (fun oq37 Sq37 hp38 q37 => ?_)
                  rcases q37 with ⟨rfl, ⟨rfl, hb83⟩ | ⟨rfl, hb83⟩⟩
                  · skip
                    show wJ _ _ _ _ _ _ _ _ _ _
                    refine wa_ifeq (w_rg0 (by omega) (by omega)) ⟨_, rfl⟩ (fun c39 => ?_) (fun c39 => ?_)
                    · skip
                      exact absurd c39 (by omega)
                    · skip
                      refine wa_iconst ?_
                      refine wa_istore (n := 5) rfl ?_
                      refine wa_fall ⟨_, rfl⟩ ?_
                      have hfh : fo_h S 186 163 m 2 := by
                        show ((2 : Int) = 3 ∧ ((S 190 m = 0 ∧ bg_q (S 164) (S 165) (S 166) (S 200 m) tx_81) ∨ ((S 189 m = 0 ∧ S 190 m = 1 ∧ S 191 m = 0) ∧ bg_q (S 164) (S 165) (S 166) (S 200 m) tx_51))) ∨ ((2 : Int) = 2 ∧ ¬ ((S 190 m = 0 ∧ bg_q (S 164) (S 165) (S 166) (S 200 m) tx_81) ∨ ((S 189 m = 0 ∧ S 190 m = 1 ∧ S 191 m = 0) ∧ bg_q (S 164) (S 165) (S 166) (S 200 m) tx_51)) ∧ (S 190 m = 0 ∧ S 189 m = 3 ∧ bg_q (S 164) (S 165) (S 166) (S 200 m) tx_83)) ∨ ((2 : Int) = 0 ∧ ¬ ((S 190 m = 0 ∧ bg_q (S 164) (S 165) (S 166) (S 200 m) tx_81) ∨ ((S 189 m = 0 ∧ S 190 m = 1 ∧ S 191 m = 0) ∧ bg_q (S 164) (S 165) (S 166) (S 200 m) tx_51)) ∧ ¬ (S 190 m = 0 ∧ S 189 m = 3 ∧ bg_q (S 164) (S 165) (S 166) (S 200 m) tx_83))
                        exact Or.inr (Or.inl ⟨rfl, (fun z => by rcases z with ⟨z1, z2⟩ | ⟨⟨z1, z2, z3⟩, z4⟩ <;> first | omega | contradiction), ⟨by omega, by omega, by assumption⟩⟩)
                      refine wJ_mono (wJ_S (fo8_162 (S := S) (m := m) (hd := 2) (g0 := 1) hI hC hcb hW hL hm hcl hv h30 (by omega) (by omega)) ⟨rfl, rfl, rfl, rfl, rfl, trivial⟩) (fun o Z hz => ?_)
                      obtain ⟨x, x1, x2, x3, x4, x5⟩ := hz
                      exact ⟨2, x, x1, x2, hfh, x3, x4, x5⟩
                  · skip
                    show wJ _ _ _ _ _ _ _ _ _ _
                    refine wa_ifeq (w_rg0 (by omega) (by omega)) ⟨_, rfl⟩ (fun c40 => ?_) (fun c40 => ?_)
                    · skip
                      have hfh : fo_h S 186 163 m 0 := by
                        show ((0 : Int) = 3 ∧ ((S 190 m = 0 ∧ bg_q (S 164) (S 165) (S 166) (S 200 m) tx_81) ∨ ((S 189 m = 0 ∧ S 190 m = 1 ∧ S 191 m = 0) ∧ bg_q (S 164) (S 165) (S 166) (S 200 m) tx_51))) ∨ ((0 : Int) = 2 ∧ ¬ ((S 190 m = 0 ∧ bg_q (S 164) (S 165) (S 166) (S 200 m) tx_81) ∨ ((S 189 m = 0 ∧ S 190 m = 1 ∧ S 191 m = 0) ∧ bg_q (S 164) (S 165) (S 166) (S 200 m) tx_51)) ∧ (S 190 m = 0 ∧ S 189 m = 3 ∧ bg_q (S 164) (S 165) (S 166) (S 200 m) tx_83)) ∨ ((0 : Int) = 0 ∧ ¬ ((S 190 m = 0 ∧ bg_q (S 164) (S 165) (S 166) (S 200 m) tx_81) ∨ ((S 189 m = 0 ∧ S 190 m = 1 ∧ S 191 m = 0) ∧ bg_q (S 164) (S 165) (S 166) (S 200 m) tx_51)) ∧ ¬ (S 190 m = 0 ∧ S 189 m = 3 ∧ bg_q (S 164) (S 165) (S 166) (S 200 m) tx_83))
                        exact Or.inr (Or.inr ⟨rfl, (fun z => by rcases z with ⟨z1, z2⟩ | ⟨⟨z1, z2, z3⟩, z4⟩ <;> first | omega | contradiction), (fun z => by obtain ⟨z1, z2, z3⟩ := z; first | omega | contradiction)⟩)
                      refine wJ_mono (wJ_S (fo8_162 (S := S) (m := m) (hd := 0) (g0 := 1) hI hC hcb hW hL hm hcl hv h30 (by omega) (by omega)) ⟨rfl, rfl, rfl, rfl, rfl, trivial⟩) (fun o Z hz => ?_)
                      obtain ⟨x, x1, x2, x3, x4, x5⟩ := hz
                      exact ⟨0, x, x1, x2, hfh, x3, x4, x5⟩
                    · skip
                      exact absurd c40 (by omega)
            · skip
              exact absurd c33 (by omega)
    · skip
      refine wa_aload_n (n := 0) rfl ?_
      refine wb_gf4 162 rfl (wy_pr rfl) wt_162 wf_3_3 (v := 185) wl_162_3 ?_
      refine wa_iconst ?_
      refine wb_aald5 185 4 rfl rfl (wy_pr rfl) wt_185 (by rw [show _ = _ from ((cl_185 hC))]; omega) wl_185_4 ?_
      refine wa_iload_n (n := 1) rfl ?_
      refine wb_iald 190 rfl (wy_pr rfl) wt_190 (n := 400) ((cl_190 hC)) (by omega) (by omega) (v := (S 190 m)) rfl (fun r41 => ?_)
      refine wa_iconst ?_
      refine wa_icmpne (w_rg0 (by omega) (by omega)) (w_rg0 (by omega) (by omega)) ⟨_, rfl⟩ (fun c42 => ?_) (fun c42 => ?_)
      · skip
        refine wa_iconst ?_
        refine wa_fall ⟨_, rfl⟩ ?_
        refine wa_istore (n := 4) rfl ?_
        refine wa_iconst ?_
        refine wa_istore (n := 5) rfl ?_
        refine wa_iload_n (n := 3) rfl ?_
        refine wa_ifeq (w_rg0 (by omega) (by omega)) ⟨_, rfl⟩ (fun c43 => ?_) (fun c43 => ?_)
        · skip
          exact absurd c43 (by omega)
        · skip
          refine wa_aload_n (n := 0) rfl ?_
          refine wa_iload_n (n := 2) rfl ?_
          refine wa_ks ?_
          refine wa_cv 162 rfl (wy_pr rfl) wt_162 (M2 := fun _ => False) rfl at_XO_begins ⟨_, rfl⟩ rfl rfl ⟨trivial, trivial, trivial, trivial, (Or.inr ⟨wy_pr rfl, fun q => q⟩), trivial, trivial⟩ trivial (fun _ _ q => False.elim q) (bg_162 (S := S) (j := 133) (tx := tx_81) (wx_133 hX) (by decide) hW hL hv) (fun oq44 Sq44 hp45 q44 => ?_)
          rcases q44 with ⟨rfl, ⟨rfl, hb81⟩ | ⟨rfl, hb81⟩⟩
          · skip
            show wJ _ _ _ _ _ _ _ _ _ _
            refine wa_ifne (w_rg0 (by omega) (by omega)) ⟨_, rfl⟩ (fun c46 => ?_) (fun c46 => ?_)
            · skip
              refine wa_iconst ?_
              refine wa_istore (n := 5) rfl ?_
              refine wa_goto ⟨_, rfl⟩ ?_
              have hfh : fo_h S 186 163 m 3 := by
                show ((3 : Int) = 3 ∧ ((S 190 m = 0 ∧ bg_q (S 164) (S 165) (S 166) (S 200 m) tx_81) ∨ ((S 189 m = 0 ∧ S 190 m = 1 ∧ S 191 m = 0) ∧ bg_q (S 164) (S 165) (S 166) (S 200 m) tx_51))) ∨ ((3 : Int) = 2 ∧ ¬ ((S 190 m = 0 ∧ bg_q (S 164) (S 165) (S 166) (S 200 m) tx_81) ∨ ((S 189 m = 0 ∧ S 190 m = 1 ∧ S 191 m = 0) ∧ bg_q (S 164) (S 165) (S 166) (S 200 m) tx_51)) ∧ (S 190 m = 0 ∧ S 189 m = 3 ∧ bg_q (S 164) (S 165) (S 166) (S 200 m) tx_83)) ∨ ((3 : Int) = 0 ∧ ¬ ((S 190 m = 0 ∧ bg_q (S 164) (S 165) (S 166) (S 200 m) tx_81) ∨ ((S 189 m = 0 ∧ S 190 m = 1 ∧ S 191 m = 0) ∧ bg_q (S 164) (S 165) (S 166) (S 200 m) tx_51)) ∧ ¬ (S 190 m = 0 ∧ S 189 m = 3 ∧ bg_q (S 164) (S 165) (S 166) (S 200 m) tx_83))
                first | exact Or.inl ⟨rfl, Or.inl ⟨by omega, by assumption⟩⟩ | exact Or.inl ⟨rfl, Or.inr ⟨⟨by omega, by omega, by omega⟩, by assumption⟩⟩
              refine wJ_mono (wJ_S (fo8_162 (S := S) (m := m) (hd := 3) (g0 := 1) hI hC hcb hW hL hm hcl hv h30 (by omega) (by omega)) ⟨rfl, rfl, rfl, rfl, rfl, trivial⟩) (fun o Z hz => ?_)
              obtain ⟨x, x1, x2, x3, x4, x5⟩ := hz
              exact ⟨3, x, x1, x2, hfh, x3, x4, x5⟩
            · skip
              exact absurd c46 (by omega)
          · skip
            show wJ _ _ _ _ _ _ _ _ _ _
            refine wa_ifne (w_rg0 (by omega) (by omega)) ⟨_, rfl⟩ (fun c47 => ?_) (fun c47 => ?_)
            · skip
              exact absurd c47 (by omega)
            · skip
              refine wa_fall ⟨_, rfl⟩ ?_
              refine wa_iload (n := 4) rfl ?_
              refine wa_ifeq (w_rg0 (by omega) (by omega)) ⟨_, rfl⟩ (fun c48 => ?_) (fun c48 => ?_)
              · skip
                refine wa_iload_n (n := 3) rfl ?_
                refine wa_ifeq (w_rg0 (by omega) (by omega)) ⟨_, rfl⟩ (fun c49 => ?_) (fun c49 => ?_)
                · skip
                  exact absurd c49 (by omega)
                · skip
                  refine wa_aload_n (n := 0) rfl ?_
                  refine wb_gf4 162 rfl (wy_pr rfl) wt_162 wf_3_3 (v := 185) wl_162_3 ?_
                  refine wa_iconst ?_
                  refine wb_aald5 185 3 rfl rfl (wy_pr rfl) wt_185 (by rw [show _ = _ from ((cl_185 hC))]; omega) wl_185_3 ?_
                  refine wa_iload_n (n := 1) rfl ?_
                  refine wb_iald 189 rfl (wy_pr rfl) wt_189 (n := 400) ((cl_189 hC)) (by omega) (by omega) (v := (S 189 m)) rfl (fun r50 => ?_)
                  refine wa_iconst ?_
                  refine wa_icmpne (w_rg0 (by omega) (by omega)) (w_rg0 (by omega) (by omega)) ⟨_, rfl⟩ (fun c51 => ?_) (fun c51 => ?_)
                  · skip
                    have hfh : fo_h S 186 163 m 0 := by
                      show ((0 : Int) = 3 ∧ ((S 190 m = 0 ∧ bg_q (S 164) (S 165) (S 166) (S 200 m) tx_81) ∨ ((S 189 m = 0 ∧ S 190 m = 1 ∧ S 191 m = 0) ∧ bg_q (S 164) (S 165) (S 166) (S 200 m) tx_51))) ∨ ((0 : Int) = 2 ∧ ¬ ((S 190 m = 0 ∧ bg_q (S 164) (S 165) (S 166) (S 200 m) tx_81) ∨ ((S 189 m = 0 ∧ S 190 m = 1 ∧ S 191 m = 0) ∧ bg_q (S 164) (S 165) (S 166) (S 200 m) tx_51)) ∧ (S 190 m = 0 ∧ S 189 m = 3 ∧ bg_q (S 164) (S 165) (S 166) (S 200 m) tx_83)) ∨ ((0 : Int) = 0 ∧ ¬ ((S 190 m = 0 ∧ bg_q (S 164) (S 165) (S 166) (S 200 m) tx_81) ∨ ((S 189 m = 0 ∧ S 190 m = 1 ∧ S 191 m = 0) ∧ bg_q (S 164) (S 165) (S 166) (S 200 m) tx_51)) ∧ ¬ (S 190 m = 0 ∧ S 189 m = 3 ∧ bg_q (S 164) (S 165) (S 166) (S 200 m) tx_83))
                      exact Or.inr (Or.inr ⟨rfl, (fun z => by rcases z with ⟨z1, z2⟩ | ⟨⟨z1, z2, z3⟩, z4⟩ <;> first | omega | contradiction), (fun z => by obtain ⟨z1, z2, z3⟩ := z; first | omega | contradiction)⟩)
                    refine wJ_mono (wJ_S (fo8_162 (S := S) (m := m) (hd := 0) (g0 := 1) hI hC hcb hW hL hm hcl hv h30 (by omega) (by omega)) ⟨rfl, rfl, rfl, rfl, rfl, trivial⟩) (fun o Z hz => ?_)
                    obtain ⟨x, x1, x2, x3, x4, x5⟩ := hz
                    exact ⟨0, x, x1, x2, hfh, x3, x4, x5⟩
                  · skip
                    exact absurd c51 (by omega)
              · skip
                exact absurd c48 (by omega)
      · skip
        exact absurd c42 (by omega)
end W9x
