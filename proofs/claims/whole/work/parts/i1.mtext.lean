/-! PART i1: the reference: doesMember of methods that give their name. -/
section Wi1
variable {xs : List (Nat × List Int32)} {M : Nat → Prop} {d : Nat} {S Z A : wS} {T : Int → Int} {n : Int} {cs : List hCR} {ms : List hMR} {os : Int → List Int} {Q : wO → wS → Prop} {NN : List Int}
theorem spR_ML (hM : w_ML S) (h : ∀ (j : Nat) (x : Int), ¬ txM j x → A j x = S j x) : w_ML A := ML_w hM h (fun j z => by unfold txM wtM at z; omega)
theorem spR_KR {b : Nat} (hK : KR b T n cs ms S) (h : ∀ (j : Nat) (x : Int), ¬ txM j x → A j x = S j x) (hb : b = 241 ∨ b = 261) : KR b T n cs ms A := KR_ag hK (fun j x hj => h j x (by unfold txM wtM; omega))
/-- the trace behind a value -/
def trZ (k v tn m en : Int) (S : wS) : wS := w_up (w_up (w_up (w_up (w_up S 237 110 k) 237 111 v) 343 tn m) 343 (tn + 1) en) 237 106 (tn + 2)
theorem rdl_241 {m f : Int} (hX : w_X xs) (hM : w_ML S) (hK : KR 241 T n cs ms S) (hw : wHo cs ms os) (hm : 0 ≤ m ∧ m < (ms.length : Int)) (hNN : NN = nmR T (hmR ms m)) (hk : ∀ B : wS, spR NN S B → wJ (pe_GA xs) wY0 M (d + 8) t_M_doesMember ((pe_at t_M_doesMember.bl 5).getD (0, [])).2 [(0, (2, 237)), (1, (0, m)), (2, (0, f))] [] B Q) : ∀ (g i : Nat) (A : wS), i + g = NN.length → A 237 113 = (i : Int) → (∀ q : Nat, q < i → A 345 (q : Int) = NN.getD q 0) → (∀ (j : Nat) (x : Int), ¬ txM j x → A j x = S j x) → wJ (pe_GA xs) wY0 M (d + 8) t_M_doesMember ((pe_at t_M_doesMember.bl 4).getD (0, [])).2 [(0, (2, 237)), (1, (0, m)), (2, (0, f)), (3, (0, (hmR ms m).2.2.2.2.2.2.1 + (i : Int)))] [] A Q := by
  have h13 : S 237 13 = 241 := hK.1
  have h400 := hw.1
  have hn6 := hK.2.2.2.2.2.1
  have uuM := KR_m hK (m := m) (by omega) (by omega)
  have uuW := hw.2.2.2 m (by omega) (by omega)
  have uu1 : S 253 m = (hmR ms m).2.1 := uuM.1.2.1
  have uu2 : S 254 m = (hmR ms m).2.2.1 := uuM.1.2.2.1
  have uu3 : S 255 m = (hmR ms m).2.2.2.1 := uuM.1.2.2.2.1
  have uu4 : S 256 m = ((hmR ms m).2.2.2.2.1.length : Int) := uuM.2.1.1
  have uu5 : S 257 m = (hmR ms m).2.2.2.2.2.1 := uuM.2.1.2.1
  have uuf : S 259 m = (hmR ms m).2.2.2.2.2.2.1 := uuM.1.2.2.2.2.1
  have uut : S 260 m = (hmR ms m).2.2.2.2.2.2.2 := uuM.1.2.2.2.2.2
  have uuq := uuW.1.2.1
  have uus := uuW.1.2.2.1
  have uuy := uuW.1.2.2.2
  have uuv := uuW.2.1
  have uul := uuW.2.2.1
  have uuft := hK.2.2.2.2.2.2.1 m (by omega) (by omega)
  have hNl : (NN.length : Int) = (hmR ms m).2.2.2.2.2.2.2 - (hmR ms m).2.2.2.2.2.2.1 := by rw [hNN]; exact nmR_l (by omega)
  have hNs : ∀ i : Nat, i < NN.length → S 242 ((hmR ms m).2.2.2.2.2.2.1 + (i : Int)) = NN.getD i 0 := fun i hi => by rw [hNN] at hi ⊢; rw [nmR_s hi]; exact hK.2.2.2.2.1 _ (by omega) (by rw [← hNN] at hi; omega)
  intro g
  induction g with
  | zero =>
    intro i A hi h113 hq hfr
    have hMA : w_ML A := spR_ML hM hfr
    have hKA : KR 241 T n cs ms A := spR_KR hK hfr (by omega)
    have h13A : A 237 13 = 241 := hKA.1
    have eMA := KR_m hKA (m := m) (by omega) (by omega)
    have efA : A 259 m = (hmR ms m).2.2.2.2.2.2.1 := eMA.1.2.2.2.2.1
    have etA : A 260 m = (hmR ms m).2.2.2.2.2.2.2 := eMA.1.2.2.2.2.2
    refine wa_iload_n (n := 3) rfl ?_
    refine wa_aload_n (n := 0) rfl ?_
    refine wb_gf5 237 rfl (wy_pr rfl) wt_237 wf_15_13 (v := 241) (h13A) (fun r1 => ?_)
    refine wb_gf4 241 rfl (wy_pr rfl) wt_241 wf_12_20 (v := 260) wl_241_20 ?_
    refine wa_iload_n (n := 1) rfl ?_
    refine wb_iald 260 rfl (wy_pr rfl) wt_260 (n := 400) ((ml_260 hMA)) (by omega) (by omega) (v := (hmR ms m).2.2.2.2.2.2.2) (etA) (fun r2 => ?_)
    refine wa_icmpge (w_rg0 (by omega) (by omega)) (w_rg0 (by omega) (by omega)) ⟨_, rfl⟩ (fun c3 => ?_) (fun c3 => ?_)
    · skip
      exact wJ_S (hk A ⟨h113.trans (by omega), fun q hq1 => hq q (by omega), hfr⟩) ⟨rfl, rfl, rfl, trivial⟩
    · skip
      exfalso; omega
  | succ g ih =>
    intro i A hi h113 hq hfr
    have hMA : w_ML A := spR_ML hM hfr
    have hKA : KR 241 T n cs ms A := spR_KR hK hfr (by omega)
    have h13A : A 237 13 = 241 := hKA.1
    have eMA := KR_m hKA (m := m) (by omega) (by omega)
    have efA : A 259 m = (hmR ms m).2.2.2.2.2.2.1 := eMA.1.2.2.2.2.1
    have etA : A 260 m = (hmR ms m).2.2.2.2.2.2.2 := eMA.1.2.2.2.2.2
    have hsA : A 242 ((hmR ms m).2.2.2.2.2.2.1 + (i : Int)) = NN.getD i 0 := (hfr 242 _ (by unfold txM wtM; omega)).trans (hNs i (by omega))
    refine wa_iload_n (n := 3) rfl ?_
    refine wa_aload_n (n := 0) rfl ?_
    refine wb_gf5 237 rfl (wy_pr rfl) wt_237 wf_15_13 (v := 241) (h13A) (fun r51 => ?_)
    refine wb_gf4 241 rfl (wy_pr rfl) wt_241 wf_12_20 (v := 260) wl_241_20 ?_
    refine wa_iload_n (n := 1) rfl ?_
    refine wb_iald 260 rfl (wy_pr rfl) wt_260 (n := 400) ((ml_260 hMA)) (by omega) (by omega) (v := (hmR ms m).2.2.2.2.2.2.2) (etA) (fun r52 => ?_)
    refine wa_icmpge (w_rg0 (by omega) (by omega)) (w_rg0 (by omega) (by omega)) ⟨_, rfl⟩ (fun c53 => ?_) (fun c53 => ?_)
    · skip
      exfalso; omega
    · skip
      refine wa_aload_n (n := 0) rfl ?_
      refine wb_gf4 237 rfl (wy_pr rfl) wt_237 wf_15_112 (v := 345) wl_237_112 ?_
      refine wa_aload_n (n := 0) rfl ?_
      refine wb_gfi 237 rfl (wy_pr rfl) wt_237 wf_15_113 (v := (i : Int)) (h113) (fun r54 => ?_)
      refine wa_aload_n (n := 0) rfl ?_
      refine wb_gf5 237 rfl (wy_pr rfl) wt_237 wf_15_13 (v := 241) (h13A) (fun r55 => ?_)
      refine wb_gf4 241 rfl (wy_pr rfl) wt_241 wf_12_0 (v := 242) wl_241_0 ?_
      refine wa_iload_n (n := 3) rfl ?_
      refine wb_bald 242 rfl (wy_pr rfl) wt_242 (n := 65536) ((ml_242 hMA)) (by omega) (by omega) (v := (NN.getD i 0)) (hsA) (fun r56 => ?_)
      refine wb_bast 345 rfl (wy_pr rfl) wt_345 (n := 256) ((ml_345 hMA)) (by omega) (by omega) ⟨(by omega), (by omega)⟩ ?_
      refine wa_aload_n (n := 0) rfl ?_
      refine wa_dup (by decide) ?_
      refine wb_gfi 237 rfl (wy_pr rfl) wt_237 wf_15_113 (v := (i : Int)) ((w_up_slot (by decide)).trans (h113)) (fun r57 => ?_)
      refine wa_iconst ?_
      refine wa_iadd ?_
      refine wb_pfi 237 rfl (wy_pr rfl) wt_237 wf_15_113 (n := 113) rfl ⟨(by omega), (by omega)⟩ ?_
      refine wa_iinc rfl rfl ?_
      refine wa_goto ⟨_, rfl⟩ ?_
      refine wJ_S (ih (i + 1) (w_up (w_up A 345 (i : Int) (NN.getD i 0)) 237 113 ((i : Int) + 1)) (by omega) ?_ (fun q hq1 => ?_) (fun j x hj => (w_up_no (fun z => hj (Or.inr (Or.inr z)))).trans ((w_up_no (fun z => hj (Or.inr (Or.inl ⟨z.1, by omega⟩)))).trans (hfr j x hj)))) ⟨rfl, rfl, rfl, by show some (0, (hmR ms m).2.2.2.2.2.2.1 + (i : Int) + 1) = some (0, (hmR ms m).2.2.2.2.2.2.1 + ((i + 1 : Nat) : Int)); rw [show (hmR ms m).2.2.2.2.2.2.1 + ((i + 1 : Nat) : Int) = (hmR ms m).2.2.2.2.2.2.1 + (i : Int) + 1 by omega], trivial⟩
      · exact w_up_same _ _ _ _
      · by_cases ce : q = i
        · rw [ce]; exact (w_up_slot (by first | decide | omega)).trans (w_up_same _ _ _ _)
        · exact (w_up_slot (by first | decide | omega)).trans ((w_up_at (by omega)).trans (hq q (by omega)))
theorem rdx_241 {m tn en m2 bt u2 u3 : Int} (hX : w_X xs) (hM : w_ML S) (hK : KR 241 T n cs ms S) (hw : wHo cs ms os) (hm : 0 ≤ m ∧ m < (ms.length : Int)) (hso : (hmR ms m).2.1 = 1) (h106 : S 237 106 = tn) (ht : 0 ≤ tn ∧ tn ≤ 100000) (h76 : S 237 176 = en) (hen : 0 ≤ en ∧ en ≤ 1000) (hf : ffA T cs ms m = -1) (hty : (hmR ms m).2.2.2.1 = 7) (hNN : NN = nmR T (hmR ms m)) (h102 : S 237 102 = m2) (h103 : S 237 103 = bt) (h64 : S 237 64 = u2) (h65 : S 237 65 = u3) (hm2 : 0 ≤ m2 ∧ m2 ≤ u2) (hbt : 0 ≤ bt ∧ bt ≤ u3) (hu2 : u2 ≤ 12000) (hu3 : u3 ≤ 200000) : wJ (pe_GA xs) wY0 M (d + 8) t_M_doesMember ((pe_at t_M_doesMember.bl 0).getD (0, [])).2 [(0, (2, 237)), (1, (0, m))] [] S (fun o Z => (100000 < tn + 2 ∧ o = .inr 238 ∧ hZ 99 S = Z) ∨ (tn + 2 ≤ 100000 ∧ ∃ B : wS, spR NN S B ∧ (((12000 ≤ u2 ∨ 200000 < u3 + (NN.length : Int)) ∧ o = .inr 238 ∧ hZ 99 B = Z) ∨ (u2 < 12000 ∧ u3 + (NN.length : Int) ≤ 200000 ∧ o = .inl none ∧ ∃ C : wS, mtA (NN.length : Int) m2 bt u2 u3 B C ∧ trZ 3 (4000 + m2) tn m en C = Z)))) := by
  have h13 : S 237 13 = 241 := hK.1
  have h400 := hw.1
  have hn6 := hK.2.2.2.2.2.1
  have uuM := KR_m hK (m := m) (by omega) (by omega)
  have uuW := hw.2.2.2 m (by omega) (by omega)
  have uu1 : S 253 m = (hmR ms m).2.1 := uuM.1.2.1
  have uu2 : S 254 m = (hmR ms m).2.2.1 := uuM.1.2.2.1
  have uu3 : S 255 m = (hmR ms m).2.2.2.1 := uuM.1.2.2.2.1
  have uu4 : S 256 m = ((hmR ms m).2.2.2.2.1.length : Int) := uuM.2.1.1
  have uu5 : S 257 m = (hmR ms m).2.2.2.2.2.1 := uuM.2.1.2.1
  have uuf : S 259 m = (hmR ms m).2.2.2.2.2.2.1 := uuM.1.2.2.2.2.1
  have uut : S 260 m = (hmR ms m).2.2.2.2.2.2.2 := uuM.1.2.2.2.2.2
  have uuq := uuW.1.2.1
  have uus := uuW.1.2.2.1
  have uuy := uuW.1.2.2.2
  have uuv := uuW.2.1
  have uul := uuW.2.2.1
  have uuft := hK.2.2.2.2.2.2.1 m (by omega) (by omega)
  have hNl : (NN.length : Int) = (hmR ms m).2.2.2.2.2.2.2 - (hmR ms m).2.2.2.2.2.2.1 := by rw [hNN]; exact nmR_l (by omega)
  have hNs : ∀ i : Nat, i < NN.length → S 242 ((hmR ms m).2.2.2.2.2.2.1 + (i : Int)) = NN.getD i 0 := fun i hi => by rw [hNN] at hi ⊢; rw [nmR_s hi]; exact hK.2.2.2.2.1 _ (by omega) (by rw [← hNN] at hi; omega)
  refine wa_aload_n (n := 0) rfl ?_
  refine wa_aload_n (n := 0) rfl ?_
  refine wb_gfi 237 rfl (wy_pr rfl) wt_237 wf_15_106 (v := tn) (h106) (fun r1 => ?_)
  refine wa_iconst ?_
  refine wa_iadd ?_
  refine wb_ki (n := 100000) rfl ?_
  refine wa_icmpgt (w_rg0 (by omega) (by omega)) (w_rg0 (by omega) (by omega)) ⟨_, rfl⟩ (fun c2 => ?_) (fun c2 => ?_)
  · skip
    refine wa_iconst ?_
    refine wa_fall ⟨_, rfl⟩ ?_
    refine wa_cv 237 rfl (wy_pr rfl) wt_237 (M2 := fun _ => False) rfl at_M_room ⟨_, rfl⟩ rfl rfl ⟨(Or.inr ⟨wy_pr rfl, fun q => q⟩), trivial, trivial⟩ trivial (fun _ _ q => False.elim q) ?_ (fun _ _ _ q => q)
    refine wa_iload_n (n := 1) rfl ?_
    refine wa_ifne (w_rg0 (by omega) (by omega)) ⟨_, rfl⟩ (fun c3 => ?_) (fun c3 => ?_)
    · skip
      exact absurd c3 (by omega)
    · skip
      refine wa_aload_n (n := 0) rfl ?_
      refine wb_gf4 237 rfl (wy_pr rfl) wt_237 wf_15_1 (v := 238) wl_237_1 ?_
      refine wa_bipush (w_rg2 (by omega) (by omega)) ?_
      refine wa_iconst ?_
      refine wa_cv 238 rfl (wy_pr rfl) wt_238 (M2 := fun _ => False) rfl at_MH_of ⟨_, rfl⟩ rfl rfl ⟨(Or.inr ⟨wy_pr rfl, fun q => q⟩), trivial, trivial⟩ trivial (fun _ _ q => False.elim q) ?_ (fun _ _ _ q => q)
      refine wa_aload_n (n := 0) rfl ?_
      refine wa_iload_n (n := 1) rfl ?_
      refine wb_pfi 238 rfl (wy_pr rfl) wt_238 wf_11_5 (n := 5) rfl ⟨(by omega), (by omega)⟩ ?_
      refine wa_aload_n (n := 0) rfl ?_
      refine wa_iload_n (n := 2) rfl ?_
      refine wb_pfi 238 rfl (wy_pr rfl) wt_238 wf_11_6 (n := 6) rfl ⟨(by omega), (by omega)⟩ ?_
      refine wa_aload_n (n := 0) rfl ?_
      refine wa_oreturn rfl ?_
      show wJ _ _ _ _ _ _ _ _ _ _
      refine wa_th (j := 238) ?_
      refine ⟨rfl, ?_⟩
      exact Or.inl ⟨by omega, rfl, rfl⟩
  · skip
    refine wa_iconst ?_
    refine wa_goto ⟨_, rfl⟩ ?_
    refine wa_cv 237 rfl (wy_pr rfl) wt_237 (M2 := fun _ => False) rfl at_M_room ⟨_, rfl⟩ rfl rfl ⟨(Or.inr ⟨wy_pr rfl, fun q => q⟩), trivial, trivial⟩ trivial (fun _ _ q => False.elim q) ?_ (fun _ _ _ q => q)
    refine wa_iload_n (n := 1) rfl ?_
    refine wa_ifne (w_rg0 (by omega) (by omega)) ⟨_, rfl⟩ (fun c4 => ?_) (fun c4 => ?_)
    · skip
      refine wa_return rfl ?_
      show wJ _ _ _ _ _ _ _ _ _ _
      refine wa_aload_n (n := 0) rfl ?_
      refine wb_gf5 237 rfl (wy_pr rfl) wt_237 wf_15_13 (v := 241) (h13) (fun r5 => ?_)
      refine wb_gf4 241 rfl (wy_pr rfl) wt_241 wf_12_13 (v := 253) wl_241_13 ?_
      refine wa_iload_n (n := 1) rfl ?_
      refine wb_iald 253 rfl (wy_pr rfl) wt_253 (n := 400) ((ml_253 hM)) (by omega) (by omega) (v := (hmR ms m).2.1) (uu1) (fun r6 => ?_)
      refine wa_iconst ?_
      refine wa_icmpne (w_rg0 (by omega) (by omega)) (w_rg0 (by omega) (by omega)) ⟨_, rfl⟩ (fun c7 => ?_) (fun c7 => ?_)
      · skip
        refine wa_aload_n (n := 0) rfl ?_
        refine wa_iload_n (n := 1) rfl ?_
        refine wa_cv 237 rfl (wy_pr rfl) wt_237 (M2 := fun _ => False) rfl at_M_fieldFor ⟨_, rfl⟩ rfl rfl ⟨(Or.inr ⟨wy_pr rfl, fun q => q⟩), trivial, trivial⟩ trivial (fun _ _ q => False.elim q) (wJ_mono (rff_241 (m := m) hX hM hK hw hm) (fun o Z hz => (⟨by rw [← hf]; exact hz.1, hz.2⟩ : o = .inl (some (0, (-1))) ∧ ∀ (j : Nat) (x : Int), ¬ wtM j x → Z j x = S j x))) (fun oq8 Sq8 hp9 q8 => ?_)
        rcases q8 with ⟨rfl, hw1⟩
        show wJ _ _ _ _ _ _ _ _ _ _
        refine wa_istore_n (n := 2) rfl ?_
        refine wa_iload_n (n := 2) rfl ?_
        refine wa_ifge (w_rg0 (by omega) (by omega)) ⟨_, rfl⟩ (fun c10 => ?_) (fun c10 => ?_)
        · skip
          exact absurd c10 (by omega)
        · skip
          refine wa_aload_n (n := 0) rfl ?_
          refine wb_gf5 237 rfl (wy_pr rfl) wt_237 wf_15_13 (v := 241) (((hw1 237 13 (by unfold wtM; omega)).trans (h13))) (fun r11 => ?_)
          refine wb_gf4 241 rfl (wy_pr rfl) wt_241 wf_12_15 (v := 255) wl_241_15 ?_
          refine wa_iload_n (n := 1) rfl ?_
          refine wb_iald 255 rfl (wy_pr rfl) wt_255 (n := 400) (((hw1 255 (-1) (by unfold wtM; omega)).trans ((ml_255 hM)))) (by omega) (by omega) (v := (hmR ms m).2.2.2.1) (((hw1 255 m (by unfold wtM; omega)).trans (uu3))) (fun r12 => ?_)
          refine wa_bipush (w_rg2 (by omega) (by omega)) ?_
          refine wa_icmpne (w_rg0 (by omega) (by omega)) (w_rg0 (by omega) (by omega)) ⟨_, rfl⟩ (fun c13 => ?_) (fun c13 => ?_)
          · skip
            exfalso; omega
          · skip
            refine wa_aload_n (n := 0) rfl ?_
            refine wa_iconst ?_
            refine wb_pfi 237 rfl (wy_pr rfl) wt_237 wf_15_113 (n := 113) rfl ⟨(by omega), (by omega)⟩ ?_
            refine wa_aload_n (n := 0) rfl ?_
            refine wb_gf5 237 rfl (wy_pr rfl) wt_237 wf_15_13 (v := 241) ((w_up_at (by decide)).trans (((hw1 237 13 (by unfold wtM; omega)).trans (h13)))) (fun r14 => ?_)
            refine wb_gf4 241 rfl (wy_pr rfl) wt_241 wf_12_19 (v := 259) wl_241_19 ?_
            refine wa_iload_n (n := 1) rfl ?_
            refine wb_iald 259 rfl (wy_pr rfl) wt_259 (n := 400) ((w_up_slot (by decide)).trans (((hw1 259 (-1) (by unfold wtM; omega)).trans ((ml_259 hM))))) (by omega) (by omega) (v := (hmR ms m).2.2.2.2.2.2.1) ((w_up_slot (by decide)).trans (((hw1 259 m (by unfold wtM; omega)).trans (uuf)))) (fun r15 => ?_)
            refine wa_istore_n (n := 3) rfl ?_
            refine wa_fall ⟨_, rfl⟩ ?_
            refine wJ_S (rdl_241 (f := -1) hX hM hK hw hm hNN (fun B hB => ?_) NN.length 0 (w_up Sq8 237 113 0) (by omega) (w_up_same _ _ _ _) (fun q hq => absurd hq (Nat.not_lt_zero _)) (fun j x hj => (w_up_no (fun z => hj (Or.inr (Or.inr z)))).trans (hw1 j x (fun z => hj (Or.inl z))))) ⟨rfl, rfl, rfl, by show some (0, (hmR ms m).2.2.2.2.2.2.1) = some (0, (hmR ms m).2.2.2.2.2.2.1 + ((0 : Nat) : Int)); rw [show (hmR ms m).2.2.2.2.2.2.1 + ((0 : Nat) : Int) = (hmR ms m).2.2.2.2.2.2.1 by omega], trivial⟩
            have hfb := hB.2.2
            have hMB : w_ML B := spR_ML hM hfb
            have b102 : B 237 102 = m2 := (hfb 237 102 (by unfold txM wtM; omega)).trans h102
            have b103 : B 237 103 = bt := (hfb 237 103 (by unfold txM wtM; omega)).trans h103
            have b64 : B 237 64 = u2 := (hfb 237 64 (by unfold txM wtM; omega)).trans h64
            have b65 : B 237 65 = u3 := (hfb 237 65 (by unfold txM wtM; omega)).trans h65
            refine wa_aload_n (n := 0) rfl ?_
            refine wa_iconst ?_
            refine wa_aload_n (n := 0) rfl ?_
            refine wa_cv 237 rfl (wy_pr rfl) wt_237 (M2 := fun _ => False) rfl at_M_madeText ⟨_, rfl⟩ rfl rfl ⟨(Or.inr ⟨wy_pr rfl, fun q => q⟩), trivial, trivial, trivial⟩ ⟨trivial, (Or.inr ⟨wy_pr rfl, fun q => q⟩), trivial⟩ (fun _ _ q => False.elim q) (mt_ok (n := (NN.length : Int)) hMB b102 b103 b64 b65 hm2 hbt hu2 hu3 ⟨by omega, by omega⟩ hB.1 (by omega)) (fun oq101 Sq101 hp102 q101 => ?_)
            rcases q101 with ⟨hno, rfl, rfl⟩ | ⟨hy1, hy2, rfl, hmt⟩
            · skip
              refine ⟨rfl, ?_⟩
              exact Or.inr ⟨by omega, B, hB, Or.inl ⟨hno, rfl, rfl⟩⟩
            · skip
              show wJ _ _ _ _ _ _ _ _ _ _
              have hMC := hmt.2.2.2.2
              refine wa_i2l (w_rg0 (by omega) (by omega)) ?_
              refine wa_cv 237 rfl (wy_pr rfl) wt_237 (M2 := fun _ => False) rfl at_M_is ⟨_, rfl⟩ rfl rfl ⟨(Or.inr ⟨wy_pr rfl, fun q => q⟩), trivial, trivial, trivial⟩ trivial (fun _ _ q => False.elim q) ?_ (fun _ _ _ q => q)
              refine wa_aload_n (n := 0) rfl ?_
              refine wa_iload_n (n := 1) rfl ?_
              refine wb_pfi 237 rfl (wy_pr rfl) wt_237 wf_15_110 (n := 110) rfl ⟨(by omega), (by omega)⟩ ?_
              refine wa_aload_n (n := 0) rfl ?_
              refine wa_lload_n (n := 2) rfl ?_
              refine wb_pfl 237 rfl (wy_pr rfl) wt_237 wf_15_111 (n := 111) rfl ⟨(by omega), (by omega)⟩ ?_
              refine wa_return rfl ?_
              show wJ _ _ _ _ _ _ _ _ _ _
              refine wa_aload_n (n := 0) rfl ?_
              refine wa_iload_n (n := 1) rfl ?_
              refine wa_cv 237 rfl (wy_pr rfl) wt_237 (M2 := fun _ => False) rfl at_M_traces ⟨_, rfl⟩ rfl rfl ⟨(Or.inr ⟨wy_pr rfl, fun q => q⟩), trivial, trivial, trivial⟩ trivial (fun _ _ q => False.elim q) (rtc (S := (w_up (w_up Sq101 237 110 3) 237 111 (4000 + m2))) (m := m) (tn := tn) (en := en) (ML_w (P := isM) hMC (fun j x hj => (w_up_no (fun z => hj ⟨z.1, Or.inr z.2⟩)).trans (w_up_no (fun z => hj ⟨z.1, Or.inl z.2⟩))) (fun j z => by unfold isM at z; omega)) ((w_up_at (by decide)).trans ((w_up_at (by decide)).trans ((hmt.2.2.2.1 237 106 (by omega) (by omega) (by omega)).trans ((hfb 237 106 (by unfold txM wtM; omega)).trans h106)))) ((w_up_at (by decide)).trans ((w_up_at (by decide)).trans ((hmt.2.2.2.1 237 176 (by omega) (by omega) (by omega)).trans ((hfb 237 176 (by unfold txM wtM; omega)).trans h76)))) ⟨by omega, by omega⟩ ⟨by omega, by omega⟩ ⟨by omega, by omega⟩) (fun oq103 Sq103 hp104 q103 => ?_)
              rcases q103 with ⟨rfl, rfl⟩
              show wJ _ _ _ _ _ _ _ _ _ _
              refine wa_return rfl ?_
              exact Or.inr ⟨by omega, B, hB, Or.inr ⟨hy1, hy2, rfl, _, hmt, rfl⟩⟩
      · skip
        exfalso; omega
    · skip
      exact absurd c4 (by omega)
theorem rdl_261 {m f : Int} (hX : w_X xs) (hM : w_ML S) (hK : KR 261 T n cs ms S) (hw : wHo cs ms os) (hm : 0 ≤ m ∧ m < (ms.length : Int)) (hNN : NN = nmR T (hmR ms m)) (hk : ∀ B : wS, spR NN S B → wJ (pe_GA xs) wY0 M (d + 8) t_M_doesMember ((pe_at t_M_doesMember.bl 5).getD (0, [])).2 [(0, (2, 237)), (1, (0, m)), (2, (0, f))] [] B Q) : ∀ (g i : Nat) (A : wS), i + g = NN.length → A 237 113 = (i : Int) → (∀ q : Nat, q < i → A 345 (q : Int) = NN.getD q 0) → (∀ (j : Nat) (x : Int), ¬ txM j x → A j x = S j x) → wJ (pe_GA xs) wY0 M (d + 8) t_M_doesMember ((pe_at t_M_doesMember.bl 4).getD (0, [])).2 [(0, (2, 237)), (1, (0, m)), (2, (0, f)), (3, (0, (hmR ms m).2.2.2.2.2.2.1 + (i : Int)))] [] A Q := by
  have h13 : S 237 13 = 261 := hK.1
  have h400 := hw.1
  have hn6 := hK.2.2.2.2.2.1
  have uuM := KR_m hK (m := m) (by omega) (by omega)
  have uuW := hw.2.2.2 m (by omega) (by omega)
  have uu1 : S 273 m = (hmR ms m).2.1 := uuM.1.2.1
  have uu2 : S 274 m = (hmR ms m).2.2.1 := uuM.1.2.2.1
  have uu3 : S 275 m = (hmR ms m).2.2.2.1 := uuM.1.2.2.2.1
  have uu4 : S 276 m = ((hmR ms m).2.2.2.2.1.length : Int) := uuM.2.1.1
  have uu5 : S 277 m = (hmR ms m).2.2.2.2.2.1 := uuM.2.1.2.1
  have uuf : S 279 m = (hmR ms m).2.2.2.2.2.2.1 := uuM.1.2.2.2.2.1
  have uut : S 280 m = (hmR ms m).2.2.2.2.2.2.2 := uuM.1.2.2.2.2.2
  have uuq := uuW.1.2.1
  have uus := uuW.1.2.2.1
  have uuy := uuW.1.2.2.2
  have uuv := uuW.2.1
  have uul := uuW.2.2.1
  have uuft := hK.2.2.2.2.2.2.1 m (by omega) (by omega)
  have hNl : (NN.length : Int) = (hmR ms m).2.2.2.2.2.2.2 - (hmR ms m).2.2.2.2.2.2.1 := by rw [hNN]; exact nmR_l (by omega)
  have hNs : ∀ i : Nat, i < NN.length → S 262 ((hmR ms m).2.2.2.2.2.2.1 + (i : Int)) = NN.getD i 0 := fun i hi => by rw [hNN] at hi ⊢; rw [nmR_s hi]; exact hK.2.2.2.2.1 _ (by omega) (by rw [← hNN] at hi; omega)
  intro g
  induction g with
  | zero =>
    intro i A hi h113 hq hfr
    have hMA : w_ML A := spR_ML hM hfr
    have hKA : KR 261 T n cs ms A := spR_KR hK hfr (by omega)
    have h13A : A 237 13 = 261 := hKA.1
    have eMA := KR_m hKA (m := m) (by omega) (by omega)
    have efA : A 279 m = (hmR ms m).2.2.2.2.2.2.1 := eMA.1.2.2.2.2.1
    have etA : A 280 m = (hmR ms m).2.2.2.2.2.2.2 := eMA.1.2.2.2.2.2
    refine wa_iload_n (n := 3) rfl ?_
    refine wa_aload_n (n := 0) rfl ?_
    refine wb_gf5 237 rfl (wy_pr rfl) wt_237 wf_15_13 (v := 261) (h13A) (fun r1 => ?_)
    refine wb_gf4 261 rfl (wy_pr rfl) wt_261 wf_12_20 (v := 280) wl_261_20 ?_
    refine wa_iload_n (n := 1) rfl ?_
    refine wb_iald 280 rfl (wy_pr rfl) wt_280 (n := 400) ((ml_280 hMA)) (by omega) (by omega) (v := (hmR ms m).2.2.2.2.2.2.2) (etA) (fun r2 => ?_)
    refine wa_icmpge (w_rg0 (by omega) (by omega)) (w_rg0 (by omega) (by omega)) ⟨_, rfl⟩ (fun c3 => ?_) (fun c3 => ?_)
    · skip
      exact wJ_S (hk A ⟨h113.trans (by omega), fun q hq1 => hq q (by omega), hfr⟩) ⟨rfl, rfl, rfl, trivial⟩
    · skip
      exfalso; omega
  | succ g ih =>
    intro i A hi h113 hq hfr
    have hMA : w_ML A := spR_ML hM hfr
    have hKA : KR 261 T n cs ms A := spR_KR hK hfr (by omega)
    have h13A : A 237 13 = 261 := hKA.1
    have eMA := KR_m hKA (m := m) (by omega) (by omega)
    have efA : A 279 m = (hmR ms m).2.2.2.2.2.2.1 := eMA.1.2.2.2.2.1
    have etA : A 280 m = (hmR ms m).2.2.2.2.2.2.2 := eMA.1.2.2.2.2.2
    have hsA : A 262 ((hmR ms m).2.2.2.2.2.2.1 + (i : Int)) = NN.getD i 0 := (hfr 262 _ (by unfold txM wtM; omega)).trans (hNs i (by omega))
    refine wa_iload_n (n := 3) rfl ?_
    refine wa_aload_n (n := 0) rfl ?_
    refine wb_gf5 237 rfl (wy_pr rfl) wt_237 wf_15_13 (v := 261) (h13A) (fun r51 => ?_)
    refine wb_gf4 261 rfl (wy_pr rfl) wt_261 wf_12_20 (v := 280) wl_261_20 ?_
    refine wa_iload_n (n := 1) rfl ?_
    refine wb_iald 280 rfl (wy_pr rfl) wt_280 (n := 400) ((ml_280 hMA)) (by omega) (by omega) (v := (hmR ms m).2.2.2.2.2.2.2) (etA) (fun r52 => ?_)
    refine wa_icmpge (w_rg0 (by omega) (by omega)) (w_rg0 (by omega) (by omega)) ⟨_, rfl⟩ (fun c53 => ?_) (fun c53 => ?_)
    · skip
      exfalso; omega
    · skip
      refine wa_aload_n (n := 0) rfl ?_
      refine wb_gf4 237 rfl (wy_pr rfl) wt_237 wf_15_112 (v := 345) wl_237_112 ?_
      refine wa_aload_n (n := 0) rfl ?_
      refine wb_gfi 237 rfl (wy_pr rfl) wt_237 wf_15_113 (v := (i : Int)) (h113) (fun r54 => ?_)
      refine wa_aload_n (n := 0) rfl ?_
      refine wb_gf5 237 rfl (wy_pr rfl) wt_237 wf_15_13 (v := 261) (h13A) (fun r55 => ?_)
      refine wb_gf4 261 rfl (wy_pr rfl) wt_261 wf_12_0 (v := 262) wl_261_0 ?_
      refine wa_iload_n (n := 3) rfl ?_
      refine wb_bald 262 rfl (wy_pr rfl) wt_262 (n := 65536) ((ml_262 hMA)) (by omega) (by omega) (v := (NN.getD i 0)) (hsA) (fun r56 => ?_)
      refine wb_bast 345 rfl (wy_pr rfl) wt_345 (n := 256) ((ml_345 hMA)) (by omega) (by omega) ⟨(by omega), (by omega)⟩ ?_
      refine wa_aload_n (n := 0) rfl ?_
      refine wa_dup (by decide) ?_
      refine wb_gfi 237 rfl (wy_pr rfl) wt_237 wf_15_113 (v := (i : Int)) ((w_up_slot (by decide)).trans (h113)) (fun r57 => ?_)
      refine wa_iconst ?_
      refine wa_iadd ?_
      refine wb_pfi 237 rfl (wy_pr rfl) wt_237 wf_15_113 (n := 113) rfl ⟨(by omega), (by omega)⟩ ?_
      refine wa_iinc rfl rfl ?_
      refine wa_goto ⟨_, rfl⟩ ?_
      refine wJ_S (ih (i + 1) (w_up (w_up A 345 (i : Int) (NN.getD i 0)) 237 113 ((i : Int) + 1)) (by omega) ?_ (fun q hq1 => ?_) (fun j x hj => (w_up_no (fun z => hj (Or.inr (Or.inr z)))).trans ((w_up_no (fun z => hj (Or.inr (Or.inl ⟨z.1, by omega⟩)))).trans (hfr j x hj)))) ⟨rfl, rfl, rfl, by show some (0, (hmR ms m).2.2.2.2.2.2.1 + (i : Int) + 1) = some (0, (hmR ms m).2.2.2.2.2.2.1 + ((i + 1 : Nat) : Int)); rw [show (hmR ms m).2.2.2.2.2.2.1 + ((i + 1 : Nat) : Int) = (hmR ms m).2.2.2.2.2.2.1 + (i : Int) + 1 by omega], trivial⟩
      · exact w_up_same _ _ _ _
      · by_cases ce : q = i
        · rw [ce]; exact (w_up_slot (by first | decide | omega)).trans (w_up_same _ _ _ _)
        · exact (w_up_slot (by first | decide | omega)).trans ((w_up_at (by omega)).trans (hq q (by omega)))
theorem rdx_261 {m tn en m2 bt u2 u3 : Int} (hX : w_X xs) (hM : w_ML S) (hK : KR 261 T n cs ms S) (hw : wHo cs ms os) (hm : 0 ≤ m ∧ m < (ms.length : Int)) (hso : (hmR ms m).2.1 = 1) (h106 : S 237 106 = tn) (ht : 0 ≤ tn ∧ tn ≤ 100000) (h76 : S 237 176 = en) (hen : 0 ≤ en ∧ en ≤ 1000) (hf : ffA T cs ms m = -1) (hty : (hmR ms m).2.2.2.1 = 7) (hNN : NN = nmR T (hmR ms m)) (h102 : S 237 102 = m2) (h103 : S 237 103 = bt) (h64 : S 237 64 = u2) (h65 : S 237 65 = u3) (hm2 : 0 ≤ m2 ∧ m2 ≤ u2) (hbt : 0 ≤ bt ∧ bt ≤ u3) (hu2 : u2 ≤ 12000) (hu3 : u3 ≤ 200000) : wJ (pe_GA xs) wY0 M (d + 8) t_M_doesMember ((pe_at t_M_doesMember.bl 0).getD (0, [])).2 [(0, (2, 237)), (1, (0, m))] [] S (fun o Z => (100000 < tn + 2 ∧ o = .inr 238 ∧ hZ 99 S = Z) ∨ (tn + 2 ≤ 100000 ∧ ∃ B : wS, spR NN S B ∧ (((12000 ≤ u2 ∨ 200000 < u3 + (NN.length : Int)) ∧ o = .inr 238 ∧ hZ 99 B = Z) ∨ (u2 < 12000 ∧ u3 + (NN.length : Int) ≤ 200000 ∧ o = .inl none ∧ ∃ C : wS, mtA (NN.length : Int) m2 bt u2 u3 B C ∧ trZ 3 (4000 + m2) tn m en C = Z)))) := by
  have h13 : S 237 13 = 261 := hK.1
  have h400 := hw.1
  have hn6 := hK.2.2.2.2.2.1
  have uuM := KR_m hK (m := m) (by omega) (by omega)
  have uuW := hw.2.2.2 m (by omega) (by omega)
  have uu1 : S 273 m = (hmR ms m).2.1 := uuM.1.2.1
  have uu2 : S 274 m = (hmR ms m).2.2.1 := uuM.1.2.2.1
  have uu3 : S 275 m = (hmR ms m).2.2.2.1 := uuM.1.2.2.2.1
  have uu4 : S 276 m = ((hmR ms m).2.2.2.2.1.length : Int) := uuM.2.1.1
  have uu5 : S 277 m = (hmR ms m).2.2.2.2.2.1 := uuM.2.1.2.1
  have uuf : S 279 m = (hmR ms m).2.2.2.2.2.2.1 := uuM.1.2.2.2.2.1
  have uut : S 280 m = (hmR ms m).2.2.2.2.2.2.2 := uuM.1.2.2.2.2.2
  have uuq := uuW.1.2.1
  have uus := uuW.1.2.2.1
  have uuy := uuW.1.2.2.2
  have uuv := uuW.2.1
  have uul := uuW.2.2.1
  have uuft := hK.2.2.2.2.2.2.1 m (by omega) (by omega)
  have hNl : (NN.length : Int) = (hmR ms m).2.2.2.2.2.2.2 - (hmR ms m).2.2.2.2.2.2.1 := by rw [hNN]; exact nmR_l (by omega)
  have hNs : ∀ i : Nat, i < NN.length → S 262 ((hmR ms m).2.2.2.2.2.2.1 + (i : Int)) = NN.getD i 0 := fun i hi => by rw [hNN] at hi ⊢; rw [nmR_s hi]; exact hK.2.2.2.2.1 _ (by omega) (by rw [← hNN] at hi; omega)
  refine wa_aload_n (n := 0) rfl ?_
  refine wa_aload_n (n := 0) rfl ?_
  refine wb_gfi 237 rfl (wy_pr rfl) wt_237 wf_15_106 (v := tn) (h106) (fun r1 => ?_)
  refine wa_iconst ?_
  refine wa_iadd ?_
  refine wb_ki (n := 100000) rfl ?_
  refine wa_icmpgt (w_rg0 (by omega) (by omega)) (w_rg0 (by omega) (by omega)) ⟨_, rfl⟩ (fun c2 => ?_) (fun c2 => ?_)
  · skip
    refine wa_iconst ?_
    refine wa_fall ⟨_, rfl⟩ ?_
    refine wa_cv 237 rfl (wy_pr rfl) wt_237 (M2 := fun _ => False) rfl at_M_room ⟨_, rfl⟩ rfl rfl ⟨(Or.inr ⟨wy_pr rfl, fun q => q⟩), trivial, trivial⟩ trivial (fun _ _ q => False.elim q) ?_ (fun _ _ _ q => q)
    refine wa_iload_n (n := 1) rfl ?_
    refine wa_ifne (w_rg0 (by omega) (by omega)) ⟨_, rfl⟩ (fun c3 => ?_) (fun c3 => ?_)
    · skip
      exact absurd c3 (by omega)
    · skip
      refine wa_aload_n (n := 0) rfl ?_
      refine wb_gf4 237 rfl (wy_pr rfl) wt_237 wf_15_1 (v := 238) wl_237_1 ?_
      refine wa_bipush (w_rg2 (by omega) (by omega)) ?_
      refine wa_iconst ?_
      refine wa_cv 238 rfl (wy_pr rfl) wt_238 (M2 := fun _ => False) rfl at_MH_of ⟨_, rfl⟩ rfl rfl ⟨(Or.inr ⟨wy_pr rfl, fun q => q⟩), trivial, trivial⟩ trivial (fun _ _ q => False.elim q) ?_ (fun _ _ _ q => q)
      refine wa_aload_n (n := 0) rfl ?_
      refine wa_iload_n (n := 1) rfl ?_
      refine wb_pfi 238 rfl (wy_pr rfl) wt_238 wf_11_5 (n := 5) rfl ⟨(by omega), (by omega)⟩ ?_
      refine wa_aload_n (n := 0) rfl ?_
      refine wa_iload_n (n := 2) rfl ?_
      refine wb_pfi 238 rfl (wy_pr rfl) wt_238 wf_11_6 (n := 6) rfl ⟨(by omega), (by omega)⟩ ?_
      refine wa_aload_n (n := 0) rfl ?_
      refine wa_oreturn rfl ?_
      show wJ _ _ _ _ _ _ _ _ _ _
      refine wa_th (j := 238) ?_
      refine ⟨rfl, ?_⟩
      exact Or.inl ⟨by omega, rfl, rfl⟩
  · skip
    refine wa_iconst ?_
    refine wa_goto ⟨_, rfl⟩ ?_
    refine wa_cv 237 rfl (wy_pr rfl) wt_237 (M2 := fun _ => False) rfl at_M_room ⟨_, rfl⟩ rfl rfl ⟨(Or.inr ⟨wy_pr rfl, fun q => q⟩), trivial, trivial⟩ trivial (fun _ _ q => False.elim q) ?_ (fun _ _ _ q => q)
    refine wa_iload_n (n := 1) rfl ?_
    refine wa_ifne (w_rg0 (by omega) (by omega)) ⟨_, rfl⟩ (fun c4 => ?_) (fun c4 => ?_)
    · skip
      refine wa_return rfl ?_
      show wJ _ _ _ _ _ _ _ _ _ _
      refine wa_aload_n (n := 0) rfl ?_
      refine wb_gf5 237 rfl (wy_pr rfl) wt_237 wf_15_13 (v := 261) (h13) (fun r5 => ?_)
      refine wb_gf4 261 rfl (wy_pr rfl) wt_261 wf_12_13 (v := 273) wl_261_13 ?_
      refine wa_iload_n (n := 1) rfl ?_
      refine wb_iald 273 rfl (wy_pr rfl) wt_273 (n := 400) ((ml_273 hM)) (by omega) (by omega) (v := (hmR ms m).2.1) (uu1) (fun r6 => ?_)
      refine wa_iconst ?_
      refine wa_icmpne (w_rg0 (by omega) (by omega)) (w_rg0 (by omega) (by omega)) ⟨_, rfl⟩ (fun c7 => ?_) (fun c7 => ?_)
      · skip
        refine wa_aload_n (n := 0) rfl ?_
        refine wa_iload_n (n := 1) rfl ?_
        refine wa_cv 237 rfl (wy_pr rfl) wt_237 (M2 := fun _ => False) rfl at_M_fieldFor ⟨_, rfl⟩ rfl rfl ⟨(Or.inr ⟨wy_pr rfl, fun q => q⟩), trivial, trivial⟩ trivial (fun _ _ q => False.elim q) (wJ_mono (rff_261 (m := m) hX hM hK hw hm) (fun o Z hz => (⟨by rw [← hf]; exact hz.1, hz.2⟩ : o = .inl (some (0, (-1))) ∧ ∀ (j : Nat) (x : Int), ¬ wtM j x → Z j x = S j x))) (fun oq8 Sq8 hp9 q8 => ?_)
        rcases q8 with ⟨rfl, hw1⟩
        show wJ _ _ _ _ _ _ _ _ _ _
        refine wa_istore_n (n := 2) rfl ?_
        refine wa_iload_n (n := 2) rfl ?_
        refine wa_ifge (w_rg0 (by omega) (by omega)) ⟨_, rfl⟩ (fun c10 => ?_) (fun c10 => ?_)
        · skip
          exact absurd c10 (by omega)
        · skip
          refine wa_aload_n (n := 0) rfl ?_
          refine wb_gf5 237 rfl (wy_pr rfl) wt_237 wf_15_13 (v := 261) (((hw1 237 13 (by unfold wtM; omega)).trans (h13))) (fun r11 => ?_)
          refine wb_gf4 261 rfl (wy_pr rfl) wt_261 wf_12_15 (v := 275) wl_261_15 ?_
          refine wa_iload_n (n := 1) rfl ?_
          refine wb_iald 275 rfl (wy_pr rfl) wt_275 (n := 400) (((hw1 275 (-1) (by unfold wtM; omega)).trans ((ml_275 hM)))) (by omega) (by omega) (v := (hmR ms m).2.2.2.1) (((hw1 275 m (by unfold wtM; omega)).trans (uu3))) (fun r12 => ?_)
          refine wa_bipush (w_rg2 (by omega) (by omega)) ?_
          refine wa_icmpne (w_rg0 (by omega) (by omega)) (w_rg0 (by omega) (by omega)) ⟨_, rfl⟩ (fun c13 => ?_) (fun c13 => ?_)
          · skip
            exfalso; omega
          · skip
            refine wa_aload_n (n := 0) rfl ?_
            refine wa_iconst ?_
            refine wb_pfi 237 rfl (wy_pr rfl) wt_237 wf_15_113 (n := 113) rfl ⟨(by omega), (by omega)⟩ ?_
            refine wa_aload_n (n := 0) rfl ?_
            refine wb_gf5 237 rfl (wy_pr rfl) wt_237 wf_15_13 (v := 261) ((w_up_at (by decide)).trans (((hw1 237 13 (by unfold wtM; omega)).trans (h13)))) (fun r14 => ?_)
            refine wb_gf4 261 rfl (wy_pr rfl) wt_261 wf_12_19 (v := 279) wl_261_19 ?_
            refine wa_iload_n (n := 1) rfl ?_
            refine wb_iald 279 rfl (wy_pr rfl) wt_279 (n := 400) ((w_up_slot (by decide)).trans (((hw1 279 (-1) (by unfold wtM; omega)).trans ((ml_279 hM))))) (by omega) (by omega) (v := (hmR ms m).2.2.2.2.2.2.1) ((w_up_slot (by decide)).trans (((hw1 279 m (by unfold wtM; omega)).trans (uuf)))) (fun r15 => ?_)
            refine wa_istore_n (n := 3) rfl ?_
            refine wa_fall ⟨_, rfl⟩ ?_
            refine wJ_S (rdl_261 (f := -1) hX hM hK hw hm hNN (fun B hB => ?_) NN.length 0 (w_up Sq8 237 113 0) (by omega) (w_up_same _ _ _ _) (fun q hq => absurd hq (Nat.not_lt_zero _)) (fun j x hj => (w_up_no (fun z => hj (Or.inr (Or.inr z)))).trans (hw1 j x (fun z => hj (Or.inl z))))) ⟨rfl, rfl, rfl, by show some (0, (hmR ms m).2.2.2.2.2.2.1) = some (0, (hmR ms m).2.2.2.2.2.2.1 + ((0 : Nat) : Int)); rw [show (hmR ms m).2.2.2.2.2.2.1 + ((0 : Nat) : Int) = (hmR ms m).2.2.2.2.2.2.1 by omega], trivial⟩
            have hfb := hB.2.2
            have hMB : w_ML B := spR_ML hM hfb
            have b102 : B 237 102 = m2 := (hfb 237 102 (by unfold txM wtM; omega)).trans h102
            have b103 : B 237 103 = bt := (hfb 237 103 (by unfold txM wtM; omega)).trans h103
            have b64 : B 237 64 = u2 := (hfb 237 64 (by unfold txM wtM; omega)).trans h64
            have b65 : B 237 65 = u3 := (hfb 237 65 (by unfold txM wtM; omega)).trans h65
            refine wa_aload_n (n := 0) rfl ?_
            refine wa_iconst ?_
            refine wa_aload_n (n := 0) rfl ?_
            refine wa_cv 237 rfl (wy_pr rfl) wt_237 (M2 := fun _ => False) rfl at_M_madeText ⟨_, rfl⟩ rfl rfl ⟨(Or.inr ⟨wy_pr rfl, fun q => q⟩), trivial, trivial, trivial⟩ ⟨trivial, (Or.inr ⟨wy_pr rfl, fun q => q⟩), trivial⟩ (fun _ _ q => False.elim q) (mt_ok (n := (NN.length : Int)) hMB b102 b103 b64 b65 hm2 hbt hu2 hu3 ⟨by omega, by omega⟩ hB.1 (by omega)) (fun oq101 Sq101 hp102 q101 => ?_)
            rcases q101 with ⟨hno, rfl, rfl⟩ | ⟨hy1, hy2, rfl, hmt⟩
            · skip
              refine ⟨rfl, ?_⟩
              exact Or.inr ⟨by omega, B, hB, Or.inl ⟨hno, rfl, rfl⟩⟩
            · skip
              show wJ _ _ _ _ _ _ _ _ _ _
              have hMC := hmt.2.2.2.2
              refine wa_i2l (w_rg0 (by omega) (by omega)) ?_
              refine wa_cv 237 rfl (wy_pr rfl) wt_237 (M2 := fun _ => False) rfl at_M_is ⟨_, rfl⟩ rfl rfl ⟨(Or.inr ⟨wy_pr rfl, fun q => q⟩), trivial, trivial, trivial⟩ trivial (fun _ _ q => False.elim q) ?_ (fun _ _ _ q => q)
              refine wa_aload_n (n := 0) rfl ?_
              refine wa_iload_n (n := 1) rfl ?_
              refine wb_pfi 237 rfl (wy_pr rfl) wt_237 wf_15_110 (n := 110) rfl ⟨(by omega), (by omega)⟩ ?_
              refine wa_aload_n (n := 0) rfl ?_
              refine wa_lload_n (n := 2) rfl ?_
              refine wb_pfl 237 rfl (wy_pr rfl) wt_237 wf_15_111 (n := 111) rfl ⟨(by omega), (by omega)⟩ ?_
              refine wa_return rfl ?_
              show wJ _ _ _ _ _ _ _ _ _ _
              refine wa_aload_n (n := 0) rfl ?_
              refine wa_iload_n (n := 1) rfl ?_
              refine wa_cv 237 rfl (wy_pr rfl) wt_237 (M2 := fun _ => False) rfl at_M_traces ⟨_, rfl⟩ rfl rfl ⟨(Or.inr ⟨wy_pr rfl, fun q => q⟩), trivial, trivial, trivial⟩ trivial (fun _ _ q => False.elim q) (rtc (S := (w_up (w_up Sq101 237 110 3) 237 111 (4000 + m2))) (m := m) (tn := tn) (en := en) (ML_w (P := isM) hMC (fun j x hj => (w_up_no (fun z => hj ⟨z.1, Or.inr z.2⟩)).trans (w_up_no (fun z => hj ⟨z.1, Or.inl z.2⟩))) (fun j z => by unfold isM at z; omega)) ((w_up_at (by decide)).trans ((w_up_at (by decide)).trans ((hmt.2.2.2.1 237 106 (by omega) (by omega) (by omega)).trans ((hfb 237 106 (by unfold txM wtM; omega)).trans h106)))) ((w_up_at (by decide)).trans ((w_up_at (by decide)).trans ((hmt.2.2.2.1 237 176 (by omega) (by omega) (by omega)).trans ((hfb 237 176 (by unfold txM wtM; omega)).trans h76)))) ⟨by omega, by omega⟩ ⟨by omega, by omega⟩ ⟨by omega, by omega⟩) (fun oq103 Sq103 hp104 q103 => ?_)
              rcases q103 with ⟨rfl, rfl⟩
              show wJ _ _ _ _ _ _ _ _ _ _
              refine wa_return rfl ?_
              exact Or.inr ⟨by omega, B, hB, Or.inr ⟨hy1, hy2, rfl, _, hmt, rfl⟩⟩
      · skip
        exfalso; omega
    · skip
      exact absurd c4 (by omega)
end Wi1
