/-! PART i0: the reference: doesMember of methods. -/
section Wi0
variable {xs : List (Nat × List Int32)} {M : Nat → Prop} {d : Nat} {S Z A : wS} {T : Int → Int} {n : Int} {cs : List hCR} {ms : List hMR} {os : Int → List Int} {Q : wO → wS → Prop} {l : List Int}
/-- a member has been traced (and its field looked for) -/
def dtM (tn : Int) (j : Nat) (x : Int) : Prop := wtM j x ∨ (j = 237 ∧ x = 106) ∨ (j = 343 ∧ (x = tn ∨ x = tn + 1))
def dtR (tn m en : Int) (S B : wS) : Prop := (B 237 106 = tn + 2 ∧ B 343 tn = m ∧ B 343 (tn + 1) = en) ∧ ∀ (j : Nat) (x : Int), ¬ dtM tn j x → B j x = S j x
theorem dtR_mk {tn m en : Int} (h : ∀ (j : Nat) (x : Int), ¬ wtM j x → A j x = S j x) : dtR tn m en S (w_up (w_up (w_up A 343 tn m) 343 (tn + 1) en) 237 106 (tn + 2)) := by
  refine ⟨⟨w_up_same _ _ _ _, (w_up_slot (by first | decide | omega)).trans ((w_up_at (by omega)).trans (w_up_same _ _ _ _)), (w_up_slot (by first | decide | omega)).trans (w_up_same _ _ _ _)⟩, fun j x hj => ?_⟩
  exact (w_up_no (fun z => hj (Or.inr (Or.inl z)))).trans ((w_up_no (fun z => hj (Or.inr (Or.inr ⟨z.1, Or.inr z.2⟩)))).trans ((w_up_no (fun z => hj (Or.inr (Or.inr ⟨z.1, Or.inl z.2⟩)))).trans (h j x (fun z => hj (Or.inl z)))))
theorem dtR_ML {tn m en : Int} (hM : w_ML S) (h : dtR tn m en S A) (ht : 0 ≤ tn) : w_ML A := ML_w hM h.2 (fun j z => by unfold dtM wtM at z; omega)
theorem dtR_KR {b : Nat} {tn m en : Int} (hK : KR b T n cs ms S) (h : dtR tn m en S A) (hb : b = 241 ∨ b = 261) : KR b T n cs ms A := KR_ag hK (fun j x hj => h.2 j x (by unfold dtM wtM; omega))
theorem anR_ag {ty gk gb : Int} {es : List (Int × Int)} (h : ∀ v : Int, A 321 v = S 321 v) : anR cs A ty gk gb es = anR cs S ty gk gb es := by
  unfold anR
  rw [suB_ag (h gb), show (fun e : Int × Int => suB cs A e.1 e.2 ty) = (fun e => suB cs S e.1 e.2 ty) from funext (fun e => suB_ag (h e.2))]
/-- the name of a member is being spelled -/
def txM (j : Nat) (x : Int) : Prop := wtM j x ∨ (j = 345 ∧ 0 ≤ x) ∨ (j = 237 ∧ x = 113)
def spR (NN : List Int) (S B : wS) : Prop := B 237 113 = (NN.length : Int) ∧ (∀ k : Nat, k < NN.length → B 345 (k : Int) = NN.getD k 0) ∧ ∀ (j : Nat) (x : Int), ¬ txM j x → B j x = S j x
theorem rdh_241 {m tn en f : Int} (hX : w_X xs) (hM : w_ML S) (hK : KR 241 T n cs ms S) (hw : wHo cs ms os) (hm : 0 ≤ m ∧ m < (ms.length : Int)) (hso : (hmR ms m).2.1 = 1) (h106 : S 237 106 = tn) (ht : 0 ≤ tn ∧ tn ≤ 100000) (h76 : S 237 176 = en) (hen : 0 ≤ en ∧ en ≤ 1000) (hf : ffA T cs ms m = f) (hfr : -1 ≤ f ∧ f < (ms.length : Int)) (hcs : 0 ≤ f ∨ (hmR ms m).2.2.2.1 ≠ 7) (hthr : 100000 < tn + 2 → Q (.inr 238) (hZ 99 S)) (hk : ∀ B : wS, tn + 2 ≤ 100000 → dtR tn m en S B → wJ (pe_GA xs) wY0 M (d + 8) t_M_doesMember ((((pe_at t_M_doesMember.bl 6).getD (0, [])).2).drop 3) [(0, (2, 237)), (1, (0, m)), (2, (0, f))] [] B Q) : wJ (pe_GA xs) wY0 M (d + 8) t_M_doesMember ((pe_at t_M_doesMember.bl 0).getD (0, [])).2 [(0, (2, 237)), (1, (0, m))] [] S Q := by
  have h13 : S 237 13 = 241 := hK.1
  have h400 := hw.1
  have hn6 := hK.2.2.2.2.2.1
  have uuM := KR_m hK (m := m) (by omega) (by omega)
  have uuW := hw.2.2.2 m (by omega) (by omega)
  have uu1 : S 253 m = (hmR ms m).2.1 := uuM.1.2.1
  have uu2 : S 254 m = (hmR ms m).2.2.1 := uuM.1.2.2.1
  have uu3 : S 255 m = (hmR ms m).2.2.2.1 := uuM.1.2.2.2.1
  have uu4 : S 256 m = ((hmR ms m).2.2.2.2.1.length : Int) := uuM.2.1.1
  have uu5 : S 257 m = (hmR ms m).2.2.2.2.2.1 := uuM.2.1.2.1
  have uuf : S 259 m = (hmR ms m).2.2.2.2.2.2.1 := uuM.1.2.2.2.2.1
  have uut : S 260 m = (hmR ms m).2.2.2.2.2.2.2 := uuM.1.2.2.2.2.2
  have uuq := uuW.1.2.1
  have uus := uuW.1.2.2.1
  have uuy := uuW.1.2.2.2
  have uuv := uuW.2.1
  have uul := uuW.2.2.1
  have uuft := hK.2.2.2.2.2.2.1 m (by omega) (by omega)
  refine wa_aload_n (n := 0) rfl ?_
  refine wa_aload_n (n := 0) rfl ?_
  refine wb_gfi 237 rfl (wy_pr rfl) wt_237 wf_15_106 (v := tn) (h106) (fun r1 => ?_)
  refine wa_iconst ?_
  refine wa_iadd ?_
  refine wb_ki (n := 100000) rfl ?_
  refine wa_icmpgt (w_rg0 (by omega) (by omega)) (w_rg0 (by omega) (by omega)) ⟨_, rfl⟩ (fun c2 => ?_) (fun c2 => ?_)
  · skip
    refine wa_iconst ?_
    refine wa_fall ⟨_, rfl⟩ ?_
    refine wa_cv 237 rfl (wy_pr rfl) wt_237 (M2 := fun _ => False) rfl at_M_room ⟨_, rfl⟩ rfl rfl ⟨(Or.inr ⟨wy_pr rfl, fun q => q⟩), trivial, trivial⟩ trivial (fun _ _ q => False.elim q) ?_ (fun _ _ _ q => q)
    refine wa_iload_n (n := 1) rfl ?_
    refine wa_ifne (w_rg0 (by omega) (by omega)) ⟨_, rfl⟩ (fun c3 => ?_) (fun c3 => ?_)
    · skip
      exact absurd c3 (by omega)
    · skip
      refine wa_aload_n (n := 0) rfl ?_
      refine wb_gf4 237 rfl (wy_pr rfl) wt_237 wf_15_1 (v := 238) wl_237_1 ?_
      refine wa_bipush (w_rg2 (by omega) (by omega)) ?_
      refine wa_iconst ?_
      refine wa_cv 238 rfl (wy_pr rfl) wt_238 (M2 := fun _ => False) rfl at_MH_of ⟨_, rfl⟩ rfl rfl ⟨(Or.inr ⟨wy_pr rfl, fun q => q⟩), trivial, trivial⟩ trivial (fun _ _ q => False.elim q) ?_ (fun _ _ _ q => q)
      refine wa_aload_n (n := 0) rfl ?_
      refine wa_iload_n (n := 1) rfl ?_
      refine wb_pfi 238 rfl (wy_pr rfl) wt_238 wf_11_5 (n := 5) rfl ⟨(by omega), (by omega)⟩ ?_
      refine wa_aload_n (n := 0) rfl ?_
      refine wa_iload_n (n := 2) rfl ?_
      refine wb_pfi 238 rfl (wy_pr rfl) wt_238 wf_11_6 (n := 6) rfl ⟨(by omega), (by omega)⟩ ?_
      refine wa_aload_n (n := 0) rfl ?_
      refine wa_oreturn rfl ?_
      show wJ _ _ _ _ _ _ _ _ _ _
      refine wa_th (j := 238) ?_
      refine ⟨rfl, ?_⟩
      exact hthr (by omega)
  · skip
    refine wa_iconst ?_
    refine wa_goto ⟨_, rfl⟩ ?_
    refine wa_cv 237 rfl (wy_pr rfl) wt_237 (M2 := fun _ => False) rfl at_M_room ⟨_, rfl⟩ rfl rfl ⟨(Or.inr ⟨wy_pr rfl, fun q => q⟩), trivial, trivial⟩ trivial (fun _ _ q => False.elim q) ?_ (fun _ _ _ q => q)
    refine wa_iload_n (n := 1) rfl ?_
    refine wa_ifne (w_rg0 (by omega) (by omega)) ⟨_, rfl⟩ (fun c4 => ?_) (fun c4 => ?_)
    · skip
      refine wa_return rfl ?_
      show wJ _ _ _ _ _ _ _ _ _ _
      refine wa_aload_n (n := 0) rfl ?_
      refine wb_gf5 237 rfl (wy_pr rfl) wt_237 wf_15_13 (v := 241) (h13) (fun r5 => ?_)
      refine wb_gf4 241 rfl (wy_pr rfl) wt_241 wf_12_13 (v := 253) wl_241_13 ?_
      refine wa_iload_n (n := 1) rfl ?_
      refine wb_iald 253 rfl (wy_pr rfl) wt_253 (n := 400) ((ml_253 hM)) (by omega) (by omega) (v := (hmR ms m).2.1) (uu1) (fun r6 => ?_)
      refine wa_iconst ?_
      refine wa_icmpne (w_rg0 (by omega) (by omega)) (w_rg0 (by omega) (by omega)) ⟨_, rfl⟩ (fun c7 => ?_) (fun c7 => ?_)
      · skip
        refine wa_aload_n (n := 0) rfl ?_
        refine wa_iload_n (n := 1) rfl ?_
        refine wa_cv 237 rfl (wy_pr rfl) wt_237 (M2 := fun _ => False) rfl at_M_fieldFor ⟨_, rfl⟩ rfl rfl ⟨(Or.inr ⟨wy_pr rfl, fun q => q⟩), trivial, trivial⟩ trivial (fun _ _ q => False.elim q) (wJ_mono (rff_241 (m := m) hX hM hK hw hm) (fun o Z hz => (⟨by rw [← hf]; exact hz.1, hz.2⟩ : o = .inl (some (0, f)) ∧ ∀ (j : Nat) (x : Int), ¬ wtM j x → Z j x = S j x))) (fun oq8 Sq8 hp9 q8 => ?_)
        rcases q8 with ⟨rfl, hw1⟩
        show wJ _ _ _ _ _ _ _ _ _ _
        refine wa_istore_n (n := 2) rfl ?_
        refine wa_iload_n (n := 2) rfl ?_
        refine wa_ifge (w_rg0 (by omega) (by omega)) ⟨_, rfl⟩ (fun c10 => ?_) (fun c10 => ?_)
        · skip
          refine wa_aload_n (n := 0) rfl ?_
          refine wa_iload_n (n := 1) rfl ?_
          refine wa_cv 237 rfl (wy_pr rfl) wt_237 (M2 := fun _ => False) rfl at_M_traces ⟨_, rfl⟩ rfl rfl ⟨trivial, (Or.inr ⟨wy_pr rfl, fun q => q⟩), trivial, trivial⟩ trivial (fun _ _ q => False.elim q) (rtc (S := Sq8) (m := m) (tn := tn) (en := en) (ML_w hM hw1 (fun j z => by unfold wtM at z; omega)) (((hw1 237 106 (by unfold wtM; omega)).trans (h106))) (((hw1 237 176 (by unfold wtM; omega)).trans (h76))) ⟨by omega, by omega⟩ ⟨by omega, by omega⟩ ⟨by omega, by omega⟩) (fun oq11 Sq11 hp12 q11 => ?_)
          rcases q11 with ⟨rfl, rfl⟩
          exact wJ_S (hk _ (by omega) (dtR_mk hw1)) ⟨rfl, rfl, rfl, trivial⟩
        · skip
          refine wa_aload_n (n := 0) rfl ?_
          refine wb_gf5 237 rfl (wy_pr rfl) wt_237 wf_15_13 (v := 241) (((hw1 237 13 (by unfold wtM; omega)).trans (h13))) (fun r13 => ?_)
          refine wb_gf4 241 rfl (wy_pr rfl) wt_241 wf_12_15 (v := 255) wl_241_15 ?_
          refine wa_iload_n (n := 1) rfl ?_
          refine wb_iald 255 rfl (wy_pr rfl) wt_255 (n := 400) (((hw1 255 (-1) (by unfold wtM; omega)).trans ((ml_255 hM)))) (by omega) (by omega) (v := (hmR ms m).2.2.2.1) (((hw1 255 m (by unfold wtM; omega)).trans (uu3))) (fun r14 => ?_)
          refine wa_bipush (w_rg2 (by omega) (by omega)) ?_
          refine wa_icmpne (w_rg0 (by omega) (by omega)) (w_rg0 (by omega) (by omega)) ⟨_, rfl⟩ (fun c15 => ?_) (fun c15 => ?_)
          · skip
            refine wa_aload_n (n := 0) rfl ?_
            refine wa_iload_n (n := 1) rfl ?_
            refine wa_cv 237 rfl (wy_pr rfl) wt_237 (M2 := fun _ => False) rfl at_M_traces ⟨_, rfl⟩ rfl rfl ⟨trivial, (Or.inr ⟨wy_pr rfl, fun q => q⟩), trivial, trivial⟩ trivial (fun _ _ q => False.elim q) (rtc (S := Sq8) (m := m) (tn := tn) (en := en) (ML_w hM hw1 (fun j z => by unfold wtM at z; omega)) (((hw1 237 106 (by unfold wtM; omega)).trans (h106))) (((hw1 237 176 (by unfold wtM; omega)).trans (h76))) ⟨by omega, by omega⟩ ⟨by omega, by omega⟩ ⟨by omega, by omega⟩) (fun oq16 Sq16 hp17 q16 => ?_)
            rcases q16 with ⟨rfl, rfl⟩
            exact wJ_S (hk _ (by omega) (dtR_mk hw1)) ⟨rfl, rfl, rfl, trivial⟩
          · skip
            exfalso; omega
      · skip
        exfalso; omega
    · skip
      exact absurd c4 (by omega)
theorem rdv_241 {m tn en f r : Int} {es : List (Int × Int)} {k : Nat} (hX : w_X xs) (hM : w_ML S) (hK : KR 241 T n cs ms S) (hw : wHo cs ms os) (hm : 0 ≤ m ∧ m < (ms.length : Int)) (hso : (hmR ms m).2.1 = 1) (h106 : S 237 106 = tn) (ht : 0 ≤ tn ∧ tn ≤ 100000) (h76 : S 237 176 = en) (hen : 0 ≤ en ∧ en ≤ 1000) (hf : ffA T cs ms m = f) (hfn : f = -1) (h73 : S 237 173 = r) (hel : en = (es.length : Int)) (hr : 0 ≤ r ∧ r + 1 + (es.length : Int) ≤ 4200) (hes : ∀ i : Nat, i < es.length → S 363 (r + 1 + (i : Int)) = (es.getD i (0, 0)).1 ∧ S 364 (r + 1 + (i : Int)) = (es.getD i (0, 0)).2) (hek : ∀ i : Nat, i < es.length → 0 ≤ (es.getD i (0, 0)).1 ∧ (es.getD i (0, 0)).1 ≤ 8) (hty : (hmR ms m).2.2.2.1 = 0) : wJ (pe_GA xs) wY0 M (d + 8) t_M_doesMember ((pe_at t_M_doesMember.bl 0).getD (0, [])).2 [(0, (2, 237)), (1, (0, m))] [] S (fun o Z => (100000 < tn + 2 ∧ o = .inr 238 ∧ hZ 99 S = Z) ∨ (tn + 2 ≤ 100000 ∧ o = .inl none ∧ ∃ B : wS, dtR tn m en S B ∧ isQ 0 0 B Z)) := by
  have h400 := hw.1
  refine rdh_241 hX hM hK hw hm hso h106 ht h76 hen hf ⟨by omega, by omega⟩ (by omega) (fun z => Or.inl ⟨z, rfl, rfl⟩) (fun B hle hB => ?_)
  have hMB : w_ML B := dtR_ML hM hB ht.1
  have hKB : KR 241 T n cs ms B := dtR_KR hK hB (by omega)
  have b13 : B 237 13 = 241 := hKB.1
  have hfb := hB.2
  have uuM := KR_m hKB (m := m) (by omega) (by omega)
  have uuW := hw.2.2.2 m (by omega) (by omega)
  have uu1 : B 253 m = (hmR ms m).2.1 := uuM.1.2.1
  have uu2 : B 254 m = (hmR ms m).2.2.1 := uuM.1.2.2.1
  have uu3 : B 255 m = (hmR ms m).2.2.2.1 := uuM.1.2.2.2.1
  have uu4 : B 256 m = ((hmR ms m).2.2.2.2.1.length : Int) := uuM.2.1.1
  have uu5 : B 257 m = (hmR ms m).2.2.2.2.2.1 := uuM.2.1.2.1
  have uuf : B 259 m = (hmR ms m).2.2.2.2.2.2.1 := uuM.1.2.2.2.2.1
  have uut : B 260 m = (hmR ms m).2.2.2.2.2.2.2 := uuM.1.2.2.2.2.2
  have uuq := uuW.1.2.1
  have uus := uuW.1.2.2.1
  have uuy := uuW.1.2.2.2
  have uuv := uuW.2.1
  have uul := uuW.2.2.1
  have uuft := hK.2.2.2.2.2.2.1 m (by omega) (by omega)
  have b73 : B 237 173 = r := (hfb 237 173 (by unfold dtM wtM; omega)).trans h73
  have b76 : B 237 176 = (es.length : Int) := ((hfb 237 176 (by unfold dtM wtM; omega)).trans h76).trans hel
  have beS : ∀ i : Nat, i < es.length → B 363 (r + 1 + (i : Int)) = (es.getD i (0, 0)).1 ∧ B 364 (r + 1 + (i : Int)) = (es.getD i (0, 0)).2 := fun i hi => ⟨(hfb 363 _ (by unfold dtM wtM; omega)).trans (hes i hi).1, (hfb 364 _ (by unfold dtM wtM; omega)).trans (hes i hi).2⟩
  refine wa_iload_n (n := 2) rfl ?_
  refine wa_iflt (w_rg0 (by omega) (by omega)) ⟨_, rfl⟩ (fun c11 => ?_) (fun c11 => ?_)
  · skip
    refine wa_aload_n (n := 0) rfl ?_
    refine wa_iload_n (n := 1) rfl ?_
    refine wa_cv 237 rfl (wy_pr rfl) wt_237 (M2 := fun _ => False) rfl at_M_answersByType ⟨_, rfl⟩ rfl rfl ⟨(Or.inr ⟨wy_pr rfl, fun q => q⟩), trivial, trivial, trivial⟩ trivial (fun _ _ q => False.elim q) (rav_241 (S := B) (m := m) (es := es) (gk := 0) (gb := 0) hMB hKB hw hm b73 b76 hr beS hek hty rfl) (fun oq12 Sq12 hp13 q12 => ?_)
    rcases q12 with ⟨rfl, hres⟩
    show wJ _ _ _ _ _ _ _ _ _ _
    refine wa_return rfl ?_
    exact Or.inr ⟨hle, rfl, B, hB, hres⟩
  · skip
    exact absurd c11 (by omega)
theorem rdn_241 {m tn en f r ty : Int} {es : List (Int × Int)} {k : Nat} (hX : w_X xs) (hM : w_ML S) (hK : KR 241 T n cs ms S) (hw : wHo cs ms os) (hm : 0 ≤ m ∧ m < (ms.length : Int)) (hso : (hmR ms m).2.1 = 1) (h106 : S 237 106 = tn) (ht : 0 ≤ tn ∧ tn ≤ 100000) (h76 : S 237 176 = en) (hen : 0 ≤ en ∧ en ≤ 1000) (hf : ffA T cs ms m = f) (hfn : f = -1) (h73 : S 237 173 = r) (hel : en = (es.length : Int)) (hr : 0 ≤ r ∧ r + 1 + (es.length : Int) ≤ 4200) (hes : ∀ i : Nat, i < es.length → S 363 (r + 1 + (i : Int)) = (es.getD i (0, 0)).1 ∧ S 364 (r + 1 + (i : Int)) = (es.getD i (0, 0)).2) (hek : ∀ i : Nat, i < es.length → 0 ≤ (es.getD i (0, 0)).1 ∧ (es.getD i (0, 0)).1 ≤ 8) (hty : (hmR ms m).2.2.2.1 = ty) (htr : 1 ≤ ty ∧ ty ≤ 6) : wJ (pe_GA xs) wY0 M (d + 8) t_M_doesMember ((pe_at t_M_doesMember.bl 0).getD (0, [])).2 [(0, (2, 237)), (1, (0, m))] [] S (fun o Z => (100000 < tn + 2 ∧ o = .inr 238 ∧ hZ 99 S = Z) ∨ (tn + 2 ≤ 100000 ∧ o = .inl none ∧ ∃ B : wS, dtR tn m en S B ∧ isQ (anK ty) (anB ty (anS m es)) B Z)) := by
  have h400 := hw.1
  refine rdh_241 hX hM hK hw hm hso h106 ht h76 hen hf ⟨by omega, by omega⟩ (by omega) (fun z => Or.inl ⟨z, rfl, rfl⟩) (fun B hle hB => ?_)
  have hMB : w_ML B := dtR_ML hM hB ht.1
  have hKB : KR 241 T n cs ms B := dtR_KR hK hB (by omega)
  have b13 : B 237 13 = 241 := hKB.1
  have hfb := hB.2
  have uuM := KR_m hKB (m := m) (by omega) (by omega)
  have uuW := hw.2.2.2 m (by omega) (by omega)
  have uu1 : B 253 m = (hmR ms m).2.1 := uuM.1.2.1
  have uu2 : B 254 m = (hmR ms m).2.2.1 := uuM.1.2.2.1
  have uu3 : B 255 m = (hmR ms m).2.2.2.1 := uuM.1.2.2.2.1
  have uu4 : B 256 m = ((hmR ms m).2.2.2.2.1.length : Int) := uuM.2.1.1
  have uu5 : B 257 m = (hmR ms m).2.2.2.2.2.1 := uuM.2.1.2.1
  have uuf : B 259 m = (hmR ms m).2.2.2.2.2.2.1 := uuM.1.2.2.2.2.1
  have uut : B 260 m = (hmR ms m).2.2.2.2.2.2.2 := uuM.1.2.2.2.2.2
  have uuq := uuW.1.2.1
  have uus := uuW.1.2.2.1
  have uuy := uuW.1.2.2.2
  have uuv := uuW.2.1
  have uul := uuW.2.2.1
  have uuft := hK.2.2.2.2.2.2.1 m (by omega) (by omega)
  have b73 : B 237 173 = r := (hfb 237 173 (by unfold dtM wtM; omega)).trans h73
  have b76 : B 237 176 = (es.length : Int) := ((hfb 237 176 (by unfold dtM wtM; omega)).trans h76).trans hel
  have beS : ∀ i : Nat, i < es.length → B 363 (r + 1 + (i : Int)) = (es.getD i (0, 0)).1 ∧ B 364 (r + 1 + (i : Int)) = (es.getD i (0, 0)).2 := fun i hi => ⟨(hfb 363 _ (by unfold dtM wtM; omega)).trans (hes i hi).1, (hfb 364 _ (by unfold dtM wtM; omega)).trans (hes i hi).2⟩
  refine wa_iload_n (n := 2) rfl ?_
  refine wa_iflt (w_rg0 (by omega) (by omega)) ⟨_, rfl⟩ (fun c11 => ?_) (fun c11 => ?_)
  · skip
    refine wa_aload_n (n := 0) rfl ?_
    refine wa_iload_n (n := 1) rfl ?_
    refine wa_cv 237 rfl (wy_pr rfl) wt_237 (M2 := fun _ => False) rfl at_M_answersByType ⟨_, rfl⟩ rfl rfl ⟨(Or.inr ⟨wy_pr rfl, fun q => q⟩), trivial, trivial, trivial⟩ trivial (fun _ _ q => False.elim q) (rab_241 (S := B) (m := m) (es := es) (gk := 0) (gb := 0) hMB hKB hw hm b73 b76 hr beS hek hty htr) (fun oq12 Sq12 hp13 q12 => ?_)
    rcases q12 with ⟨rfl, hres⟩
    show wJ _ _ _ _ _ _ _ _ _ _
    refine wa_return rfl ?_
    exact Or.inr ⟨hle, rfl, B, hB, hres⟩
  · skip
    exact absurd c11 (by omega)
theorem rdt_241 {m tn en f r ty gk gb : Int} {es : List (Int × Int)} {k : Nat} (hX : w_X xs) (hM : w_ML S) (hK : KR 241 T n cs ms S) (hw : wHo cs ms os) (hm : 0 ≤ m ∧ m < (ms.length : Int)) (hso : (hmR ms m).2.1 = 1) (h106 : S 237 106 = tn) (ht : 0 ≤ tn ∧ tn ≤ 100000) (h76 : S 237 176 = en) (hen : 0 ≤ en ∧ en ≤ 1000) (hf : ffA T cs ms m = f) (hfn : f = -1) (h73 : S 237 173 = r) (hel : en = (es.length : Int)) (hr : 0 ≤ r ∧ r + 1 + (es.length : Int) ≤ 4200) (hes : ∀ i : Nat, i < es.length → S 363 (r + 1 + (i : Int)) = (es.getD i (0, 0)).1 ∧ S 364 (r + 1 + (i : Int)) = (es.getD i (0, 0)).2) (hek : ∀ i : Nat, i < es.length → 0 ≤ (es.getD i (0, 0)).1 ∧ (es.getD i (0, 0)).1 ≤ 8) (hty : (hmR ms m).2.2.2.1 = ty) (h74 : S 237 174 = gk) (h75 : S 237 175 = gb) (hgk : 0 ≤ gk ∧ gk ≤ 8) (hgb : -9223372036854775808 ≤ gb ∧ gb ≤ 9223372036854775807) (hg7 : gk = 7 → 0 ≤ gb ∧ gb < 8000 ∧ 0 ≤ S 321 gb ∧ S 321 gb < (cs.length : Int)) (htr : 8 ≤ ty ∧ ty < 9 + (cs.length : Int)) (hev : ∀ i : Nat, i < es.length → (-9223372036854775808 ≤ (es.getD i (0, 0)).2 ∧ (es.getD i (0, 0)).2 ≤ 9223372036854775807) ∧ ((es.getD i (0, 0)).1 = 7 → 0 ≤ (es.getD i (0, 0)).2 ∧ (es.getD i (0, 0)).2 < 8000 ∧ 0 ≤ S 321 (es.getD i (0, 0)).2 ∧ S 321 (es.getD i (0, 0)).2 < (cs.length : Int))) : wJ (pe_GA xs) wY0 M (d + 8) t_M_doesMember ((pe_at t_M_doesMember.bl 0).getD (0, [])).2 [(0, (2, 237)), (1, (0, m))] [] S (fun o Z => (100000 < tn + 2 ∧ o = .inr 238 ∧ hZ 99 S = Z) ∨ (tn + 2 ≤ 100000 ∧ o = .inl none ∧ ∃ B : wS, dtR tn m en S B ∧ isQ (anR cs S ty gk gb es).1 (anR cs S ty gk gb es).2 B Z)) := by
  have h400 := hw.1
  refine rdh_241 hX hM hK hw hm hso h106 ht h76 hen hf ⟨by omega, by omega⟩ (by omega) (fun z => Or.inl ⟨z, rfl, rfl⟩) (fun B hle hB => ?_)
  have hMB : w_ML B := dtR_ML hM hB ht.1
  have hKB : KR 241 T n cs ms B := dtR_KR hK hB (by omega)
  have b13 : B 237 13 = 241 := hKB.1
  have hfb := hB.2
  have uuM := KR_m hKB (m := m) (by omega) (by omega)
  have uuW := hw.2.2.2 m (by omega) (by omega)
  have uu1 : B 253 m = (hmR ms m).2.1 := uuM.1.2.1
  have uu2 : B 254 m = (hmR ms m).2.2.1 := uuM.1.2.2.1
  have uu3 : B 255 m = (hmR ms m).2.2.2.1 := uuM.1.2.2.2.1
  have uu4 : B 256 m = ((hmR ms m).2.2.2.2.1.length : Int) := uuM.2.1.1
  have uu5 : B 257 m = (hmR ms m).2.2.2.2.2.1 := uuM.2.1.2.1
  have uuf : B 259 m = (hmR ms m).2.2.2.2.2.2.1 := uuM.1.2.2.2.2.1
  have uut : B 260 m = (hmR ms m).2.2.2.2.2.2.2 := uuM.1.2.2.2.2.2
  have uuq := uuW.1.2.1
  have uus := uuW.1.2.2.1
  have uuy := uuW.1.2.2.2
  have uuv := uuW.2.1
  have uul := uuW.2.2.1
  have uuft := hK.2.2.2.2.2.2.1 m (by omega) (by omega)
  have b73 : B 237 173 = r := (hfb 237 173 (by unfold dtM wtM; omega)).trans h73
  have b76 : B 237 176 = (es.length : Int) := ((hfb 237 176 (by unfold dtM wtM; omega)).trans h76).trans hel
  have beS : ∀ i : Nat, i < es.length → B 363 (r + 1 + (i : Int)) = (es.getD i (0, 0)).1 ∧ B 364 (r + 1 + (i : Int)) = (es.getD i (0, 0)).2 := fun i hi => ⟨(hfb 363 _ (by unfold dtM wtM; omega)).trans (hes i hi).1, (hfb 364 _ (by unfold dtM wtM; omega)).trans (hes i hi).2⟩
  have b321 : ∀ v : Int, B 321 v = S 321 v := fun v => hfb 321 v (by unfold dtM wtM; omega)
  have b74 : B 237 174 = gk := (hfb 237 174 (by unfold dtM wtM; omega)).trans h74
  have b75 : B 237 175 = gb := (hfb 237 175 (by unfold dtM wtM; omega)).trans h75
  have bg7 : gk = 7 → 0 ≤ gb ∧ gb < 8000 ∧ 0 ≤ B 321 gb ∧ B 321 gb < (cs.length : Int) := fun z => by rw [b321]; exact hg7 z
  have bev : ∀ i : Nat, i < es.length → (-9223372036854775808 ≤ (es.getD i (0, 0)).2 ∧ (es.getD i (0, 0)).2 ≤ 9223372036854775807) ∧ ((es.getD i (0, 0)).1 = 7 → 0 ≤ (es.getD i (0, 0)).2 ∧ (es.getD i (0, 0)).2 < 8000 ∧ 0 ≤ B 321 (es.getD i (0, 0)).2 ∧ B 321 (es.getD i (0, 0)).2 < (cs.length : Int)) := fun i hi => ⟨(hev i hi).1, fun z => by rw [b321]; exact (hev i hi).2 z⟩
  rw [← anR_ag (cs := cs) (ty := ty) (gk := gk) (gb := gb) (es := es) b321]
  refine wa_iload_n (n := 2) rfl ?_
  refine wa_iflt (w_rg0 (by omega) (by omega)) ⟨_, rfl⟩ (fun c11 => ?_) (fun c11 => ?_)
  · skip
    refine wa_aload_n (n := 0) rfl ?_
    refine wa_iload_n (n := 1) rfl ?_
    refine wa_cv 237 rfl (wy_pr rfl) wt_237 (M2 := fun _ => False) rfl at_M_answersByType ⟨_, rfl⟩ rfl rfl ⟨(Or.inr ⟨wy_pr rfl, fun q => q⟩), trivial, trivial, trivial⟩ trivial (fun _ _ q => False.elim q) (rath_241 (S := B) (m := m) (es := es) hMB hKB hw hm b73 b76 hr beS hek hty b74 b75 hgk hgb bg7 htr bev) (fun oq12 Sq12 hp13 q12 => ?_)
    rcases q12 with ⟨rfl, hres⟩
    show wJ _ _ _ _ _ _ _ _ _ _
    refine wa_return rfl ?_
    exact Or.inr ⟨hle, rfl, B, hB, hres⟩
  · skip
    exact absurd c11 (by omega)
theorem rdr1_241 {m tn en f vk vb c gb : Int} {es : List (Int × Int)} {k : Nat} (hX : w_X xs) (hM : w_ML S) (hK : KR 241 T n cs ms S) (hw : wHo cs ms os) (hm : 0 ≤ m ∧ m < (ms.length : Int)) (hso : (hmR ms m).2.1 = 1) (h106 : S 237 106 = tn) (ht : 0 ≤ tn ∧ tn ≤ 100000) (h76 : S 237 176 = en) (hen : 0 ≤ en ∧ en ≤ 1000) (hf : ffA T cs ms m = f) (hfv : 0 ≤ f ∧ f < (ms.length : Int)) (hst : (hmR ms f).2.2.1 = 1) (hvk : -2147483648 ≤ vk ∧ vk ≤ 2147483647) (hvb : -9223372036854775808 ≤ vb ∧ vb ≤ 9223372036854775807) (h40 : S 340 f = vk) (h41 : S 341 f = vb) (hty : (hmR ms m).2.2.2.1 ≠ 0) : wJ (pe_GA xs) wY0 M (d + 8) t_M_doesMember ((pe_at t_M_doesMember.bl 0).getD (0, [])).2 [(0, (2, 237)), (1, (0, m))] [] S (fun o Z => (100000 < tn + 2 ∧ o = .inr 238 ∧ hZ 99 S = Z) ∨ (tn + 2 ≤ 100000 ∧ o = .inl none ∧ ∃ B : wS, dtR tn m en S B ∧ (Z 237 110 = vk ∧ Z 237 111 = vb) ∧ ∀ (j : Nat) (x : Int), ¬ fiM j x → Z j x = B j x)) := by
  have h400 := hw.1
  refine rdh_241 hX hM hK hw hm hso h106 ht h76 hen hf ⟨by omega, by omega⟩ (by omega) (fun z => Or.inl ⟨z, rfl, rfl⟩) (fun B hle hB => ?_)
  have hMB : w_ML B := dtR_ML hM hB ht.1
  have hKB : KR 241 T n cs ms B := dtR_KR hK hB (by omega)
  have b13 : B 237 13 = 241 := hKB.1
  have hfb := hB.2
  have uuM := KR_m hKB (m := m) (by omega) (by omega)
  have uuW := hw.2.2.2 m (by omega) (by omega)
  have uu1 : B 253 m = (hmR ms m).2.1 := uuM.1.2.1
  have uu2 : B 254 m = (hmR ms m).2.2.1 := uuM.1.2.2.1
  have uu3 : B 255 m = (hmR ms m).2.2.2.1 := uuM.1.2.2.2.1
  have uu4 : B 256 m = ((hmR ms m).2.2.2.2.1.length : Int) := uuM.2.1.1
  have uu5 : B 257 m = (hmR ms m).2.2.2.2.2.1 := uuM.2.1.2.1
  have uuf : B 259 m = (hmR ms m).2.2.2.2.2.2.1 := uuM.1.2.2.2.2.1
  have uut : B 260 m = (hmR ms m).2.2.2.2.2.2.2 := uuM.1.2.2.2.2.2
  have uuq := uuW.1.2.1
  have uus := uuW.1.2.2.1
  have uuy := uuW.1.2.2.2
  have uuv := uuW.2.1
  have uul := uuW.2.2.1
  have uuft := hK.2.2.2.2.2.2.1 m (by omega) (by omega)
  have b40 : B 340 f = vk := (hfb 340 _ (by unfold dtM wtM; omega)).trans h40
  have b41 : B 341 f = vb := (hfb 341 _ (by unfold dtM wtM; omega)).trans h41
  refine wa_iload_n (n := 2) rfl ?_
  refine wa_iflt (w_rg0 (by omega) (by omega)) ⟨_, rfl⟩ (fun c11 => ?_) (fun c11 => ?_)
  · skip
    exact absurd c11 (by omega)
  · skip
    refine wa_aload_n (n := 0) rfl ?_
    refine wb_gf5 237 rfl (wy_pr rfl) wt_237 wf_15_13 (v := 241) (b13) (fun r12 => ?_)
    refine wb_gf4 241 rfl (wy_pr rfl) wt_241 wf_12_15 (v := 255) wl_241_15 ?_
    refine wa_iload_n (n := 1) rfl ?_
    refine wb_iald 255 rfl (wy_pr rfl) wt_255 (n := 400) ((ml_255 hMB)) (by omega) (by omega) (v := (hmR ms m).2.2.2.1) (uu3) (fun r13 => ?_)
    refine wa_ifne (w_rg0 (by omega) (by omega)) ⟨_, rfl⟩ (fun c14 => ?_) (fun c14 => ?_)
    · skip
      refine wa_aload_n (n := 0) rfl ?_
      refine wa_iload_n (n := 2) rfl ?_
      refine wa_cv 237 rfl (wy_pr rfl) wt_237 (M2 := fun _ => False) rfl at_M_readsFieldOf ⟨_, rfl⟩ rfl rfl ⟨(Or.inr ⟨wy_pr rfl, fun q => q⟩), trivial, trivial, trivial⟩ trivial (fun _ _ q => False.elim q) (rrf1_241 (S := B) (m := f) (c := 0) (gb := 0) (k := 0) hMB hKB hw hfv hvk hvb hst b40 b41) (fun oq15 Sq15 hp16 q15 => ?_)
      rcases q15 with ⟨rfl, hres⟩
      show wJ _ _ _ _ _ _ _ _ _ _
      refine wa_fall ⟨_, rfl⟩ ?_
      refine wa_return rfl ?_
      exact Or.inr ⟨hle, rfl, B, hB, hres⟩
    · skip
      exfalso; omega
theorem rdw1_241 {m tn en f k1 v1 c gb r : Int} {es : List (Int × Int)} {k : Nat} (hX : w_X xs) (hM : w_ML S) (hK : KR 241 T n cs ms S) (hw : wHo cs ms os) (hm : 0 ≤ m ∧ m < (ms.length : Int)) (hso : (hmR ms m).2.1 = 1) (h106 : S 237 106 = tn) (ht : 0 ≤ tn ∧ tn ≤ 100000) (h76 : S 237 176 = en) (hen : 0 ≤ en ∧ en ≤ 1000) (hf : ffA T cs ms m = f) (hfv : 0 ≤ f ∧ f < (ms.length : Int)) (hst : (hmR ms f).2.2.1 = 1) (h73 : S 237 173 = r) (hr : 0 ≤ r ∧ r + 1 < 4200) (hk1 : S 363 (r + 1) = k1) (hv1 : S 364 (r + 1) = v1) (hkr : -2147483648 ≤ k1 ∧ k1 ≤ 2147483647) (hvr : -9223372036854775808 ≤ v1 ∧ v1 ≤ 9223372036854775807) (hty : (hmR ms m).2.2.2.1 = 0) : wJ (pe_GA xs) wY0 M (d + 8) t_M_doesMember ((pe_at t_M_doesMember.bl 0).getD (0, [])).2 [(0, (2, 237)), (1, (0, m))] [] S (fun o Z => (100000 < tn + 2 ∧ o = .inr 238 ∧ hZ 99 S = Z) ∨ (tn + 2 ≤ 100000 ∧ o = .inl none ∧ ∃ B : wS, dtR tn m en S B ∧ isQ 0 0 (w_up (w_up B 340 f k1) 341 f v1) Z)) := by
  have h400 := hw.1
  refine rdh_241 hX hM hK hw hm hso h106 ht h76 hen hf ⟨by omega, by omega⟩ (by omega) (fun z => Or.inl ⟨z, rfl, rfl⟩) (fun B hle hB => ?_)
  have hMB : w_ML B := dtR_ML hM hB ht.1
  have hKB : KR 241 T n cs ms B := dtR_KR hK hB (by omega)
  have b13 : B 237 13 = 241 := hKB.1
  have hfb := hB.2
  have uuM := KR_m hKB (m := m) (by omega) (by omega)
  have uuW := hw.2.2.2 m (by omega) (by omega)
  have uu1 : B 253 m = (hmR ms m).2.1 := uuM.1.2.1
  have uu2 : B 254 m = (hmR ms m).2.2.1 := uuM.1.2.2.1
  have uu3 : B 255 m = (hmR ms m).2.2.2.1 := uuM.1.2.2.2.1
  have uu4 : B 256 m = ((hmR ms m).2.2.2.2.1.length : Int) := uuM.2.1.1
  have uu5 : B 257 m = (hmR ms m).2.2.2.2.2.1 := uuM.2.1.2.1
  have uuf : B 259 m = (hmR ms m).2.2.2.2.2.2.1 := uuM.1.2.2.2.2.1
  have uut : B 260 m = (hmR ms m).2.2.2.2.2.2.2 := uuM.1.2.2.2.2.2
  have uuq := uuW.1.2.1
  have uus := uuW.1.2.2.1
  have uuy := uuW.1.2.2.2
  have uuv := uuW.2.1
  have uul := uuW.2.2.1
  have uuft := hK.2.2.2.2.2.2.1 m (by omega) (by omega)
  have b73 : B 237 173 = r := (hfb 237 173 (by unfold dtM wtM; omega)).trans h73
  have bk1 : B 363 (r + 1) = k1 := (hfb 363 _ (by unfold dtM wtM; omega)).trans hk1
  have bv1 : B 364 (r + 1) = v1 := (hfb 364 _ (by unfold dtM wtM; omega)).trans hv1
  refine wa_iload_n (n := 2) rfl ?_
  refine wa_iflt (w_rg0 (by omega) (by omega)) ⟨_, rfl⟩ (fun c11 => ?_) (fun c11 => ?_)
  · skip
    exact absurd c11 (by omega)
  · skip
    refine wa_aload_n (n := 0) rfl ?_
    refine wb_gf5 237 rfl (wy_pr rfl) wt_237 wf_15_13 (v := 241) (b13) (fun r12 => ?_)
    refine wb_gf4 241 rfl (wy_pr rfl) wt_241 wf_12_15 (v := 255) wl_241_15 ?_
    refine wa_iload_n (n := 1) rfl ?_
    refine wb_iald 255 rfl (wy_pr rfl) wt_255 (n := 400) ((ml_255 hMB)) (by omega) (by omega) (v := (hmR ms m).2.2.2.1) (uu3) (fun r13 => ?_)
    refine wa_ifne (w_rg0 (by omega) (by omega)) ⟨_, rfl⟩ (fun c14 => ?_) (fun c14 => ?_)
    · skip
      exfalso; omega
    · skip
      refine wa_aload_n (n := 0) rfl ?_
      refine wa_iload_n (n := 2) rfl ?_
      refine wa_aload_n (n := 0) rfl ?_
      refine wb_gf4 237 rfl (wy_pr rfl) wt_237 wf_15_138 (v := 363) wl_237_138 ?_
      refine wa_aload_n (n := 0) rfl ?_
      refine wb_gfi 237 rfl (wy_pr rfl) wt_237 wf_15_173 (v := r) (b73) (fun r15 => ?_)
      refine wa_iconst ?_
      refine wa_iadd ?_
      refine wb_iald 363 rfl (wy_pr rfl) wt_363 (n := 4200) ((ml_363 hMB)) (by omega) (by omega) (v := k1) (bk1) (fun r16 => ?_)
      refine wa_aload_n (n := 0) rfl ?_
      refine wb_gf4 237 rfl (wy_pr rfl) wt_237 wf_15_139 (v := 364) wl_237_139 ?_
      refine wa_aload_n (n := 0) rfl ?_
      refine wb_gfi 237 rfl (wy_pr rfl) wt_237 wf_15_173 (v := r) (b73) (fun r17 => ?_)
      refine wa_iconst ?_
      refine wa_iadd ?_
      refine wb_lald 364 rfl (wy_pr rfl) wt_364 (n := 4200) ((ml_364 hMB)) (by omega) (by omega) (v := v1) (bv1) (fun r18 => ?_)
      refine wa_cv 237 rfl (wy_pr rfl) wt_237 (M2 := fun _ => False) rfl at_M_writesFieldOf ⟨_, rfl⟩ rfl rfl ⟨(Or.inr ⟨wy_pr rfl, fun q => q⟩), trivial, trivial, trivial⟩ trivial (fun _ _ q => False.elim q) (rwf1_241 (S := B) (m := f) (vk := k1) (vb := v1) (c := 0) (gb := 0) (k := 0) hMB hKB hw hfv hkr hvr hst) (fun oq19 Sq19 hp20 q19 => ?_)
      rcases q19 with ⟨rfl, rfl⟩
      show wJ _ _ _ _ _ _ _ _ _ _
      have hres : isQ 0 0 (w_up (w_up B 340 f k1) 341 f v1) (w_up (w_up (w_up (w_up B 340 f k1) 341 f v1) 237 110 0) 237 111 0) := isQ_u (fun _ _ _ => rfl)
      refine wa_aload_n (n := 0) rfl ?_
      refine wa_iconst ?_
      refine wb_lconst (m := 0) rfl ?_
      refine wa_cv 237 rfl (wy_pr rfl) wt_237 (M2 := fun _ => False) rfl at_M_is ⟨_, rfl⟩ rfl rfl ⟨(Or.inr ⟨wy_pr rfl, fun q => q⟩), trivial, trivial, trivial⟩ trivial (fun _ _ q => False.elim q) ?_ (fun _ _ _ q => q)
      refine wa_aload_n (n := 0) rfl ?_
      refine wa_iload_n (n := 1) rfl ?_
      refine wb_pfi 237 rfl (wy_pr rfl) wt_237 wf_15_110 (n := 110) rfl ⟨(by omega), (by omega)⟩ ?_
      refine wa_aload_n (n := 0) rfl ?_
      refine wa_lload_n (n := 2) rfl ?_
      refine wb_pfl 237 rfl (wy_pr rfl) wt_237 wf_15_111 (n := 111) rfl ⟨(by omega), (by omega)⟩ ?_
      refine wa_return rfl ?_
      show wJ _ _ _ _ _ _ _ _ _ _
      refine wa_goto ⟨_, rfl⟩ ?_
      refine wa_return rfl ?_
      exact Or.inr ⟨hle, rfl, B, hB, hres⟩
theorem rdr0_241 {m tn en f vk vb c gb : Int} {es : List (Int × Int)} {k : Nat} (hX : w_X xs) (hM : w_ML S) (hK : KR 241 T n cs ms S) (hw : wHo cs ms os) (hm : 0 ≤ m ∧ m < (ms.length : Int)) (hso : (hmR ms m).2.1 = 1) (h106 : S 237 106 = tn) (ht : 0 ≤ tn ∧ tn ≤ 100000) (h76 : S 237 176 = en) (hen : 0 ≤ en ∧ en ≤ 1000) (hf : ffA T cs ms m = f) (hfv : 0 ≤ f ∧ f < (ms.length : Int)) (hst : (hmR ms f).2.2.1 = 0) (hvk : -2147483648 ≤ vk ∧ vk ≤ 2147483647) (hvb : -9223372036854775808 ≤ vb ∧ vb ≤ 9223372036854775807) (hc : 0 ≤ c ∧ c < (cs.length : Int)) (hF : (flA cs ms c).length ≤ 400) (hk : k < (flA cs ms c).length) (hkm : (flA cs ms c).getD k 0 = f) (hkn : ∀ i : Nat, i < k → (flA cs ms c).getD i 0 ≠ f) (h75 : S 237 175 = gb) (hgb : 0 ≤ gb ∧ gb < 8000) (h321 : S 321 gb = c) (hsl : slC S gb l) (hkl : k < l.length) (hl6 : l.length ≤ 60000) (h25 : S 325 (l.getD k 0) = vk) (h26 : S 326 (l.getD k 0) = vb) (hty : (hmR ms m).2.2.2.1 ≠ 0) : wJ (pe_GA xs) wY0 M (d + 8) t_M_doesMember ((pe_at t_M_doesMember.bl 0).getD (0, [])).2 [(0, (2, 237)), (1, (0, m))] [] S (fun o Z => (100000 < tn + 2 ∧ o = .inr 238 ∧ hZ 99 S = Z) ∨ (tn + 2 ≤ 100000 ∧ o = .inl none ∧ ∃ B : wS, dtR tn m en S B ∧ (Z 237 110 = vk ∧ Z 237 111 = vb) ∧ ∀ (j : Nat) (x : Int), ¬ fiM j x → Z j x = B j x)) := by
  have h400 := hw.1
  refine rdh_241 hX hM hK hw hm hso h106 ht h76 hen hf ⟨by omega, by omega⟩ (by omega) (fun z => Or.inl ⟨z, rfl, rfl⟩) (fun B hle hB => ?_)
  have hMB : w_ML B := dtR_ML hM hB ht.1
  have hKB : KR 241 T n cs ms B := dtR_KR hK hB (by omega)
  have b13 : B 237 13 = 241 := hKB.1
  have hfb := hB.2
  have uuM := KR_m hKB (m := m) (by omega) (by omega)
  have uuW := hw.2.2.2 m (by omega) (by omega)
  have uu1 : B 253 m = (hmR ms m).2.1 := uuM.1.2.1
  have uu2 : B 254 m = (hmR ms m).2.2.1 := uuM.1.2.2.1
  have uu3 : B 255 m = (hmR ms m).2.2.2.1 := uuM.1.2.2.2.1
  have uu4 : B 256 m = ((hmR ms m).2.2.2.2.1.length : Int) := uuM.2.1.1
  have uu5 : B 257 m = (hmR ms m).2.2.2.2.2.1 := uuM.2.1.2.1
  have uuf : B 259 m = (hmR ms m).2.2.2.2.2.2.1 := uuM.1.2.2.2.2.1
  have uut : B 260 m = (hmR ms m).2.2.2.2.2.2.2 := uuM.1.2.2.2.2.2
  have uuq := uuW.1.2.1
  have uus := uuW.1.2.2.1
  have uuy := uuW.1.2.2.2
  have uuv := uuW.2.1
  have uul := uuW.2.2.1
  have uuft := hK.2.2.2.2.2.2.1 m (by omega) (by omega)
  have b75 : B 237 175 = gb := (hfb 237 175 (by unfold dtM wtM; omega)).trans h75
  have b321 : B 321 gb = c := (hfb 321 _ (by unfold dtM wtM; omega)).trans h321
  have bsl : slC B gb l := ⟨(hfb 317 _ (by unfold dtM wtM; omega)).trans hsl.1, fun z => (hfb 316 _ (by unfold dtM wtM; omega)).trans (hsl.2.1 z), fun i hi => ⟨(hsl.2.2 i hi).1, fun z => (hfb 328 _ (by unfold dtM wtM; omega)).trans ((hsl.2.2 i hi).2 z)⟩⟩
  have b25 : B 325 (l.getD k 0) = vk := (hfb 325 _ (by unfold dtM wtM; omega)).trans h25
  have b26 : B 326 (l.getD k 0) = vb := (hfb 326 _ (by unfold dtM wtM; omega)).trans h26
  refine wa_iload_n (n := 2) rfl ?_
  refine wa_iflt (w_rg0 (by omega) (by omega)) ⟨_, rfl⟩ (fun c11 => ?_) (fun c11 => ?_)
  · skip
    exact absurd c11 (by omega)
  · skip
    refine wa_aload_n (n := 0) rfl ?_
    refine wb_gf5 237 rfl (wy_pr rfl) wt_237 wf_15_13 (v := 241) (b13) (fun r12 => ?_)
    refine wb_gf4 241 rfl (wy_pr rfl) wt_241 wf_12_15 (v := 255) wl_241_15 ?_
    refine wa_iload_n (n := 1) rfl ?_
    refine wb_iald 255 rfl (wy_pr rfl) wt_255 (n := 400) ((ml_255 hMB)) (by omega) (by omega) (v := (hmR ms m).2.2.2.1) (uu3) (fun r13 => ?_)
    refine wa_ifne (w_rg0 (by omega) (by omega)) ⟨_, rfl⟩ (fun c14 => ?_) (fun c14 => ?_)
    · skip
      refine wa_aload_n (n := 0) rfl ?_
      refine wa_iload_n (n := 2) rfl ?_
      refine wa_cv 237 rfl (wy_pr rfl) wt_237 (M2 := fun _ => False) rfl at_M_readsFieldOf ⟨_, rfl⟩ rfl rfl ⟨(Or.inr ⟨wy_pr rfl, fun q => q⟩), trivial, trivial, trivial⟩ trivial (fun _ _ q => False.elim q) (rrf0_241 (S := B) (m := f) (c := c) (gb := gb) (k := k) (l := l) hMB hKB hw hfv hvk hvb hst hc hF hk hkm hkn b75 hgb b321 bsl hkl hl6 b25 b26) (fun oq15 Sq15 hp16 q15 => ?_)
      rcases q15 with ⟨rfl, hres⟩
      show wJ _ _ _ _ _ _ _ _ _ _
      refine wa_fall ⟨_, rfl⟩ ?_
      refine wa_return rfl ?_
      exact Or.inr ⟨hle, rfl, B, hB, hres⟩
    · skip
      exfalso; omega
theorem rdw0_241 {m tn en f k1 v1 c gb r : Int} {es : List (Int × Int)} {k : Nat} (hX : w_X xs) (hM : w_ML S) (hK : KR 241 T n cs ms S) (hw : wHo cs ms os) (hm : 0 ≤ m ∧ m < (ms.length : Int)) (hso : (hmR ms m).2.1 = 1) (h106 : S 237 106 = tn) (ht : 0 ≤ tn ∧ tn ≤ 100000) (h76 : S 237 176 = en) (hen : 0 ≤ en ∧ en ≤ 1000) (hf : ffA T cs ms m = f) (hfv : 0 ≤ f ∧ f < (ms.length : Int)) (hst : (hmR ms f).2.2.1 = 0) (h73 : S 237 173 = r) (hr : 0 ≤ r ∧ r + 1 < 4200) (hk1 : S 363 (r + 1) = k1) (hv1 : S 364 (r + 1) = v1) (hkr : -2147483648 ≤ k1 ∧ k1 ≤ 2147483647) (hvr : -9223372036854775808 ≤ v1 ∧ v1 ≤ 9223372036854775807) (hc : 0 ≤ c ∧ c < (cs.length : Int)) (hF : (flA cs ms c).length ≤ 400) (hk : k < (flA cs ms c).length) (hkm : (flA cs ms c).getD k 0 = f) (hkn : ∀ i : Nat, i < k → (flA cs ms c).getD i 0 ≠ f) (h75 : S 237 175 = gb) (hgb : 0 ≤ gb ∧ gb < 8000) (h321 : S 321 gb = c) (hsl : slC S gb l) (hkl : k < l.length) (hl6 : l.length ≤ 60000) (hty : (hmR ms m).2.2.2.1 = 0) : wJ (pe_GA xs) wY0 M (d + 8) t_M_doesMember ((pe_at t_M_doesMember.bl 0).getD (0, [])).2 [(0, (2, 237)), (1, (0, m))] [] S (fun o Z => (100000 < tn + 2 ∧ o = .inr 238 ∧ hZ 99 S = Z) ∨ (tn + 2 ≤ 100000 ∧ o = .inl none ∧ ∃ B : wS, dtR tn m en S B ∧ ∃ C : wS, (C 325 (l.getD k 0) = k1 ∧ C 326 (l.getD k 0) = v1) ∧ (∀ (j : Nat) (x : Int), ¬ (flM j x ∨ ((j = 325 ∨ j = 326) ∧ x = l.getD k 0)) → C j x = B j x) ∧ isQ 0 0 C Z)) := by
  have h400 := hw.1
  refine rdh_241 hX hM hK hw hm hso h106 ht h76 hen hf ⟨by omega, by omega⟩ (by omega) (fun z => Or.inl ⟨z, rfl, rfl⟩) (fun B hle hB => ?_)
  have hMB : w_ML B := dtR_ML hM hB ht.1
  have hKB : KR 241 T n cs ms B := dtR_KR hK hB (by omega)
  have b13 : B 237 13 = 241 := hKB.1
  have hfb := hB.2
  have uuM := KR_m hKB (m := m) (by omega) (by omega)
  have uuW := hw.2.2.2 m (by omega) (by omega)
  have uu1 : B 253 m = (hmR ms m).2.1 := uuM.1.2.1
  have uu2 : B 254 m = (hmR ms m).2.2.1 := uuM.1.2.2.1
  have uu3 : B 255 m = (hmR ms m).2.2.2.1 := uuM.1.2.2.2.1
  have uu4 : B 256 m = ((hmR ms m).2.2.2.2.1.length : Int) := uuM.2.1.1
  have uu5 : B 257 m = (hmR ms m).2.2.2.2.2.1 := uuM.2.1.2.1
  have uuf : B 259 m = (hmR ms m).2.2.2.2.2.2.1 := uuM.1.2.2.2.2.1
  have uut : B 260 m = (hmR ms m).2.2.2.2.2.2.2 := uuM.1.2.2.2.2.2
  have uuq := uuW.1.2.1
  have uus := uuW.1.2.2.1
  have uuy := uuW.1.2.2.2
  have uuv := uuW.2.1
  have uul := uuW.2.2.1
  have uuft := hK.2.2.2.2.2.2.1 m (by omega) (by omega)
  have b73 : B 237 173 = r := (hfb 237 173 (by unfold dtM wtM; omega)).trans h73
  have bk1 : B 363 (r + 1) = k1 := (hfb 363 _ (by unfold dtM wtM; omega)).trans hk1
  have bv1 : B 364 (r + 1) = v1 := (hfb 364 _ (by unfold dtM wtM; omega)).trans hv1
  have b75 : B 237 175 = gb := (hfb 237 175 (by unfold dtM wtM; omega)).trans h75
  have b321 : B 321 gb = c := (hfb 321 _ (by unfold dtM wtM; omega)).trans h321
  have bsl : slC B gb l := ⟨(hfb 317 _ (by unfold dtM wtM; omega)).trans hsl.1, fun z => (hfb 316 _ (by unfold dtM wtM; omega)).trans (hsl.2.1 z), fun i hi => ⟨(hsl.2.2 i hi).1, fun z => (hfb 328 _ (by unfold dtM wtM; omega)).trans ((hsl.2.2 i hi).2 z)⟩⟩
  refine wa_iload_n (n := 2) rfl ?_
  refine wa_iflt (w_rg0 (by omega) (by omega)) ⟨_, rfl⟩ (fun c11 => ?_) (fun c11 => ?_)
  · skip
    exact absurd c11 (by omega)
  · skip
    refine wa_aload_n (n := 0) rfl ?_
    refine wb_gf5 237 rfl (wy_pr rfl) wt_237 wf_15_13 (v := 241) (b13) (fun r12 => ?_)
    refine wb_gf4 241 rfl (wy_pr rfl) wt_241 wf_12_15 (v := 255) wl_241_15 ?_
    refine wa_iload_n (n := 1) rfl ?_
    refine wb_iald 255 rfl (wy_pr rfl) wt_255 (n := 400) ((ml_255 hMB)) (by omega) (by omega) (v := (hmR ms m).2.2.2.1) (uu3) (fun r13 => ?_)
    refine wa_ifne (w_rg0 (by omega) (by omega)) ⟨_, rfl⟩ (fun c14 => ?_) (fun c14 => ?_)
    · skip
      exfalso; omega
    · skip
      refine wa_aload_n (n := 0) rfl ?_
      refine wa_iload_n (n := 2) rfl ?_
      refine wa_aload_n (n := 0) rfl ?_
      refine wb_gf4 237 rfl (wy_pr rfl) wt_237 wf_15_138 (v := 363) wl_237_138 ?_
      refine wa_aload_n (n := 0) rfl ?_
      refine wb_gfi 237 rfl (wy_pr rfl) wt_237 wf_15_173 (v := r) (b73) (fun r15 => ?_)
      refine wa_iconst ?_
      refine wa_iadd ?_
      refine wb_iald 363 rfl (wy_pr rfl) wt_363 (n := 4200) ((ml_363 hMB)) (by omega) (by omega) (v := k1) (bk1) (fun r16 => ?_)
      refine wa_aload_n (n := 0) rfl ?_
      refine wb_gf4 237 rfl (wy_pr rfl) wt_237 wf_15_139 (v := 364) wl_237_139 ?_
      refine wa_aload_n (n := 0) rfl ?_
      refine wb_gfi 237 rfl (wy_pr rfl) wt_237 wf_15_173 (v := r) (b73) (fun r17 => ?_)
      refine wa_iconst ?_
      refine wa_iadd ?_
      refine wb_lald 364 rfl (wy_pr rfl) wt_364 (n := 4200) ((ml_364 hMB)) (by omega) (by omega) (v := v1) (bv1) (fun r18 => ?_)
      refine wa_cv 237 rfl (wy_pr rfl) wt_237 (M2 := fun _ => False) rfl at_M_writesFieldOf ⟨_, rfl⟩ rfl rfl ⟨(Or.inr ⟨wy_pr rfl, fun q => q⟩), trivial, trivial, trivial⟩ trivial (fun _ _ q => False.elim q) (rwf0_241 (S := B) (m := f) (vk := k1) (vb := v1) (c := c) (gb := gb) (k := k) (l := l) hMB hKB hw hfv hkr hvr hst hc hF hk hkm hkn b75 hgb b321 bsl hkl hl6) (fun oq19 Sq19 hp20 q19 => ?_)
      rcases q19 with ⟨rfl, hv, hfc⟩
      show wJ _ _ _ _ _ _ _ _ _ _
      have hres := (⟨_, hv, hfc, isQ_u (fun _ _ _ => rfl)⟩ : ∃ C : wS, (C 325 (l.getD k 0) = k1 ∧ C 326 (l.getD k 0) = v1) ∧ (∀ (j : Nat) (x : Int), ¬ (flM j x ∨ ((j = 325 ∨ j = 326) ∧ x = l.getD k 0)) → C j x = B j x) ∧ isQ 0 0 C _)
      refine wa_aload_n (n := 0) rfl ?_
      refine wa_iconst ?_
      refine wb_lconst (m := 0) rfl ?_
      refine wa_cv 237 rfl (wy_pr rfl) wt_237 (M2 := fun _ => False) rfl at_M_is ⟨_, rfl⟩ rfl rfl ⟨(Or.inr ⟨wy_pr rfl, fun q => q⟩), trivial, trivial, trivial⟩ trivial (fun _ _ q => False.elim q) ?_ (fun _ _ _ q => q)
      refine wa_aload_n (n := 0) rfl ?_
      refine wa_iload_n (n := 1) rfl ?_
      refine wb_pfi 237 rfl (wy_pr rfl) wt_237 wf_15_110 (n := 110) rfl ⟨(by omega), (by omega)⟩ ?_
      refine wa_aload_n (n := 0) rfl ?_
      refine wa_lload_n (n := 2) rfl ?_
      refine wb_pfl 237 rfl (wy_pr rfl) wt_237 wf_15_111 (n := 111) rfl ⟨(by omega), (by omega)⟩ ?_
      refine wa_return rfl ?_
      show wJ _ _ _ _ _ _ _ _ _ _
      refine wa_goto ⟨_, rfl⟩ ?_
      refine wa_return rfl ?_
      exact Or.inr ⟨hle, rfl, B, hB, hres⟩
theorem rdh_261 {m tn en f : Int} (hX : w_X xs) (hM : w_ML S) (hK : KR 261 T n cs ms S) (hw : wHo cs ms os) (hm : 0 ≤ m ∧ m < (ms.length : Int)) (hso : (hmR ms m).2.1 = 1) (h106 : S 237 106 = tn) (ht : 0 ≤ tn ∧ tn ≤ 100000) (h76 : S 237 176 = en) (hen : 0 ≤ en ∧ en ≤ 1000) (hf : ffA T cs ms m = f) (hfr : -1 ≤ f ∧ f < (ms.length : Int)) (hcs : 0 ≤ f ∨ (hmR ms m).2.2.2.1 ≠ 7) (hthr : 100000 < tn + 2 → Q (.inr 238) (hZ 99 S)) (hk : ∀ B : wS, tn + 2 ≤ 100000 → dtR tn m en S B → wJ (pe_GA xs) wY0 M (d + 8) t_M_doesMember ((((pe_at t_M_doesMember.bl 6).getD (0, [])).2).drop 3) [(0, (2, 237)), (1, (0, m)), (2, (0, f))] [] B Q) : wJ (pe_GA xs) wY0 M (d + 8) t_M_doesMember ((pe_at t_M_doesMember.bl 0).getD (0, [])).2 [(0, (2, 237)), (1, (0, m))] [] S Q := by
  have h13 : S 237 13 = 261 := hK.1
  have h400 := hw.1
  have hn6 := hK.2.2.2.2.2.1
  have uuM := KR_m hK (m := m) (by omega) (by omega)
  have uuW := hw.2.2.2 m (by omega) (by omega)
  have uu1 : S 273 m = (hmR ms m).2.1 := uuM.1.2.1
  have uu2 : S 274 m = (hmR ms m).2.2.1 := uuM.1.2.2.1
  have uu3 : S 275 m = (hmR ms m).2.2.2.1 := uuM.1.2.2.2.1
  have uu4 : S 276 m = ((hmR ms m).2.2.2.2.1.length : Int) := uuM.2.1.1
  have uu5 : S 277 m = (hmR ms m).2.2.2.2.2.1 := uuM.2.1.2.1
  have uuf : S 279 m = (hmR ms m).2.2.2.2.2.2.1 := uuM.1.2.2.2.2.1
  have uut : S 280 m = (hmR ms m).2.2.2.2.2.2.2 := uuM.1.2.2.2.2.2
  have uuq := uuW.1.2.1
  have uus := uuW.1.2.2.1
  have uuy := uuW.1.2.2.2
  have uuv := uuW.2.1
  have uul := uuW.2.2.1
  have uuft := hK.2.2.2.2.2.2.1 m (by omega) (by omega)
  refine wa_aload_n (n := 0) rfl ?_
  refine wa_aload_n (n := 0) rfl ?_
  refine wb_gfi 237 rfl (wy_pr rfl) wt_237 wf_15_106 (v := tn) (h106) (fun r1 => ?_)
  refine wa_iconst ?_
  refine wa_iadd ?_
  refine wb_ki (n := 100000) rfl ?_
  refine wa_icmpgt (w_rg0 (by omega) (by omega)) (w_rg0 (by omega) (by omega)) ⟨_, rfl⟩ (fun c2 => ?_) (fun c2 => ?_)
  · skip
    refine wa_iconst ?_
    refine wa_fall ⟨_, rfl⟩ ?_
    refine wa_cv 237 rfl (wy_pr rfl) wt_237 (M2 := fun _ => False) rfl at_M_room ⟨_, rfl⟩ rfl rfl ⟨(Or.inr ⟨wy_pr rfl, fun q => q⟩), trivial, trivial⟩ trivial (fun _ _ q => False.elim q) ?_ (fun _ _ _ q => q)
    refine wa_iload_n (n := 1) rfl ?_
    refine wa_ifne (w_rg0 (by omega) (by omega)) ⟨_, rfl⟩ (fun c3 => ?_) (fun c3 => ?_)
    · skip
      exact absurd c3 (by omega)
    · skip
      refine wa_aload_n (n := 0) rfl ?_
      refine wb_gf4 237 rfl (wy_pr rfl) wt_237 wf_15_1 (v := 238) wl_237_1 ?_
      refine wa_bipush (w_rg2 (by omega) (by omega)) ?_
      refine wa_iconst ?_
      refine wa_cv 238 rfl (wy_pr rfl) wt_238 (M2 := fun _ => False) rfl at_MH_of ⟨_, rfl⟩ rfl rfl ⟨(Or.inr ⟨wy_pr rfl, fun q => q⟩), trivial, trivial⟩ trivial (fun _ _ q => False.elim q) ?_ (fun _ _ _ q => q)
      refine wa_aload_n (n := 0) rfl ?_
      refine wa_iload_n (n := 1) rfl ?_
      refine wb_pfi 238 rfl (wy_pr rfl) wt_238 wf_11_5 (n := 5) rfl ⟨(by omega), (by omega)⟩ ?_
      refine wa_aload_n (n := 0) rfl ?_
      refine wa_iload_n (n := 2) rfl ?_
      refine wb_pfi 238 rfl (wy_pr rfl) wt_238 wf_11_6 (n := 6) rfl ⟨(by omega), (by omega)⟩ ?_
      refine wa_aload_n (n := 0) rfl ?_
      refine wa_oreturn rfl ?_
      show wJ _ _ _ _ _ _ _ _ _ _
      refine wa_th (j := 238) ?_
      refine ⟨rfl, ?_⟩
      exact hthr (by omega)
  · skip
    refine wa_iconst ?_
    refine wa_goto ⟨_, rfl⟩ ?_
    refine wa_cv 237 rfl (wy_pr rfl) wt_237 (M2 := fun _ => False) rfl at_M_room ⟨_, rfl⟩ rfl rfl ⟨(Or.inr ⟨wy_pr rfl, fun q => q⟩), trivial, trivial⟩ trivial (fun _ _ q => False.elim q) ?_ (fun _ _ _ q => q)
    refine wa_iload_n (n := 1) rfl ?_
    refine wa_ifne (w_rg0 (by omega) (by omega)) ⟨_, rfl⟩ (fun c4 => ?_) (fun c4 => ?_)
    · skip
      refine wa_return rfl ?_
      show wJ _ _ _ _ _ _ _ _ _ _
      refine wa_aload_n (n := 0) rfl ?_
      refine wb_gf5 237 rfl (wy_pr rfl) wt_237 wf_15_13 (v := 261) (h13) (fun r5 => ?_)
      refine wb_gf4 261 rfl (wy_pr rfl) wt_261 wf_12_13 (v := 273) wl_261_13 ?_
      refine wa_iload_n (n := 1) rfl ?_
      refine wb_iald 273 rfl (wy_pr rfl) wt_273 (n := 400) ((ml_273 hM)) (by omega) (by omega) (v := (hmR ms m).2.1) (uu1) (fun r6 => ?_)
      refine wa_iconst ?_
      refine wa_icmpne (w_rg0 (by omega) (by omega)) (w_rg0 (by omega) (by omega)) ⟨_, rfl⟩ (fun c7 => ?_) (fun c7 => ?_)
      · skip
        refine wa_aload_n (n := 0) rfl ?_
        refine wa_iload_n (n := 1) rfl ?_
        refine wa_cv 237 rfl (wy_pr rfl) wt_237 (M2 := fun _ => False) rfl at_M_fieldFor ⟨_, rfl⟩ rfl rfl ⟨(Or.inr ⟨wy_pr rfl, fun q => q⟩), trivial, trivial⟩ trivial (fun _ _ q => False.elim q) (wJ_mono (rff_261 (m := m) hX hM hK hw hm) (fun o Z hz => (⟨by rw [← hf]; exact hz.1, hz.2⟩ : o = .inl (some (0, f)) ∧ ∀ (j : Nat) (x : Int), ¬ wtM j x → Z j x = S j x))) (fun oq8 Sq8 hp9 q8 => ?_)
        rcases q8 with ⟨rfl, hw1⟩
        show wJ _ _ _ _ _ _ _ _ _ _
        refine wa_istore_n (n := 2) rfl ?_
        refine wa_iload_n (n := 2) rfl ?_
        refine wa_ifge (w_rg0 (by omega) (by omega)) ⟨_, rfl⟩ (fun c10 => ?_) (fun c10 => ?_)
        · skip
          refine wa_aload_n (n := 0) rfl ?_
          refine wa_iload_n (n := 1) rfl ?_
          refine wa_cv 237 rfl (wy_pr rfl) wt_237 (M2 := fun _ => False) rfl at_M_traces ⟨_, rfl⟩ rfl rfl ⟨trivial, (Or.inr ⟨wy_pr rfl, fun q => q⟩), trivial, trivial⟩ trivial (fun _ _ q => False.elim q) (rtc (S := Sq8) (m := m) (tn := tn) (en := en) (ML_w hM hw1 (fun j z => by unfold wtM at z; omega)) (((hw1 237 106 (by unfold wtM; omega)).trans (h106))) (((hw1 237 176 (by unfold wtM; omega)).trans (h76))) ⟨by omega, by omega⟩ ⟨by omega, by omega⟩ ⟨by omega, by omega⟩) (fun oq11 Sq11 hp12 q11 => ?_)
          rcases q11 with ⟨rfl, rfl⟩
          exact wJ_S (hk _ (by omega) (dtR_mk hw1)) ⟨rfl, rfl, rfl, trivial⟩
        · skip
          refine wa_aload_n (n := 0) rfl ?_
          refine wb_gf5 237 rfl (wy_pr rfl) wt_237 wf_15_13 (v := 261) (((hw1 237 13 (by unfold wtM; omega)).trans (h13))) (fun r13 => ?_)
          refine wb_gf4 261 rfl (wy_pr rfl) wt_261 wf_12_15 (v := 275) wl_261_15 ?_
          refine wa_iload_n (n := 1) rfl ?_
          refine wb_iald 275 rfl (wy_pr rfl) wt_275 (n := 400) (((hw1 275 (-1) (by unfold wtM; omega)).trans ((ml_275 hM)))) (by omega) (by omega) (v := (hmR ms m).2.2.2.1) (((hw1 275 m (by unfold wtM; omega)).trans (uu3))) (fun r14 => ?_)
          refine wa_bipush (w_rg2 (by omega) (by omega)) ?_
          refine wa_icmpne (w_rg0 (by omega) (by omega)) (w_rg0 (by omega) (by omega)) ⟨_, rfl⟩ (fun c15 => ?_) (fun c15 => ?_)
          · skip
            refine wa_aload_n (n := 0) rfl ?_
            refine wa_iload_n (n := 1) rfl ?_
            refine wa_cv 237 rfl (wy_pr rfl) wt_237 (M2 := fun _ => False) rfl at_M_traces ⟨_, rfl⟩ rfl rfl ⟨trivial, (Or.inr ⟨wy_pr rfl, fun q => q⟩), trivial, trivial⟩ trivial (fun _ _ q => False.elim q) (rtc (S := Sq8) (m := m) (tn := tn) (en := en) (ML_w hM hw1 (fun j z => by unfold wtM at z; omega)) (((hw1 237 106 (by unfold wtM; omega)).trans (h106))) (((hw1 237 176 (by unfold wtM; omega)).trans (h76))) ⟨by omega, by omega⟩ ⟨by omega, by omega⟩ ⟨by omega, by omega⟩) (fun oq16 Sq16 hp17 q16 => ?_)
            rcases q16 with ⟨rfl, rfl⟩
            exact wJ_S (hk _ (by omega) (dtR_mk hw1)) ⟨rfl, rfl, rfl, trivial⟩
          · skip
            exfalso; omega
      · skip
        exfalso; omega
    · skip
      exact absurd c4 (by omega)
theorem rdv_261 {m tn en f r : Int} {es : List (Int × Int)} {k : Nat} (hX : w_X xs) (hM : w_ML S) (hK : KR 261 T n cs ms S) (hw : wHo cs ms os) (hm : 0 ≤ m ∧ m < (ms.length : Int)) (hso : (hmR ms m).2.1 = 1) (h106 : S 237 106 = tn) (ht : 0 ≤ tn ∧ tn ≤ 100000) (h76 : S 237 176 = en) (hen : 0 ≤ en ∧ en ≤ 1000) (hf : ffA T cs ms m = f) (hfn : f = -1) (h73 : S 237 173 = r) (hel : en = (es.length : Int)) (hr : 0 ≤ r ∧ r + 1 + (es.length : Int) ≤ 4200) (hes : ∀ i : Nat, i < es.length → S 363 (r + 1 + (i : Int)) = (es.getD i (0, 0)).1 ∧ S 364 (r + 1 + (i : Int)) = (es.getD i (0, 0)).2) (hek : ∀ i : Nat, i < es.length → 0 ≤ (es.getD i (0, 0)).1 ∧ (es.getD i (0, 0)).1 ≤ 8) (hty : (hmR ms m).2.2.2.1 = 0) : wJ (pe_GA xs) wY0 M (d + 8) t_M_doesMember ((pe_at t_M_doesMember.bl 0).getD (0, [])).2 [(0, (2, 237)), (1, (0, m))] [] S (fun o Z => (100000 < tn + 2 ∧ o = .inr 238 ∧ hZ 99 S = Z) ∨ (tn + 2 ≤ 100000 ∧ o = .inl none ∧ ∃ B : wS, dtR tn m en S B ∧ isQ 0 0 B Z)) := by
  have h400 := hw.1
  refine rdh_261 hX hM hK hw hm hso h106 ht h76 hen hf ⟨by omega, by omega⟩ (by omega) (fun z => Or.inl ⟨z, rfl, rfl⟩) (fun B hle hB => ?_)
  have hMB : w_ML B := dtR_ML hM hB ht.1
  have hKB : KR 261 T n cs ms B := dtR_KR hK hB (by omega)
  have b13 : B 237 13 = 261 := hKB.1
  have hfb := hB.2
  have uuM := KR_m hKB (m := m) (by omega) (by omega)
  have uuW := hw.2.2.2 m (by omega) (by omega)
  have uu1 : B 273 m = (hmR ms m).2.1 := uuM.1.2.1
  have uu2 : B 274 m = (hmR ms m).2.2.1 := uuM.1.2.2.1
  have uu3 : B 275 m = (hmR ms m).2.2.2.1 := uuM.1.2.2.2.1
  have uu4 : B 276 m = ((hmR ms m).2.2.2.2.1.length : Int) := uuM.2.1.1
  have uu5 : B 277 m = (hmR ms m).2.2.2.2.2.1 := uuM.2.1.2.1
  have uuf : B 279 m = (hmR ms m).2.2.2.2.2.2.1 := uuM.1.2.2.2.2.1
  have uut : B 280 m = (hmR ms m).2.2.2.2.2.2.2 := uuM.1.2.2.2.2.2
  have uuq := uuW.1.2.1
  have uus := uuW.1.2.2.1
  have uuy := uuW.1.2.2.2
  have uuv := uuW.2.1
  have uul := uuW.2.2.1
  have uuft := hK.2.2.2.2.2.2.1 m (by omega) (by omega)
  have b73 : B 237 173 = r := (hfb 237 173 (by unfold dtM wtM; omega)).trans h73
  have b76 : B 237 176 = (es.length : Int) := ((hfb 237 176 (by unfold dtM wtM; omega)).trans h76).trans hel
  have beS : ∀ i : Nat, i < es.length → B 363 (r + 1 + (i : Int)) = (es.getD i (0, 0)).1 ∧ B 364 (r + 1 + (i : Int)) = (es.getD i (0, 0)).2 := fun i hi => ⟨(hfb 363 _ (by unfold dtM wtM; omega)).trans (hes i hi).1, (hfb 364 _ (by unfold dtM wtM; omega)).trans (hes i hi).2⟩
  refine wa_iload_n (n := 2) rfl ?_
  refine wa_iflt (w_rg0 (by omega) (by omega)) ⟨_, rfl⟩ (fun c11 => ?_) (fun c11 => ?_)
  · skip
    refine wa_aload_n (n := 0) rfl ?_
    refine wa_iload_n (n := 1) rfl ?_
    refine wa_cv 237 rfl (wy_pr rfl) wt_237 (M2 := fun _ => False) rfl at_M_answersByType ⟨_, rfl⟩ rfl rfl ⟨(Or.inr ⟨wy_pr rfl, fun q => q⟩), trivial, trivial, trivial⟩ trivial (fun _ _ q => False.elim q) (rav_261 (S := B) (m := m) (es := es) (gk := 0) (gb := 0) hMB hKB hw hm b73 b76 hr beS hek hty rfl) (fun oq12 Sq12 hp13 q12 => ?_)
    rcases q12 with ⟨rfl, hres⟩
    show wJ _ _ _ _ _ _ _ _ _ _
    refine wa_return rfl ?_
    exact Or.inr ⟨hle, rfl, B, hB, hres⟩
  · skip
    exact absurd c11 (by omega)
theorem rdn_261 {m tn en f r ty : Int} {es : List (Int × Int)} {k : Nat} (hX : w_X xs) (hM : w_ML S) (hK : KR 261 T n cs ms S) (hw : wHo cs ms os) (hm : 0 ≤ m ∧ m < (ms.length : Int)) (hso : (hmR ms m).2.1 = 1) (h106 : S 237 106 = tn) (ht : 0 ≤ tn ∧ tn ≤ 100000) (h76 : S 237 176 = en) (hen : 0 ≤ en ∧ en ≤ 1000) (hf : ffA T cs ms m = f) (hfn : f = -1) (h73 : S 237 173 = r) (hel : en = (es.length : Int)) (hr : 0 ≤ r ∧ r + 1 + (es.length : Int) ≤ 4200) (hes : ∀ i : Nat, i < es.length → S 363 (r + 1 + (i : Int)) = (es.getD i (0, 0)).1 ∧ S 364 (r + 1 + (i : Int)) = (es.getD i (0, 0)).2) (hek : ∀ i : Nat, i < es.length → 0 ≤ (es.getD i (0, 0)).1 ∧ (es.getD i (0, 0)).1 ≤ 8) (hty : (hmR ms m).2.2.2.1 = ty) (htr : 1 ≤ ty ∧ ty ≤ 6) : wJ (pe_GA xs) wY0 M (d + 8) t_M_doesMember ((pe_at t_M_doesMember.bl 0).getD (0, [])).2 [(0, (2, 237)), (1, (0, m))] [] S (fun o Z => (100000 < tn + 2 ∧ o = .inr 238 ∧ hZ 99 S = Z) ∨ (tn + 2 ≤ 100000 ∧ o = .inl none ∧ ∃ B : wS, dtR tn m en S B ∧ isQ (anK ty) (anB ty (anS m es)) B Z)) := by
  have h400 := hw.1
  refine rdh_261 hX hM hK hw hm hso h106 ht h76 hen hf ⟨by omega, by omega⟩ (by omega) (fun z => Or.inl ⟨z, rfl, rfl⟩) (fun B hle hB => ?_)
  have hMB : w_ML B := dtR_ML hM hB ht.1
  have hKB : KR 261 T n cs ms B := dtR_KR hK hB (by omega)
  have b13 : B 237 13 = 261 := hKB.1
  have hfb := hB.2
  have uuM := KR_m hKB (m := m) (by omega) (by omega)
  have uuW := hw.2.2.2 m (by omega) (by omega)
  have uu1 : B 273 m = (hmR ms m).2.1 := uuM.1.2.1
  have uu2 : B 274 m = (hmR ms m).2.2.1 := uuM.1.2.2.1
  have uu3 : B 275 m = (hmR ms m).2.2.2.1 := uuM.1.2.2.2.1
  have uu4 : B 276 m = ((hmR ms m).2.2.2.2.1.length : Int) := uuM.2.1.1
  have uu5 : B 277 m = (hmR ms m).2.2.2.2.2.1 := uuM.2.1.2.1
  have uuf : B 279 m = (hmR ms m).2.2.2.2.2.2.1 := uuM.1.2.2.2.2.1
  have uut : B 280 m = (hmR ms m).2.2.2.2.2.2.2 := uuM.1.2.2.2.2.2
  have uuq := uuW.1.2.1
  have uus := uuW.1.2.2.1
  have uuy := uuW.1.2.2.2
  have uuv := uuW.2.1
  have uul := uuW.2.2.1
  have uuft := hK.2.2.2.2.2.2.1 m (by omega) (by omega)
  have b73 : B 237 173 = r := (hfb 237 173 (by unfold dtM wtM; omega)).trans h73
  have b76 : B 237 176 = (es.length : Int) := ((hfb 237 176 (by unfold dtM wtM; omega)).trans h76).trans hel
  have beS : ∀ i : Nat, i < es.length → B 363 (r + 1 + (i : Int)) = (es.getD i (0, 0)).1 ∧ B 364 (r + 1 + (i : Int)) = (es.getD i (0, 0)).2 := fun i hi => ⟨(hfb 363 _ (by unfold dtM wtM; omega)).trans (hes i hi).1, (hfb 364 _ (by unfold dtM wtM; omega)).trans (hes i hi).2⟩
  refine wa_iload_n (n := 2) rfl ?_
  refine wa_iflt (w_rg0 (by omega) (by omega)) ⟨_, rfl⟩ (fun c11 => ?_) (fun c11 => ?_)
  · skip
    refine wa_aload_n (n := 0) rfl ?_
    refine wa_iload_n (n := 1) rfl ?_
    refine wa_cv 237 rfl (wy_pr rfl) wt_237 (M2 := fun _ => False) rfl at_M_answersByType ⟨_, rfl⟩ rfl rfl ⟨(Or.inr ⟨wy_pr rfl, fun q => q⟩), trivial, trivial, trivial⟩ trivial (fun _ _ q => False.elim q) (rab_261 (S := B) (m := m) (es := es) (gk := 0) (gb := 0) hMB hKB hw hm b73 b76 hr beS hek hty htr) (fun oq12 Sq12 hp13 q12 => ?_)
    rcases q12 with ⟨rfl, hres⟩
    show wJ _ _ _ _ _ _ _ _ _ _
    refine wa_return rfl ?_
    exact Or.inr ⟨hle, rfl, B, hB, hres⟩
  · skip
    exact absurd c11 (by omega)
theorem rdt_261 {m tn en f r ty gk gb : Int} {es : List (Int × Int)} {k : Nat} (hX : w_X xs) (hM : w_ML S) (hK : KR 261 T n cs ms S) (hw : wHo cs ms os) (hm : 0 ≤ m ∧ m < (ms.length : Int)) (hso : (hmR ms m).2.1 = 1) (h106 : S 237 106 = tn) (ht : 0 ≤ tn ∧ tn ≤ 100000) (h76 : S 237 176 = en) (hen : 0 ≤ en ∧ en ≤ 1000) (hf : ffA T cs ms m = f) (hfn : f = -1) (h73 : S 237 173 = r) (hel : en = (es.length : Int)) (hr : 0 ≤ r ∧ r + 1 + (es.length : Int) ≤ 4200) (hes : ∀ i : Nat, i < es.length → S 363 (r + 1 + (i : Int)) = (es.getD i (0, 0)).1 ∧ S 364 (r + 1 + (i : Int)) = (es.getD i (0, 0)).2) (hek : ∀ i : Nat, i < es.length → 0 ≤ (es.getD i (0, 0)).1 ∧ (es.getD i (0, 0)).1 ≤ 8) (hty : (hmR ms m).2.2.2.1 = ty) (h74 : S 237 174 = gk) (h75 : S 237 175 = gb) (hgk : 0 ≤ gk ∧ gk ≤ 8) (hgb : -9223372036854775808 ≤ gb ∧ gb ≤ 9223372036854775807) (hg7 : gk = 7 → 0 ≤ gb ∧ gb < 8000 ∧ 0 ≤ S 321 gb ∧ S 321 gb < (cs.length : Int)) (htr : 8 ≤ ty ∧ ty < 9 + (cs.length : Int)) (hev : ∀ i : Nat, i < es.length → (-9223372036854775808 ≤ (es.getD i (0, 0)).2 ∧ (es.getD i (0, 0)).2 ≤ 9223372036854775807) ∧ ((es.getD i (0, 0)).1 = 7 → 0 ≤ (es.getD i (0, 0)).2 ∧ (es.getD i (0, 0)).2 < 8000 ∧ 0 ≤ S 321 (es.getD i (0, 0)).2 ∧ S 321 (es.getD i (0, 0)).2 < (cs.length : Int))) : wJ (pe_GA xs) wY0 M (d + 8) t_M_doesMember ((pe_at t_M_doesMember.bl 0).getD (0, [])).2 [(0, (2, 237)), (1, (0, m))] [] S (fun o Z => (100000 < tn + 2 ∧ o = .inr 238 ∧ hZ 99 S = Z) ∨ (tn + 2 ≤ 100000 ∧ o = .inl none ∧ ∃ B : wS, dtR tn m en S B ∧ isQ (anR cs S ty gk gb es).1 (anR cs S ty gk gb es).2 B Z)) := by
  have h400 := hw.1
  refine rdh_261 hX hM hK hw hm hso h106 ht h76 hen hf ⟨by omega, by omega⟩ (by omega) (fun z => Or.inl ⟨z, rfl, rfl⟩) (fun B hle hB => ?_)
  have hMB : w_ML B := dtR_ML hM hB ht.1
  have hKB : KR 261 T n cs ms B := dtR_KR hK hB (by omega)
  have b13 : B 237 13 = 261 := hKB.1
  have hfb := hB.2
  have uuM := KR_m hKB (m := m) (by omega) (by omega)
  have uuW := hw.2.2.2 m (by omega) (by omega)
  have uu1 : B 273 m = (hmR ms m).2.1 := uuM.1.2.1
  have uu2 : B 274 m = (hmR ms m).2.2.1 := uuM.1.2.2.1
  have uu3 : B 275 m = (hmR ms m).2.2.2.1 := uuM.1.2.2.2.1
  have uu4 : B 276 m = ((hmR ms m).2.2.2.2.1.length : Int) := uuM.2.1.1
  have uu5 : B 277 m = (hmR ms m).2.2.2.2.2.1 := uuM.2.1.2.1
  have uuf : B 279 m = (hmR ms m).2.2.2.2.2.2.1 := uuM.1.2.2.2.2.1
  have uut : B 280 m = (hmR ms m).2.2.2.2.2.2.2 := uuM.1.2.2.2.2.2
  have uuq := uuW.1.2.1
  have uus := uuW.1.2.2.1
  have uuy := uuW.1.2.2.2
  have uuv := uuW.2.1
  have uul := uuW.2.2.1
  have uuft := hK.2.2.2.2.2.2.1 m (by omega) (by omega)
  have b73 : B 237 173 = r := (hfb 237 173 (by unfold dtM wtM; omega)).trans h73
  have b76 : B 237 176 = (es.length : Int) := ((hfb 237 176 (by unfold dtM wtM; omega)).trans h76).trans hel
  have beS : ∀ i : Nat, i < es.length → B 363 (r + 1 + (i : Int)) = (es.getD i (0, 0)).1 ∧ B 364 (r + 1 + (i : Int)) = (es.getD i (0, 0)).2 := fun i hi => ⟨(hfb 363 _ (by unfold dtM wtM; omega)).trans (hes i hi).1, (hfb 364 _ (by unfold dtM wtM; omega)).trans (hes i hi).2⟩
  have b321 : ∀ v : Int, B 321 v = S 321 v := fun v => hfb 321 v (by unfold dtM wtM; omega)
  have b74 : B 237 174 = gk := (hfb 237 174 (by unfold dtM wtM; omega)).trans h74
  have b75 : B 237 175 = gb := (hfb 237 175 (by unfold dtM wtM; omega)).trans h75
  have bg7 : gk = 7 → 0 ≤ gb ∧ gb < 8000 ∧ 0 ≤ B 321 gb ∧ B 321 gb < (cs.length : Int) := fun z => by rw [b321]; exact hg7 z
  have bev : ∀ i : Nat, i < es.length → (-9223372036854775808 ≤ (es.getD i (0, 0)).2 ∧ (es.getD i (0, 0)).2 ≤ 9223372036854775807) ∧ ((es.getD i (0, 0)).1 = 7 → 0 ≤ (es.getD i (0, 0)).2 ∧ (es.getD i (0, 0)).2 < 8000 ∧ 0 ≤ B 321 (es.getD i (0, 0)).2 ∧ B 321 (es.getD i (0, 0)).2 < (cs.length : Int)) := fun i hi => ⟨(hev i hi).1, fun z => by rw [b321]; exact (hev i hi).2 z⟩
  rw [← anR_ag (cs := cs) (ty := ty) (gk := gk) (gb := gb) (es := es) b321]
  refine wa_iload_n (n := 2) rfl ?_
  refine wa_iflt (w_rg0 (by omega) (by omega)) ⟨_, rfl⟩ (fun c11 => ?_) (fun c11 => ?_)
  · skip
    refine wa_aload_n (n := 0) rfl ?_
    refine wa_iload_n (n := 1) rfl ?_
    refine wa_cv 237 rfl (wy_pr rfl) wt_237 (M2 := fun _ => False) rfl at_M_answersByType ⟨_, rfl⟩ rfl rfl ⟨(Or.inr ⟨wy_pr rfl, fun q => q⟩), trivial, trivial, trivial⟩ trivial (fun _ _ q => False.elim q) (rath_261 (S := B) (m := m) (es := es) hMB hKB hw hm b73 b76 hr beS hek hty b74 b75 hgk hgb bg7 htr bev) (fun oq12 Sq12 hp13 q12 => ?_)
    rcases q12 with ⟨rfl, hres⟩
    show wJ _ _ _ _ _ _ _ _ _ _
    refine wa_return rfl ?_
    exact Or.inr ⟨hle, rfl, B, hB, hres⟩
  · skip
    exact absurd c11 (by omega)
theorem rdr1_261 {m tn en f vk vb c gb : Int} {es : List (Int × Int)} {k : Nat} (hX : w_X xs) (hM : w_ML S) (hK : KR 261 T n cs ms S) (hw : wHo cs ms os) (hm : 0 ≤ m ∧ m < (ms.length : Int)) (hso : (hmR ms m).2.1 = 1) (h106 : S 237 106 = tn) (ht : 0 ≤ tn ∧ tn ≤ 100000) (h76 : S 237 176 = en) (hen : 0 ≤ en ∧ en ≤ 1000) (hf : ffA T cs ms m = f) (hfv : 0 ≤ f ∧ f < (ms.length : Int)) (hst : (hmR ms f).2.2.1 = 1) (hvk : -2147483648 ≤ vk ∧ vk ≤ 2147483647) (hvb : -9223372036854775808 ≤ vb ∧ vb ≤ 9223372036854775807) (h40 : S 340 f = vk) (h41 : S 341 f = vb) (hty : (hmR ms m).2.2.2.1 ≠ 0) : wJ (pe_GA xs) wY0 M (d + 8) t_M_doesMember ((pe_at t_M_doesMember.bl 0).getD (0, [])).2 [(0, (2, 237)), (1, (0, m))] [] S (fun o Z => (100000 < tn + 2 ∧ o = .inr 238 ∧ hZ 99 S = Z) ∨ (tn + 2 ≤ 100000 ∧ o = .inl none ∧ ∃ B : wS, dtR tn m en S B ∧ (Z 237 110 = vk ∧ Z 237 111 = vb) ∧ ∀ (j : Nat) (x : Int), ¬ fiM j x → Z j x = B j x)) := by
  have h400 := hw.1
  refine rdh_261 hX hM hK hw hm hso h106 ht h76 hen hf ⟨by omega, by omega⟩ (by omega) (fun z => Or.inl ⟨z, rfl, rfl⟩) (fun B hle hB => ?_)
  have hMB : w_ML B := dtR_ML hM hB ht.1
  have hKB : KR 261 T n cs ms B := dtR_KR hK hB (by omega)
  have b13 : B 237 13 = 261 := hKB.1
  have hfb := hB.2
  have uuM := KR_m hKB (m := m) (by omega) (by omega)
  have uuW := hw.2.2.2 m (by omega) (by omega)
  have uu1 : B 273 m = (hmR ms m).2.1 := uuM.1.2.1
  have uu2 : B 274 m = (hmR ms m).2.2.1 := uuM.1.2.2.1
  have uu3 : B 275 m = (hmR ms m).2.2.2.1 := uuM.1.2.2.2.1
  have uu4 : B 276 m = ((hmR ms m).2.2.2.2.1.length : Int) := uuM.2.1.1
  have uu5 : B 277 m = (hmR ms m).2.2.2.2.2.1 := uuM.2.1.2.1
  have uuf : B 279 m = (hmR ms m).2.2.2.2.2.2.1 := uuM.1.2.2.2.2.1
  have uut : B 280 m = (hmR ms m).2.2.2.2.2.2.2 := uuM.1.2.2.2.2.2
  have uuq := uuW.1.2.1
  have uus := uuW.1.2.2.1
  have uuy := uuW.1.2.2.2
  have uuv := uuW.2.1
  have uul := uuW.2.2.1
  have uuft := hK.2.2.2.2.2.2.1 m (by omega) (by omega)
  have b40 : B 340 f = vk := (hfb 340 _ (by unfold dtM wtM; omega)).trans h40
  have b41 : B 341 f = vb := (hfb 341 _ (by unfold dtM wtM; omega)).trans h41
  refine wa_iload_n (n := 2) rfl ?_
  refine wa_iflt (w_rg0 (by omega) (by omega)) ⟨_, rfl⟩ (fun c11 => ?_) (fun c11 => ?_)
  · skip
    exact absurd c11 (by omega)
  · skip
    refine wa_aload_n (n := 0) rfl ?_
    refine wb_gf5 237 rfl (wy_pr rfl) wt_237 wf_15_13 (v := 261) (b13) (fun r12 => ?_)
    refine wb_gf4 261 rfl (wy_pr rfl) wt_261 wf_12_15 (v := 275) wl_261_15 ?_
    refine wa_iload_n (n := 1) rfl ?_
    refine wb_iald 275 rfl (wy_pr rfl) wt_275 (n := 400) ((ml_275 hMB)) (by omega) (by omega) (v := (hmR ms m).2.2.2.1) (uu3) (fun r13 => ?_)
    refine wa_ifne (w_rg0 (by omega) (by omega)) ⟨_, rfl⟩ (fun c14 => ?_) (fun c14 => ?_)
    · skip
      refine wa_aload_n (n := 0) rfl ?_
      refine wa_iload_n (n := 2) rfl ?_
      refine wa_cv 237 rfl (wy_pr rfl) wt_237 (M2 := fun _ => False) rfl at_M_readsFieldOf ⟨_, rfl⟩ rfl rfl ⟨(Or.inr ⟨wy_pr rfl, fun q => q⟩), trivial, trivial, trivial⟩ trivial (fun _ _ q => False.elim q) (rrf1_261 (S := B) (m := f) (c := 0) (gb := 0) (k := 0) hMB hKB hw hfv hvk hvb hst b40 b41) (fun oq15 Sq15 hp16 q15 => ?_)
      rcases q15 with ⟨rfl, hres⟩
      show wJ _ _ _ _ _ _ _ _ _ _
      refine wa_fall ⟨_, rfl⟩ ?_
      refine wa_return rfl ?_
      exact Or.inr ⟨hle, rfl, B, hB, hres⟩
    · skip
      exfalso; omega
theorem rdw1_261 {m tn en f k1 v1 c gb r : Int} {es : List (Int × Int)} {k : Nat} (hX : w_X xs) (hM : w_ML S) (hK : KR 261 T n cs ms S) (hw : wHo cs ms os) (hm : 0 ≤ m ∧ m < (ms.length : Int)) (hso : (hmR ms m).2.1 = 1) (h106 : S 237 106 = tn) (ht : 0 ≤ tn ∧ tn ≤ 100000) (h76 : S 237 176 = en) (hen : 0 ≤ en ∧ en ≤ 1000) (hf : ffA T cs ms m = f) (hfv : 0 ≤ f ∧ f < (ms.length : Int)) (hst : (hmR ms f).2.2.1 = 1) (h73 : S 237 173 = r) (hr : 0 ≤ r ∧ r + 1 < 4200) (hk1 : S 363 (r + 1) = k1) (hv1 : S 364 (r + 1) = v1) (hkr : -2147483648 ≤ k1 ∧ k1 ≤ 2147483647) (hvr : -9223372036854775808 ≤ v1 ∧ v1 ≤ 9223372036854775807) (hty : (hmR ms m).2.2.2.1 = 0) : wJ (pe_GA xs) wY0 M (d + 8) t_M_doesMember ((pe_at t_M_doesMember.bl 0).getD (0, [])).2 [(0, (2, 237)), (1, (0, m))] [] S (fun o Z => (100000 < tn + 2 ∧ o = .inr 238 ∧ hZ 99 S = Z) ∨ (tn + 2 ≤ 100000 ∧ o = .inl none ∧ ∃ B : wS, dtR tn m en S B ∧ isQ 0 0 (w_up (w_up B 340 f k1) 341 f v1) Z)) := by
  have h400 := hw.1
  refine rdh_261 hX hM hK hw hm hso h106 ht h76 hen hf ⟨by omega, by omega⟩ (by omega) (fun z => Or.inl ⟨z, rfl, rfl⟩) (fun B hle hB => ?_)
  have hMB : w_ML B := dtR_ML hM hB ht.1
  have hKB : KR 261 T n cs ms B := dtR_KR hK hB (by omega)
  have b13 : B 237 13 = 261 := hKB.1
  have hfb := hB.2
  have uuM := KR_m hKB (m := m) (by omega) (by omega)
  have uuW := hw.2.2.2 m (by omega) (by omega)
  have uu1 : B 273 m = (hmR ms m).2.1 := uuM.1.2.1
  have uu2 : B 274 m = (hmR ms m).2.2.1 := uuM.1.2.2.1
  have uu3 : B 275 m = (hmR ms m).2.2.2.1 := uuM.1.2.2.2.1
  have uu4 : B 276 m = ((hmR ms m).2.2.2.2.1.length : Int) := uuM.2.1.1
  have uu5 : B 277 m = (hmR ms m).2.2.2.2.2.1 := uuM.2.1.2.1
  have uuf : B 279 m = (hmR ms m).2.2.2.2.2.2.1 := uuM.1.2.2.2.2.1
  have uut : B 280 m = (hmR ms m).2.2.2.2.2.2.2 := uuM.1.2.2.2.2.2
  have uuq := uuW.1.2.1
  have uus := uuW.1.2.2.1
  have uuy := uuW.1.2.2.2
  have uuv := uuW.2.1
  have uul := uuW.2.2.1
  have uuft := hK.2.2.2.2.2.2.1 m (by omega) (by omega)
  have b73 : B 237 173 = r := (hfb 237 173 (by unfold dtM wtM; omega)).trans h73
  have bk1 : B 363 (r + 1) = k1 := (hfb 363 _ (by unfold dtM wtM; omega)).trans hk1
  have bv1 : B 364 (r + 1) = v1 := (hfb 364 _ (by unfold dtM wtM; omega)).trans hv1
  refine wa_iload_n (n := 2) rfl ?_
  refine wa_iflt (w_rg0 (by omega) (by omega)) ⟨_, rfl⟩ (fun c11 => ?_) (fun c11 => ?_)
  · skip
    exact absurd c11 (by omega)
  · skip
    refine wa_aload_n (n := 0) rfl ?_
    refine wb_gf5 237 rfl (wy_pr rfl) wt_237 wf_15_13 (v := 261) (b13) (fun r12 => ?_)
    refine wb_gf4 261 rfl (wy_pr rfl) wt_261 wf_12_15 (v := 275) wl_261_15 ?_
    refine wa_iload_n (n := 1) rfl ?_
    refine wb_iald 275 rfl (wy_pr rfl) wt_275 (n := 400) ((ml_275 hMB)) (by omega) (by omega) (v := (hmR ms m).2.2.2.1) (uu3) (fun r13 => ?_)
    refine wa_ifne (w_rg0 (by omega) (by omega)) ⟨_, rfl⟩ (fun c14 => ?_) (fun c14 => ?_)
    · skip
      exfalso; omega
    · skip
      refine wa_aload_n (n := 0) rfl ?_
      refine wa_iload_n (n := 2) rfl ?_
      refine wa_aload_n (n := 0) rfl ?_
      refine wb_gf4 237 rfl (wy_pr rfl) wt_237 wf_15_138 (v := 363) wl_237_138 ?_
      refine wa_aload_n (n := 0) rfl ?_
      refine wb_gfi 237 rfl (wy_pr rfl) wt_237 wf_15_173 (v := r) (b73) (fun r15 => ?_)
      refine wa_iconst ?_
      refine wa_iadd ?_
      refine wb_iald 363 rfl (wy_pr rfl) wt_363 (n := 4200) ((ml_363 hMB)) (by omega) (by omega) (v := k1) (bk1) (fun r16 => ?_)
      refine wa_aload_n (n := 0) rfl ?_
      refine wb_gf4 237 rfl (wy_pr rfl) wt_237 wf_15_139 (v := 364) wl_237_139 ?_
      refine wa_aload_n (n := 0) rfl ?_
      refine wb_gfi 237 rfl (wy_pr rfl) wt_237 wf_15_173 (v := r) (b73) (fun r17 => ?_)
      refine wa_iconst ?_
      refine wa_iadd ?_
      refine wb_lald 364 rfl (wy_pr rfl) wt_364 (n := 4200) ((ml_364 hMB)) (by omega) (by omega) (v := v1) (bv1) (fun r18 => ?_)
      refine wa_cv 237 rfl (wy_pr rfl) wt_237 (M2 := fun _ => False) rfl at_M_writesFieldOf ⟨_, rfl⟩ rfl rfl ⟨(Or.inr ⟨wy_pr rfl, fun q => q⟩), trivial, trivial, trivial⟩ trivial (fun _ _ q => False.elim q) (rwf1_261 (S := B) (m := f) (vk := k1) (vb := v1) (c := 0) (gb := 0) (k := 0) hMB hKB hw hfv hkr hvr hst) (fun oq19 Sq19 hp20 q19 => ?_)
      rcases q19 with ⟨rfl, rfl⟩
      show wJ _ _ _ _ _ _ _ _ _ _
      have hres : isQ 0 0 (w_up (w_up B 340 f k1) 341 f v1) (w_up (w_up (w_up (w_up B 340 f k1) 341 f v1) 237 110 0) 237 111 0) := isQ_u (fun _ _ _ => rfl)
      refine wa_aload_n (n := 0) rfl ?_
      refine wa_iconst ?_
      refine wb_lconst (m := 0) rfl ?_
      refine wa_cv 237 rfl (wy_pr rfl) wt_237 (M2 := fun _ => False) rfl at_M_is ⟨_, rfl⟩ rfl rfl ⟨(Or.inr ⟨wy_pr rfl, fun q => q⟩), trivial, trivial, trivial⟩ trivial (fun _ _ q => False.elim q) ?_ (fun _ _ _ q => q)
      refine wa_aload_n (n := 0) rfl ?_
      refine wa_iload_n (n := 1) rfl ?_
      refine wb_pfi 237 rfl (wy_pr rfl) wt_237 wf_15_110 (n := 110) rfl ⟨(by omega), (by omega)⟩ ?_
      refine wa_aload_n (n := 0) rfl ?_
      refine wa_lload_n (n := 2) rfl ?_
      refine wb_pfl 237 rfl (wy_pr rfl) wt_237 wf_15_111 (n := 111) rfl ⟨(by omega), (by omega)⟩ ?_
      refine wa_return rfl ?_
      show wJ _ _ _ _ _ _ _ _ _ _
      refine wa_goto ⟨_, rfl⟩ ?_
      refine wa_return rfl ?_
      exact Or.inr ⟨hle, rfl, B, hB, hres⟩
theorem rdr0_261 {m tn en f vk vb c gb : Int} {es : List (Int × Int)} {k : Nat} (hX : w_X xs) (hM : w_ML S) (hK : KR 261 T n cs ms S) (hw : wHo cs ms os) (hm : 0 ≤ m ∧ m < (ms.length : Int)) (hso : (hmR ms m).2.1 = 1) (h106 : S 237 106 = tn) (ht : 0 ≤ tn ∧ tn ≤ 100000) (h76 : S 237 176 = en) (hen : 0 ≤ en ∧ en ≤ 1000) (hf : ffA T cs ms m = f) (hfv : 0 ≤ f ∧ f < (ms.length : Int)) (hst : (hmR ms f).2.2.1 = 0) (hvk : -2147483648 ≤ vk ∧ vk ≤ 2147483647) (hvb : -9223372036854775808 ≤ vb ∧ vb ≤ 9223372036854775807) (hc : 0 ≤ c ∧ c < (cs.length : Int)) (hF : (flA cs ms c).length ≤ 400) (hk : k < (flA cs ms c).length) (hkm : (flA cs ms c).getD k 0 = f) (hkn : ∀ i : Nat, i < k → (flA cs ms c).getD i 0 ≠ f) (h75 : S 237 175 = gb) (hgb : 0 ≤ gb ∧ gb < 8000) (h321 : S 321 gb = c) (hsl : slC S gb l) (hkl : k < l.length) (hl6 : l.length ≤ 60000) (h25 : S 325 (l.getD k 0) = vk) (h26 : S 326 (l.getD k 0) = vb) (hty : (hmR ms m).2.2.2.1 ≠ 0) : wJ (pe_GA xs) wY0 M (d + 8) t_M_doesMember ((pe_at t_M_doesMember.bl 0).getD (0, [])).2 [(0, (2, 237)), (1, (0, m))] [] S (fun o Z => (100000 < tn + 2 ∧ o = .inr 238 ∧ hZ 99 S = Z) ∨ (tn + 2 ≤ 100000 ∧ o = .inl none ∧ ∃ B : wS, dtR tn m en S B ∧ (Z 237 110 = vk ∧ Z 237 111 = vb) ∧ ∀ (j : Nat) (x : Int), ¬ fiM j x → Z j x = B j x)) := by
  have h400 := hw.1
  refine rdh_261 hX hM hK hw hm hso h106 ht h76 hen hf ⟨by omega, by omega⟩ (by omega) (fun z => Or.inl ⟨z, rfl, rfl⟩) (fun B hle hB => ?_)
  have hMB : w_ML B := dtR_ML hM hB ht.1
  have hKB : KR 261 T n cs ms B := dtR_KR hK hB (by omega)
  have b13 : B 237 13 = 261 := hKB.1
  have hfb := hB.2
  have uuM := KR_m hKB (m := m) (by omega) (by omega)
  have uuW := hw.2.2.2 m (by omega) (by omega)
  have uu1 : B 273 m = (hmR ms m).2.1 := uuM.1.2.1
  have uu2 : B 274 m = (hmR ms m).2.2.1 := uuM.1.2.2.1
  have uu3 : B 275 m = (hmR ms m).2.2.2.1 := uuM.1.2.2.2.1
  have uu4 : B 276 m = ((hmR ms m).2.2.2.2.1.length : Int) := uuM.2.1.1
  have uu5 : B 277 m = (hmR ms m).2.2.2.2.2.1 := uuM.2.1.2.1
  have uuf : B 279 m = (hmR ms m).2.2.2.2.2.2.1 := uuM.1.2.2.2.2.1
  have uut : B 280 m = (hmR ms m).2.2.2.2.2.2.2 := uuM.1.2.2.2.2.2
  have uuq := uuW.1.2.1
  have uus := uuW.1.2.2.1
  have uuy := uuW.1.2.2.2
  have uuv := uuW.2.1
  have uul := uuW.2.2.1
  have uuft := hK.2.2.2.2.2.2.1 m (by omega) (by omega)
  have b75 : B 237 175 = gb := (hfb 237 175 (by unfold dtM wtM; omega)).trans h75
  have b321 : B 321 gb = c := (hfb 321 _ (by unfold dtM wtM; omega)).trans h321
  have bsl : slC B gb l := ⟨(hfb 317 _ (by unfold dtM wtM; omega)).trans hsl.1, fun z => (hfb 316 _ (by unfold dtM wtM; omega)).trans (hsl.2.1 z), fun i hi => ⟨(hsl.2.2 i hi).1, fun z => (hfb 328 _ (by unfold dtM wtM; omega)).trans ((hsl.2.2 i hi).2 z)⟩⟩
  have b25 : B 325 (l.getD k 0) = vk := (hfb 325 _ (by unfold dtM wtM; omega)).trans h25
  have b26 : B 326 (l.getD k 0) = vb := (hfb 326 _ (by unfold dtM wtM; omega)).trans h26
  refine wa_iload_n (n := 2) rfl ?_
  refine wa_iflt (w_rg0 (by omega) (by omega)) ⟨_, rfl⟩ (fun c11 => ?_) (fun c11 => ?_)
  · skip
    exact absurd c11 (by omega)
  · skip
    refine wa_aload_n (n := 0) rfl ?_
    refine wb_gf5 237 rfl (wy_pr rfl) wt_237 wf_15_13 (v := 261) (b13) (fun r12 => ?_)
    refine wb_gf4 261 rfl (wy_pr rfl) wt_261 wf_12_15 (v := 275) wl_261_15 ?_
    refine wa_iload_n (n := 1) rfl ?_
    refine wb_iald 275 rfl (wy_pr rfl) wt_275 (n := 400) ((ml_275 hMB)) (by omega) (by omega) (v := (hmR ms m).2.2.2.1) (uu3) (fun r13 => ?_)
    refine wa_ifne (w_rg0 (by omega) (by omega)) ⟨_, rfl⟩ (fun c14 => ?_) (fun c14 => ?_)
    · skip
      refine wa_aload_n (n := 0) rfl ?_
      refine wa_iload_n (n := 2) rfl ?_
      refine wa_cv 237 rfl (wy_pr rfl) wt_237 (M2 := fun _ => False) rfl at_M_readsFieldOf ⟨_, rfl⟩ rfl rfl ⟨(Or.inr ⟨wy_pr rfl, fun q => q⟩), trivial, trivial, trivial⟩ trivial (fun _ _ q => False.elim q) (rrf0_261 (S := B) (m := f) (c := c) (gb := gb) (k := k) (l := l) hMB hKB hw hfv hvk hvb hst hc hF hk hkm hkn b75 hgb b321 bsl hkl hl6 b25 b26) (fun oq15 Sq15 hp16 q15 => ?_)
      rcases q15 with ⟨rfl, hres⟩
      show wJ _ _ _ _ _ _ _ _ _ _
      refine wa_fall ⟨_, rfl⟩ ?_
      refine wa_return rfl ?_
      exact Or.inr ⟨hle, rfl, B, hB, hres⟩
    · skip
      exfalso; omega
theorem rdw0_261 {m tn en f k1 v1 c gb r : Int} {es : List (Int × Int)} {k : Nat} (hX : w_X xs) (hM : w_ML S) (hK : KR 261 T n cs ms S) (hw : wHo cs ms os) (hm : 0 ≤ m ∧ m < (ms.length : Int)) (hso : (hmR ms m).2.1 = 1) (h106 : S 237 106 = tn) (ht : 0 ≤ tn ∧ tn ≤ 100000) (h76 : S 237 176 = en) (hen : 0 ≤ en ∧ en ≤ 1000) (hf : ffA T cs ms m = f) (hfv : 0 ≤ f ∧ f < (ms.length : Int)) (hst : (hmR ms f).2.2.1 = 0) (h73 : S 237 173 = r) (hr : 0 ≤ r ∧ r + 1 < 4200) (hk1 : S 363 (r + 1) = k1) (hv1 : S 364 (r + 1) = v1) (hkr : -2147483648 ≤ k1 ∧ k1 ≤ 2147483647) (hvr : -9223372036854775808 ≤ v1 ∧ v1 ≤ 9223372036854775807) (hc : 0 ≤ c ∧ c < (cs.length : Int)) (hF : (flA cs ms c).length ≤ 400) (hk : k < (flA cs ms c).length) (hkm : (flA cs ms c).getD k 0 = f) (hkn : ∀ i : Nat, i < k → (flA cs ms c).getD i 0 ≠ f) (h75 : S 237 175 = gb) (hgb : 0 ≤ gb ∧ gb < 8000) (h321 : S 321 gb = c) (hsl : slC S gb l) (hkl : k < l.length) (hl6 : l.length ≤ 60000) (hty : (hmR ms m).2.2.2.1 = 0) : wJ (pe_GA xs) wY0 M (d + 8) t_M_doesMember ((pe_at t_M_doesMember.bl 0).getD (0, [])).2 [(0, (2, 237)), (1, (0, m))] [] S (fun o Z => (100000 < tn + 2 ∧ o = .inr 238 ∧ hZ 99 S = Z) ∨ (tn + 2 ≤ 100000 ∧ o = .inl none ∧ ∃ B : wS, dtR tn m en S B ∧ ∃ C : wS, (C 325 (l.getD k 0) = k1 ∧ C 326 (l.getD k 0) = v1) ∧ (∀ (j : Nat) (x : Int), ¬ (flM j x ∨ ((j = 325 ∨ j = 326) ∧ x = l.getD k 0)) → C j x = B j x) ∧ isQ 0 0 C Z)) := by
  have h400 := hw.1
  refine rdh_261 hX hM hK hw hm hso h106 ht h76 hen hf ⟨by omega, by omega⟩ (by omega) (fun z => Or.inl ⟨z, rfl, rfl⟩) (fun B hle hB => ?_)
  have hMB : w_ML B := dtR_ML hM hB ht.1
  have hKB : KR 261 T n cs ms B := dtR_KR hK hB (by omega)
  have b13 : B 237 13 = 261 := hKB.1
  have hfb := hB.2
  have uuM := KR_m hKB (m := m) (by omega) (by omega)
  have uuW := hw.2.2.2 m (by omega) (by omega)
  have uu1 : B 273 m = (hmR ms m).2.1 := uuM.1.2.1
  have uu2 : B 274 m = (hmR ms m).2.2.1 := uuM.1.2.2.1
  have uu3 : B 275 m = (hmR ms m).2.2.2.1 := uuM.1.2.2.2.1
  have uu4 : B 276 m = ((hmR ms m).2.2.2.2.1.length : Int) := uuM.2.1.1
  have uu5 : B 277 m = (hmR ms m).2.2.2.2.2.1 := uuM.2.1.2.1
  have uuf : B 279 m = (hmR ms m).2.2.2.2.2.2.1 := uuM.1.2.2.2.2.1
  have uut : B 280 m = (hmR ms m).2.2.2.2.2.2.2 := uuM.1.2.2.2.2.2
  have uuq := uuW.1.2.1
  have uus := uuW.1.2.2.1
  have uuy := uuW.1.2.2.2
  have uuv := uuW.2.1
  have uul := uuW.2.2.1
  have uuft := hK.2.2.2.2.2.2.1 m (by omega) (by omega)
  have b73 : B 237 173 = r := (hfb 237 173 (by unfold dtM wtM; omega)).trans h73
  have bk1 : B 363 (r + 1) = k1 := (hfb 363 _ (by unfold dtM wtM; omega)).trans hk1
  have bv1 : B 364 (r + 1) = v1 := (hfb 364 _ (by unfold dtM wtM; omega)).trans hv1
  have b75 : B 237 175 = gb := (hfb 237 175 (by unfold dtM wtM; omega)).trans h75
  have b321 : B 321 gb = c := (hfb 321 _ (by unfold dtM wtM; omega)).trans h321
  have bsl : slC B gb l := ⟨(hfb 317 _ (by unfold dtM wtM; omega)).trans hsl.1, fun z => (hfb 316 _ (by unfold dtM wtM; omega)).trans (hsl.2.1 z), fun i hi => ⟨(hsl.2.2 i hi).1, fun z => (hfb 328 _ (by unfold dtM wtM; omega)).trans ((hsl.2.2 i hi).2 z)⟩⟩
  refine wa_iload_n (n := 2) rfl ?_
  refine wa_iflt (w_rg0 (by omega) (by omega)) ⟨_, rfl⟩ (fun c11 => ?_) (fun c11 => ?_)
  · skip
    exact absurd c11 (by omega)
  · skip
    refine wa_aload_n (n := 0) rfl ?_
    refine wb_gf5 237 rfl (wy_pr rfl) wt_237 wf_15_13 (v := 261) (b13) (fun r12 => ?_)
    refine wb_gf4 261 rfl (wy_pr rfl) wt_261 wf_12_15 (v := 275) wl_261_15 ?_
    refine wa_iload_n (n := 1) rfl ?_
    refine wb_iald 275 rfl (wy_pr rfl) wt_275 (n := 400) ((ml_275 hMB)) (by omega) (by omega) (v := (hmR ms m).2.2.2.1) (uu3) (fun r13 => ?_)
    refine wa_ifne (w_rg0 (by omega) (by omega)) ⟨_, rfl⟩ (fun c14 => ?_) (fun c14 => ?_)
    · skip
      exfalso; omega
    · skip
      refine wa_aload_n (n := 0) rfl ?_
      refine wa_iload_n (n := 2) rfl ?_
      refine wa_aload_n (n := 0) rfl ?_
      refine wb_gf4 237 rfl (wy_pr rfl) wt_237 wf_15_138 (v := 363) wl_237_138 ?_
      refine wa_aload_n (n := 0) rfl ?_
      refine wb_gfi 237 rfl (wy_pr rfl) wt_237 wf_15_173 (v := r) (b73) (fun r15 => ?_)
      refine wa_iconst ?_
      refine wa_iadd ?_
      refine wb_iald 363 rfl (wy_pr rfl) wt_363 (n := 4200) ((ml_363 hMB)) (by omega) (by omega) (v := k1) (bk1) (fun r16 => ?_)
      refine wa_aload_n (n := 0) rfl ?_
      refine wb_gf4 237 rfl (wy_pr rfl) wt_237 wf_15_139 (v := 364) wl_237_139 ?_
      refine wa_aload_n (n := 0) rfl ?_
      refine wb_gfi 237 rfl (wy_pr rfl) wt_237 wf_15_173 (v := r) (b73) (fun r17 => ?_)
      refine wa_iconst ?_
      refine wa_iadd ?_
      refine wb_lald 364 rfl (wy_pr rfl) wt_364 (n := 4200) ((ml_364 hMB)) (by omega) (by omega) (v := v1) (bv1) (fun r18 => ?_)
      refine wa_cv 237 rfl (wy_pr rfl) wt_237 (M2 := fun _ => False) rfl at_M_writesFieldOf ⟨_, rfl⟩ rfl rfl ⟨(Or.inr ⟨wy_pr rfl, fun q => q⟩), trivial, trivial, trivial⟩ trivial (fun _ _ q => False.elim q) (rwf0_261 (S := B) (m := f) (vk := k1) (vb := v1) (c := c) (gb := gb) (k := k) (l := l) hMB hKB hw hfv hkr hvr hst hc hF hk hkm hkn b75 hgb b321 bsl hkl hl6) (fun oq19 Sq19 hp20 q19 => ?_)
      rcases q19 with ⟨rfl, hv, hfc⟩
      show wJ _ _ _ _ _ _ _ _ _ _
      have hres := (⟨_, hv, hfc, isQ_u (fun _ _ _ => rfl)⟩ : ∃ C : wS, (C 325 (l.getD k 0) = k1 ∧ C 326 (l.getD k 0) = v1) ∧ (∀ (j : Nat) (x : Int), ¬ (flM j x ∨ ((j = 325 ∨ j = 326) ∧ x = l.getD k 0)) → C j x = B j x) ∧ isQ 0 0 C _)
      refine wa_aload_n (n := 0) rfl ?_
      refine wa_iconst ?_
      refine wb_lconst (m := 0) rfl ?_
      refine wa_cv 237 rfl (wy_pr rfl) wt_237 (M2 := fun _ => False) rfl at_M_is ⟨_, rfl⟩ rfl rfl ⟨(Or.inr ⟨wy_pr rfl, fun q => q⟩), trivial, trivial, trivial⟩ trivial (fun _ _ q => False.elim q) ?_ (fun _ _ _ q => q)
      refine wa_aload_n (n := 0) rfl ?_
      refine wa_iload_n (n := 1) rfl ?_
      refine wb_pfi 237 rfl (wy_pr rfl) wt_237 wf_15_110 (n := 110) rfl ⟨(by omega), (by omega)⟩ ?_
      refine wa_aload_n (n := 0) rfl ?_
      refine wa_lload_n (n := 2) rfl ?_
      refine wb_pfl 237 rfl (wy_pr rfl) wt_237 wf_15_111 (n := 111) rfl ⟨(by omega), (by omega)⟩ ?_
      refine wa_return rfl ?_
      show wJ _ _ _ _ _ _ _ _ _ _
      refine wa_goto ⟨_, rfl⟩ ?_
      refine wa_return rfl ?_
      exact Or.inr ⟨hle, rfl, B, hB, hres⟩
end Wi0
