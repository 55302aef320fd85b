/-! PART hz: the reference: answersByType whole. -/
section Whz
variable {xs : List (Nat × List Int32)} {M : Nat → Prop} {d : Nat} {S Z A : wS} {T : Int → Int} {n : Int} {cs : List hCR} {ms : List hMR} {os : Int → List Int} {Q : wO → wS → Prop}
def isM (j : Nat) (x : Int) : Prop := j = 237 ∧ (x = 110 ∨ x = 111)
/-- a value is given -/
def isQ (k v : Int) (S Z : wS) : Prop := Z 237 110 = k ∧ Z 237 111 = v ∧ ∀ (j : Nat) (x : Int), ¬ isM j x → Z j x = S j x
theorem isQ_u {k v : Int} (h : ∀ (j : Nat) (x : Int), ¬ isM j x → A j x = S j x) : isQ k v S (w_up (w_up A 237 110 k) 237 111 v) := ⟨(w_up_at (by first | decide | omega)).trans (w_up_same _ _ _ _), w_up_same _ _ _ _, fun j x hj => (w_up_no (fun z => hj ⟨z.1, Or.inr z.2⟩)).trans ((w_up_no (fun z => hj ⟨z.1, Or.inl z.2⟩)).trans (h j x hj))⟩
theorem suB_ag {k v ty : Int} (h : A 321 v = S 321 v) : suB cs A k v ty = suB cs S k v ty := by unfold suB; rw [h]
/-- what a method that gives a thing finds -/
def anR (cs : List hCR) (S : wS) (ty gk gb : Int) (es : List (Int × Int)) : Int × Int := if gk = 7 ∧ suB cs S 7 gb ty = true then (gk, gb) else ((es.find? (fun e => suB cs S e.1 e.2 ty)).getD (0, 0))
theorem rcl_241 {m ty r : Int} {es : List (Int × Int)} (hM : w_ML S) (hK : KR 241 T n cs ms S) (hw : wHo cs ms os) (hm : 0 ≤ m ∧ m < (ms.length : Int)) (h73 : S 237 173 = r) (h76 : S 237 176 = (es.length : Int)) (hr : 0 ≤ r ∧ r + 1 + (es.length : Int) ≤ 4200) (hes : ∀ i : Nat, i < es.length → S 363 (r + 1 + (i : Int)) = (es.getD i (0, 0)).1 ∧ S 364 (r + 1 + (i : Int)) = (es.getD i (0, 0)).2) (hek : ∀ i : Nat, i < es.length → 0 ≤ (es.getD i (0, 0)).1 ∧ (es.getD i (0, 0)).1 ≤ 8) (hk4 : ∀ sm : Int, wJ (pe_GA xs) wY0 M (d + 2) t_M_answersByType ((pe_at t_M_answersByType.bl 4).getD (0, [])).2 [(0, (2, 237)), (1, (0, m)), (2, (0, ty)), (3, (1, sm))] [] S Q) : ∀ (f i : Nat) (sm : Int), i + f = es.length → wJ (pe_GA xs) wY0 M (d + 2) t_M_answersByType ((pe_at t_M_answersByType.bl 1).getD (0, [])).2 [(0, (2, 237)), (1, (0, m)), (2, (0, ty)), (3, (1, sm)), (5, (0, (i : Int)))] [] S Q := by
  have h13 : S 237 13 = 241 := hK.1
  intro f
  induction f with
  | zero =>
    intro i sm hi
    refine wa_iload (n := 5) rfl ?_
    refine wa_aload_n (n := 0) rfl ?_
    refine wb_gfi 237 rfl (wy_pr rfl) wt_237 wf_15_176 (v := (es.length : Int)) (h76) (fun r1 => ?_)
    refine wa_icmpge (w_rg0 (by omega) (by omega)) (w_rg0 (by omega) (by omega)) ⟨_, rfl⟩ (fun c2 => ?_) (fun c2 => ?_)
    · skip
      exact wJ_S (hk4 sm) ⟨rfl, rfl, rfl, rfl, trivial⟩
    · skip
      exfalso; omega
  | succ f ih =>
    intro i sm hi
    have hil : i < es.length := by omega
    have he := hes i hil
    have hk := hek i hil
    have he1 : S 363 (r + 1 + (i : Int)) = (es.getD i (0, 0)).1 := he.1
    have he2 : S 364 (r + 1 + (i : Int)) = (es.getD i (0, 0)).2 := he.2
    refine wa_iload (n := 5) rfl ?_
    refine wa_aload_n (n := 0) rfl ?_
    refine wb_gfi 237 rfl (wy_pr rfl) wt_237 wf_15_176 (v := (es.length : Int)) (h76) (fun r51 => ?_)
    refine wa_icmpge (w_rg0 (by omega) (by omega)) (w_rg0 (by omega) (by omega)) ⟨_, rfl⟩ (fun c52 => ?_) (fun c52 => ?_)
    · skip
      exfalso; omega
    · skip
      refine wa_lload_n (n := 3) rfl ?_
      refine wa_aload_n (n := 0) rfl ?_
      refine wb_gf4 237 rfl (wy_pr rfl) wt_237 wf_15_138 (v := 363) wl_237_138 ?_
      refine wa_aload_n (n := 0) rfl ?_
      refine wb_gfi 237 rfl (wy_pr rfl) wt_237 wf_15_173 (v := r) (h73) (fun r53 => ?_)
      refine wa_iconst ?_
      refine wa_iadd ?_
      refine wa_iload (n := 5) rfl ?_
      refine wa_iadd ?_
      refine wb_iald 363 rfl (wy_pr rfl) wt_363 (n := 4200) ((ml_363 hM)) (by omega) (by omega) (v := (es.getD i (0, 0)).1) (he1) (fun r54 => ?_)
      refine wa_iconst ?_
      refine wa_icmpne (w_rg0 (by omega) (by omega)) (w_rg0 (by omega) (by omega)) ⟨_, rfl⟩ (fun c55 => ?_) (fun c55 => ?_)
      · skip
        refine wb_lconst (m := 0) rfl ?_
        refine wa_fall ⟨_, rfl⟩ ?_
        refine wa_ladd ?_
        refine wa_lstore_n (n := 3) rfl ?_
        refine wa_iinc rfl rfl ?_
        refine wa_goto ⟨_, rfl⟩ ?_
        exact wJ_S (ih (i + 1) _ (by omega)) ⟨rfl, rfl, rfl, rfl, rfl, trivial⟩
      · skip
        refine wa_aload_n (n := 0) rfl ?_
        refine wb_gf4 237 rfl (wy_pr rfl) wt_237 wf_15_139 (v := 364) wl_237_139 ?_
        refine wa_aload_n (n := 0) rfl ?_
        refine wb_gfi 237 rfl (wy_pr rfl) wt_237 wf_15_173 (v := r) (h73) (fun r56 => ?_)
        refine wa_iconst ?_
        refine wa_iadd ?_
        refine wa_iload (n := 5) rfl ?_
        refine wa_iadd ?_
        refine wb_lald 364 rfl (wy_pr rfl) wt_364 (n := 4200) ((ml_364 hM)) (by omega) (by omega) (v := (es.getD i (0, 0)).2) (he2) (fun r57 => ?_)
        refine wa_goto ⟨_, rfl⟩ ?_
        refine wa_ladd ?_
        refine wa_lstore_n (n := 3) rfl ?_
        refine wa_iinc rfl rfl ?_
        refine wa_goto ⟨_, rfl⟩ ?_
        exact wJ_S (ih (i + 1) _ (by omega)) ⟨rfl, rfl, rfl, rfl, rfl, trivial⟩
theorem rab_241 {m ty r gk gb : Int} {es : List (Int × Int)} (hM : w_ML S) (hK : KR 241 T n cs ms S) (hw : wHo cs ms os) (hm : 0 ≤ m ∧ m < (ms.length : Int)) (h73 : S 237 173 = r) (h76 : S 237 176 = (es.length : Int)) (hr : 0 ≤ r ∧ r + 1 + (es.length : Int) ≤ 4200) (hes : ∀ i : Nat, i < es.length → S 363 (r + 1 + (i : Int)) = (es.getD i (0, 0)).1 ∧ S 364 (r + 1 + (i : Int)) = (es.getD i (0, 0)).2) (hek : ∀ i : Nat, i < es.length → 0 ≤ (es.getD i (0, 0)).1 ∧ (es.getD i (0, 0)).1 ≤ 8) (hty : (hmR ms m).2.2.2.1 = ty) (htr : 1 ≤ ty ∧ ty ≤ 6) : wJ (pe_GA xs) wY0 M (d + 2) t_M_answersByType ((pe_at t_M_answersByType.bl 0).getD (0, [])).2 [(0, (2, 237)), (1, (0, m))] [] S (fun o Z => o = .inl none ∧ isQ (anK ty) (anB ty (anS m es)) S Z) := by
  have h13 : S 237 13 = 241 := hK.1
  have h400 := hw.1
  have uuM := KR_m hK (m := m) (by omega) (by omega)
  have uuW := hw.2.2.2 m (by omega) (by omega)
  have uu1 : S 253 m = (hmR ms m).2.1 := uuM.1.2.1
  have uu2 : S 254 m = (hmR ms m).2.2.1 := uuM.1.2.2.1
  have uu3 : S 255 m = (hmR ms m).2.2.2.1 := uuM.1.2.2.2.1
  have uu4 : S 256 m = ((hmR ms m).2.2.2.2.1.length : Int) := uuM.2.1.1
  have uu5 : S 257 m = (hmR ms m).2.2.2.2.2.1 := uuM.2.1.2.1
  have uuf : S 259 m = (hmR ms m).2.2.2.2.2.2.1 := uuM.1.2.2.2.2.1
  have uut : S 260 m = (hmR ms m).2.2.2.2.2.2.2 := uuM.1.2.2.2.2.2
  have uuq := uuW.1.2.1
  have uus := uuW.1.2.2.1
  have uuy := uuW.1.2.2.2
  have uuv := uuW.2.1
  have uul := uuW.2.2.1
  have uuft := hK.2.2.2.2.2.2.1 m (by omega) (by omega)
  refine wa_aload_n (n := 0) rfl ?_
  refine wb_gf5 237 rfl (wy_pr rfl) wt_237 wf_15_13 (v := 241) (h13) (fun r1 => ?_)
  refine wb_gf4 241 rfl (wy_pr rfl) wt_241 wf_12_15 (v := 255) wl_241_15 ?_
  refine wa_iload_n (n := 1) rfl ?_
  refine wb_iald 255 rfl (wy_pr rfl) wt_255 (n := 400) ((ml_255 hM)) (by omega) (by omega) (v := (hmR ms m).2.2.2.1) (uu3) (fun r2 => ?_)
  refine wJ_top (show (hmR ms m).2.2.2.1 = ty from hty) ?_
  refine wa_istore_n (n := 2) rfl ?_
  refine wa_iload_n (n := 1) rfl ?_
  refine wa_i2l (w_rg0 (by omega) (by omega)) ?_
  refine wa_lstore_n (n := 3) rfl ?_
  refine wa_iconst ?_
  refine wa_istore (n := 5) rfl ?_
  refine wa_fall ⟨_, rfl⟩ ?_
  refine wJ_S (wJ_mono (ral_241 (m := m) (ty := ty) hM h13 h73 h76 hr hes hek htr es.length 0 m (by omega)) (fun o Z hz => ⟨hz.1, ?_⟩)) ⟨rfl, rfl, rfl, rfl, rfl, trivial⟩
  rw [← hz.2]; exact isQ_u (fun _ _ _ => rfl)
theorem rav_241 {m ty r gk gb : Int} {es : List (Int × Int)} (hM : w_ML S) (hK : KR 241 T n cs ms S) (hw : wHo cs ms os) (hm : 0 ≤ m ∧ m < (ms.length : Int)) (h73 : S 237 173 = r) (h76 : S 237 176 = (es.length : Int)) (hr : 0 ≤ r ∧ r + 1 + (es.length : Int) ≤ 4200) (hes : ∀ i : Nat, i < es.length → S 363 (r + 1 + (i : Int)) = (es.getD i (0, 0)).1 ∧ S 364 (r + 1 + (i : Int)) = (es.getD i (0, 0)).2) (hek : ∀ i : Nat, i < es.length → 0 ≤ (es.getD i (0, 0)).1 ∧ (es.getD i (0, 0)).1 ≤ 8) (hty : (hmR ms m).2.2.2.1 = ty) (htr : ty = 0) : wJ (pe_GA xs) wY0 M (d + 2) t_M_answersByType ((pe_at t_M_answersByType.bl 0).getD (0, [])).2 [(0, (2, 237)), (1, (0, m))] [] S (fun o Z => o = .inl none ∧ isQ 0 0 S Z) := by
  have h13 : S 237 13 = 241 := hK.1
  have h400 := hw.1
  have uuM := KR_m hK (m := m) (by omega) (by omega)
  have uuW := hw.2.2.2 m (by omega) (by omega)
  have uu1 : S 253 m = (hmR ms m).2.1 := uuM.1.2.1
  have uu2 : S 254 m = (hmR ms m).2.2.1 := uuM.1.2.2.1
  have uu3 : S 255 m = (hmR ms m).2.2.2.1 := uuM.1.2.2.2.1
  have uu4 : S 256 m = ((hmR ms m).2.2.2.2.1.length : Int) := uuM.2.1.1
  have uu5 : S 257 m = (hmR ms m).2.2.2.2.2.1 := uuM.2.1.2.1
  have uuf : S 259 m = (hmR ms m).2.2.2.2.2.2.1 := uuM.1.2.2.2.2.1
  have uut : S 260 m = (hmR ms m).2.2.2.2.2.2.2 := uuM.1.2.2.2.2.2
  have uuq := uuW.1.2.1
  have uus := uuW.1.2.2.1
  have uuy := uuW.1.2.2.2
  have uuv := uuW.2.1
  have uul := uuW.2.2.1
  have uuft := hK.2.2.2.2.2.2.1 m (by omega) (by omega)
  refine wa_aload_n (n := 0) rfl ?_
  refine wb_gf5 237 rfl (wy_pr rfl) wt_237 wf_15_13 (v := 241) (h13) (fun r1 => ?_)
  refine wb_gf4 241 rfl (wy_pr rfl) wt_241 wf_12_15 (v := 255) wl_241_15 ?_
  refine wa_iload_n (n := 1) rfl ?_
  refine wb_iald 255 rfl (wy_pr rfl) wt_255 (n := 400) ((ml_255 hM)) (by omega) (by omega) (v := (hmR ms m).2.2.2.1) (uu3) (fun r2 => ?_)
  refine wJ_top (show (hmR ms m).2.2.2.1 = ty from hty) ?_
  refine wa_istore_n (n := 2) rfl ?_
  refine wa_iload_n (n := 1) rfl ?_
  refine wa_i2l (w_rg0 (by omega) (by omega)) ?_
  refine wa_lstore_n (n := 3) rfl ?_
  refine wa_iconst ?_
  refine wa_istore (n := 5) rfl ?_
  refine wa_fall ⟨_, rfl⟩ ?_
  refine wJ_S (rcl_241 hM hK hw hm h73 h76 hr hes hek (fun sm => ?_) es.length 0 m (by omega)) ⟨rfl, rfl, rfl, rfl, rfl, trivial⟩
  refine wa_iload_n (n := 2) rfl ?_
  refine wa_ifne (w_rg0 (by omega) (by omega)) ⟨_, rfl⟩ (fun c101 => ?_) (fun c101 => ?_)
  · skip
    exact absurd c101 (by omega)
  · skip
    refine wa_aload_n (n := 0) rfl ?_
    refine wa_iconst ?_
    refine wb_lconst (m := 0) rfl ?_
    refine wa_cv 237 rfl (wy_pr rfl) wt_237 (M2 := fun _ => False) rfl at_M_is ⟨_, rfl⟩ rfl rfl ⟨(Or.inr ⟨wy_pr rfl, fun q => q⟩), trivial, trivial, trivial, trivial⟩ trivial (fun _ _ q => False.elim q) ?_ (fun _ _ _ q => q)
    refine wa_aload_n (n := 0) rfl ?_
    refine wa_iload_n (n := 1) rfl ?_
    refine wb_pfi 237 rfl (wy_pr rfl) wt_237 wf_15_110 (n := 110) rfl ⟨(by omega), (by omega)⟩ ?_
    refine wa_aload_n (n := 0) rfl ?_
    refine wa_lload_n (n := 2) rfl ?_
    refine wb_pfl 237 rfl (wy_pr rfl) wt_237 wf_15_111 (n := 111) rfl ⟨(by omega), (by omega)⟩ ?_
    refine wa_return rfl ?_
    show wJ _ _ _ _ _ _ _ _ _ _
    refine wa_goto ⟨_, rfl⟩ ?_
    refine wa_return rfl ?_
    exact ⟨rfl, isQ_u (fun _ _ _ => rfl)⟩
theorem rat_241 {m ty r gk gb : Int} {es : List (Int × Int)} (hM : w_ML S) (hK : KR 241 T n cs ms S) (hw : wHo cs ms os) (hm : 0 ≤ m ∧ m < (ms.length : Int)) (h73 : S 237 173 = r) (h76 : S 237 176 = (es.length : Int)) (hr : 0 ≤ r ∧ r + 1 + (es.length : Int) ≤ 4200) (hes : ∀ i : Nat, i < es.length → S 363 (r + 1 + (i : Int)) = (es.getD i (0, 0)).1 ∧ S 364 (r + 1 + (i : Int)) = (es.getD i (0, 0)).2) (hek : ∀ i : Nat, i < es.length → 0 ≤ (es.getD i (0, 0)).1 ∧ (es.getD i (0, 0)).1 ≤ 8) (h74 : S 237 174 = gk) (h75 : S 237 175 = gb) (hgk : 0 ≤ gk ∧ gk ≤ 8) (hgb : -9223372036854775808 ≤ gb ∧ gb ≤ 9223372036854775807) (hg7 : gk = 7 → 0 ≤ gb ∧ gb < 8000 ∧ 0 ≤ S 321 gb ∧ S 321 gb < (cs.length : Int)) (htr : 8 ≤ ty ∧ ty < 9 + (cs.length : Int)) (hev : ∀ i : Nat, i < es.length → (-9223372036854775808 ≤ (es.getD i (0, 0)).2 ∧ (es.getD i (0, 0)).2 ≤ 9223372036854775807) ∧ ((es.getD i (0, 0)).1 = 7 → 0 ≤ (es.getD i (0, 0)).2 ∧ (es.getD i (0, 0)).2 < 8000 ∧ 0 ≤ S 321 (es.getD i (0, 0)).2 ∧ S 321 (es.getD i (0, 0)).2 < (cs.length : Int))) (hq : isQ 0 0 S A) : ∀ (f i : Nat) (g : Int), i + f = es.length → g = 0 → wJ (pe_GA xs) wY0 M (d + 2) t_M_answersByType ((pe_at t_M_answersByType.bl 15).getD (0, [])).2 [(0, (2, 237)), (1, (0, m)), (2, (0, ty)), (5, (0, g)), (6, (0, (i : Int)))] [] A (fun o Z => o = .inl none ∧ isQ (((es.drop i).find? (fun e => suB cs S e.1 e.2 ty)).getD (0, 0)).1 (((es.drop i).find? (fun e => suB cs S e.1 e.2 ty)).getD (0, 0)).2 S Z) := by
  have hfr := hq.2.2
  have hMA : w_ML A := ML_w hM hfr (fun j z => by unfold isM at z; omega)
  have hKA : KR 241 T n cs ms A := KR_ag hK (fun j x hj => hfr j x (by unfold isM; omega))
  have h13 : A 237 13 = 241 := hKA.1
  have a73 : A 237 173 = r := (hfr 237 173 (by unfold isM; omega)).trans h73
  have a76 : A 237 176 = (es.length : Int) := (hfr 237 176 (by unfold isM; omega)).trans h76
  have a321 : ∀ v : Int, A 321 v = S 321 v := fun v => hfr 321 v (by unfold isM; omega)
  have h60 := hw.1
  intro f
  induction f with
  | zero =>
    intro i g hi hg0
    rw [List.drop_of_length_le (by omega)]
    refine wa_iload (n := 6) rfl ?_
    refine wa_aload_n (n := 0) rfl ?_
    refine wb_gfi 237 rfl (wy_pr rfl) wt_237 wf_15_176 (v := (es.length : Int)) (a76) (fun r1 => ?_)
    refine wa_icmpge (w_rg0 (by omega) (by omega)) (w_rg0 (by omega) (by omega)) ⟨_, rfl⟩ (fun c2 => ?_) (fun c2 => ?_)
    · skip
      refine wa_return rfl ?_
      exact ⟨rfl, hq⟩
    · skip
      exfalso; omega
  | succ f ih =>
    intro i g hi hg0
    have hil : i < es.length := by omega
    have he := hes i hil
    have hk := hek i hil
    have hev1 := hev i hil
    have hev2 := hev1.1
    have he1 : A 363 (r + 1 + (i : Int)) = (es.getD i (0, 0)).1 := (hfr 363 _ (by unfold isM; omega)).trans he.1
    have he2 : A 364 (r + 1 + (i : Int)) = (es.getD i (0, 0)).2 := (hfr 364 _ (by unfold isM; omega)).trans he.2
    have hdr : es.drop i = es.getD i (0, 0) :: es.drop (i + 1) := by rw [List.drop_eq_getElem_cons hil, List.getD_eq_getElem?_getD, List.getElem?_eq_getElem hil]; rfl
    rw [hdr]
    refine wa_iload (n := 6) rfl ?_
    refine wa_aload_n (n := 0) rfl ?_
    refine wb_gfi 237 rfl (wy_pr rfl) wt_237 wf_15_176 (v := (es.length : Int)) (a76) (fun r51 => ?_)
    refine wa_icmpge (w_rg0 (by omega) (by omega)) (w_rg0 (by omega) (by omega)) ⟨_, rfl⟩ (fun c52 => ?_) (fun c52 => ?_)
    · skip
      exfalso; omega
    · skip
      refine wa_iload (n := 5) rfl ?_
      refine wa_ifne (w_rg0 (by omega) (by omega)) ⟨_, rfl⟩ (fun c53 => ?_) (fun c53 => ?_)
      · skip
        exfalso; omega
      · skip
        refine wa_aload_n (n := 0) rfl ?_
        refine wa_aload_n (n := 0) rfl ?_
        refine wb_gf4 237 rfl (wy_pr rfl) wt_237 wf_15_138 (v := 363) wl_237_138 ?_
        refine wa_aload_n (n := 0) rfl ?_
        refine wb_gfi 237 rfl (wy_pr rfl) wt_237 wf_15_173 (v := r) (a73) (fun r54 => ?_)
        refine wa_iconst ?_
        refine wa_iadd ?_
        refine wa_iload (n := 6) rfl ?_
        refine wa_iadd ?_
        refine wb_iald 363 rfl (wy_pr rfl) wt_363 (n := 4200) ((ml_363 hMA)) (by omega) (by omega) (v := (es.getD i (0, 0)).1) (he1) (fun r55 => ?_)
        refine wa_aload_n (n := 0) rfl ?_
        refine wb_gf4 237 rfl (wy_pr rfl) wt_237 wf_15_139 (v := 364) wl_237_139 ?_
        refine wa_aload_n (n := 0) rfl ?_
        refine wb_gfi 237 rfl (wy_pr rfl) wt_237 wf_15_173 (v := r) (a73) (fun r56 => ?_)
        refine wa_iconst ?_
        refine wa_iadd ?_
        refine wa_iload (n := 6) rfl ?_
        refine wa_iadd ?_
        refine wb_lald 364 rfl (wy_pr rfl) wt_364 (n := 4200) ((ml_364 hMA)) (by omega) (by omega) (v := (es.getD i (0, 0)).2) (he2) (fun r57 => ?_)
        refine wa_iload_n (n := 2) rfl ?_
        refine wa_cv 237 rfl (wy_pr rfl) wt_237 (M2 := fun _ => False) rfl at_M_isSuch ⟨_, rfl⟩ rfl rfl ⟨(Or.inr ⟨wy_pr rfl, fun q => q⟩), trivial, trivial, trivial, trivial, trivial⟩ trivial (fun _ _ q => False.elim q) (wJ_mono (rsu_241 (S := A) (k := (es.getD i (0, 0)).1) (v := (es.getD i (0, 0)).2) (ty := ty) hMA hKA hw htr hk (fun z => by rw [a321]; exact hev1.2 z) hev2) (fun o Z hz => (⟨hz.1, by rw [← suB_ag (A := A) (a321 _)]; exact hz.2⟩ : A = Z ∧ o = .inl (some (0, (bI (suB cs S (es.getD i (0, 0)).1 (es.getD i (0, 0)).2 ty))))))) (fun oq58 Sq58 hp59 q58 => ?_)
        rcases q58 with ⟨rfl, rfl⟩
        show wJ _ _ _ _ _ _ _ _ _ _
        have hbs := bI_rg (suB cs S (es.getD i (0, 0)).1 (es.getD i (0, 0)).2 ty)
        refine wa_istore (n := 5) rfl ?_
        refine wa_iload (n := 5) rfl ?_
        refine wa_ifeq (w_rg0 (by omega) (by omega)) ⟨_, rfl⟩ (fun c60 => ?_) (fun c60 => ?_)
        · skip
          refine wa_iinc rfl rfl ?_
          refine wa_goto ⟨_, rfl⟩ ?_
          rw [List.find?_cons_of_neg (by rw [bI_0 (b := suB cs S (es.getD i (0, 0)).1 (es.getD i (0, 0)).2 ty) (by omega)]; decide)]
          exact wJ_S (ih (i + 1) _ (by omega) (by omega)) ⟨rfl, rfl, rfl, rfl, rfl, trivial⟩
        · skip
          refine wa_aload_n (n := 0) rfl ?_
          refine wa_aload_n (n := 0) rfl ?_
          refine wb_gf4 237 rfl (wy_pr rfl) wt_237 wf_15_138 (v := 363) wl_237_138 ?_
          refine wa_aload_n (n := 0) rfl ?_
          refine wb_gfi 237 rfl (wy_pr rfl) wt_237 wf_15_173 (v := r) (a73) (fun r61 => ?_)
          refine wa_iconst ?_
          refine wa_iadd ?_
          refine wa_iload (n := 6) rfl ?_
          refine wa_iadd ?_
          refine wb_iald 363 rfl (wy_pr rfl) wt_363 (n := 4200) ((ml_363 hMA)) (by omega) (by omega) (v := (es.getD i (0, 0)).1) (he1) (fun r62 => ?_)
          refine wa_fall ⟨_, rfl⟩ ?_
          refine wa_aload_n (n := 0) rfl ?_
          refine wb_gf4 237 rfl (wy_pr rfl) wt_237 wf_15_139 (v := 364) wl_237_139 ?_
          refine wa_aload_n (n := 0) rfl ?_
          refine wb_gfi 237 rfl (wy_pr rfl) wt_237 wf_15_173 (v := r) (a73) (fun r63 => ?_)
          refine wa_iconst ?_
          refine wa_iadd ?_
          refine wa_iload (n := 6) rfl ?_
          refine wa_iadd ?_
          refine wb_lald 364 rfl (wy_pr rfl) wt_364 (n := 4200) ((ml_364 hMA)) (by omega) (by omega) (v := (es.getD i (0, 0)).2) (he2) (fun r64 => ?_)
          refine wa_cv 237 rfl (wy_pr rfl) wt_237 (M2 := fun _ => False) rfl at_M_is ⟨_, rfl⟩ rfl rfl ⟨trivial, (Or.inr ⟨wy_pr rfl, fun q => q⟩), trivial, trivial, trivial, trivial⟩ trivial (fun _ _ q => False.elim q) ?_ (fun _ _ _ q => q)
          refine wa_aload_n (n := 0) rfl ?_
          refine wa_iload_n (n := 1) rfl ?_
          refine wb_pfi 237 rfl (wy_pr rfl) wt_237 wf_15_110 (n := 110) rfl ⟨(by omega), (by omega)⟩ ?_
          refine wa_aload_n (n := 0) rfl ?_
          refine wa_lload_n (n := 2) rfl ?_
          refine wb_pfl 237 rfl (wy_pr rfl) wt_237 wf_15_111 (n := 111) rfl ⟨(by omega), (by omega)⟩ ?_
          refine wa_return rfl ?_
          show wJ _ _ _ _ _ _ _ _ _ _
          refine wa_fall ⟨_, rfl⟩ ?_
          refine wa_iinc rfl rfl ?_
          refine wa_goto ⟨_, rfl⟩ ?_
          rw [List.find?_cons_of_pos (p := fun e : Int × Int => suB cs S e.1 e.2 ty) (bI_1 (b := suB cs S (es.getD i (0, 0)).1 (es.getD i (0, 0)).2 ty) (by omega))]
          refine wa_iload (n := 6) rfl ?_
          refine wa_aload_n (n := 0) rfl ?_
          refine wb_gfi 237 rfl (wy_pr rfl) wt_237 wf_15_176 (v := (es.length : Int)) ((w_up_at (by decide)).trans ((w_up_at (by decide)).trans (a76))) (fun r65 => ?_)
          refine wa_icmpge (w_rg0 (by omega) (by omega)) (w_rg0 (by omega) (by omega)) ⟨_, rfl⟩ (fun c66 => ?_) (fun c66 => ?_)
          · skip
            refine wa_return rfl ?_
            exact ⟨rfl, isQ_u hfr⟩
          · skip
            refine wa_iload (n := 5) rfl ?_
            refine wa_ifne (w_rg0 (by omega) (by omega)) ⟨_, rfl⟩ (fun c67 => ?_) (fun c67 => ?_)
            · skip
              refine wa_return rfl ?_
              exact ⟨rfl, isQ_u hfr⟩
            · skip
              exact absurd c67 (by omega)
theorem rath_241 {m ty r gk gb : Int} {es : List (Int × Int)} (hM : w_ML S) (hK : KR 241 T n cs ms S) (hw : wHo cs ms os) (hm : 0 ≤ m ∧ m < (ms.length : Int)) (h73 : S 237 173 = r) (h76 : S 237 176 = (es.length : Int)) (hr : 0 ≤ r ∧ r + 1 + (es.length : Int) ≤ 4200) (hes : ∀ i : Nat, i < es.length → S 363 (r + 1 + (i : Int)) = (es.getD i (0, 0)).1 ∧ S 364 (r + 1 + (i : Int)) = (es.getD i (0, 0)).2) (hek : ∀ i : Nat, i < es.length → 0 ≤ (es.getD i (0, 0)).1 ∧ (es.getD i (0, 0)).1 ≤ 8) (hty : (hmR ms m).2.2.2.1 = ty) (h74 : S 237 174 = gk) (h75 : S 237 175 = gb) (hgk : 0 ≤ gk ∧ gk ≤ 8) (hgb : -9223372036854775808 ≤ gb ∧ gb ≤ 9223372036854775807) (hg7 : gk = 7 → 0 ≤ gb ∧ gb < 8000 ∧ 0 ≤ S 321 gb ∧ S 321 gb < (cs.length : Int)) (htr : 8 ≤ ty ∧ ty < 9 + (cs.length : Int)) (hev : ∀ i : Nat, i < es.length → (-9223372036854775808 ≤ (es.getD i (0, 0)).2 ∧ (es.getD i (0, 0)).2 ≤ 9223372036854775807) ∧ ((es.getD i (0, 0)).1 = 7 → 0 ≤ (es.getD i (0, 0)).2 ∧ (es.getD i (0, 0)).2 < 8000 ∧ 0 ≤ S 321 (es.getD i (0, 0)).2 ∧ S 321 (es.getD i (0, 0)).2 < (cs.length : Int))) : wJ (pe_GA xs) wY0 M (d + 2) t_M_answersByType ((pe_at t_M_answersByType.bl 0).getD (0, [])).2 [(0, (2, 237)), (1, (0, m))] [] S (fun o Z => o = .inl none ∧ isQ (anR cs S ty gk gb es).1 (anR cs S ty gk gb es).2 S Z) := by
  have h13 : S 237 13 = 241 := hK.1
  have h400 := hw.1
  have uuM := KR_m hK (m := m) (by omega) (by omega)
  have uuW := hw.2.2.2 m (by omega) (by omega)
  have uu1 : S 253 m = (hmR ms m).2.1 := uuM.1.2.1
  have uu2 : S 254 m = (hmR ms m).2.2.1 := uuM.1.2.2.1
  have uu3 : S 255 m = (hmR ms m).2.2.2.1 := uuM.1.2.2.2.1
  have uu4 : S 256 m = ((hmR ms m).2.2.2.2.1.length : Int) := uuM.2.1.1
  have uu5 : S 257 m = (hmR ms m).2.2.2.2.2.1 := uuM.2.1.2.1
  have uuf : S 259 m = (hmR ms m).2.2.2.2.2.2.1 := uuM.1.2.2.2.2.1
  have uut : S 260 m = (hmR ms m).2.2.2.2.2.2.2 := uuM.1.2.2.2.2.2
  have uuq := uuW.1.2.1
  have uus := uuW.1.2.2.1
  have uuy := uuW.1.2.2.2
  have uuv := uuW.2.1
  have uul := uuW.2.2.1
  have uuft := hK.2.2.2.2.2.2.1 m (by omega) (by omega)
  refine wa_aload_n (n := 0) rfl ?_
  refine wb_gf5 237 rfl (wy_pr rfl) wt_237 wf_15_13 (v := 241) (h13) (fun r1 => ?_)
  refine wb_gf4 241 rfl (wy_pr rfl) wt_241 wf_12_15 (v := 255) wl_241_15 ?_
  refine wa_iload_n (n := 1) rfl ?_
  refine wb_iald 255 rfl (wy_pr rfl) wt_255 (n := 400) ((ml_255 hM)) (by omega) (by omega) (v := (hmR ms m).2.2.2.1) (uu3) (fun r2 => ?_)
  refine wJ_top (show (hmR ms m).2.2.2.1 = ty from hty) ?_
  refine wa_istore_n (n := 2) rfl ?_
  refine wa_iload_n (n := 1) rfl ?_
  refine wa_i2l (w_rg0 (by omega) (by omega)) ?_
  refine wa_lstore_n (n := 3) rfl ?_
  refine wa_iconst ?_
  refine wa_istore (n := 5) rfl ?_
  refine wa_fall ⟨_, rfl⟩ ?_
  refine wJ_S (rcl_241 hM hK hw hm h73 h76 hr hes hek (fun sm => ?_) es.length 0 m (by omega)) ⟨rfl, rfl, rfl, rfl, rfl, trivial⟩
  obtain ⟨A, hA⟩ : ∃ A : wS, A = w_up (w_up S 237 110 0) 237 111 0 := ⟨_, rfl⟩
  have hq : isQ 0 0 S A := by rw [hA]; exact isQ_u (fun _ _ _ => rfl)
  have hfr := hq.2.2
  have hMA : w_ML A := ML_w hM hfr (fun j z => by unfold isM at z; omega)
  have hKA : KR 241 T n cs ms A := KR_ag hK (fun j x hj => hfr j x (by unfold isM; omega))
  have a73 : A 237 173 = r := (hfr 237 173 (by unfold isM; omega)).trans h73
  have a76 : A 237 176 = (es.length : Int) := (hfr 237 176 (by unfold isM; omega)).trans h76
  have a321 : ∀ v : Int, A 321 v = S 321 v := fun v => hfr 321 v (by unfold isM; omega)
  have h13A : A 237 13 = 241 := hKA.1
  have a74 : A 237 174 = gk := (hfr 237 174 (by unfold isM; omega)).trans h74
  have a75 : A 237 175 = gb := (hfr 237 175 (by unfold isM; omega)).trans h75
  refine wa_iload_n (n := 2) rfl ?_
  refine wa_ifne (w_rg0 (by omega) (by omega)) ⟨_, rfl⟩ (fun c101 => ?_) (fun c101 => ?_)
  · skip
    refine wa_iload_n (n := 2) rfl ?_
    refine wa_iconst ?_
    refine wa_icmpeq (w_rg0 (by omega) (by omega)) (w_rg0 (by omega) (by omega)) ⟨_, rfl⟩ (fun c102 => ?_) (fun c102 => ?_)
    · skip
      exact absurd c102 (by omega)
    · skip
      refine wa_iload_n (n := 2) rfl ?_
      refine wa_iconst ?_
      refine wa_icmpne (w_rg0 (by omega) (by omega)) (w_rg0 (by omega) (by omega)) ⟨_, rfl⟩ (fun c103 => ?_) (fun c103 => ?_)
      · skip
        refine wa_iload_n (n := 2) rfl ?_
        refine wa_iconst ?_
        refine wa_icmpeq (w_rg0 (by omega) (by omega)) (w_rg0 (by omega) (by omega)) ⟨_, rfl⟩ (fun c104 => ?_) (fun c104 => ?_)
        · skip
          exact absurd c104 (by omega)
        · skip
          refine wa_iload_n (n := 2) rfl ?_
          refine wa_iconst ?_
          refine wa_icmpne (w_rg0 (by omega) (by omega)) (w_rg0 (by omega) (by omega)) ⟨_, rfl⟩ (fun c105 => ?_) (fun c105 => ?_)
          · skip
            refine wa_iload_n (n := 2) rfl ?_
            refine wa_iconst ?_
            refine wa_icmpeq (w_rg0 (by omega) (by omega)) (w_rg0 (by omega) (by omega)) ⟨_, rfl⟩ (fun c106 => ?_) (fun c106 => ?_)
            · skip
              exact absurd c106 (by omega)
            · skip
              refine wa_iload_n (n := 2) rfl ?_
              refine wa_bipush (w_rg2 (by omega) (by omega)) ?_
              refine wa_icmpne (w_rg0 (by omega) (by omega)) (w_rg0 (by omega) (by omega)) ⟨_, rfl⟩ (fun c107 => ?_) (fun c107 => ?_)
              · skip
                refine wa_aload_n (n := 0) rfl ?_
                refine wa_iconst ?_
                refine wb_lconst (m := 0) rfl ?_
                refine wa_cv 237 rfl (wy_pr rfl) wt_237 (M2 := fun _ => False) rfl at_M_is ⟨_, rfl⟩ rfl rfl ⟨(Or.inr ⟨wy_pr rfl, fun q => q⟩), trivial, trivial, trivial, trivial⟩ trivial (fun _ _ q => False.elim q) ?_ (fun _ _ _ q => q)
                refine wa_aload_n (n := 0) rfl ?_
                refine wa_iload_n (n := 1) rfl ?_
                refine wb_pfi 237 rfl (wy_pr rfl) wt_237 wf_15_110 (n := 110) rfl ⟨(by omega), (by omega)⟩ ?_
                refine wa_aload_n (n := 0) rfl ?_
                refine wa_lload_n (n := 2) rfl ?_
                refine wb_pfl 237 rfl (wy_pr rfl) wt_237 wf_15_111 (n := 111) rfl ⟨(by omega), (by omega)⟩ ?_
                refine wa_return rfl ?_
                show wJ _ _ _ _ _ _ _ _ _ _
                rw [show (w_up (w_up S 237 110 0) 237 111 0) = A from hA.symm]
                refine wa_aload_n (n := 0) rfl ?_
                refine wb_gfi 237 rfl (wy_pr rfl) wt_237 wf_15_174 (v := gk) (a74) (fun r108 => ?_)
                refine wa_bipush (w_rg2 (by omega) (by omega)) ?_
                refine wa_icmpne (w_rg0 (by omega) (by omega)) (w_rg0 (by omega) (by omega)) ⟨_, rfl⟩ (fun c109 => ?_) (fun c109 => ?_)
                · skip
                  refine wa_iconst ?_
                  refine wa_fall ⟨_, rfl⟩ ?_
                  refine wa_istore (n := 5) rfl ?_
                  refine wa_iload (n := 5) rfl ?_
                  refine wa_ifeq (w_rg0 (by omega) (by omega)) ⟨_, rfl⟩ (fun c110 => ?_) (fun c110 => ?_)
                  · skip
                    refine wa_iconst ?_
                    refine wa_istore (n := 6) rfl ?_
                    refine wa_fall ⟨_, rfl⟩ ?_
                    refine wJ_S (wJ_mono (rat_241 hM hK hw hm h73 h76 hr hes hek h74 h75 hgk hgb hg7 htr hev hq es.length 0 _ (by omega) (by omega)) (fun o Z hz => ⟨hz.1, ?_⟩)) ⟨rfl, rfl, rfl, rfl, rfl, trivial⟩
                    unfold anR; rw [if_neg (fun z => by have y := bI_t z.2; omega)]; exact hz.2
                  · skip
                    exact absurd c110 (by omega)
                · skip
                  refine wa_aload_n (n := 0) rfl ?_
                  refine wa_bipush (w_rg2 (by omega) (by omega)) ?_
                  refine wa_aload_n (n := 0) rfl ?_
                  refine wb_gfl 237 rfl (wy_pr rfl) wt_237 wf_15_175 (v := gb) (a75) (fun r111 => ?_)
                  refine wa_iload_n (n := 2) rfl ?_
                  refine wa_cv 237 rfl (wy_pr rfl) wt_237 (M2 := fun _ => False) rfl at_M_isSuch ⟨_, rfl⟩ rfl rfl ⟨(Or.inr ⟨wy_pr rfl, fun q => q⟩), trivial, trivial, trivial, trivial⟩ trivial (fun _ _ q => False.elim q) (wJ_mono (rsu_241 (S := A) (k := 7) (v := gb) (ty := ty) hMA hKA hw htr ⟨by omega, by omega⟩ (fun z => by rw [a321]; exact hg7 (by omega)) hgb) (fun o Z hz => (⟨hz.1, by rw [← suB_ag (A := A) (a321 _)]; exact hz.2⟩ : A = Z ∧ o = .inl (some (0, (bI (suB cs S 7 gb ty))))))) (fun oq112 Sq112 hp113 q112 => ?_)
                  rcases q112 with ⟨rfl, rfl⟩
                  show wJ _ _ _ _ _ _ _ _ _ _
                  have hbs := bI_rg (suB cs S 7 gb ty)
                  refine wa_ifeq (w_rg0 (by omega) (by omega)) ⟨_, rfl⟩ (fun c114 => ?_) (fun c114 => ?_)
                  · skip
                    refine wa_iconst ?_
                    refine wa_fall ⟨_, rfl⟩ ?_
                    refine wa_istore (n := 5) rfl ?_
                    refine wa_iload (n := 5) rfl ?_
                    refine wa_ifeq (w_rg0 (by omega) (by omega)) ⟨_, rfl⟩ (fun c115 => ?_) (fun c115 => ?_)
                    · skip
                      refine wa_iconst ?_
                      refine wa_istore (n := 6) rfl ?_
                      refine wa_fall ⟨_, rfl⟩ ?_
                      refine wJ_S (wJ_mono (rat_241 hM hK hw hm h73 h76 hr hes hek h74 h75 hgk hgb hg7 htr hev hq es.length 0 _ (by omega) (by omega)) (fun o Z hz => ⟨hz.1, ?_⟩)) ⟨rfl, rfl, rfl, rfl, rfl, trivial⟩
                      unfold anR; rw [if_neg (fun z => by have y := bI_t z.2; omega)]; exact hz.2
                    · skip
                      exact absurd c115 (by omega)
                  · skip
                    refine wa_iconst ?_
                    refine wa_goto ⟨_, rfl⟩ ?_
                    refine wa_istore (n := 5) rfl ?_
                    refine wa_iload (n := 5) rfl ?_
                    refine wa_ifeq (w_rg0 (by omega) (by omega)) ⟨_, rfl⟩ (fun c116 => ?_) (fun c116 => ?_)
                    · skip
                      exact absurd c116 (by omega)
                    · skip
                      refine wa_aload_n (n := 0) rfl ?_
                      refine wa_aload_n (n := 0) rfl ?_
                      refine wb_gfi 237 rfl (wy_pr rfl) wt_237 wf_15_174 (v := gk) (a74) (fun r117 => ?_)
                      refine wa_aload_n (n := 0) rfl ?_
                      refine wb_gfl 237 rfl (wy_pr rfl) wt_237 wf_15_175 (v := gb) (a75) (fun r118 => ?_)
                      refine wa_cv 237 rfl (wy_pr rfl) wt_237 (M2 := fun _ => False) rfl at_M_is ⟨_, rfl⟩ rfl rfl ⟨trivial, (Or.inr ⟨wy_pr rfl, fun q => q⟩), trivial, trivial, trivial, trivial⟩ trivial (fun _ _ q => False.elim q) ?_ (fun _ _ _ q => q)
                      refine wa_aload_n (n := 0) rfl ?_
                      refine wa_iload_n (n := 1) rfl ?_
                      refine wb_pfi 237 rfl (wy_pr rfl) wt_237 wf_15_110 (n := 110) rfl ⟨(by omega), (by omega)⟩ ?_
                      refine wa_aload_n (n := 0) rfl ?_
                      refine wa_lload_n (n := 2) rfl ?_
                      refine wb_pfl 237 rfl (wy_pr rfl) wt_237 wf_15_111 (n := 111) rfl ⟨(by omega), (by omega)⟩ ?_
                      refine wa_return rfl ?_
                      show wJ _ _ _ _ _ _ _ _ _ _
                      refine wa_fall ⟨_, rfl⟩ ?_
                      refine wa_iconst ?_
                      refine wa_istore (n := 6) rfl ?_
                      refine wa_fall ⟨_, rfl⟩ ?_
                      refine wa_iload (n := 6) rfl ?_
                      refine wa_aload_n (n := 0) rfl ?_
                      refine wb_gfi 237 rfl (wy_pr rfl) wt_237 wf_15_176 (v := (es.length : Int)) ((w_up_at (by decide)).trans ((w_up_at (by decide)).trans (a76))) (fun r119 => ?_)
                      refine wa_icmpge (w_rg0 (by omega) (by omega)) (w_rg0 (by omega) (by omega)) ⟨_, rfl⟩ (fun c120 => ?_) (fun c120 => ?_)
                      · skip
                        refine wa_return rfl ?_
                        exact ⟨rfl, by unfold anR; rw [if_pos ⟨by omega, bI_1 (by omega)⟩]; exact isQ_u hfr⟩
                      · skip
                        refine wa_iload (n := 5) rfl ?_
                        refine wa_ifne (w_rg0 (by omega) (by omega)) ⟨_, rfl⟩ (fun c121 => ?_) (fun c121 => ?_)
                        · skip
                          refine wa_return rfl ?_
                          exact ⟨rfl, by unfold anR; rw [if_pos ⟨by omega, bI_1 (by omega)⟩]; exact isQ_u hfr⟩
                        · skip
                          exact absurd c121 (by omega)
              · skip
                exact absurd c107 (by omega)
          · skip
            exact absurd c105 (by omega)
      · skip
        exact absurd c103 (by omega)
  · skip
    exact absurd c101 (by omega)
theorem rcl_261 {m ty r : Int} {es : List (Int × Int)} (hM : w_ML S) (hK : KR 261 T n cs ms S) (hw : wHo cs ms os) (hm : 0 ≤ m ∧ m < (ms.length : Int)) (h73 : S 237 173 = r) (h76 : S 237 176 = (es.length : Int)) (hr : 0 ≤ r ∧ r + 1 + (es.length : Int) ≤ 4200) (hes : ∀ i : Nat, i < es.length → S 363 (r + 1 + (i : Int)) = (es.getD i (0, 0)).1 ∧ S 364 (r + 1 + (i : Int)) = (es.getD i (0, 0)).2) (hek : ∀ i : Nat, i < es.length → 0 ≤ (es.getD i (0, 0)).1 ∧ (es.getD i (0, 0)).1 ≤ 8) (hk4 : ∀ sm : Int, wJ (pe_GA xs) wY0 M (d + 2) t_M_answersByType ((pe_at t_M_answersByType.bl 4).getD (0, [])).2 [(0, (2, 237)), (1, (0, m)), (2, (0, ty)), (3, (1, sm))] [] S Q) : ∀ (f i : Nat) (sm : Int), i + f = es.length → wJ (pe_GA xs) wY0 M (d + 2) t_M_answersByType ((pe_at t_M_answersByType.bl 1).getD (0, [])).2 [(0, (2, 237)), (1, (0, m)), (2, (0, ty)), (3, (1, sm)), (5, (0, (i : Int)))] [] S Q := by
  have h13 : S 237 13 = 261 := hK.1
  intro f
  induction f with
  | zero =>
    intro i sm hi
    refine wa_iload (n := 5) rfl ?_
    refine wa_aload_n (n := 0) rfl ?_
    refine wb_gfi 237 rfl (wy_pr rfl) wt_237 wf_15_176 (v := (es.length : Int)) (h76) (fun r1 => ?_)
    refine wa_icmpge (w_rg0 (by omega) (by omega)) (w_rg0 (by omega) (by omega)) ⟨_, rfl⟩ (fun c2 => ?_) (fun c2 => ?_)
    · skip
      exact wJ_S (hk4 sm) ⟨rfl, rfl, rfl, rfl, trivial⟩
    · skip
      exfalso; omega
  | succ f ih =>
    intro i sm hi
    have hil : i < es.length := by omega
    have he := hes i hil
    have hk := hek i hil
    have he1 : S 363 (r + 1 + (i : Int)) = (es.getD i (0, 0)).1 := he.1
    have he2 : S 364 (r + 1 + (i : Int)) = (es.getD i (0, 0)).2 := he.2
    refine wa_iload (n := 5) rfl ?_
    refine wa_aload_n (n := 0) rfl ?_
    refine wb_gfi 237 rfl (wy_pr rfl) wt_237 wf_15_176 (v := (es.length : Int)) (h76) (fun r51 => ?_)
    refine wa_icmpge (w_rg0 (by omega) (by omega)) (w_rg0 (by omega) (by omega)) ⟨_, rfl⟩ (fun c52 => ?_) (fun c52 => ?_)
    · skip
      exfalso; omega
    · skip
      refine wa_lload_n (n := 3) rfl ?_
      refine wa_aload_n (n := 0) rfl ?_
      refine wb_gf4 237 rfl (wy_pr rfl) wt_237 wf_15_138 (v := 363) wl_237_138 ?_
      refine wa_aload_n (n := 0) rfl ?_
      refine wb_gfi 237 rfl (wy_pr rfl) wt_237 wf_15_173 (v := r) (h73) (fun r53 => ?_)
      refine wa_iconst ?_
      refine wa_iadd ?_
      refine wa_iload (n := 5) rfl ?_
      refine wa_iadd ?_
      refine wb_iald 363 rfl (wy_pr rfl) wt_363 (n := 4200) ((ml_363 hM)) (by omega) (by omega) (v := (es.getD i (0, 0)).1) (he1) (fun r54 => ?_)
      refine wa_iconst ?_
      refine wa_icmpne (w_rg0 (by omega) (by omega)) (w_rg0 (by omega) (by omega)) ⟨_, rfl⟩ (fun c55 => ?_) (fun c55 => ?_)
      · skip
        refine wb_lconst (m := 0) rfl ?_
        refine wa_fall ⟨_, rfl⟩ ?_
        refine wa_ladd ?_
        refine wa_lstore_n (n := 3) rfl ?_
        refine wa_iinc rfl rfl ?_
        refine wa_goto ⟨_, rfl⟩ ?_
        exact wJ_S (ih (i + 1) _ (by omega)) ⟨rfl, rfl, rfl, rfl, rfl, trivial⟩
      · skip
        refine wa_aload_n (n := 0) rfl ?_
        refine wb_gf4 237 rfl (wy_pr rfl) wt_237 wf_15_139 (v := 364) wl_237_139 ?_
        refine wa_aload_n (n := 0) rfl ?_
        refine wb_gfi 237 rfl (wy_pr rfl) wt_237 wf_15_173 (v := r) (h73) (fun r56 => ?_)
        refine wa_iconst ?_
        refine wa_iadd ?_
        refine wa_iload (n := 5) rfl ?_
        refine wa_iadd ?_
        refine wb_lald 364 rfl (wy_pr rfl) wt_364 (n := 4200) ((ml_364 hM)) (by omega) (by omega) (v := (es.getD i (0, 0)).2) (he2) (fun r57 => ?_)
        refine wa_goto ⟨_, rfl⟩ ?_
        refine wa_ladd ?_
        refine wa_lstore_n (n := 3) rfl ?_
        refine wa_iinc rfl rfl ?_
        refine wa_goto ⟨_, rfl⟩ ?_
        exact wJ_S (ih (i + 1) _ (by omega)) ⟨rfl, rfl, rfl, rfl, rfl, trivial⟩
theorem rab_261 {m ty r gk gb : Int} {es : List (Int × Int)} (hM : w_ML S) (hK : KR 261 T n cs ms S) (hw : wHo cs ms os) (hm : 0 ≤ m ∧ m < (ms.length : Int)) (h73 : S 237 173 = r) (h76 : S 237 176 = (es.length : Int)) (hr : 0 ≤ r ∧ r + 1 + (es.length : Int) ≤ 4200) (hes : ∀ i : Nat, i < es.length → S 363 (r + 1 + (i : Int)) = (es.getD i (0, 0)).1 ∧ S 364 (r + 1 + (i : Int)) = (es.getD i (0, 0)).2) (hek : ∀ i : Nat, i < es.length → 0 ≤ (es.getD i (0, 0)).1 ∧ (es.getD i (0, 0)).1 ≤ 8) (hty : (hmR ms m).2.2.2.1 = ty) (htr : 1 ≤ ty ∧ ty ≤ 6) : wJ (pe_GA xs) wY0 M (d + 2) t_M_answersByType ((pe_at t_M_answersByType.bl 0).getD (0, [])).2 [(0, (2, 237)), (1, (0, m))] [] S (fun o Z => o = .inl none ∧ isQ (anK ty) (anB ty (anS m es)) S Z) := by
  have h13 : S 237 13 = 261 := hK.1
  have h400 := hw.1
  have uuM := KR_m hK (m := m) (by omega) (by omega)
  have uuW := hw.2.2.2 m (by omega) (by omega)
  have uu1 : S 273 m = (hmR ms m).2.1 := uuM.1.2.1
  have uu2 : S 274 m = (hmR ms m).2.2.1 := uuM.1.2.2.1
  have uu3 : S 275 m = (hmR ms m).2.2.2.1 := uuM.1.2.2.2.1
  have uu4 : S 276 m = ((hmR ms m).2.2.2.2.1.length : Int) := uuM.2.1.1
  have uu5 : S 277 m = (hmR ms m).2.2.2.2.2.1 := uuM.2.1.2.1
  have uuf : S 279 m = (hmR ms m).2.2.2.2.2.2.1 := uuM.1.2.2.2.2.1
  have uut : S 280 m = (hmR ms m).2.2.2.2.2.2.2 := uuM.1.2.2.2.2.2
  have uuq := uuW.1.2.1
  have uus := uuW.1.2.2.1
  have uuy := uuW.1.2.2.2
  have uuv := uuW.2.1
  have uul := uuW.2.2.1
  have uuft := hK.2.2.2.2.2.2.1 m (by omega) (by omega)
  refine wa_aload_n (n := 0) rfl ?_
  refine wb_gf5 237 rfl (wy_pr rfl) wt_237 wf_15_13 (v := 261) (h13) (fun r1 => ?_)
  refine wb_gf4 261 rfl (wy_pr rfl) wt_261 wf_12_15 (v := 275) wl_261_15 ?_
  refine wa_iload_n (n := 1) rfl ?_
  refine wb_iald 275 rfl (wy_pr rfl) wt_275 (n := 400) ((ml_275 hM)) (by omega) (by omega) (v := (hmR ms m).2.2.2.1) (uu3) (fun r2 => ?_)
  refine wJ_top (show (hmR ms m).2.2.2.1 = ty from hty) ?_
  refine wa_istore_n (n := 2) rfl ?_
  refine wa_iload_n (n := 1) rfl ?_
  refine wa_i2l (w_rg0 (by omega) (by omega)) ?_
  refine wa_lstore_n (n := 3) rfl ?_
  refine wa_iconst ?_
  refine wa_istore (n := 5) rfl ?_
  refine wa_fall ⟨_, rfl⟩ ?_
  refine wJ_S (wJ_mono (ral_261 (m := m) (ty := ty) hM h13 h73 h76 hr hes hek htr es.length 0 m (by omega)) (fun o Z hz => ⟨hz.1, ?_⟩)) ⟨rfl, rfl, rfl, rfl, rfl, trivial⟩
  rw [← hz.2]; exact isQ_u (fun _ _ _ => rfl)
theorem rav_261 {m ty r gk gb : Int} {es : List (Int × Int)} (hM : w_ML S) (hK : KR 261 T n cs ms S) (hw : wHo cs ms os) (hm : 0 ≤ m ∧ m < (ms.length : Int)) (h73 : S 237 173 = r) (h76 : S 237 176 = (es.length : Int)) (hr : 0 ≤ r ∧ r + 1 + (es.length : Int) ≤ 4200) (hes : ∀ i : Nat, i < es.length → S 363 (r + 1 + (i : Int)) = (es.getD i (0, 0)).1 ∧ S 364 (r + 1 + (i : Int)) = (es.getD i (0, 0)).2) (hek : ∀ i : Nat, i < es.length → 0 ≤ (es.getD i (0, 0)).1 ∧ (es.getD i (0, 0)).1 ≤ 8) (hty : (hmR ms m).2.2.2.1 = ty) (htr : ty = 0) : wJ (pe_GA xs) wY0 M (d + 2) t_M_answersByType ((pe_at t_M_answersByType.bl 0).getD (0, [])).2 [(0, (2, 237)), (1, (0, m))] [] S (fun o Z => o = .inl none ∧ isQ 0 0 S Z) := by
  have h13 : S 237 13 = 261 := hK.1
  have h400 := hw.1
  have uuM := KR_m hK (m := m) (by omega) (by omega)
  have uuW := hw.2.2.2 m (by omega) (by omega)
  have uu1 : S 273 m = (hmR ms m).2.1 := uuM.1.2.1
  have uu2 : S 274 m = (hmR ms m).2.2.1 := uuM.1.2.2.1
  have uu3 : S 275 m = (hmR ms m).2.2.2.1 := uuM.1.2.2.2.1
  have uu4 : S 276 m = ((hmR ms m).2.2.2.2.1.length : Int) := uuM.2.1.1
  have uu5 : S 277 m = (hmR ms m).2.2.2.2.2.1 := uuM.2.1.2.1
  have uuf : S 279 m = (hmR ms m).2.2.2.2.2.2.1 := uuM.1.2.2.2.2.1
  have uut : S 280 m = (hmR ms m).2.2.2.2.2.2.2 := uuM.1.2.2.2.2.2
  have uuq := uuW.1.2.1
  have uus := uuW.1.2.2.1
  have uuy := uuW.1.2.2.2
  have uuv := uuW.2.1
  have uul := uuW.2.2.1
  have uuft := hK.2.2.2.2.2.2.1 m (by omega) (by omega)
  refine wa_aload_n (n := 0) rfl ?_
  refine wb_gf5 237 rfl (wy_pr rfl) wt_237 wf_15_13 (v := 261) (h13) (fun r1 => ?_)
  refine wb_gf4 261 rfl (wy_pr rfl) wt_261 wf_12_15 (v := 275) wl_261_15 ?_
  refine wa_iload_n (n := 1) rfl ?_
  refine wb_iald 275 rfl (wy_pr rfl) wt_275 (n := 400) ((ml_275 hM)) (by omega) (by omega) (v := (hmR ms m).2.2.2.1) (uu3) (fun r2 => ?_)
  refine wJ_top (show (hmR ms m).2.2.2.1 = ty from hty) ?_
  refine wa_istore_n (n := 2) rfl ?_
  refine wa_iload_n (n := 1) rfl ?_
  refine wa_i2l (w_rg0 (by omega) (by omega)) ?_
  refine wa_lstore_n (n := 3) rfl ?_
  refine wa_iconst ?_
  refine wa_istore (n := 5) rfl ?_
  refine wa_fall ⟨_, rfl⟩ ?_
  refine wJ_S (rcl_261 hM hK hw hm h73 h76 hr hes hek (fun sm => ?_) es.length 0 m (by omega)) ⟨rfl, rfl, rfl, rfl, rfl, trivial⟩
  refine wa_iload_n (n := 2) rfl ?_
  refine wa_ifne (w_rg0 (by omega) (by omega)) ⟨_, rfl⟩ (fun c101 => ?_) (fun c101 => ?_)
  · skip
    exact absurd c101 (by omega)
  · skip
    refine wa_aload_n (n := 0) rfl ?_
    refine wa_iconst ?_
    refine wb_lconst (m := 0) rfl ?_
    refine wa_cv 237 rfl (wy_pr rfl) wt_237 (M2 := fun _ => False) rfl at_M_is ⟨_, rfl⟩ rfl rfl ⟨(Or.inr ⟨wy_pr rfl, fun q => q⟩), trivial, trivial, trivial, trivial⟩ trivial (fun _ _ q => False.elim q) ?_ (fun _ _ _ q => q)
    refine wa_aload_n (n := 0) rfl ?_
    refine wa_iload_n (n := 1) rfl ?_
    refine wb_pfi 237 rfl (wy_pr rfl) wt_237 wf_15_110 (n := 110) rfl ⟨(by omega), (by omega)⟩ ?_
    refine wa_aload_n (n := 0) rfl ?_
    refine wa_lload_n (n := 2) rfl ?_
    refine wb_pfl 237 rfl (wy_pr rfl) wt_237 wf_15_111 (n := 111) rfl ⟨(by omega), (by omega)⟩ ?_
    refine wa_return rfl ?_
    show wJ _ _ _ _ _ _ _ _ _ _
    refine wa_goto ⟨_, rfl⟩ ?_
    refine wa_return rfl ?_
    exact ⟨rfl, isQ_u (fun _ _ _ => rfl)⟩
theorem rat_261 {m ty r gk gb : Int} {es : List (Int × Int)} (hM : w_ML S) (hK : KR 261 T n cs ms S) (hw : wHo cs ms os) (hm : 0 ≤ m ∧ m < (ms.length : Int)) (h73 : S 237 173 = r) (h76 : S 237 176 = (es.length : Int)) (hr : 0 ≤ r ∧ r + 1 + (es.length : Int) ≤ 4200) (hes : ∀ i : Nat, i < es.length → S 363 (r + 1 + (i : Int)) = (es.getD i (0, 0)).1 ∧ S 364 (r + 1 + (i : Int)) = (es.getD i (0, 0)).2) (hek : ∀ i : Nat, i < es.length → 0 ≤ (es.getD i (0, 0)).1 ∧ (es.getD i (0, 0)).1 ≤ 8) (h74 : S 237 174 = gk) (h75 : S 237 175 = gb) (hgk : 0 ≤ gk ∧ gk ≤ 8) (hgb : -9223372036854775808 ≤ gb ∧ gb ≤ 9223372036854775807) (hg7 : gk = 7 → 0 ≤ gb ∧ gb < 8000 ∧ 0 ≤ S 321 gb ∧ S 321 gb < (cs.length : Int)) (htr : 8 ≤ ty ∧ ty < 9 + (cs.length : Int)) (hev : ∀ i : Nat, i < es.length → (-9223372036854775808 ≤ (es.getD i (0, 0)).2 ∧ (es.getD i (0, 0)).2 ≤ 9223372036854775807) ∧ ((es.getD i (0, 0)).1 = 7 → 0 ≤ (es.getD i (0, 0)).2 ∧ (es.getD i (0, 0)).2 < 8000 ∧ 0 ≤ S 321 (es.getD i (0, 0)).2 ∧ S 321 (es.getD i (0, 0)).2 < (cs.length : Int))) (hq : isQ 0 0 S A) : ∀ (f i : Nat) (g : Int), i + f = es.length → g = 0 → wJ (pe_GA xs) wY0 M (d + 2) t_M_answersByType ((pe_at t_M_answersByType.bl 15).getD (0, [])).2 [(0, (2, 237)), (1, (0, m)), (2, (0, ty)), (5, (0, g)), (6, (0, (i : Int)))] [] A (fun o Z => o = .inl none ∧ isQ (((es.drop i).find? (fun e => suB cs S e.1 e.2 ty)).getD (0, 0)).1 (((es.drop i).find? (fun e => suB cs S e.1 e.2 ty)).getD (0, 0)).2 S Z) := by
  have hfr := hq.2.2
  have hMA : w_ML A := ML_w hM hfr (fun j z => by unfold isM at z; omega)
  have hKA : KR 261 T n cs ms A := KR_ag hK (fun j x hj => hfr j x (by unfold isM; omega))
  have h13 : A 237 13 = 261 := hKA.1
  have a73 : A 237 173 = r := (hfr 237 173 (by unfold isM; omega)).trans h73
  have a76 : A 237 176 = (es.length : Int) := (hfr 237 176 (by unfold isM; omega)).trans h76
  have a321 : ∀ v : Int, A 321 v = S 321 v := fun v => hfr 321 v (by unfold isM; omega)
  have h60 := hw.1
  intro f
  induction f with
  | zero =>
    intro i g hi hg0
    rw [List.drop_of_length_le (by omega)]
    refine wa_iload (n := 6) rfl ?_
    refine wa_aload_n (n := 0) rfl ?_
    refine wb_gfi 237 rfl (wy_pr rfl) wt_237 wf_15_176 (v := (es.length : Int)) (a76) (fun r1 => ?_)
    refine wa_icmpge (w_rg0 (by omega) (by omega)) (w_rg0 (by omega) (by omega)) ⟨_, rfl⟩ (fun c2 => ?_) (fun c2 => ?_)
    · skip
      refine wa_return rfl ?_
      exact ⟨rfl, hq⟩
    · skip
      exfalso; omega
  | succ f ih =>
    intro i g hi hg0
    have hil : i < es.length := by omega
    have he := hes i hil
    have hk := hek i hil
    have hev1 := hev i hil
    have hev2 := hev1.1
    have he1 : A 363 (r + 1 + (i : Int)) = (es.getD i (0, 0)).1 := (hfr 363 _ (by unfold isM; omega)).trans he.1
    have he2 : A 364 (r + 1 + (i : Int)) = (es.getD i (0, 0)).2 := (hfr 364 _ (by unfold isM; omega)).trans he.2
    have hdr : es.drop i = es.getD i (0, 0) :: es.drop (i + 1) := by rw [List.drop_eq_getElem_cons hil, List.getD_eq_getElem?_getD, List.getElem?_eq_getElem hil]; rfl
    rw [hdr]
    refine wa_iload (n := 6) rfl ?_
    refine wa_aload_n (n := 0) rfl ?_
    refine wb_gfi 237 rfl (wy_pr rfl) wt_237 wf_15_176 (v := (es.length : Int)) (a76) (fun r51 => ?_)
    refine wa_icmpge (w_rg0 (by omega) (by omega)) (w_rg0 (by omega) (by omega)) ⟨_, rfl⟩ (fun c52 => ?_) (fun c52 => ?_)
    · skip
      exfalso; omega
    · skip
      refine wa_iload (n := 5) rfl ?_
      refine wa_ifne (w_rg0 (by omega) (by omega)) ⟨_, rfl⟩ (fun c53 => ?_) (fun c53 => ?_)
      · skip
        exfalso; omega
      · skip
        refine wa_aload_n (n := 0) rfl ?_
        refine wa_aload_n (n := 0) rfl ?_
        refine wb_gf4 237 rfl (wy_pr rfl) wt_237 wf_15_138 (v := 363) wl_237_138 ?_
        refine wa_aload_n (n := 0) rfl ?_
        refine wb_gfi 237 rfl (wy_pr rfl) wt_237 wf_15_173 (v := r) (a73) (fun r54 => ?_)
        refine wa_iconst ?_
        refine wa_iadd ?_
        refine wa_iload (n := 6) rfl ?_
        refine wa_iadd ?_
        refine wb_iald 363 rfl (wy_pr rfl) wt_363 (n := 4200) ((ml_363 hMA)) (by omega) (by omega) (v := (es.getD i (0, 0)).1) (he1) (fun r55 => ?_)
        refine wa_aload_n (n := 0) rfl ?_
        refine wb_gf4 237 rfl (wy_pr rfl) wt_237 wf_15_139 (v := 364) wl_237_139 ?_
        refine wa_aload_n (n := 0) rfl ?_
        refine wb_gfi 237 rfl (wy_pr rfl) wt_237 wf_15_173 (v := r) (a73) (fun r56 => ?_)
        refine wa_iconst ?_
        refine wa_iadd ?_
        refine wa_iload (n := 6) rfl ?_
        refine wa_iadd ?_
        refine wb_lald 364 rfl (wy_pr rfl) wt_364 (n := 4200) ((ml_364 hMA)) (by omega) (by omega) (v := (es.getD i (0, 0)).2) (he2) (fun r57 => ?_)
        refine wa_iload_n (n := 2) rfl ?_
        refine wa_cv 237 rfl (wy_pr rfl) wt_237 (M2 := fun _ => False) rfl at_M_isSuch ⟨_, rfl⟩ rfl rfl ⟨(Or.inr ⟨wy_pr rfl, fun q => q⟩), trivial, trivial, trivial, trivial, trivial⟩ trivial (fun _ _ q => False.elim q) (wJ_mono (rsu_261 (S := A) (k := (es.getD i (0, 0)).1) (v := (es.getD i (0, 0)).2) (ty := ty) hMA hKA hw htr hk (fun z => by rw [a321]; exact hev1.2 z) hev2) (fun o Z hz => (⟨hz.1, by rw [← suB_ag (A := A) (a321 _)]; exact hz.2⟩ : A = Z ∧ o = .inl (some (0, (bI (suB cs S (es.getD i (0, 0)).1 (es.getD i (0, 0)).2 ty))))))) (fun oq58 Sq58 hp59 q58 => ?_)
        rcases q58 with ⟨rfl, rfl⟩
        show wJ _ _ _ _ _ _ _ _ _ _
        have hbs := bI_rg (suB cs S (es.getD i (0, 0)).1 (es.getD i (0, 0)).2 ty)
        refine wa_istore (n := 5) rfl ?_
        refine wa_iload (n := 5) rfl ?_
        refine wa_ifeq (w_rg0 (by omega) (by omega)) ⟨_, rfl⟩ (fun c60 => ?_) (fun c60 => ?_)
        · skip
          refine wa_iinc rfl rfl ?_
          refine wa_goto ⟨_, rfl⟩ ?_
          rw [List.find?_cons_of_neg (by rw [bI_0 (b := suB cs S (es.getD i (0, 0)).1 (es.getD i (0, 0)).2 ty) (by omega)]; decide)]
          exact wJ_S (ih (i + 1) _ (by omega) (by omega)) ⟨rfl, rfl, rfl, rfl, rfl, trivial⟩
        · skip
          refine wa_aload_n (n := 0) rfl ?_
          refine wa_aload_n (n := 0) rfl ?_
          refine wb_gf4 237 rfl (wy_pr rfl) wt_237 wf_15_138 (v := 363) wl_237_138 ?_
          refine wa_aload_n (n := 0) rfl ?_
          refine wb_gfi 237 rfl (wy_pr rfl) wt_237 wf_15_173 (v := r) (a73) (fun r61 => ?_)
          refine wa_iconst ?_
          refine wa_iadd ?_
          refine wa_iload (n := 6) rfl ?_
          refine wa_iadd ?_
          refine wb_iald 363 rfl (wy_pr rfl) wt_363 (n := 4200) ((ml_363 hMA)) (by omega) (by omega) (v := (es.getD i (0, 0)).1) (he1) (fun r62 => ?_)
          refine wa_fall ⟨_, rfl⟩ ?_
          refine wa_aload_n (n := 0) rfl ?_
          refine wb_gf4 237 rfl (wy_pr rfl) wt_237 wf_15_139 (v := 364) wl_237_139 ?_
          refine wa_aload_n (n := 0) rfl ?_
          refine wb_gfi 237 rfl (wy_pr rfl) wt_237 wf_15_173 (v := r) (a73) (fun r63 => ?_)
          refine wa_iconst ?_
          refine wa_iadd ?_
          refine wa_iload (n := 6) rfl ?_
          refine wa_iadd ?_
          refine wb_lald 364 rfl (wy_pr rfl) wt_364 (n := 4200) ((ml_364 hMA)) (by omega) (by omega) (v := (es.getD i (0, 0)).2) (he2) (fun r64 => ?_)
          refine wa_cv 237 rfl (wy_pr rfl) wt_237 (M2 := fun _ => False) rfl at_M_is ⟨_, rfl⟩ rfl rfl ⟨trivial, (Or.inr ⟨wy_pr rfl, fun q => q⟩), trivial, trivial, trivial, trivial⟩ trivial (fun _ _ q => False.elim q) ?_ (fun _ _ _ q => q)
          refine wa_aload_n (n := 0) rfl ?_
          refine wa_iload_n (n := 1) rfl ?_
          refine wb_pfi 237 rfl (wy_pr rfl) wt_237 wf_15_110 (n := 110) rfl ⟨(by omega), (by omega)⟩ ?_
          refine wa_aload_n (n := 0) rfl ?_
          refine wa_lload_n (n := 2) rfl ?_
          refine wb_pfl 237 rfl (wy_pr rfl) wt_237 wf_15_111 (n := 111) rfl ⟨(by omega), (by omega)⟩ ?_
          refine wa_return rfl ?_
          show wJ _ _ _ _ _ _ _ _ _ _
          refine wa_fall ⟨_, rfl⟩ ?_
          refine wa_iinc rfl rfl ?_
          refine wa_goto ⟨_, rfl⟩ ?_
          rw [List.find?_cons_of_pos (p := fun e : Int × Int => suB cs S e.1 e.2 ty) (bI_1 (b := suB cs S (es.getD i (0, 0)).1 (es.getD i (0, 0)).2 ty) (by omega))]
          refine wa_iload (n := 6) rfl ?_
          refine wa_aload_n (n := 0) rfl ?_
          refine wb_gfi 237 rfl (wy_pr rfl) wt_237 wf_15_176 (v := (es.length : Int)) ((w_up_at (by decide)).trans ((w_up_at (by decide)).trans (a76))) (fun r65 => ?_)
          refine wa_icmpge (w_rg0 (by omega) (by omega)) (w_rg0 (by omega) (by omega)) ⟨_, rfl⟩ (fun c66 => ?_) (fun c66 => ?_)
          · skip
            refine wa_return rfl ?_
            exact ⟨rfl, isQ_u hfr⟩
          · skip
            refine wa_iload (n := 5) rfl ?_
            refine wa_ifne (w_rg0 (by omega) (by omega)) ⟨_, rfl⟩ (fun c67 => ?_) (fun c67 => ?_)
            · skip
              refine wa_return rfl ?_
              exact ⟨rfl, isQ_u hfr⟩
            · skip
              exact absurd c67 (by omega)
theorem rath_261 {m ty r gk gb : Int} {es : List (Int × Int)} (hM : w_ML S) (hK : KR 261 T n cs ms S) (hw : wHo cs ms os) (hm : 0 ≤ m ∧ m < (ms.length : Int)) (h73 : S 237 173 = r) (h76 : S 237 176 = (es.length : Int)) (hr : 0 ≤ r ∧ r + 1 + (es.length : Int) ≤ 4200) (hes : ∀ i : Nat, i < es.length → S 363 (r + 1 + (i : Int)) = (es.getD i (0, 0)).1 ∧ S 364 (r + 1 + (i : Int)) = (es.getD i (0, 0)).2) (hek : ∀ i : Nat, i < es.length → 0 ≤ (es.getD i (0, 0)).1 ∧ (es.getD i (0, 0)).1 ≤ 8) (hty : (hmR ms m).2.2.2.1 = ty) (h74 : S 237 174 = gk) (h75 : S 237 175 = gb) (hgk : 0 ≤ gk ∧ gk ≤ 8) (hgb : -9223372036854775808 ≤ gb ∧ gb ≤ 9223372036854775807) (hg7 : gk = 7 → 0 ≤ gb ∧ gb < 8000 ∧ 0 ≤ S 321 gb ∧ S 321 gb < (cs.length : Int)) (htr : 8 ≤ ty ∧ ty < 9 + (cs.length : Int)) (hev : ∀ i : Nat, i < es.length → (-9223372036854775808 ≤ (es.getD i (0, 0)).2 ∧ (es.getD i (0, 0)).2 ≤ 9223372036854775807) ∧ ((es.getD i (0, 0)).1 = 7 → 0 ≤ (es.getD i (0, 0)).2 ∧ (es.getD i (0, 0)).2 < 8000 ∧ 0 ≤ S 321 (es.getD i (0, 0)).2 ∧ S 321 (es.getD i (0, 0)).2 < (cs.length : Int))) : wJ (pe_GA xs) wY0 M (d + 2) t_M_answersByType ((pe_at t_M_answersByType.bl 0).getD (0, [])).2 [(0, (2, 237)), (1, (0, m))] [] S (fun o Z => o = .inl none ∧ isQ (anR cs S ty gk gb es).1 (anR cs S ty gk gb es).2 S Z) := by
  have h13 : S 237 13 = 261 := hK.1
  have h400 := hw.1
  have uuM := KR_m hK (m := m) (by omega) (by omega)
  have uuW := hw.2.2.2 m (by omega) (by omega)
  have uu1 : S 273 m = (hmR ms m).2.1 := uuM.1.2.1
  have uu2 : S 274 m = (hmR ms m).2.2.1 := uuM.1.2.2.1
  have uu3 : S 275 m = (hmR ms m).2.2.2.1 := uuM.1.2.2.2.1
  have uu4 : S 276 m = ((hmR ms m).2.2.2.2.1.length : Int) := uuM.2.1.1
  have uu5 : S 277 m = (hmR ms m).2.2.2.2.2.1 := uuM.2.1.2.1
  have uuf : S 279 m = (hmR ms m).2.2.2.2.2.2.1 := uuM.1.2.2.2.2.1
  have uut : S 280 m = (hmR ms m).2.2.2.2.2.2.2 := uuM.1.2.2.2.2.2
  have uuq := uuW.1.2.1
  have uus := uuW.1.2.2.1
  have uuy := uuW.1.2.2.2
  have uuv := uuW.2.1
  have uul := uuW.2.2.1
  have uuft := hK.2.2.2.2.2.2.1 m (by omega) (by omega)
  refine wa_aload_n (n := 0) rfl ?_
  refine wb_gf5 237 rfl (wy_pr rfl) wt_237 wf_15_13 (v := 261) (h13) (fun r1 => ?_)
  refine wb_gf4 261 rfl (wy_pr rfl) wt_261 wf_12_15 (v := 275) wl_261_15 ?_
  refine wa_iload_n (n := 1) rfl ?_
  refine wb_iald 275 rfl (wy_pr rfl) wt_275 (n := 400) ((ml_275 hM)) (by omega) (by omega) (v := (hmR ms m).2.2.2.1) (uu3) (fun r2 => ?_)
  refine wJ_top (show (hmR ms m).2.2.2.1 = ty from hty) ?_
  refine wa_istore_n (n := 2) rfl ?_
  refine wa_iload_n (n := 1) rfl ?_
  refine wa_i2l (w_rg0 (by omega) (by omega)) ?_
  refine wa_lstore_n (n := 3) rfl ?_
  refine wa_iconst ?_
  refine wa_istore (n := 5) rfl ?_
  refine wa_fall ⟨_, rfl⟩ ?_
  refine wJ_S (rcl_261 hM hK hw hm h73 h76 hr hes hek (fun sm => ?_) es.length 0 m (by omega)) ⟨rfl, rfl, rfl, rfl, rfl, trivial⟩
  obtain ⟨A, hA⟩ : ∃ A : wS, A = w_up (w_up S 237 110 0) 237 111 0 := ⟨_, rfl⟩
  have hq : isQ 0 0 S A := by rw [hA]; exact isQ_u (fun _ _ _ => rfl)
  have hfr := hq.2.2
  have hMA : w_ML A := ML_w hM hfr (fun j z => by unfold isM at z; omega)
  have hKA : KR 261 T n cs ms A := KR_ag hK (fun j x hj => hfr j x (by unfold isM; omega))
  have a73 : A 237 173 = r := (hfr 237 173 (by unfold isM; omega)).trans h73
  have a76 : A 237 176 = (es.length : Int) := (hfr 237 176 (by unfold isM; omega)).trans h76
  have a321 : ∀ v : Int, A 321 v = S 321 v := fun v => hfr 321 v (by unfold isM; omega)
  have h13A : A 237 13 = 261 := hKA.1
  have a74 : A 237 174 = gk := (hfr 237 174 (by unfold isM; omega)).trans h74
  have a75 : A 237 175 = gb := (hfr 237 175 (by unfold isM; omega)).trans h75
  refine wa_iload_n (n := 2) rfl ?_
  refine wa_ifne (w_rg0 (by omega) (by omega)) ⟨_, rfl⟩ (fun c101 => ?_) (fun c101 => ?_)
  · skip
    refine wa_iload_n (n := 2) rfl ?_
    refine wa_iconst ?_
    refine wa_icmpeq (w_rg0 (by omega) (by omega)) (w_rg0 (by omega) (by omega)) ⟨_, rfl⟩ (fun c102 => ?_) (fun c102 => ?_)
    · skip
      exact absurd c102 (by omega)
    · skip
      refine wa_iload_n (n := 2) rfl ?_
      refine wa_iconst ?_
      refine wa_icmpne (w_rg0 (by omega) (by omega)) (w_rg0 (by omega) (by omega)) ⟨_, rfl⟩ (fun c103 => ?_) (fun c103 => ?_)
      · skip
        refine wa_iload_n (n := 2) rfl ?_
        refine wa_iconst ?_
        refine wa_icmpeq (w_rg0 (by omega) (by omega)) (w_rg0 (by omega) (by omega)) ⟨_, rfl⟩ (fun c104 => ?_) (fun c104 => ?_)
        · skip
          exact absurd c104 (by omega)
        · skip
          refine wa_iload_n (n := 2) rfl ?_
          refine wa_iconst ?_
          refine wa_icmpne (w_rg0 (by omega) (by omega)) (w_rg0 (by omega) (by omega)) ⟨_, rfl⟩ (fun c105 => ?_) (fun c105 => ?_)
          · skip
            refine wa_iload_n (n := 2) rfl ?_
            refine wa_iconst ?_
            refine wa_icmpeq (w_rg0 (by omega) (by omega)) (w_rg0 (by omega) (by omega)) ⟨_, rfl⟩ (fun c106 => ?_) (fun c106 => ?_)
            · skip
              exact absurd c106 (by omega)
            · skip
              refine wa_iload_n (n := 2) rfl ?_
              refine wa_bipush (w_rg2 (by omega) (by omega)) ?_
              refine wa_icmpne (w_rg0 (by omega) (by omega)) (w_rg0 (by omega) (by omega)) ⟨_, rfl⟩ (fun c107 => ?_) (fun c107 => ?_)
              · skip
                refine wa_aload_n (n := 0) rfl ?_
                refine wa_iconst ?_
                refine wb_lconst (m := 0) rfl ?_
                refine wa_cv 237 rfl (wy_pr rfl) wt_237 (M2 := fun _ => False) rfl at_M_is ⟨_, rfl⟩ rfl rfl ⟨(Or.inr ⟨wy_pr rfl, fun q => q⟩), trivial, trivial, trivial, trivial⟩ trivial (fun _ _ q => False.elim q) ?_ (fun _ _ _ q => q)
                refine wa_aload_n (n := 0) rfl ?_
                refine wa_iload_n (n := 1) rfl ?_
                refine wb_pfi 237 rfl (wy_pr rfl) wt_237 wf_15_110 (n := 110) rfl ⟨(by omega), (by omega)⟩ ?_
                refine wa_aload_n (n := 0) rfl ?_
                refine wa_lload_n (n := 2) rfl ?_
                refine wb_pfl 237 rfl (wy_pr rfl) wt_237 wf_15_111 (n := 111) rfl ⟨(by omega), (by omega)⟩ ?_
                refine wa_return rfl ?_
                show wJ _ _ _ _ _ _ _ _ _ _
                rw [show (w_up (w_up S 237 110 0) 237 111 0) = A from hA.symm]
                refine wa_aload_n (n := 0) rfl ?_
                refine wb_gfi 237 rfl (wy_pr rfl) wt_237 wf_15_174 (v := gk) (a74) (fun r108 => ?_)
                refine wa_bipush (w_rg2 (by omega) (by omega)) ?_
                refine wa_icmpne (w_rg0 (by omega) (by omega)) (w_rg0 (by omega) (by omega)) ⟨_, rfl⟩ (fun c109 => ?_) (fun c109 => ?_)
                · skip
                  refine wa_iconst ?_
                  refine wa_fall ⟨_, rfl⟩ ?_
                  refine wa_istore (n := 5) rfl ?_
                  refine wa_iload (n := 5) rfl ?_
                  refine wa_ifeq (w_rg0 (by omega) (by omega)) ⟨_, rfl⟩ (fun c110 => ?_) (fun c110 => ?_)
                  · skip
                    refine wa_iconst ?_
                    refine wa_istore (n := 6) rfl ?_
                    refine wa_fall ⟨_, rfl⟩ ?_
                    refine wJ_S (wJ_mono (rat_261 hM hK hw hm h73 h76 hr hes hek h74 h75 hgk hgb hg7 htr hev hq es.length 0 _ (by omega) (by omega)) (fun o Z hz => ⟨hz.1, ?_⟩)) ⟨rfl, rfl, rfl, rfl, rfl, trivial⟩
                    unfold anR; rw [if_neg (fun z => by have y := bI_t z.2; omega)]; exact hz.2
                  · skip
                    exact absurd c110 (by omega)
                · skip
                  refine wa_aload_n (n := 0) rfl ?_
                  refine wa_bipush (w_rg2 (by omega) (by omega)) ?_
                  refine wa_aload_n (n := 0) rfl ?_
                  refine wb_gfl 237 rfl (wy_pr rfl) wt_237 wf_15_175 (v := gb) (a75) (fun r111 => ?_)
                  refine wa_iload_n (n := 2) rfl ?_
                  refine wa_cv 237 rfl (wy_pr rfl) wt_237 (M2 := fun _ => False) rfl at_M_isSuch ⟨_, rfl⟩ rfl rfl ⟨(Or.inr ⟨wy_pr rfl, fun q => q⟩), trivial, trivial, trivial, trivial⟩ trivial (fun _ _ q => False.elim q) (wJ_mono (rsu_261 (S := A) (k := 7) (v := gb) (ty := ty) hMA hKA hw htr ⟨by omega, by omega⟩ (fun z => by rw [a321]; exact hg7 (by omega)) hgb) (fun o Z hz => (⟨hz.1, by rw [← suB_ag (A := A) (a321 _)]; exact hz.2⟩ : A = Z ∧ o = .inl (some (0, (bI (suB cs S 7 gb ty))))))) (fun oq112 Sq112 hp113 q112 => ?_)
                  rcases q112 with ⟨rfl, rfl⟩
                  show wJ _ _ _ _ _ _ _ _ _ _
                  have hbs := bI_rg (suB cs S 7 gb ty)
                  refine wa_ifeq (w_rg0 (by omega) (by omega)) ⟨_, rfl⟩ (fun c114 => ?_) (fun c114 => ?_)
                  · skip
                    refine wa_iconst ?_
                    refine wa_fall ⟨_, rfl⟩ ?_
                    refine wa_istore (n := 5) rfl ?_
                    refine wa_iload (n := 5) rfl ?_
                    refine wa_ifeq (w_rg0 (by omega) (by omega)) ⟨_, rfl⟩ (fun c115 => ?_) (fun c115 => ?_)
                    · skip
                      refine wa_iconst ?_
                      refine wa_istore (n := 6) rfl ?_
                      refine wa_fall ⟨_, rfl⟩ ?_
                      refine wJ_S (wJ_mono (rat_261 hM hK hw hm h73 h76 hr hes hek h74 h75 hgk hgb hg7 htr hev hq es.length 0 _ (by omega) (by omega)) (fun o Z hz => ⟨hz.1, ?_⟩)) ⟨rfl, rfl, rfl, rfl, rfl, trivial⟩
                      unfold anR; rw [if_neg (fun z => by have y := bI_t z.2; omega)]; exact hz.2
                    · skip
                      exact absurd c115 (by omega)
                  · skip
                    refine wa_iconst ?_
                    refine wa_goto ⟨_, rfl⟩ ?_
                    refine wa_istore (n := 5) rfl ?_
                    refine wa_iload (n := 5) rfl ?_
                    refine wa_ifeq (w_rg0 (by omega) (by omega)) ⟨_, rfl⟩ (fun c116 => ?_) (fun c116 => ?_)
                    · skip
                      exact absurd c116 (by omega)
                    · skip
                      refine wa_aload_n (n := 0) rfl ?_
                      refine wa_aload_n (n := 0) rfl ?_
                      refine wb_gfi 237 rfl (wy_pr rfl) wt_237 wf_15_174 (v := gk) (a74) (fun r117 => ?_)
                      refine wa_aload_n (n := 0) rfl ?_
                      refine wb_gfl 237 rfl (wy_pr rfl) wt_237 wf_15_175 (v := gb) (a75) (fun r118 => ?_)
                      refine wa_cv 237 rfl (wy_pr rfl) wt_237 (M2 := fun _ => False) rfl at_M_is ⟨_, rfl⟩ rfl rfl ⟨trivial, (Or.inr ⟨wy_pr rfl, fun q => q⟩), trivial, trivial, trivial, trivial⟩ trivial (fun _ _ q => False.elim q) ?_ (fun _ _ _ q => q)
                      refine wa_aload_n (n := 0) rfl ?_
                      refine wa_iload_n (n := 1) rfl ?_
                      refine wb_pfi 237 rfl (wy_pr rfl) wt_237 wf_15_110 (n := 110) rfl ⟨(by omega), (by omega)⟩ ?_
                      refine wa_aload_n (n := 0) rfl ?_
                      refine wa_lload_n (n := 2) rfl ?_
                      refine wb_pfl 237 rfl (wy_pr rfl) wt_237 wf_15_111 (n := 111) rfl ⟨(by omega), (by omega)⟩ ?_
                      refine wa_return rfl ?_
                      show wJ _ _ _ _ _ _ _ _ _ _
                      refine wa_fall ⟨_, rfl⟩ ?_
                      refine wa_iconst ?_
                      refine wa_istore (n := 6) rfl ?_
                      refine wa_fall ⟨_, rfl⟩ ?_
                      refine wa_iload (n := 6) rfl ?_
                      refine wa_aload_n (n := 0) rfl ?_
                      refine wb_gfi 237 rfl (wy_pr rfl) wt_237 wf_15_176 (v := (es.length : Int)) ((w_up_at (by decide)).trans ((w_up_at (by decide)).trans (a76))) (fun r119 => ?_)
                      refine wa_icmpge (w_rg0 (by omega) (by omega)) (w_rg0 (by omega) (by omega)) ⟨_, rfl⟩ (fun c120 => ?_) (fun c120 => ?_)
                      · skip
                        refine wa_return rfl ?_
                        exact ⟨rfl, by unfold anR; rw [if_pos ⟨by omega, bI_1 (by omega)⟩]; exact isQ_u hfr⟩
                      · skip
                        refine wa_iload (n := 5) rfl ?_
                        refine wa_ifne (w_rg0 (by omega) (by omega)) ⟨_, rfl⟩ (fun c121 => ?_) (fun c121 => ?_)
                        · skip
                          refine wa_return rfl ?_
                          exact ⟨rfl, by unfold anR; rw [if_pos ⟨by omega, bI_1 (by omega)⟩]; exact isQ_u hfr⟩
                        · skip
                          exact absurd c121 (by omega)
              · skip
                exact absurd c107 (by omega)
          · skip
            exact absurd c105 (by omega)
      · skip
        exact absurd c103 (by omega)
  · skip
    exact absurd c101 (by omega)
end Whz
