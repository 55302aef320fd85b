/-! PART i4: the reference: actsOnHost. -/
section Wi4
variable {xs : List (Nat × List Int32)} {M : Nat → Prop} {d : Nat} {S Z A : wS} {T : Int → Int} {n : Int} {cs : List hCR} {ms : List hMR} {os : Int → List Int} {Q : wO → wS → Prop} {l : List Int} {t p h tp ba kd wh : Int} {k : Nat}
theorem clR_lt {k v : Int} (hk : 0 ≤ k ∧ k ≤ 8) (h7 : k = 7 → 0 ≤ v ∧ v < 8000 ∧ 0 ≤ S 321 v ∧ S 321 v < (cs.length : Int)) : 0 ≤ clR S k v ∧ clR S k v < 9 + (cs.length : Int) := by
  unfold clR
  split
  · omega
  · split
    · omega
    · split
      · split <;> omega
      · split
        · omega
        · split
          · have := h7 (by omega); omega
          · omega
theorem rhg1_241 {c c0 gb vk vb : Int} (hM : w_ML S) (hK : KR 241 T n cs ms S) (hw : wHo cs ms os) (hP : mP t c0 p h tp S) (h73 : S 237 173 = 2100 * t + ba) (hba : 0 ≤ ba ∧ ba < h) (h70 : S 237 170 = wh) (hwh : 0 ≤ wh ∧ wh < (ms.length : Int)) (hso : (hmR ms wh).2.1 = 0) (hst : (hmR ms wh).2.2.1 = 1) (hvk : -2147483648 ≤ vk ∧ vk ≤ 2147483647) (hvb : -9223372036854775808 ≤ vb ∧ vb ≤ 9223372036854775807) (h40 : S 340 wh = vk) (h41 : S 341 wh = vb) (hkd : kd = 0) : wJ (pe_GA xs) wY0 M (d + 4) t_M_actsOnHost ((pe_at t_M_actsOnHost.bl 0).getD (0, [])).2 [(0, (2, 237)), (1, (0, kd))] [] S (fun o Z => o = .inl none ∧ ∃ C : wS, (∀ (j : Nat) (x : Int), ¬ fiM j x → C j x = S j x) ∧ gvZ t ba tp p vk vb C = Z) := by
  have h13 : S 237 13 = 241 := hK.1
  have h400 := hw.1
  have ht2 := hP.2.1.2
  have hh2 := hP.2.2.2.2.2.2.2.2
  have uuM := KR_m hK (m := wh) (by omega) (by omega)
  have uuW := hw.2.2.2 wh (by omega) (by omega)
  have uu1 : S 253 wh = (hmR ms wh).2.1 := uuM.1.2.1
  have uu2 : S 254 wh = (hmR ms wh).2.2.1 := uuM.1.2.2.1
  have uu3 : S 255 wh = (hmR ms wh).2.2.2.1 := uuM.1.2.2.2.1
  have uu4 : S 256 wh = ((hmR ms wh).2.2.2.2.1.length : Int) := uuM.2.1.1
  have uu5 : S 257 wh = (hmR ms wh).2.2.2.2.2.1 := uuM.2.1.2.1
  have uuf : S 259 wh = (hmR ms wh).2.2.2.2.2.2.1 := uuM.1.2.2.2.2.1
  have uut : S 260 wh = (hmR ms wh).2.2.2.2.2.2.2 := uuM.1.2.2.2.2.2
  have uuq := uuW.1.2.1
  have uus := uuW.1.2.2.1
  have uuy := uuW.1.2.2.2
  have uuv := uuW.2.1
  have uul := uuW.2.2.1
  have uuft := hK.2.2.2.2.2.2.1 wh (by omega) (by omega)
  refine wa_aload_n (n := 0) rfl ?_
  refine wb_gfi 237 rfl (wy_pr rfl) wt_237 wf_15_170 (v := wh) (h70) (fun r1 => ?_)
  refine wa_istore_n (n := 2) rfl ?_
  refine wa_aload_n (n := 0) rfl ?_
  refine wb_gf5 237 rfl (wy_pr rfl) wt_237 wf_15_13 (v := 241) (h13) (fun r2 => ?_)
  refine wb_gf4 241 rfl (wy_pr rfl) wt_241 wf_12_13 (v := 253) wl_241_13 ?_
  refine wa_iload_n (n := 2) rfl ?_
  refine wb_iald 253 rfl (wy_pr rfl) wt_253 (n := 400) ((ml_253 hM)) (by omega) (by omega) (v := (hmR ms wh).2.1) (uu1) (fun r3 => ?_)
  refine wa_ifne (w_rg0 (by omega) (by omega)) ⟨_, rfl⟩ (fun c4 => ?_) (fun c4 => ?_)
  · skip
    exfalso; omega
  · skip
    refine wa_iload_n (n := 1) rfl ?_
    refine wa_ifne (w_rg0 (by omega) (by omega)) ⟨_, rfl⟩ (fun c5 => ?_) (fun c5 => ?_)
    · skip
      exfalso; omega
    · skip
      refine wa_aload_n (n := 0) rfl ?_
      refine wa_iload_n (n := 2) rfl ?_
      refine wa_cv 237 rfl (wy_pr rfl) wt_237 (M2 := fun _ => False) rfl at_M_readsFieldOf ⟨_, rfl⟩ rfl rfl ⟨trivial, (Or.inr ⟨wy_pr rfl, fun q => q⟩), trivial, trivial⟩ trivial (fun _ _ q => False.elim q) (rrf1_241 (S := S) (m := wh) (c := 0) (gb := 0) (k := 0) hM hK hw hwh hvk hvb hst h40 h41) (fun oq6 Sq6 hp7 q6 => ?_)
      rcases q6 with ⟨rfl, hv2, hfc⟩
      show wJ _ _ _ _ _ _ _ _ _ _
      refine wa_aload_n (n := 0) rfl ?_
      refine wa_aload_n (n := 0) rfl ?_
      refine wb_gfi 237 rfl (wy_pr rfl) wt_237 wf_15_110 (v := vk) (hv2.1) (fun r8 => ?_)
      refine wa_aload_n (n := 0) rfl ?_
      refine wb_gfl 237 rfl (wy_pr rfl) wt_237 wf_15_111 (v := vb) (hv2.2) (fun r9 => ?_)
      refine wa_cv 237 rfl (wy_pr rfl) wt_237 (M2 := fun _ => False) rfl at_M_gives ⟨_, rfl⟩ rfl rfl ⟨trivial, (Or.inr ⟨wy_pr rfl, fun q => q⟩), trivial, trivial⟩ trivial (fun _ _ q => False.elim q) (gvs_ok (S := Sq6) (t := t) (c := c0) (p := p) (h := h) (tp := tp) (ba := ba) (k := vk) (v := vb) (mP_ag hP (ML_w hM hfc (fun j z => by unfold fiM flM at z; omega)) (fun j x hj => hfc j x (by unfold fiM flM; omega))) ((hfc 237 173 (by unfold fiM flM; omega)).trans h73) ⟨by omega, by omega⟩ hvk hvb) (fun oq10 Sq10 hp11 q10 => ?_)
      rcases q10 with ⟨rfl, rfl⟩
      show wJ _ _ _ _ _ _ _ _ _ _
      refine wa_goto ⟨_, rfl⟩ ?_
      refine wa_return rfl ?_
      exact ⟨rfl, _, hfc, rfl⟩
theorem rhs1_241 {c c0 gb k1 v1 ty : Int} (hM : w_ML S) (hK : KR 241 T n cs ms S) (hw : wHo cs ms os) (hP : mP t c0 p h tp S) (h73 : S 237 173 = 2100 * t + ba) (hba : 0 ≤ ba ∧ ba < h) (h70 : S 237 170 = wh) (hwh : 0 ≤ wh ∧ wh < (ms.length : Int)) (hso : (hmR ms wh).2.1 = 0) (hst : (hmR ms wh).2.2.1 = 1) (hk1 : S 363 (2100 * t + ba + 1) = k1) (hv1 : S 364 (2100 * t + ba + 1) = v1) (hb1 : ba + 1 < h) (hkr : 0 ≤ k1 ∧ k1 ≤ 8) (hvr : -9223372036854775808 ≤ v1 ∧ v1 ≤ 9223372036854775807) (h7 : k1 = 7 → 0 ≤ v1 ∧ v1 < 8000 ∧ 0 ≤ S 321 v1 ∧ S 321 v1 < (cs.length : Int)) (hty : (hmR ms wh).2.2.2.1 = ty) (hkd : kd = 1) : wJ (pe_GA xs) wY0 M (d + 4) t_M_actsOnHost ((pe_at t_M_actsOnHost.bl 0).getD (0, [])).2 [(0, (2, 237)), (1, (0, kd))] [] S (fun o Z => (gTB cs (clR S k1 v1) ty true = true ∧ o = .inl none ∧ ∃ C : wS, w_up (w_up S 340 wh k1) 341 wh v1 = C ∧ gvZ t ba tp p k1 v1 C = Z) ∨ (gTB cs (clR S k1 v1) ty true = false ∧ o = .inr 238 ∧ hZ 7 S = Z)) := by
  have h13 : S 237 13 = 241 := hK.1
  have h400 := hw.1
  have ht2 := hP.2.1.2
  have hh2 := hP.2.2.2.2.2.2.2.2
  have uuM := KR_m hK (m := wh) (by omega) (by omega)
  have uuW := hw.2.2.2 wh (by omega) (by omega)
  have uu1 : S 253 wh = (hmR ms wh).2.1 := uuM.1.2.1
  have uu2 : S 254 wh = (hmR ms wh).2.2.1 := uuM.1.2.2.1
  have uu3 : S 255 wh = (hmR ms wh).2.2.2.1 := uuM.1.2.2.2.1
  have uu4 : S 256 wh = ((hmR ms wh).2.2.2.2.1.length : Int) := uuM.2.1.1
  have uu5 : S 257 wh = (hmR ms wh).2.2.2.2.2.1 := uuM.2.1.2.1
  have uuf : S 259 wh = (hmR ms wh).2.2.2.2.2.2.1 := uuM.1.2.2.2.2.1
  have uut : S 260 wh = (hmR ms wh).2.2.2.2.2.2.2 := uuM.1.2.2.2.2.2
  have uuq := uuW.1.2.1
  have uus := uuW.1.2.2.1
  have uuy := uuW.1.2.2.2
  have uuv := uuW.2.1
  have uul := uuW.2.2.1
  have uuft := hK.2.2.2.2.2.2.1 wh (by omega) (by omega)
  have hclr := clR_lt (cs := cs) hkr h7
  rw [hty] at uuy
  refine wa_aload_n (n := 0) rfl ?_
  refine wb_gfi 237 rfl (wy_pr rfl) wt_237 wf_15_170 (v := wh) (h70) (fun r1 => ?_)
  refine wa_istore_n (n := 2) rfl ?_
  refine wa_aload_n (n := 0) rfl ?_
  refine wb_gf5 237 rfl (wy_pr rfl) wt_237 wf_15_13 (v := 241) (h13) (fun r2 => ?_)
  refine wb_gf4 241 rfl (wy_pr rfl) wt_241 wf_12_13 (v := 253) wl_241_13 ?_
  refine wa_iload_n (n := 2) rfl ?_
  refine wb_iald 253 rfl (wy_pr rfl) wt_253 (n := 400) ((ml_253 hM)) (by omega) (by omega) (v := (hmR ms wh).2.1) (uu1) (fun r3 => ?_)
  refine wa_ifne (w_rg0 (by omega) (by omega)) ⟨_, rfl⟩ (fun c4 => ?_) (fun c4 => ?_)
  · skip
    exfalso; omega
  · skip
    refine wa_iload_n (n := 1) rfl ?_
    refine wa_ifne (w_rg0 (by omega) (by omega)) ⟨_, rfl⟩ (fun c5 => ?_) (fun c5 => ?_)
    · skip
      refine wa_aload_n (n := 0) rfl ?_
      refine wb_gf4 237 rfl (wy_pr rfl) wt_237 wf_15_138 (v := 363) wl_237_138 ?_
      refine wa_aload_n (n := 0) rfl ?_
      refine wb_gfi 237 rfl (wy_pr rfl) wt_237 wf_15_173 (v := (2100 * t + ba)) (h73) (fun r6 => ?_)
      refine wa_iconst ?_
      refine wa_iadd ?_
      refine wb_iald 363 rfl (wy_pr rfl) wt_363 (n := 4200) ((ml_363 hM)) (by omega) (by omega) (v := k1) (hk1) (fun r7 => ?_)
      refine wa_istore_n (n := 3) rfl ?_
      refine wa_aload_n (n := 0) rfl ?_
      refine wb_gf4 237 rfl (wy_pr rfl) wt_237 wf_15_139 (v := 364) wl_237_139 ?_
      refine wa_aload_n (n := 0) rfl ?_
      refine wb_gfi 237 rfl (wy_pr rfl) wt_237 wf_15_173 (v := (2100 * t + ba)) (h73) (fun r8 => ?_)
      refine wa_iconst ?_
      refine wa_iadd ?_
      refine wb_lald 364 rfl (wy_pr rfl) wt_364 (n := 4200) ((ml_364 hM)) (by omega) (by omega) (v := v1) (hv1) (fun r9 => ?_)
      refine wa_lstore (n := 4) rfl ?_
      refine wa_aload_n (n := 0) rfl ?_
      refine wa_aload_n (n := 0) rfl ?_
      refine wa_iload_n (n := 3) rfl ?_
      refine wa_lload (n := 4) rfl ?_
      refine wa_cv 237 rfl (wy_pr rfl) wt_237 (M2 := fun _ => False) rfl at_M_typeOf ⟨_, rfl⟩ rfl rfl ⟨trivial, trivial, trivial, (Or.inr ⟨wy_pr rfl, fun q => q⟩), trivial, trivial⟩ ⟨(Or.inr ⟨wy_pr rfl, fun q => q⟩), trivial⟩ (fun _ _ q => False.elim q) (mty_ok (S := S) (k := k1) (b := v1) hM hkr (fun z => by have := h7 z; omega) hvr) (fun oq10 Sq10 hp11 q10 => ?_)
      rcases q10 with ⟨rfl, rfl⟩
      show wJ _ _ _ _ _ _ _ _ _ _
      refine wa_aload_n (n := 0) rfl ?_
      refine wb_gf5 237 rfl (wy_pr rfl) wt_237 wf_15_13 (v := 241) (h13) (fun r12 => ?_)
      refine wb_gf4 241 rfl (wy_pr rfl) wt_241 wf_12_15 (v := 255) wl_241_15 ?_
      refine wa_iload_n (n := 2) rfl ?_
      refine wb_iald 255 rfl (wy_pr rfl) wt_255 (n := 400) ((ml_255 hM)) (by omega) (by omega) (v := (hmR ms wh).2.2.2.1) (uu3) (fun r13 => ?_)
      refine wJ_top (show (hmR ms wh).2.2.2.1 = ty from hty) ?_
      refine wa_cv 237 rfl (wy_pr rfl) wt_237 (M2 := fun _ => False) rfl at_M_loose ⟨_, rfl⟩ rfl rfl ⟨trivial, trivial, trivial, (Or.inr ⟨wy_pr rfl, fun q => q⟩), trivial, trivial⟩ trivial (fun _ _ q => False.elim q) (rlo_241 (S := S) (f := clR S k1 v1) (q := ty) hM hK hw hclr ⟨by omega, by omega⟩) (fun oq14 Sq14 hp15 q14 => ?_)
      rcases q14 with ⟨rfl, rfl⟩
      show wJ _ _ _ _ _ _ _ _ _ _
      have hbz := bI_rg (gTB cs (clR S k1 v1) ty true)
      refine wa_ifne (w_rg0 (by omega) (by omega)) ⟨_, rfl⟩ (fun c16 => ?_) (fun c16 => ?_)
      · skip
        refine wa_aload_n (n := 0) rfl ?_
        refine wa_iload_n (n := 2) rfl ?_
        refine wa_iload_n (n := 3) rfl ?_
        refine wa_lload (n := 4) rfl ?_
        refine wa_cv 237 rfl (wy_pr rfl) wt_237 (M2 := fun _ => False) rfl at_M_writesFieldOf ⟨_, rfl⟩ rfl rfl ⟨trivial, trivial, trivial, (Or.inr ⟨wy_pr rfl, fun q => q⟩), trivial, trivial⟩ trivial (fun _ _ q => False.elim q) (rwf1_241 (S := S) (m := wh) (vk := k1) (vb := v1) (c := 0) (gb := 0) (k := 0) hM hK hw hwh ⟨by omega, by omega⟩ hvr hst) (fun oq17 Sq17 hp18 q17 => ?_)
        rcases q17 with ⟨rfl, rfl⟩
        show wJ _ _ _ _ _ _ _ _ _ _
        have hfc : ∀ (j : Nat) (x : Int), ¬ ((j = 340 ∨ j = 341) ∧ x = wh) → (w_up (w_up S 340 wh k1) 341 wh v1) j x = S j x := fun j x hj => (w_up_no (fun z => hj ⟨Or.inr z.1, z.2⟩)).trans (w_up_no (fun z => hj ⟨Or.inl z.1, z.2⟩))
        refine wa_aload_n (n := 0) rfl ?_
        refine wa_iload_n (n := 3) rfl ?_
        refine wa_lload (n := 4) rfl ?_
        refine wa_cv 237 rfl (wy_pr rfl) wt_237 (M2 := fun _ => False) rfl at_M_gives ⟨_, rfl⟩ rfl rfl ⟨trivial, trivial, trivial, (Or.inr ⟨wy_pr rfl, fun q => q⟩), trivial, trivial⟩ trivial (fun _ _ q => False.elim q) (gvs_ok (S := (w_up (w_up S 340 wh k1) 341 wh v1)) (t := t) (c := c0) (p := p) (h := h) (tp := tp) (ba := ba) (k := k1) (v := v1) (mP_ag hP (ML_w (P := fun j x => (j = 340 ∨ j = 341) ∧ x = wh) hM hfc (fun j z => by omega)) (fun j x hj => hfc j x (by skip; omega))) ((hfc 237 173 (by skip; omega)).trans h73) ⟨by omega, by omega⟩ ⟨by omega, by omega⟩ hvr) (fun oq19 Sq19 hp20 q19 => ?_)
        rcases q19 with ⟨rfl, rfl⟩
        show wJ _ _ _ _ _ _ _ _ _ _
        refine wa_fall ⟨_, rfl⟩ ?_
        refine wa_return rfl ?_
        exact Or.inl ⟨bI_1 (by omega), rfl, _, rfl, rfl⟩
      · skip
        refine wa_aload_n (n := 0) rfl ?_
        refine wa_bipush (w_rg2 (by omega) (by omega)) ?_
        refine wa_cv 237 rfl (wy_pr rfl) wt_237 (M2 := fun _ => False) rfl at_M_error ⟨_, rfl⟩ rfl rfl ⟨trivial, trivial, trivial, (Or.inr ⟨wy_pr rfl, fun q => q⟩), trivial, trivial⟩ trivial (fun _ _ q => False.elim q) ?_ (fun _ _ _ q => q)
        refine wa_aload_n (n := 0) rfl ?_
        refine wb_gf4 237 rfl (wy_pr rfl) wt_237 wf_15_1 (v := 238) wl_237_1 ?_
        refine wa_iload_n (n := 1) rfl ?_
        refine wa_iconst ?_
        refine wa_cv 238 rfl (wy_pr rfl) wt_238 (M2 := fun _ => False) rfl at_MH_of ⟨_, rfl⟩ rfl rfl ⟨(Or.inr ⟨wy_pr rfl, fun q => q⟩), trivial, trivial⟩ trivial (fun _ _ q => False.elim q) ?_ (fun _ _ _ q => q)
        refine wa_aload_n (n := 0) rfl ?_
        refine wa_iload_n (n := 1) rfl ?_
        refine wb_pfi 238 rfl (wy_pr rfl) wt_238 wf_11_5 (n := 5) rfl ⟨(by omega), (by omega)⟩ ?_
        refine wa_aload_n (n := 0) rfl ?_
        refine wa_iload_n (n := 2) rfl ?_
        refine wb_pfi 238 rfl (wy_pr rfl) wt_238 wf_11_6 (n := 6) rfl ⟨(by omega), (by omega)⟩ ?_
        refine wa_aload_n (n := 0) rfl ?_
        refine wa_oreturn rfl ?_
        show wJ _ _ _ _ _ _ _ _ _ _
        refine wa_th (j := 238) ?_
        refine ⟨rfl, ?_⟩
        exact Or.inr ⟨bI_0 (by omega), rfl, rfl⟩
    · skip
      exfalso; omega
theorem rhg0_241 {c c0 gb vk vb : Int} (hM : w_ML S) (hK : KR 241 T n cs ms S) (hw : wHo cs ms os) (hP : mP t c0 p h tp S) (h73 : S 237 173 = 2100 * t + ba) (hba : 0 ≤ ba ∧ ba < h) (h70 : S 237 170 = wh) (hwh : 0 ≤ wh ∧ wh < (ms.length : Int)) (hso : (hmR ms wh).2.1 = 0) (hst : (hmR ms wh).2.2.1 = 0) (hvk : -2147483648 ≤ vk ∧ vk ≤ 2147483647) (hvb : -9223372036854775808 ≤ vb ∧ vb ≤ 9223372036854775807) (hc : 0 ≤ c ∧ c < (cs.length : Int)) (hF : (flA cs ms c).length ≤ 400) (hk : k < (flA cs ms c).length) (hkm : (flA cs ms c).getD k 0 = wh) (hkn : ∀ i : Nat, i < k → (flA cs ms c).getD i 0 ≠ wh) (h75 : S 237 175 = gb) (hgb : 0 ≤ gb ∧ gb < 8000) (h321 : S 321 gb = c) (hsl : slC S gb l) (hkl : k < l.length) (hl6 : l.length ≤ 60000) (h25 : S 325 (l.getD k 0) = vk) (h26 : S 326 (l.getD k 0) = vb) (hkd : kd = 0) : wJ (pe_GA xs) wY0 M (d + 4) t_M_actsOnHost ((pe_at t_M_actsOnHost.bl 0).getD (0, [])).2 [(0, (2, 237)), (1, (0, kd))] [] S (fun o Z => o = .inl none ∧ ∃ C : wS, (∀ (j : Nat) (x : Int), ¬ fiM j x → C j x = S j x) ∧ gvZ t ba tp p vk vb C = Z) := by
  have h13 : S 237 13 = 241 := hK.1
  have h400 := hw.1
  have ht2 := hP.2.1.2
  have hh2 := hP.2.2.2.2.2.2.2.2
  have uuM := KR_m hK (m := wh) (by omega) (by omega)
  have uuW := hw.2.2.2 wh (by omega) (by omega)
  have uu1 : S 253 wh = (hmR ms wh).2.1 := uuM.1.2.1
  have uu2 : S 254 wh = (hmR ms wh).2.2.1 := uuM.1.2.2.1
  have uu3 : S 255 wh = (hmR ms wh).2.2.2.1 := uuM.1.2.2.2.1
  have uu4 : S 256 wh = ((hmR ms wh).2.2.2.2.1.length : Int) := uuM.2.1.1
  have uu5 : S 257 wh = (hmR ms wh).2.2.2.2.2.1 := uuM.2.1.2.1
  have uuf : S 259 wh = (hmR ms wh).2.2.2.2.2.2.1 := uuM.1.2.2.2.2.1
  have uut : S 260 wh = (hmR ms wh).2.2.2.2.2.2.2 := uuM.1.2.2.2.2.2
  have uuq := uuW.1.2.1
  have uus := uuW.1.2.2.1
  have uuy := uuW.1.2.2.2
  have uuv := uuW.2.1
  have uul := uuW.2.2.1
  have uuft := hK.2.2.2.2.2.2.1 wh (by omega) (by omega)
  refine wa_aload_n (n := 0) rfl ?_
  refine wb_gfi 237 rfl (wy_pr rfl) wt_237 wf_15_170 (v := wh) (h70) (fun r1 => ?_)
  refine wa_istore_n (n := 2) rfl ?_
  refine wa_aload_n (n := 0) rfl ?_
  refine wb_gf5 237 rfl (wy_pr rfl) wt_237 wf_15_13 (v := 241) (h13) (fun r2 => ?_)
  refine wb_gf4 241 rfl (wy_pr rfl) wt_241 wf_12_13 (v := 253) wl_241_13 ?_
  refine wa_iload_n (n := 2) rfl ?_
  refine wb_iald 253 rfl (wy_pr rfl) wt_253 (n := 400) ((ml_253 hM)) (by omega) (by omega) (v := (hmR ms wh).2.1) (uu1) (fun r3 => ?_)
  refine wa_ifne (w_rg0 (by omega) (by omega)) ⟨_, rfl⟩ (fun c4 => ?_) (fun c4 => ?_)
  · skip
    exfalso; omega
  · skip
    refine wa_iload_n (n := 1) rfl ?_
    refine wa_ifne (w_rg0 (by omega) (by omega)) ⟨_, rfl⟩ (fun c5 => ?_) (fun c5 => ?_)
    · skip
      exfalso; omega
    · skip
      refine wa_aload_n (n := 0) rfl ?_
      refine wa_iload_n (n := 2) rfl ?_
      refine wa_cv 237 rfl (wy_pr rfl) wt_237 (M2 := fun _ => False) rfl at_M_readsFieldOf ⟨_, rfl⟩ rfl rfl ⟨trivial, (Or.inr ⟨wy_pr rfl, fun q => q⟩), trivial, trivial⟩ trivial (fun _ _ q => False.elim q) (rrf0_241 (S := S) (m := wh) (c := c) (gb := gb) (k := k) (l := l) hM hK hw hwh hvk hvb hst hc hF hk hkm hkn h75 hgb h321 hsl hkl hl6 h25 h26) (fun oq6 Sq6 hp7 q6 => ?_)
      rcases q6 with ⟨rfl, hv2, hfc⟩
      show wJ _ _ _ _ _ _ _ _ _ _
      refine wa_aload_n (n := 0) rfl ?_
      refine wa_aload_n (n := 0) rfl ?_
      refine wb_gfi 237 rfl (wy_pr rfl) wt_237 wf_15_110 (v := vk) (hv2.1) (fun r8 => ?_)
      refine wa_aload_n (n := 0) rfl ?_
      refine wb_gfl 237 rfl (wy_pr rfl) wt_237 wf_15_111 (v := vb) (hv2.2) (fun r9 => ?_)
      refine wa_cv 237 rfl (wy_pr rfl) wt_237 (M2 := fun _ => False) rfl at_M_gives ⟨_, rfl⟩ rfl rfl ⟨trivial, (Or.inr ⟨wy_pr rfl, fun q => q⟩), trivial, trivial⟩ trivial (fun _ _ q => False.elim q) (gvs_ok (S := Sq6) (t := t) (c := c0) (p := p) (h := h) (tp := tp) (ba := ba) (k := vk) (v := vb) (mP_ag hP (ML_w hM hfc (fun j z => by unfold fiM flM at z; omega)) (fun j x hj => hfc j x (by unfold fiM flM; omega))) ((hfc 237 173 (by unfold fiM flM; omega)).trans h73) ⟨by omega, by omega⟩ hvk hvb) (fun oq10 Sq10 hp11 q10 => ?_)
      rcases q10 with ⟨rfl, rfl⟩
      show wJ _ _ _ _ _ _ _ _ _ _
      refine wa_goto ⟨_, rfl⟩ ?_
      refine wa_return rfl ?_
      exact ⟨rfl, _, hfc, rfl⟩
theorem rhs0_241 {c c0 gb k1 v1 ty : Int} (hM : w_ML S) (hK : KR 241 T n cs ms S) (hw : wHo cs ms os) (hP : mP t c0 p h tp S) (h73 : S 237 173 = 2100 * t + ba) (hba : 0 ≤ ba ∧ ba < h) (h70 : S 237 170 = wh) (hwh : 0 ≤ wh ∧ wh < (ms.length : Int)) (hso : (hmR ms wh).2.1 = 0) (hst : (hmR ms wh).2.2.1 = 0) (hk1 : S 363 (2100 * t + ba + 1) = k1) (hv1 : S 364 (2100 * t + ba + 1) = v1) (hb1 : ba + 1 < h) (hkr : 0 ≤ k1 ∧ k1 ≤ 8) (hvr : -9223372036854775808 ≤ v1 ∧ v1 ≤ 9223372036854775807) (h7 : k1 = 7 → 0 ≤ v1 ∧ v1 < 8000 ∧ 0 ≤ S 321 v1 ∧ S 321 v1 < (cs.length : Int)) (hty : (hmR ms wh).2.2.2.1 = ty) (hc : 0 ≤ c ∧ c < (cs.length : Int)) (hF : (flA cs ms c).length ≤ 400) (hk : k < (flA cs ms c).length) (hkm : (flA cs ms c).getD k 0 = wh) (hkn : ∀ i : Nat, i < k → (flA cs ms c).getD i 0 ≠ wh) (h75 : S 237 175 = gb) (hgb : 0 ≤ gb ∧ gb < 8000) (h321 : S 321 gb = c) (hsl : slC S gb l) (hkl : k < l.length) (hl6 : l.length ≤ 60000) (hkd : kd = 1) : wJ (pe_GA xs) wY0 M (d + 4) t_M_actsOnHost ((pe_at t_M_actsOnHost.bl 0).getD (0, [])).2 [(0, (2, 237)), (1, (0, kd))] [] S (fun o Z => (gTB cs (clR S k1 v1) ty true = true ∧ o = .inl none ∧ ∃ C : wS, (C 325 (l.getD k 0) = k1 ∧ C 326 (l.getD k 0) = v1) ∧ (∀ (j : Nat) (x : Int), ¬ (flM j x ∨ ((j = 325 ∨ j = 326) ∧ x = l.getD k 0)) → C j x = S j x) ∧ gvZ t ba tp p k1 v1 C = Z) ∨ (gTB cs (clR S k1 v1) ty true = false ∧ o = .inr 238 ∧ hZ 7 S = Z)) := by
  have h13 : S 237 13 = 241 := hK.1
  have h400 := hw.1
  have ht2 := hP.2.1.2
  have hh2 := hP.2.2.2.2.2.2.2.2
  have uuM := KR_m hK (m := wh) (by omega) (by omega)
  have uuW := hw.2.2.2 wh (by omega) (by omega)
  have uu1 : S 253 wh = (hmR ms wh).2.1 := uuM.1.2.1
  have uu2 : S 254 wh = (hmR ms wh).2.2.1 := uuM.1.2.2.1
  have uu3 : S 255 wh = (hmR ms wh).2.2.2.1 := uuM.1.2.2.2.1
  have uu4 : S 256 wh = ((hmR ms wh).2.2.2.2.1.length : Int) := uuM.2.1.1
  have uu5 : S 257 wh = (hmR ms wh).2.2.2.2.2.1 := uuM.2.1.2.1
  have uuf : S 259 wh = (hmR ms wh).2.2.2.2.2.2.1 := uuM.1.2.2.2.2.1
  have uut : S 260 wh = (hmR ms wh).2.2.2.2.2.2.2 := uuM.1.2.2.2.2.2
  have uuq := uuW.1.2.1
  have uus := uuW.1.2.2.1
  have uuy := uuW.1.2.2.2
  have uuv := uuW.2.1
  have uul := uuW.2.2.1
  have uuft := hK.2.2.2.2.2.2.1 wh (by omega) (by omega)
  have hclr := clR_lt (cs := cs) hkr h7
  rw [hty] at uuy
  refine wa_aload_n (n := 0) rfl ?_
  refine wb_gfi 237 rfl (wy_pr rfl) wt_237 wf_15_170 (v := wh) (h70) (fun r1 => ?_)
  refine wa_istore_n (n := 2) rfl ?_
  refine wa_aload_n (n := 0) rfl ?_
  refine wb_gf5 237 rfl (wy_pr rfl) wt_237 wf_15_13 (v := 241) (h13) (fun r2 => ?_)
  refine wb_gf4 241 rfl (wy_pr rfl) wt_241 wf_12_13 (v := 253) wl_241_13 ?_
  refine wa_iload_n (n := 2) rfl ?_
  refine wb_iald 253 rfl (wy_pr rfl) wt_253 (n := 400) ((ml_253 hM)) (by omega) (by omega) (v := (hmR ms wh).2.1) (uu1) (fun r3 => ?_)
  refine wa_ifne (w_rg0 (by omega) (by omega)) ⟨_, rfl⟩ (fun c4 => ?_) (fun c4 => ?_)
  · skip
    exfalso; omega
  · skip
    refine wa_iload_n (n := 1) rfl ?_
    refine wa_ifne (w_rg0 (by omega) (by omega)) ⟨_, rfl⟩ (fun c5 => ?_) (fun c5 => ?_)
    · skip
      refine wa_aload_n (n := 0) rfl ?_
      refine wb_gf4 237 rfl (wy_pr rfl) wt_237 wf_15_138 (v := 363) wl_237_138 ?_
      refine wa_aload_n (n := 0) rfl ?_
      refine wb_gfi 237 rfl (wy_pr rfl) wt_237 wf_15_173 (v := (2100 * t + ba)) (h73) (fun r6 => ?_)
      refine wa_iconst ?_
      refine wa_iadd ?_
      refine wb_iald 363 rfl (wy_pr rfl) wt_363 (n := 4200) ((ml_363 hM)) (by omega) (by omega) (v := k1) (hk1) (fun r7 => ?_)
      refine wa_istore_n (n := 3) rfl ?_
      refine wa_aload_n (n := 0) rfl ?_
      refine wb_gf4 237 rfl (wy_pr rfl) wt_237 wf_15_139 (v := 364) wl_237_139 ?_
      refine wa_aload_n (n := 0) rfl ?_
      refine wb_gfi 237 rfl (wy_pr rfl) wt_237 wf_15_173 (v := (2100 * t + ba)) (h73) (fun r8 => ?_)
      refine wa_iconst ?_
      refine wa_iadd ?_
      refine wb_lald 364 rfl (wy_pr rfl) wt_364 (n := 4200) ((ml_364 hM)) (by omega) (by omega) (v := v1) (hv1) (fun r9 => ?_)
      refine wa_lstore (n := 4) rfl ?_
      refine wa_aload_n (n := 0) rfl ?_
      refine wa_aload_n (n := 0) rfl ?_
      refine wa_iload_n (n := 3) rfl ?_
      refine wa_lload (n := 4) rfl ?_
      refine wa_cv 237 rfl (wy_pr rfl) wt_237 (M2 := fun _ => False) rfl at_M_typeOf ⟨_, rfl⟩ rfl rfl ⟨trivial, trivial, trivial, (Or.inr ⟨wy_pr rfl, fun q => q⟩), trivial, trivial⟩ ⟨(Or.inr ⟨wy_pr rfl, fun q => q⟩), trivial⟩ (fun _ _ q => False.elim q) (mty_ok (S := S) (k := k1) (b := v1) hM hkr (fun z => by have := h7 z; omega) hvr) (fun oq10 Sq10 hp11 q10 => ?_)
      rcases q10 with ⟨rfl, rfl⟩
      show wJ _ _ _ _ _ _ _ _ _ _
      refine wa_aload_n (n := 0) rfl ?_
      refine wb_gf5 237 rfl (wy_pr rfl) wt_237 wf_15_13 (v := 241) (h13) (fun r12 => ?_)
      refine wb_gf4 241 rfl (wy_pr rfl) wt_241 wf_12_15 (v := 255) wl_241_15 ?_
      refine wa_iload_n (n := 2) rfl ?_
      refine wb_iald 255 rfl (wy_pr rfl) wt_255 (n := 400) ((ml_255 hM)) (by omega) (by omega) (v := (hmR ms wh).2.2.2.1) (uu3) (fun r13 => ?_)
      refine wJ_top (show (hmR ms wh).2.2.2.1 = ty from hty) ?_
      refine wa_cv 237 rfl (wy_pr rfl) wt_237 (M2 := fun _ => False) rfl at_M_loose ⟨_, rfl⟩ rfl rfl ⟨trivial, trivial, trivial, (Or.inr ⟨wy_pr rfl, fun q => q⟩), trivial, trivial⟩ trivial (fun _ _ q => False.elim q) (rlo_241 (S := S) (f := clR S k1 v1) (q := ty) hM hK hw hclr ⟨by omega, by omega⟩) (fun oq14 Sq14 hp15 q14 => ?_)
      rcases q14 with ⟨rfl, rfl⟩
      show wJ _ _ _ _ _ _ _ _ _ _
      have hbz := bI_rg (gTB cs (clR S k1 v1) ty true)
      refine wa_ifne (w_rg0 (by omega) (by omega)) ⟨_, rfl⟩ (fun c16 => ?_) (fun c16 => ?_)
      · skip
        refine wa_aload_n (n := 0) rfl ?_
        refine wa_iload_n (n := 2) rfl ?_
        refine wa_iload_n (n := 3) rfl ?_
        refine wa_lload (n := 4) rfl ?_
        refine wa_cv 237 rfl (wy_pr rfl) wt_237 (M2 := fun _ => False) rfl at_M_writesFieldOf ⟨_, rfl⟩ rfl rfl ⟨trivial, trivial, trivial, (Or.inr ⟨wy_pr rfl, fun q => q⟩), trivial, trivial⟩ trivial (fun _ _ q => False.elim q) (rwf0_241 (S := S) (m := wh) (vk := k1) (vb := v1) (c := c) (gb := gb) (k := k) (l := l) hM hK hw hwh ⟨by omega, by omega⟩ hvr hst hc hF hk hkm hkn h75 hgb h321 hsl hkl hl6) (fun oq17 Sq17 hp18 q17 => ?_)
        rcases q17 with ⟨rfl, hv2, hfc⟩
        show wJ _ _ _ _ _ _ _ _ _ _
        have hlr := (hsl.2.2 k hkl).1
        refine wa_aload_n (n := 0) rfl ?_
        refine wa_iload_n (n := 3) rfl ?_
        refine wa_lload (n := 4) rfl ?_
        refine wa_cv 237 rfl (wy_pr rfl) wt_237 (M2 := fun _ => False) rfl at_M_gives ⟨_, rfl⟩ rfl rfl ⟨trivial, trivial, trivial, (Or.inr ⟨wy_pr rfl, fun q => q⟩), trivial, trivial⟩ trivial (fun _ _ q => False.elim q) (gvs_ok (S := Sq17) (t := t) (c := c0) (p := p) (h := h) (tp := tp) (ba := ba) (k := k1) (v := v1) (mP_ag hP (ML_w (P := fun j x => flM j x ∨ ((j = 325 ∨ j = 326) ∧ x = l.getD k 0)) hM hfc (fun j z => by unfold flM at z; omega)) (fun j x hj => hfc j x (by unfold flM; omega))) ((hfc 237 173 (by unfold flM; omega)).trans h73) ⟨by omega, by omega⟩ ⟨by omega, by omega⟩ hvr) (fun oq19 Sq19 hp20 q19 => ?_)
        rcases q19 with ⟨rfl, rfl⟩
        show wJ _ _ _ _ _ _ _ _ _ _
        refine wa_fall ⟨_, rfl⟩ ?_
        refine wa_return rfl ?_
        exact Or.inl ⟨bI_1 (by omega), rfl, _, hv2, hfc, rfl⟩
      · skip
        refine wa_aload_n (n := 0) rfl ?_
        refine wa_bipush (w_rg2 (by omega) (by omega)) ?_
        refine wa_cv 237 rfl (wy_pr rfl) wt_237 (M2 := fun _ => False) rfl at_M_error ⟨_, rfl⟩ rfl rfl ⟨trivial, trivial, trivial, (Or.inr ⟨wy_pr rfl, fun q => q⟩), trivial, trivial⟩ trivial (fun _ _ q => False.elim q) ?_ (fun _ _ _ q => q)
        refine wa_aload_n (n := 0) rfl ?_
        refine wb_gf4 237 rfl (wy_pr rfl) wt_237 wf_15_1 (v := 238) wl_237_1 ?_
        refine wa_iload_n (n := 1) rfl ?_
        refine wa_iconst ?_
        refine wa_cv 238 rfl (wy_pr rfl) wt_238 (M2 := fun _ => False) rfl at_MH_of ⟨_, rfl⟩ rfl rfl ⟨(Or.inr ⟨wy_pr rfl, fun q => q⟩), trivial, trivial⟩ trivial (fun _ _ q => False.elim q) ?_ (fun _ _ _ q => q)
        refine wa_aload_n (n := 0) rfl ?_
        refine wa_iload_n (n := 1) rfl ?_
        refine wb_pfi 238 rfl (wy_pr rfl) wt_238 wf_11_5 (n := 5) rfl ⟨(by omega), (by omega)⟩ ?_
        refine wa_aload_n (n := 0) rfl ?_
        refine wa_iload_n (n := 2) rfl ?_
        refine wb_pfi 238 rfl (wy_pr rfl) wt_238 wf_11_6 (n := 6) rfl ⟨(by omega), (by omega)⟩ ?_
        refine wa_aload_n (n := 0) rfl ?_
        refine wa_oreturn rfl ?_
        show wJ _ _ _ _ _ _ _ _ _ _
        refine wa_th (j := 238) ?_
        refine ⟨rfl, ?_⟩
        exact Or.inr ⟨bI_0 (by omega), rfl, rfl⟩
    · skip
      exfalso; omega
theorem rhm_241 {c0 ky vy : Int} {R : wS → Prop} (hM : w_ML S) (hK : KR 241 T n cs ms S) (hw : wHo cs ms os) (hP : mP t c0 p h tp S) (h73 : S 237 173 = 2100 * t + ba) (hba : 0 ≤ ba ∧ ba < h) (h70 : S 237 170 = wh) (hwh : 0 ≤ wh ∧ wh < (ms.length : Int)) (hso : (hmR ms wh).2.1 ≠ 0) (hkd : 0 ≤ kd ∧ kd ≤ 6) (hdm : wJ (pe_GA xs) wY0 (fun _ => False) (d + 8) t_M_doesMember ((pe_at t_M_doesMember.bl 0).getD (0, [])).2 [(0, (2, 237)), (1, (0, wh))] [] S (fun o Z => (o = .inr 238 ∧ Q (.inr 238) Z) ∨ (o = .inl none ∧ R Z))) (hR : ∀ Z : wS, R Z → mP t c0 p h tp Z ∧ Z 237 173 = 2100 * t + ba ∧ (kd = 1 → (Z 363 (2100 * t + ba + 1) = ky ∧ Z 364 (2100 * t + ba + 1) = vy) ∧ ba + 1 < h ∧ Q (.inl none) (gvZ t ba tp p ky vy (w_up (w_up Z 237 110 ky) 237 111 vy))) ∧ (kd ≠ 1 → Q (.inl none) (gvZ t ba tp p (Z 237 110) (Z 237 111) Z))) : wJ (pe_GA xs) wY0 M (d + 9) t_M_actsOnHost ((pe_at t_M_actsOnHost.bl 0).getD (0, [])).2 [(0, (2, 237)), (1, (0, kd))] [] S Q := by
  have h13 : S 237 13 = 241 := hK.1
  have h400 := hw.1
  have ht2 := hP.2.1.2
  have hh2 := hP.2.2.2.2.2.2.2.2
  have uuM := KR_m hK (m := wh) (by omega) (by omega)
  have uuW := hw.2.2.2 wh (by omega) (by omega)
  have uu1 : S 253 wh = (hmR ms wh).2.1 := uuM.1.2.1
  have uu2 : S 254 wh = (hmR ms wh).2.2.1 := uuM.1.2.2.1
  have uu3 : S 255 wh = (hmR ms wh).2.2.2.1 := uuM.1.2.2.2.1
  have uu4 : S 256 wh = ((hmR ms wh).2.2.2.2.1.length : Int) := uuM.2.1.1
  have uu5 : S 257 wh = (hmR ms wh).2.2.2.2.2.1 := uuM.2.1.2.1
  have uuf : S 259 wh = (hmR ms wh).2.2.2.2.2.2.1 := uuM.1.2.2.2.2.1
  have uut : S 260 wh = (hmR ms wh).2.2.2.2.2.2.2 := uuM.1.2.2.2.2.2
  have uuq := uuW.1.2.1
  have uus := uuW.1.2.2.1
  have uuy := uuW.1.2.2.2
  have uuv := uuW.2.1
  have uul := uuW.2.2.1
  have uuft := hK.2.2.2.2.2.2.1 wh (by omega) (by omega)
  refine wa_aload_n (n := 0) rfl ?_
  refine wb_gfi 237 rfl (wy_pr rfl) wt_237 wf_15_170 (v := wh) (h70) (fun r1 => ?_)
  refine wa_istore_n (n := 2) rfl ?_
  refine wa_aload_n (n := 0) rfl ?_
  refine wb_gf5 237 rfl (wy_pr rfl) wt_237 wf_15_13 (v := 241) (h13) (fun r2 => ?_)
  refine wb_gf4 241 rfl (wy_pr rfl) wt_241 wf_12_13 (v := 253) wl_241_13 ?_
  refine wa_iload_n (n := 2) rfl ?_
  refine wb_iald 253 rfl (wy_pr rfl) wt_253 (n := 400) ((ml_253 hM)) (by omega) (by omega) (v := (hmR ms wh).2.1) (uu1) (fun r3 => ?_)
  refine wa_ifne (w_rg0 (by omega) (by omega)) ⟨_, rfl⟩ (fun c4 => ?_) (fun c4 => ?_)
  · skip
    refine wa_aload_n (n := 0) rfl ?_
    refine wa_iload_n (n := 2) rfl ?_
    refine wa_cv 237 rfl (wy_pr rfl) wt_237 (M2 := fun _ => False) rfl at_M_doesMember ⟨_, rfl⟩ rfl rfl ⟨trivial, (Or.inr ⟨wy_pr rfl, fun q => q⟩), trivial, trivial⟩ trivial (fun _ _ q => False.elim q) (hdm) (fun oq5 Sq5 hp6 q5 => ?_)
    rcases q5 with ⟨rfl, hq0⟩ | ⟨rfl, hr0⟩
    · skip
      refine ⟨rfl, ?_⟩
      exact hq0
    · skip
      show wJ _ _ _ _ _ _ _ _ _ _
      have hz := hR _ hr0
      have hMZ := hz.1.1
      have hz3 := hz.2.1
      refine wa_iload_n (n := 1) rfl ?_
      refine wa_iconst ?_
      refine wa_icmpne (w_rg0 (by omega) (by omega)) (w_rg0 (by omega) (by omega)) ⟨_, rfl⟩ (fun c7 => ?_) (fun c7 => ?_)
      · skip
        refine wa_aload_n (n := 0) rfl ?_
        refine wa_aload_n (n := 0) rfl ?_
        refine wb_gfi 237 rfl (wy_pr rfl) wt_237 wf_15_110 (v := (Sq5 237 110)) rfl (fun r8 => ?_)
        refine wa_aload_n (n := 0) rfl ?_
        refine wb_gfl 237 rfl (wy_pr rfl) wt_237 wf_15_111 (v := (Sq5 237 111)) rfl (fun r9 => ?_)
        refine wa_cv 237 rfl (wy_pr rfl) wt_237 (M2 := fun _ => False) rfl at_M_gives ⟨_, rfl⟩ rfl rfl ⟨trivial, (Or.inr ⟨wy_pr rfl, fun q => q⟩), trivial, trivial⟩ trivial (fun _ _ q => False.elim q) (gvs_ok (S := Sq5) (t := t) (c := c0) (p := p) (h := h) (tp := tp) (ba := ba) (k := (Sq5 237 110)) (v := (Sq5 237 111)) hz.1 hz3 ⟨by omega, by omega⟩ ⟨by omega, by omega⟩ ⟨by omega, by omega⟩) (fun oq10 Sq10 hp11 q10 => ?_)
        rcases q10 with ⟨rfl, rfl⟩
        show wJ _ _ _ _ _ _ _ _ _ _
        refine wa_return rfl ?_
        first | exact hzk.2.2 | exact hz.2.2.2 (by omega)
      · skip
        have hzk := hz.2.2.1 (by omega)
        refine wa_aload_n (n := 0) rfl ?_
        refine wa_aload_n (n := 0) rfl ?_
        refine wb_gf4 237 rfl (wy_pr rfl) wt_237 wf_15_138 (v := 363) wl_237_138 ?_
        refine wa_aload_n (n := 0) rfl ?_
        refine wb_gfi 237 rfl (wy_pr rfl) wt_237 wf_15_173 (v := (2100 * t + ba)) (hz3) (fun r12 => ?_)
        refine wa_iconst ?_
        refine wa_iadd ?_
        refine wb_iald 363 rfl (wy_pr rfl) wt_363 (n := 4200) ((ml_363 hMZ)) (by omega) (by omega) (v := ky) (hzk.1.1) (fun r13 => ?_)
        refine wa_aload_n (n := 0) rfl ?_
        refine wb_gf4 237 rfl (wy_pr rfl) wt_237 wf_15_139 (v := 364) wl_237_139 ?_
        refine wa_aload_n (n := 0) rfl ?_
        refine wb_gfi 237 rfl (wy_pr rfl) wt_237 wf_15_173 (v := (2100 * t + ba)) (hz3) (fun r14 => ?_)
        refine wa_iconst ?_
        refine wa_iadd ?_
        refine wb_lald 364 rfl (wy_pr rfl) wt_364 (n := 4200) ((ml_364 hMZ)) (by omega) (by omega) (v := vy) (hzk.1.2) (fun r15 => ?_)
        refine wa_cv 237 rfl (wy_pr rfl) wt_237 (M2 := fun _ => False) rfl at_M_is ⟨_, rfl⟩ rfl rfl ⟨trivial, (Or.inr ⟨wy_pr rfl, fun q => q⟩), trivial, trivial⟩ trivial (fun _ _ q => False.elim q) ?_ (fun _ _ _ q => q)
        refine wa_aload_n (n := 0) rfl ?_
        refine wa_iload_n (n := 1) rfl ?_
        refine wb_pfi 237 rfl (wy_pr rfl) wt_237 wf_15_110 (n := 110) rfl ⟨(by omega), (by omega)⟩ ?_
        refine wa_aload_n (n := 0) rfl ?_
        refine wa_lload_n (n := 2) rfl ?_
        refine wb_pfl 237 rfl (wy_pr rfl) wt_237 wf_15_111 (n := 111) rfl ⟨(by omega), (by omega)⟩ ?_
        refine wa_return rfl ?_
        show wJ _ _ _ _ _ _ _ _ _ _
        refine wa_fall ⟨_, rfl⟩ ?_
        refine wa_aload_n (n := 0) rfl ?_
        refine wa_aload_n (n := 0) rfl ?_
        refine wb_gfi 237 rfl (wy_pr rfl) wt_237 wf_15_110 (v := ky) ((w_up_at (by decide)).trans (w_up_same _ _ _ _)) (fun r16 => ?_)
        refine wa_aload_n (n := 0) rfl ?_
        refine wb_gfl 237 rfl (wy_pr rfl) wt_237 wf_15_111 (v := vy) (w_up_same _ _ _ _) (fun r17 => ?_)
        refine wa_cv 237 rfl (wy_pr rfl) wt_237 (M2 := fun _ => False) rfl at_M_gives ⟨_, rfl⟩ rfl rfl ⟨trivial, (Or.inr ⟨wy_pr rfl, fun q => q⟩), trivial, trivial⟩ trivial (fun _ _ q => False.elim q) (gvs_ok (S := (w_up (w_up Sq5 237 110 ky) 237 111 vy)) (t := t) (c := c0) (p := p) (h := h) (tp := tp) (ba := ba) (k := ky) (v := vy) (mP_ag hz.1 (ML_w (P := isM) hMZ (fun j x hj => (w_up_no (fun z => hj ⟨z.1, Or.inr z.2⟩)).trans (w_up_no (fun z => hj ⟨z.1, Or.inl z.2⟩))) (fun j z => by unfold isM at z; omega)) (fun j x hj => (w_up_no (by omega)).trans (w_up_no (by omega)))) ((w_up_at (by decide)).trans ((w_up_at (by decide)).trans hz3)) ⟨by omega, by omega⟩ ⟨by omega, by omega⟩ ⟨by omega, by omega⟩) (fun oq18 Sq18 hp19 q18 => ?_)
        rcases q18 with ⟨rfl, rfl⟩
        show wJ _ _ _ _ _ _ _ _ _ _
        refine wa_return rfl ?_
        first | exact hzk.2.2 | exact hz.2.2.2 (by omega)
  · skip
    exfalso; omega
theorem rhg1_261 {c c0 gb vk vb : Int} (hM : w_ML S) (hK : KR 261 T n cs ms S) (hw : wHo cs ms os) (hP : mP t c0 p h tp S) (h73 : S 237 173 = 2100 * t + ba) (hba : 0 ≤ ba ∧ ba < h) (h70 : S 237 170 = wh) (hwh : 0 ≤ wh ∧ wh < (ms.length : Int)) (hso : (hmR ms wh).2.1 = 0) (hst : (hmR ms wh).2.2.1 = 1) (hvk : -2147483648 ≤ vk ∧ vk ≤ 2147483647) (hvb : -9223372036854775808 ≤ vb ∧ vb ≤ 9223372036854775807) (h40 : S 340 wh = vk) (h41 : S 341 wh = vb) (hkd : kd = 0) : wJ (pe_GA xs) wY0 M (d + 4) t_M_actsOnHost ((pe_at t_M_actsOnHost.bl 0).getD (0, [])).2 [(0, (2, 237)), (1, (0, kd))] [] S (fun o Z => o = .inl none ∧ ∃ C : wS, (∀ (j : Nat) (x : Int), ¬ fiM j x → C j x = S j x) ∧ gvZ t ba tp p vk vb C = Z) := by
  have h13 : S 237 13 = 261 := hK.1
  have h400 := hw.1
  have ht2 := hP.2.1.2
  have hh2 := hP.2.2.2.2.2.2.2.2
  have uuM := KR_m hK (m := wh) (by omega) (by omega)
  have uuW := hw.2.2.2 wh (by omega) (by omega)
  have uu1 : S 273 wh = (hmR ms wh).2.1 := uuM.1.2.1
  have uu2 : S 274 wh = (hmR ms wh).2.2.1 := uuM.1.2.2.1
  have uu3 : S 275 wh = (hmR ms wh).2.2.2.1 := uuM.1.2.2.2.1
  have uu4 : S 276 wh = ((hmR ms wh).2.2.2.2.1.length : Int) := uuM.2.1.1
  have uu5 : S 277 wh = (hmR ms wh).2.2.2.2.2.1 := uuM.2.1.2.1
  have uuf : S 279 wh = (hmR ms wh).2.2.2.2.2.2.1 := uuM.1.2.2.2.2.1
  have uut : S 280 wh = (hmR ms wh).2.2.2.2.2.2.2 := uuM.1.2.2.2.2.2
  have uuq := uuW.1.2.1
  have uus := uuW.1.2.2.1
  have uuy := uuW.1.2.2.2
  have uuv := uuW.2.1
  have uul := uuW.2.2.1
  have uuft := hK.2.2.2.2.2.2.1 wh (by omega) (by omega)
  refine wa_aload_n (n := 0) rfl ?_
  refine wb_gfi 237 rfl (wy_pr rfl) wt_237 wf_15_170 (v := wh) (h70) (fun r1 => ?_)
  refine wa_istore_n (n := 2) rfl ?_
  refine wa_aload_n (n := 0) rfl ?_
  refine wb_gf5 237 rfl (wy_pr rfl) wt_237 wf_15_13 (v := 261) (h13) (fun r2 => ?_)
  refine wb_gf4 261 rfl (wy_pr rfl) wt_261 wf_12_13 (v := 273) wl_261_13 ?_
  refine wa_iload_n (n := 2) rfl ?_
  refine wb_iald 273 rfl (wy_pr rfl) wt_273 (n := 400) ((ml_273 hM)) (by omega) (by omega) (v := (hmR ms wh).2.1) (uu1) (fun r3 => ?_)
  refine wa_ifne (w_rg0 (by omega) (by omega)) ⟨_, rfl⟩ (fun c4 => ?_) (fun c4 => ?_)
  · skip
    exfalso; omega
  · skip
    refine wa_iload_n (n := 1) rfl ?_
    refine wa_ifne (w_rg0 (by omega) (by omega)) ⟨_, rfl⟩ (fun c5 => ?_) (fun c5 => ?_)
    · skip
      exfalso; omega
    · skip
      refine wa_aload_n (n := 0) rfl ?_
      refine wa_iload_n (n := 2) rfl ?_
      refine wa_cv 237 rfl (wy_pr rfl) wt_237 (M2 := fun _ => False) rfl at_M_readsFieldOf ⟨_, rfl⟩ rfl rfl ⟨trivial, (Or.inr ⟨wy_pr rfl, fun q => q⟩), trivial, trivial⟩ trivial (fun _ _ q => False.elim q) (rrf1_261 (S := S) (m := wh) (c := 0) (gb := 0) (k := 0) hM hK hw hwh hvk hvb hst h40 h41) (fun oq6 Sq6 hp7 q6 => ?_)
      rcases q6 with ⟨rfl, hv2, hfc⟩
      show wJ _ _ _ _ _ _ _ _ _ _
      refine wa_aload_n (n := 0) rfl ?_
      refine wa_aload_n (n := 0) rfl ?_
      refine wb_gfi 237 rfl (wy_pr rfl) wt_237 wf_15_110 (v := vk) (hv2.1) (fun r8 => ?_)
      refine wa_aload_n (n := 0) rfl ?_
      refine wb_gfl 237 rfl (wy_pr rfl) wt_237 wf_15_111 (v := vb) (hv2.2) (fun r9 => ?_)
      refine wa_cv 237 rfl (wy_pr rfl) wt_237 (M2 := fun _ => False) rfl at_M_gives ⟨_, rfl⟩ rfl rfl ⟨trivial, (Or.inr ⟨wy_pr rfl, fun q => q⟩), trivial, trivial⟩ trivial (fun _ _ q => False.elim q) (gvs_ok (S := Sq6) (t := t) (c := c0) (p := p) (h := h) (tp := tp) (ba := ba) (k := vk) (v := vb) (mP_ag hP (ML_w hM hfc (fun j z => by unfold fiM flM at z; omega)) (fun j x hj => hfc j x (by unfold fiM flM; omega))) ((hfc 237 173 (by unfold fiM flM; omega)).trans h73) ⟨by omega, by omega⟩ hvk hvb) (fun oq10 Sq10 hp11 q10 => ?_)
      rcases q10 with ⟨rfl, rfl⟩
      show wJ _ _ _ _ _ _ _ _ _ _
      refine wa_goto ⟨_, rfl⟩ ?_
      refine wa_return rfl ?_
      exact ⟨rfl, _, hfc, rfl⟩
theorem rhs1_261 {c c0 gb k1 v1 ty : Int} (hM : w_ML S) (hK : KR 261 T n cs ms S) (hw : wHo cs ms os) (hP : mP t c0 p h tp S) (h73 : S 237 173 = 2100 * t + ba) (hba : 0 ≤ ba ∧ ba < h) (h70 : S 237 170 = wh) (hwh : 0 ≤ wh ∧ wh < (ms.length : Int)) (hso : (hmR ms wh).2.1 = 0) (hst : (hmR ms wh).2.2.1 = 1) (hk1 : S 363 (2100 * t + ba + 1) = k1) (hv1 : S 364 (2100 * t + ba + 1) = v1) (hb1 : ba + 1 < h) (hkr : 0 ≤ k1 ∧ k1 ≤ 8) (hvr : -9223372036854775808 ≤ v1 ∧ v1 ≤ 9223372036854775807) (h7 : k1 = 7 → 0 ≤ v1 ∧ v1 < 8000 ∧ 0 ≤ S 321 v1 ∧ S 321 v1 < (cs.length : Int)) (hty : (hmR ms wh).2.2.2.1 = ty) (hkd : kd = 1) : wJ (pe_GA xs) wY0 M (d + 4) t_M_actsOnHost ((pe_at t_M_actsOnHost.bl 0).getD (0, [])).2 [(0, (2, 237)), (1, (0, kd))] [] S (fun o Z => (gTB cs (clR S k1 v1) ty true = true ∧ o = .inl none ∧ ∃ C : wS, w_up (w_up S 340 wh k1) 341 wh v1 = C ∧ gvZ t ba tp p k1 v1 C = Z) ∨ (gTB cs (clR S k1 v1) ty true = false ∧ o = .inr 238 ∧ hZ 7 S = Z)) := by
  have h13 : S 237 13 = 261 := hK.1
  have h400 := hw.1
  have ht2 := hP.2.1.2
  have hh2 := hP.2.2.2.2.2.2.2.2
  have uuM := KR_m hK (m := wh) (by omega) (by omega)
  have uuW := hw.2.2.2 wh (by omega) (by omega)
  have uu1 : S 273 wh = (hmR ms wh).2.1 := uuM.1.2.1
  have uu2 : S 274 wh = (hmR ms wh).2.2.1 := uuM.1.2.2.1
  have uu3 : S 275 wh = (hmR ms wh).2.2.2.1 := uuM.1.2.2.2.1
  have uu4 : S 276 wh = ((hmR ms wh).2.2.2.2.1.length : Int) := uuM.2.1.1
  have uu5 : S 277 wh = (hmR ms wh).2.2.2.2.2.1 := uuM.2.1.2.1
  have uuf : S 279 wh = (hmR ms wh).2.2.2.2.2.2.1 := uuM.1.2.2.2.2.1
  have uut : S 280 wh = (hmR ms wh).2.2.2.2.2.2.2 := uuM.1.2.2.2.2.2
  have uuq := uuW.1.2.1
  have uus := uuW.1.2.2.1
  have uuy := uuW.1.2.2.2
  have uuv := uuW.2.1
  have uul := uuW.2.2.1
  have uuft := hK.2.2.2.2.2.2.1 wh (by omega) (by omega)
  have hclr := clR_lt (cs := cs) hkr h7
  rw [hty] at uuy
  refine wa_aload_n (n := 0) rfl ?_
  refine wb_gfi 237 rfl (wy_pr rfl) wt_237 wf_15_170 (v := wh) (h70) (fun r1 => ?_)
  refine wa_istore_n (n := 2) rfl ?_
  refine wa_aload_n (n := 0) rfl ?_
  refine wb_gf5 237 rfl (wy_pr rfl) wt_237 wf_15_13 (v := 261) (h13) (fun r2 => ?_)
  refine wb_gf4 261 rfl (wy_pr rfl) wt_261 wf_12_13 (v := 273) wl_261_13 ?_
  refine wa_iload_n (n := 2) rfl ?_
  refine wb_iald 273 rfl (wy_pr rfl) wt_273 (n := 400) ((ml_273 hM)) (by omega) (by omega) (v := (hmR ms wh).2.1) (uu1) (fun r3 => ?_)
  refine wa_ifne (w_rg0 (by omega) (by omega)) ⟨_, rfl⟩ (fun c4 => ?_) (fun c4 => ?_)
  · skip
    exfalso; omega
  · skip
    refine wa_iload_n (n := 1) rfl ?_
    refine wa_ifne (w_rg0 (by omega) (by omega)) ⟨_, rfl⟩ (fun c5 => ?_) (fun c5 => ?_)
    · skip
      refine wa_aload_n (n := 0) rfl ?_
      refine wb_gf4 237 rfl (wy_pr rfl) wt_237 wf_15_138 (v := 363) wl_237_138 ?_
      refine wa_aload_n (n := 0) rfl ?_
      refine wb_gfi 237 rfl (wy_pr rfl) wt_237 wf_15_173 (v := (2100 * t + ba)) (h73) (fun r6 => ?_)
      refine wa_iconst ?_
      refine wa_iadd ?_
      refine wb_iald 363 rfl (wy_pr rfl) wt_363 (n := 4200) ((ml_363 hM)) (by omega) (by omega) (v := k1) (hk1) (fun r7 => ?_)
      refine wa_istore_n (n := 3) rfl ?_
      refine wa_aload_n (n := 0) rfl ?_
      refine wb_gf4 237 rfl (wy_pr rfl) wt_237 wf_15_139 (v := 364) wl_237_139 ?_
      refine wa_aload_n (n := 0) rfl ?_
      refine wb_gfi 237 rfl (wy_pr rfl) wt_237 wf_15_173 (v := (2100 * t + ba)) (h73) (fun r8 => ?_)
      refine wa_iconst ?_
      refine wa_iadd ?_
      refine wb_lald 364 rfl (wy_pr rfl) wt_364 (n := 4200) ((ml_364 hM)) (by omega) (by omega) (v := v1) (hv1) (fun r9 => ?_)
      refine wa_lstore (n := 4) rfl ?_
      refine wa_aload_n (n := 0) rfl ?_
      refine wa_aload_n (n := 0) rfl ?_
      refine wa_iload_n (n := 3) rfl ?_
      refine wa_lload (n := 4) rfl ?_
      refine wa_cv 237 rfl (wy_pr rfl) wt_237 (M2 := fun _ => False) rfl at_M_typeOf ⟨_, rfl⟩ rfl rfl ⟨trivial, trivial, trivial, (Or.inr ⟨wy_pr rfl, fun q => q⟩), trivial, trivial⟩ ⟨(Or.inr ⟨wy_pr rfl, fun q => q⟩), trivial⟩ (fun _ _ q => False.elim q) (mty_ok (S := S) (k := k1) (b := v1) hM hkr (fun z => by have := h7 z; omega) hvr) (fun oq10 Sq10 hp11 q10 => ?_)
      rcases q10 with ⟨rfl, rfl⟩
      show wJ _ _ _ _ _ _ _ _ _ _
      refine wa_aload_n (n := 0) rfl ?_
      refine wb_gf5 237 rfl (wy_pr rfl) wt_237 wf_15_13 (v := 261) (h13) (fun r12 => ?_)
      refine wb_gf4 261 rfl (wy_pr rfl) wt_261 wf_12_15 (v := 275) wl_261_15 ?_
      refine wa_iload_n (n := 2) rfl ?_
      refine wb_iald 275 rfl (wy_pr rfl) wt_275 (n := 400) ((ml_275 hM)) (by omega) (by omega) (v := (hmR ms wh).2.2.2.1) (uu3) (fun r13 => ?_)
      refine wJ_top (show (hmR ms wh).2.2.2.1 = ty from hty) ?_
      refine wa_cv 237 rfl (wy_pr rfl) wt_237 (M2 := fun _ => False) rfl at_M_loose ⟨_, rfl⟩ rfl rfl ⟨trivial, trivial, trivial, (Or.inr ⟨wy_pr rfl, fun q => q⟩), trivial, trivial⟩ trivial (fun _ _ q => False.elim q) (rlo_261 (S := S) (f := clR S k1 v1) (q := ty) hM hK hw hclr ⟨by omega, by omega⟩) (fun oq14 Sq14 hp15 q14 => ?_)
      rcases q14 with ⟨rfl, rfl⟩
      show wJ _ _ _ _ _ _ _ _ _ _
      have hbz := bI_rg (gTB cs (clR S k1 v1) ty true)
      refine wa_ifne (w_rg0 (by omega) (by omega)) ⟨_, rfl⟩ (fun c16 => ?_) (fun c16 => ?_)
      · skip
        refine wa_aload_n (n := 0) rfl ?_
        refine wa_iload_n (n := 2) rfl ?_
        refine wa_iload_n (n := 3) rfl ?_
        refine wa_lload (n := 4) rfl ?_
        refine wa_cv 237 rfl (wy_pr rfl) wt_237 (M2 := fun _ => False) rfl at_M_writesFieldOf ⟨_, rfl⟩ rfl rfl ⟨trivial, trivial, trivial, (Or.inr ⟨wy_pr rfl, fun q => q⟩), trivial, trivial⟩ trivial (fun _ _ q => False.elim q) (rwf1_261 (S := S) (m := wh) (vk := k1) (vb := v1) (c := 0) (gb := 0) (k := 0) hM hK hw hwh ⟨by omega, by omega⟩ hvr hst) (fun oq17 Sq17 hp18 q17 => ?_)
        rcases q17 with ⟨rfl, rfl⟩
        show wJ _ _ _ _ _ _ _ _ _ _
        have hfc : ∀ (j : Nat) (x : Int), ¬ ((j = 340 ∨ j = 341) ∧ x = wh) → (w_up (w_up S 340 wh k1) 341 wh v1) j x = S j x := fun j x hj => (w_up_no (fun z => hj ⟨Or.inr z.1, z.2⟩)).trans (w_up_no (fun z => hj ⟨Or.inl z.1, z.2⟩))
        refine wa_aload_n (n := 0) rfl ?_
        refine wa_iload_n (n := 3) rfl ?_
        refine wa_lload (n := 4) rfl ?_
        refine wa_cv 237 rfl (wy_pr rfl) wt_237 (M2 := fun _ => False) rfl at_M_gives ⟨_, rfl⟩ rfl rfl ⟨trivial, trivial, trivial, (Or.inr ⟨wy_pr rfl, fun q => q⟩), trivial, trivial⟩ trivial (fun _ _ q => False.elim q) (gvs_ok (S := (w_up (w_up S 340 wh k1) 341 wh v1)) (t := t) (c := c0) (p := p) (h := h) (tp := tp) (ba := ba) (k := k1) (v := v1) (mP_ag hP (ML_w (P := fun j x => (j = 340 ∨ j = 341) ∧ x = wh) hM hfc (fun j z => by omega)) (fun j x hj => hfc j x (by skip; omega))) ((hfc 237 173 (by skip; omega)).trans h73) ⟨by omega, by omega⟩ ⟨by omega, by omega⟩ hvr) (fun oq19 Sq19 hp20 q19 => ?_)
        rcases q19 with ⟨rfl, rfl⟩
        show wJ _ _ _ _ _ _ _ _ _ _
        refine wa_fall ⟨_, rfl⟩ ?_
        refine wa_return rfl ?_
        exact Or.inl ⟨bI_1 (by omega), rfl, _, rfl, rfl⟩
      · skip
        refine wa_aload_n (n := 0) rfl ?_
        refine wa_bipush (w_rg2 (by omega) (by omega)) ?_
        refine wa_cv 237 rfl (wy_pr rfl) wt_237 (M2 := fun _ => False) rfl at_M_error ⟨_, rfl⟩ rfl rfl ⟨trivial, trivial, trivial, (Or.inr ⟨wy_pr rfl, fun q => q⟩), trivial, trivial⟩ trivial (fun _ _ q => False.elim q) ?_ (fun _ _ _ q => q)
        refine wa_aload_n (n := 0) rfl ?_
        refine wb_gf4 237 rfl (wy_pr rfl) wt_237 wf_15_1 (v := 238) wl_237_1 ?_
        refine wa_iload_n (n := 1) rfl ?_
        refine wa_iconst ?_
        refine wa_cv 238 rfl (wy_pr rfl) wt_238 (M2 := fun _ => False) rfl at_MH_of ⟨_, rfl⟩ rfl rfl ⟨(Or.inr ⟨wy_pr rfl, fun q => q⟩), trivial, trivial⟩ trivial (fun _ _ q => False.elim q) ?_ (fun _ _ _ q => q)
        refine wa_aload_n (n := 0) rfl ?_
        refine wa_iload_n (n := 1) rfl ?_
        refine wb_pfi 238 rfl (wy_pr rfl) wt_238 wf_11_5 (n := 5) rfl ⟨(by omega), (by omega)⟩ ?_
        refine wa_aload_n (n := 0) rfl ?_
        refine wa_iload_n (n := 2) rfl ?_
        refine wb_pfi 238 rfl (wy_pr rfl) wt_238 wf_11_6 (n := 6) rfl ⟨(by omega), (by omega)⟩ ?_
        refine wa_aload_n (n := 0) rfl ?_
        refine wa_oreturn rfl ?_
        show wJ _ _ _ _ _ _ _ _ _ _
        refine wa_th (j := 238) ?_
        refine ⟨rfl, ?_⟩
        exact Or.inr ⟨bI_0 (by omega), rfl, rfl⟩
    · skip
      exfalso; omega
theorem rhg0_261 {c c0 gb vk vb : Int} (hM : w_ML S) (hK : KR 261 T n cs ms S) (hw : wHo cs ms os) (hP : mP t c0 p h tp S) (h73 : S 237 173 = 2100 * t + ba) (hba : 0 ≤ ba ∧ ba < h) (h70 : S 237 170 = wh) (hwh : 0 ≤ wh ∧ wh < (ms.length : Int)) (hso : (hmR ms wh).2.1 = 0) (hst : (hmR ms wh).2.2.1 = 0) (hvk : -2147483648 ≤ vk ∧ vk ≤ 2147483647) (hvb : -9223372036854775808 ≤ vb ∧ vb ≤ 9223372036854775807) (hc : 0 ≤ c ∧ c < (cs.length : Int)) (hF : (flA cs ms c).length ≤ 400) (hk : k < (flA cs ms c).length) (hkm : (flA cs ms c).getD k 0 = wh) (hkn : ∀ i : Nat, i < k → (flA cs ms c).getD i 0 ≠ wh) (h75 : S 237 175 = gb) (hgb : 0 ≤ gb ∧ gb < 8000) (h321 : S 321 gb = c) (hsl : slC S gb l) (hkl : k < l.length) (hl6 : l.length ≤ 60000) (h25 : S 325 (l.getD k 0) = vk) (h26 : S 326 (l.getD k 0) = vb) (hkd : kd = 0) : wJ (pe_GA xs) wY0 M (d + 4) t_M_actsOnHost ((pe_at t_M_actsOnHost.bl 0).getD (0, [])).2 [(0, (2, 237)), (1, (0, kd))] [] S (fun o Z => o = .inl none ∧ ∃ C : wS, (∀ (j : Nat) (x : Int), ¬ fiM j x → C j x = S j x) ∧ gvZ t ba tp p vk vb C = Z) := by
  have h13 : S 237 13 = 261 := hK.1
  have h400 := hw.1
  have ht2 := hP.2.1.2
  have hh2 := hP.2.2.2.2.2.2.2.2
  have uuM := KR_m hK (m := wh) (by omega) (by omega)
  have uuW := hw.2.2.2 wh (by omega) (by omega)
  have uu1 : S 273 wh = (hmR ms wh).2.1 := uuM.1.2.1
  have uu2 : S 274 wh = (hmR ms wh).2.2.1 := uuM.1.2.2.1
  have uu3 : S 275 wh = (hmR ms wh).2.2.2.1 := uuM.1.2.2.2.1
  have uu4 : S 276 wh = ((hmR ms wh).2.2.2.2.1.length : Int) := uuM.2.1.1
  have uu5 : S 277 wh = (hmR ms wh).2.2.2.2.2.1 := uuM.2.1.2.1
  have uuf : S 279 wh = (hmR ms wh).2.2.2.2.2.2.1 := uuM.1.2.2.2.2.1
  have uut : S 280 wh = (hmR ms wh).2.2.2.2.2.2.2 := uuM.1.2.2.2.2.2
  have uuq := uuW.1.2.1
  have uus := uuW.1.2.2.1
  have uuy := uuW.1.2.2.2
  have uuv := uuW.2.1
  have uul := uuW.2.2.1
  have uuft := hK.2.2.2.2.2.2.1 wh (by omega) (by omega)
  refine wa_aload_n (n := 0) rfl ?_
  refine wb_gfi 237 rfl (wy_pr rfl) wt_237 wf_15_170 (v := wh) (h70) (fun r1 => ?_)
  refine wa_istore_n (n := 2) rfl ?_
  refine wa_aload_n (n := 0) rfl ?_
  refine wb_gf5 237 rfl (wy_pr rfl) wt_237 wf_15_13 (v := 261) (h13) (fun r2 => ?_)
  refine wb_gf4 261 rfl (wy_pr rfl) wt_261 wf_12_13 (v := 273) wl_261_13 ?_
  refine wa_iload_n (n := 2) rfl ?_
  refine wb_iald 273 rfl (wy_pr rfl) wt_273 (n := 400) ((ml_273 hM)) (by omega) (by omega) (v := (hmR ms wh).2.1) (uu1) (fun r3 => ?_)
  refine wa_ifne (w_rg0 (by omega) (by omega)) ⟨_, rfl⟩ (fun c4 => ?_) (fun c4 => ?_)
  · skip
    exfalso; omega
  · skip
    refine wa_iload_n (n := 1) rfl ?_
    refine wa_ifne (w_rg0 (by omega) (by omega)) ⟨_, rfl⟩ (fun c5 => ?_) (fun c5 => ?_)
    · skip
      exfalso; omega
    · skip
      refine wa_aload_n (n := 0) rfl ?_
      refine wa_iload_n (n := 2) rfl ?_
      refine wa_cv 237 rfl (wy_pr rfl) wt_237 (M2 := fun _ => False) rfl at_M_readsFieldOf ⟨_, rfl⟩ rfl rfl ⟨trivial, (Or.inr ⟨wy_pr rfl, fun q => q⟩), trivial, trivial⟩ trivial (fun _ _ q => False.elim q) (rrf0_261 (S := S) (m := wh) (c := c) (gb := gb) (k := k) (l := l) hM hK hw hwh hvk hvb hst hc hF hk hkm hkn h75 hgb h321 hsl hkl hl6 h25 h26) (fun oq6 Sq6 hp7 q6 => ?_)
      rcases q6 with ⟨rfl, hv2, hfc⟩
      show wJ _ _ _ _ _ _ _ _ _ _
      refine wa_aload_n (n := 0) rfl ?_
      refine wa_aload_n (n := 0) rfl ?_
      refine wb_gfi 237 rfl (wy_pr rfl) wt_237 wf_15_110 (v := vk) (hv2.1) (fun r8 => ?_)
      refine wa_aload_n (n := 0) rfl ?_
      refine wb_gfl 237 rfl (wy_pr rfl) wt_237 wf_15_111 (v := vb) (hv2.2) (fun r9 => ?_)
      refine wa_cv 237 rfl (wy_pr rfl) wt_237 (M2 := fun _ => False) rfl at_M_gives ⟨_, rfl⟩ rfl rfl ⟨trivial, (Or.inr ⟨wy_pr rfl, fun q => q⟩), trivial, trivial⟩ trivial (fun _ _ q => False.elim q) (gvs_ok (S := Sq6) (t := t) (c := c0) (p := p) (h := h) (tp := tp) (ba := ba) (k := vk) (v := vb) (mP_ag hP (ML_w hM hfc (fun j z => by unfold fiM flM at z; omega)) (fun j x hj => hfc j x (by unfold fiM flM; omega))) ((hfc 237 173 (by unfold fiM flM; omega)).trans h73) ⟨by omega, by omega⟩ hvk hvb) (fun oq10 Sq10 hp11 q10 => ?_)
      rcases q10 with ⟨rfl, rfl⟩
      show wJ _ _ _ _ _ _ _ _ _ _
      refine wa_goto ⟨_, rfl⟩ ?_
      refine wa_return rfl ?_
      exact ⟨rfl, _, hfc, rfl⟩
theorem rhs0_261 {c c0 gb k1 v1 ty : Int} (hM : w_ML S) (hK : KR 261 T n cs ms S) (hw : wHo cs ms os) (hP : mP t c0 p h tp S) (h73 : S 237 173 = 2100 * t + ba) (hba : 0 ≤ ba ∧ ba < h) (h70 : S 237 170 = wh) (hwh : 0 ≤ wh ∧ wh < (ms.length : Int)) (hso : (hmR ms wh).2.1 = 0) (hst : (hmR ms wh).2.2.1 = 0) (hk1 : S 363 (2100 * t + ba + 1) = k1) (hv1 : S 364 (2100 * t + ba + 1) = v1) (hb1 : ba + 1 < h) (hkr : 0 ≤ k1 ∧ k1 ≤ 8) (hvr : -9223372036854775808 ≤ v1 ∧ v1 ≤ 9223372036854775807) (h7 : k1 = 7 → 0 ≤ v1 ∧ v1 < 8000 ∧ 0 ≤ S 321 v1 ∧ S 321 v1 < (cs.length : Int)) (hty : (hmR ms wh).2.2.2.1 = ty) (hc : 0 ≤ c ∧ c < (cs.length : Int)) (hF : (flA cs ms c).length ≤ 400) (hk : k < (flA cs ms c).length) (hkm : (flA cs ms c).getD k 0 = wh) (hkn : ∀ i : Nat, i < k → (flA cs ms c).getD i 0 ≠ wh) (h75 : S 237 175 = gb) (hgb : 0 ≤ gb ∧ gb < 8000) (h321 : S 321 gb = c) (hsl : slC S gb l) (hkl : k < l.length) (hl6 : l.length ≤ 60000) (hkd : kd = 1) : wJ (pe_GA xs) wY0 M (d + 4) t_M_actsOnHost ((pe_at t_M_actsOnHost.bl 0).getD (0, [])).2 [(0, (2, 237)), (1, (0, kd))] [] S (fun o Z => (gTB cs (clR S k1 v1) ty true = true ∧ o = .inl none ∧ ∃ C : wS, (C 325 (l.getD k 0) = k1 ∧ C 326 (l.getD k 0) = v1) ∧ (∀ (j : Nat) (x : Int), ¬ (flM j x ∨ ((j = 325 ∨ j = 326) ∧ x = l.getD k 0)) → C j x = S j x) ∧ gvZ t ba tp p k1 v1 C = Z) ∨ (gTB cs (clR S k1 v1) ty true = false ∧ o = .inr 238 ∧ hZ 7 S = Z)) := by
  have h13 : S 237 13 = 261 := hK.1
  have h400 := hw.1
  have ht2 := hP.2.1.2
  have hh2 := hP.2.2.2.2.2.2.2.2
  have uuM := KR_m hK (m := wh) (by omega) (by omega)
  have uuW := hw.2.2.2 wh (by omega) (by omega)
  have uu1 : S 273 wh = (hmR ms wh).2.1 := uuM.1.2.1
  have uu2 : S 274 wh = (hmR ms wh).2.2.1 := uuM.1.2.2.1
  have uu3 : S 275 wh = (hmR ms wh).2.2.2.1 := uuM.1.2.2.2.1
  have uu4 : S 276 wh = ((hmR ms wh).2.2.2.2.1.length : Int) := uuM.2.1.1
  have uu5 : S 277 wh = (hmR ms wh).2.2.2.2.2.1 := uuM.2.1.2.1
  have uuf : S 279 wh = (hmR ms wh).2.2.2.2.2.2.1 := uuM.1.2.2.2.2.1
  have uut : S 280 wh = (hmR ms wh).2.2.2.2.2.2.2 := uuM.1.2.2.2.2.2
  have uuq := uuW.1.2.1
  have uus := uuW.1.2.2.1
  have uuy := uuW.1.2.2.2
  have uuv := uuW.2.1
  have uul := uuW.2.2.1
  have uuft := hK.2.2.2.2.2.2.1 wh (by omega) (by omega)
  have hclr := clR_lt (cs := cs) hkr h7
  rw [hty] at uuy
  refine wa_aload_n (n := 0) rfl ?_
  refine wb_gfi 237 rfl (wy_pr rfl) wt_237 wf_15_170 (v := wh) (h70) (fun r1 => ?_)
  refine wa_istore_n (n := 2) rfl ?_
  refine wa_aload_n (n := 0) rfl ?_
  refine wb_gf5 237 rfl (wy_pr rfl) wt_237 wf_15_13 (v := 261) (h13) (fun r2 => ?_)
  refine wb_gf4 261 rfl (wy_pr rfl) wt_261 wf_12_13 (v := 273) wl_261_13 ?_
  refine wa_iload_n (n := 2) rfl ?_
  refine wb_iald 273 rfl (wy_pr rfl) wt_273 (n := 400) ((ml_273 hM)) (by omega) (by omega) (v := (hmR ms wh).2.1) (uu1) (fun r3 => ?_)
  refine wa_ifne (w_rg0 (by omega) (by omega)) ⟨_, rfl⟩ (fun c4 => ?_) (fun c4 => ?_)
  · skip
    exfalso; omega
  · skip
    refine wa_iload_n (n := 1) rfl ?_
    refine wa_ifne (w_rg0 (by omega) (by omega)) ⟨_, rfl⟩ (fun c5 => ?_) (fun c5 => ?_)
    · skip
      refine wa_aload_n (n := 0) rfl ?_
      refine wb_gf4 237 rfl (wy_pr rfl) wt_237 wf_15_138 (v := 363) wl_237_138 ?_
      refine wa_aload_n (n := 0) rfl ?_
      refine wb_gfi 237 rfl (wy_pr rfl) wt_237 wf_15_173 (v := (2100 * t + ba)) (h73) (fun r6 => ?_)
      refine wa_iconst ?_
      refine wa_iadd ?_
      refine wb_iald 363 rfl (wy_pr rfl) wt_363 (n := 4200) ((ml_363 hM)) (by omega) (by omega) (v := k1) (hk1) (fun r7 => ?_)
      refine wa_istore_n (n := 3) rfl ?_
      refine wa_aload_n (n := 0) rfl ?_
      refine wb_gf4 237 rfl (wy_pr rfl) wt_237 wf_15_139 (v := 364) wl_237_139 ?_
      refine wa_aload_n (n := 0) rfl ?_
      refine wb_gfi 237 rfl (wy_pr rfl) wt_237 wf_15_173 (v := (2100 * t + ba)) (h73) (fun r8 => ?_)
      refine wa_iconst ?_
      refine wa_iadd ?_
      refine wb_lald 364 rfl (wy_pr rfl) wt_364 (n := 4200) ((ml_364 hM)) (by omega) (by omega) (v := v1) (hv1) (fun r9 => ?_)
      refine wa_lstore (n := 4) rfl ?_
      refine wa_aload_n (n := 0) rfl ?_
      refine wa_aload_n (n := 0) rfl ?_
      refine wa_iload_n (n := 3) rfl ?_
      refine wa_lload (n := 4) rfl ?_
      refine wa_cv 237 rfl (wy_pr rfl) wt_237 (M2 := fun _ => False) rfl at_M_typeOf ⟨_, rfl⟩ rfl rfl ⟨trivial, trivial, trivial, (Or.inr ⟨wy_pr rfl, fun q => q⟩), trivial, trivial⟩ ⟨(Or.inr ⟨wy_pr rfl, fun q => q⟩), trivial⟩ (fun _ _ q => False.elim q) (mty_ok (S := S) (k := k1) (b := v1) hM hkr (fun z => by have := h7 z; omega) hvr) (fun oq10 Sq10 hp11 q10 => ?_)
      rcases q10 with ⟨rfl, rfl⟩
      show wJ _ _ _ _ _ _ _ _ _ _
      refine wa_aload_n (n := 0) rfl ?_
      refine wb_gf5 237 rfl (wy_pr rfl) wt_237 wf_15_13 (v := 261) (h13) (fun r12 => ?_)
      refine wb_gf4 261 rfl (wy_pr rfl) wt_261 wf_12_15 (v := 275) wl_261_15 ?_
      refine wa_iload_n (n := 2) rfl ?_
      refine wb_iald 275 rfl (wy_pr rfl) wt_275 (n := 400) ((ml_275 hM)) (by omega) (by omega) (v := (hmR ms wh).2.2.2.1) (uu3) (fun r13 => ?_)
      refine wJ_top (show (hmR ms wh).2.2.2.1 = ty from hty) ?_
      refine wa_cv 237 rfl (wy_pr rfl) wt_237 (M2 := fun _ => False) rfl at_M_loose ⟨_, rfl⟩ rfl rfl ⟨trivial, trivial, trivial, (Or.inr ⟨wy_pr rfl, fun q => q⟩), trivial, trivial⟩ trivial (fun _ _ q => False.elim q) (rlo_261 (S := S) (f := clR S k1 v1) (q := ty) hM hK hw hclr ⟨by omega, by omega⟩) (fun oq14 Sq14 hp15 q14 => ?_)
      rcases q14 with ⟨rfl, rfl⟩
      show wJ _ _ _ _ _ _ _ _ _ _
      have hbz := bI_rg (gTB cs (clR S k1 v1) ty true)
      refine wa_ifne (w_rg0 (by omega) (by omega)) ⟨_, rfl⟩ (fun c16 => ?_) (fun c16 => ?_)
      · skip
        refine wa_aload_n (n := 0) rfl ?_
        refine wa_iload_n (n := 2) rfl ?_
        refine wa_iload_n (n := 3) rfl ?_
        refine wa_lload (n := 4) rfl ?_
        refine wa_cv 237 rfl (wy_pr rfl) wt_237 (M2 := fun _ => False) rfl at_M_writesFieldOf ⟨_, rfl⟩ rfl rfl ⟨trivial, trivial, trivial, (Or.inr ⟨wy_pr rfl, fun q => q⟩), trivial, trivial⟩ trivial (fun _ _ q => False.elim q) (rwf0_261 (S := S) (m := wh) (vk := k1) (vb := v1) (c := c) (gb := gb) (k := k) (l := l) hM hK hw hwh ⟨by omega, by omega⟩ hvr hst hc hF hk hkm hkn h75 hgb h321 hsl hkl hl6) (fun oq17 Sq17 hp18 q17 => ?_)
        rcases q17 with ⟨rfl, hv2, hfc⟩
        show wJ _ _ _ _ _ _ _ _ _ _
        have hlr := (hsl.2.2 k hkl).1
        refine wa_aload_n (n := 0) rfl ?_
        refine wa_iload_n (n := 3) rfl ?_
        refine wa_lload (n := 4) rfl ?_
        refine wa_cv 237 rfl (wy_pr rfl) wt_237 (M2 := fun _ => False) rfl at_M_gives ⟨_, rfl⟩ rfl rfl ⟨trivial, trivial, trivial, (Or.inr ⟨wy_pr rfl, fun q => q⟩), trivial, trivial⟩ trivial (fun _ _ q => False.elim q) (gvs_ok (S := Sq17) (t := t) (c := c0) (p := p) (h := h) (tp := tp) (ba := ba) (k := k1) (v := v1) (mP_ag hP (ML_w (P := fun j x => flM j x ∨ ((j = 325 ∨ j = 326) ∧ x = l.getD k 0)) hM hfc (fun j z => by unfold flM at z; omega)) (fun j x hj => hfc j x (by unfold flM; omega))) ((hfc 237 173 (by unfold flM; omega)).trans h73) ⟨by omega, by omega⟩ ⟨by omega, by omega⟩ hvr) (fun oq19 Sq19 hp20 q19 => ?_)
        rcases q19 with ⟨rfl, rfl⟩
        show wJ _ _ _ _ _ _ _ _ _ _
        refine wa_fall ⟨_, rfl⟩ ?_
        refine wa_return rfl ?_
        exact Or.inl ⟨bI_1 (by omega), rfl, _, hv2, hfc, rfl⟩
      · skip
        refine wa_aload_n (n := 0) rfl ?_
        refine wa_bipush (w_rg2 (by omega) (by omega)) ?_
        refine wa_cv 237 rfl (wy_pr rfl) wt_237 (M2 := fun _ => False) rfl at_M_error ⟨_, rfl⟩ rfl rfl ⟨trivial, trivial, trivial, (Or.inr ⟨wy_pr rfl, fun q => q⟩), trivial, trivial⟩ trivial (fun _ _ q => False.elim q) ?_ (fun _ _ _ q => q)
        refine wa_aload_n (n := 0) rfl ?_
        refine wb_gf4 237 rfl (wy_pr rfl) wt_237 wf_15_1 (v := 238) wl_237_1 ?_
        refine wa_iload_n (n := 1) rfl ?_
        refine wa_iconst ?_
        refine wa_cv 238 rfl (wy_pr rfl) wt_238 (M2 := fun _ => False) rfl at_MH_of ⟨_, rfl⟩ rfl rfl ⟨(Or.inr ⟨wy_pr rfl, fun q => q⟩), trivial, trivial⟩ trivial (fun _ _ q => False.elim q) ?_ (fun _ _ _ q => q)
        refine wa_aload_n (n := 0) rfl ?_
        refine wa_iload_n (n := 1) rfl ?_
        refine wb_pfi 238 rfl (wy_pr rfl) wt_238 wf_11_5 (n := 5) rfl ⟨(by omega), (by omega)⟩ ?_
        refine wa_aload_n (n := 0) rfl ?_
        refine wa_iload_n (n := 2) rfl ?_
        refine wb_pfi 238 rfl (wy_pr rfl) wt_238 wf_11_6 (n := 6) rfl ⟨(by omega), (by omega)⟩ ?_
        refine wa_aload_n (n := 0) rfl ?_
        refine wa_oreturn rfl ?_
        show wJ _ _ _ _ _ _ _ _ _ _
        refine wa_th (j := 238) ?_
        refine ⟨rfl, ?_⟩
        exact Or.inr ⟨bI_0 (by omega), rfl, rfl⟩
    · skip
      exfalso; omega
theorem rhm_261 {c0 ky vy : Int} {R : wS → Prop} (hM : w_ML S) (hK : KR 261 T n cs ms S) (hw : wHo cs ms os) (hP : mP t c0 p h tp S) (h73 : S 237 173 = 2100 * t + ba) (hba : 0 ≤ ba ∧ ba < h) (h70 : S 237 170 = wh) (hwh : 0 ≤ wh ∧ wh < (ms.length : Int)) (hso : (hmR ms wh).2.1 ≠ 0) (hkd : 0 ≤ kd ∧ kd ≤ 6) (hdm : wJ (pe_GA xs) wY0 (fun _ => False) (d + 8) t_M_doesMember ((pe_at t_M_doesMember.bl 0).getD (0, [])).2 [(0, (2, 237)), (1, (0, wh))] [] S (fun o Z => (o = .inr 238 ∧ Q (.inr 238) Z) ∨ (o = .inl none ∧ R Z))) (hR : ∀ Z : wS, R Z → mP t c0 p h tp Z ∧ Z 237 173 = 2100 * t + ba ∧ (kd = 1 → (Z 363 (2100 * t + ba + 1) = ky ∧ Z 364 (2100 * t + ba + 1) = vy) ∧ ba + 1 < h ∧ Q (.inl none) (gvZ t ba tp p ky vy (w_up (w_up Z 237 110 ky) 237 111 vy))) ∧ (kd ≠ 1 → Q (.inl none) (gvZ t ba tp p (Z 237 110) (Z 237 111) Z))) : wJ (pe_GA xs) wY0 M (d + 9) t_M_actsOnHost ((pe_at t_M_actsOnHost.bl 0).getD (0, [])).2 [(0, (2, 237)), (1, (0, kd))] [] S Q := by
  have h13 : S 237 13 = 261 := hK.1
  have h400 := hw.1
  have ht2 := hP.2.1.2
  have hh2 := hP.2.2.2.2.2.2.2.2
  have uuM := KR_m hK (m := wh) (by omega) (by omega)
  have uuW := hw.2.2.2 wh (by omega) (by omega)
  have uu1 : S 273 wh = (hmR ms wh).2.1 := uuM.1.2.1
  have uu2 : S 274 wh = (hmR ms wh).2.2.1 := uuM.1.2.2.1
  have uu3 : S 275 wh = (hmR ms wh).2.2.2.1 := uuM.1.2.2.2.1
  have uu4 : S 276 wh = ((hmR ms wh).2.2.2.2.1.length : Int) := uuM.2.1.1
  have uu5 : S 277 wh = (hmR ms wh).2.2.2.2.2.1 := uuM.2.1.2.1
  have uuf : S 279 wh = (hmR ms wh).2.2.2.2.2.2.1 := uuM.1.2.2.2.2.1
  have uut : S 280 wh = (hmR ms wh).2.2.2.2.2.2.2 := uuM.1.2.2.2.2.2
  have uuq := uuW.1.2.1
  have uus := uuW.1.2.2.1
  have uuy := uuW.1.2.2.2
  have uuv := uuW.2.1
  have uul := uuW.2.2.1
  have uuft := hK.2.2.2.2.2.2.1 wh (by omega) (by omega)
  refine wa_aload_n (n := 0) rfl ?_
  refine wb_gfi 237 rfl (wy_pr rfl) wt_237 wf_15_170 (v := wh) (h70) (fun r1 => ?_)
  refine wa_istore_n (n := 2) rfl ?_
  refine wa_aload_n (n := 0) rfl ?_
  refine wb_gf5 237 rfl (wy_pr rfl) wt_237 wf_15_13 (v := 261) (h13) (fun r2 => ?_)
  refine wb_gf4 261 rfl (wy_pr rfl) wt_261 wf_12_13 (v := 273) wl_261_13 ?_
  refine wa_iload_n (n := 2) rfl ?_
  refine wb_iald 273 rfl (wy_pr rfl) wt_273 (n := 400) ((ml_273 hM)) (by omega) (by omega) (v := (hmR ms wh).2.1) (uu1) (fun r3 => ?_)
  refine wa_ifne (w_rg0 (by omega) (by omega)) ⟨_, rfl⟩ (fun c4 => ?_) (fun c4 => ?_)
  · skip
    refine wa_aload_n (n := 0) rfl ?_
    refine wa_iload_n (n := 2) rfl ?_
    refine wa_cv 237 rfl (wy_pr rfl) wt_237 (M2 := fun _ => False) rfl at_M_doesMember ⟨_, rfl⟩ rfl rfl ⟨trivial, (Or.inr ⟨wy_pr rfl, fun q => q⟩), trivial, trivial⟩ trivial (fun _ _ q => False.elim q) (hdm) (fun oq5 Sq5 hp6 q5 => ?_)
    rcases q5 with ⟨rfl, hq0⟩ | ⟨rfl, hr0⟩
    · skip
      refine ⟨rfl, ?_⟩
      exact hq0
    · skip
      show wJ _ _ _ _ _ _ _ _ _ _
      have hz := hR _ hr0
      have hMZ := hz.1.1
      have hz3 := hz.2.1
      refine wa_iload_n (n := 1) rfl ?_
      refine wa_iconst ?_
      refine wa_icmpne (w_rg0 (by omega) (by omega)) (w_rg0 (by omega) (by omega)) ⟨_, rfl⟩ (fun c7 => ?_) (fun c7 => ?_)
      · skip
        refine wa_aload_n (n := 0) rfl ?_
        refine wa_aload_n (n := 0) rfl ?_
        refine wb_gfi 237 rfl (wy_pr rfl) wt_237 wf_15_110 (v := (Sq5 237 110)) rfl (fun r8 => ?_)
        refine wa_aload_n (n := 0) rfl ?_
        refine wb_gfl 237 rfl (wy_pr rfl) wt_237 wf_15_111 (v := (Sq5 237 111)) rfl (fun r9 => ?_)
        refine wa_cv 237 rfl (wy_pr rfl) wt_237 (M2 := fun _ => False) rfl at_M_gives ⟨_, rfl⟩ rfl rfl ⟨trivial, (Or.inr ⟨wy_pr rfl, fun q => q⟩), trivial, trivial⟩ trivial (fun _ _ q => False.elim q) (gvs_ok (S := Sq5) (t := t) (c := c0) (p := p) (h := h) (tp := tp) (ba := ba) (k := (Sq5 237 110)) (v := (Sq5 237 111)) hz.1 hz3 ⟨by omega, by omega⟩ ⟨by omega, by omega⟩ ⟨by omega, by omega⟩) (fun oq10 Sq10 hp11 q10 => ?_)
        rcases q10 with ⟨rfl, rfl⟩
        show wJ _ _ _ _ _ _ _ _ _ _
        refine wa_return rfl ?_
        first | exact hzk.2.2 | exact hz.2.2.2 (by omega)
      · skip
        have hzk := hz.2.2.1 (by omega)
        refine wa_aload_n (n := 0) rfl ?_
        refine wa_aload_n (n := 0) rfl ?_
        refine wb_gf4 237 rfl (wy_pr rfl) wt_237 wf_15_138 (v := 363) wl_237_138 ?_
        refine wa_aload_n (n := 0) rfl ?_
        refine wb_gfi 237 rfl (wy_pr rfl) wt_237 wf_15_173 (v := (2100 * t + ba)) (hz3) (fun r12 => ?_)
        refine wa_iconst ?_
        refine wa_iadd ?_
        refine wb_iald 363 rfl (wy_pr rfl) wt_363 (n := 4200) ((ml_363 hMZ)) (by omega) (by omega) (v := ky) (hzk.1.1) (fun r13 => ?_)
        refine wa_aload_n (n := 0) rfl ?_
        refine wb_gf4 237 rfl (wy_pr rfl) wt_237 wf_15_139 (v := 364) wl_237_139 ?_
        refine wa_aload_n (n := 0) rfl ?_
        refine wb_gfi 237 rfl (wy_pr rfl) wt_237 wf_15_173 (v := (2100 * t + ba)) (hz3) (fun r14 => ?_)
        refine wa_iconst ?_
        refine wa_iadd ?_
        refine wb_lald 364 rfl (wy_pr rfl) wt_364 (n := 4200) ((ml_364 hMZ)) (by omega) (by omega) (v := vy) (hzk.1.2) (fun r15 => ?_)
        refine wa_cv 237 rfl (wy_pr rfl) wt_237 (M2 := fun _ => False) rfl at_M_is ⟨_, rfl⟩ rfl rfl ⟨trivial, (Or.inr ⟨wy_pr rfl, fun q => q⟩), trivial, trivial⟩ trivial (fun _ _ q => False.elim q) ?_ (fun _ _ _ q => q)
        refine wa_aload_n (n := 0) rfl ?_
        refine wa_iload_n (n := 1) rfl ?_
        refine wb_pfi 237 rfl (wy_pr rfl) wt_237 wf_15_110 (n := 110) rfl ⟨(by omega), (by omega)⟩ ?_
        refine wa_aload_n (n := 0) rfl ?_
        refine wa_lload_n (n := 2) rfl ?_
        refine wb_pfl 237 rfl (wy_pr rfl) wt_237 wf_15_111 (n := 111) rfl ⟨(by omega), (by omega)⟩ ?_
        refine wa_return rfl ?_
        show wJ _ _ _ _ _ _ _ _ _ _
        refine wa_fall ⟨_, rfl⟩ ?_
        refine wa_aload_n (n := 0) rfl ?_
        refine wa_aload_n (n := 0) rfl ?_
        refine wb_gfi 237 rfl (wy_pr rfl) wt_237 wf_15_110 (v := ky) ((w_up_at (by decide)).trans (w_up_same _ _ _ _)) (fun r16 => ?_)
        refine wa_aload_n (n := 0) rfl ?_
        refine wb_gfl 237 rfl (wy_pr rfl) wt_237 wf_15_111 (v := vy) (w_up_same _ _ _ _) (fun r17 => ?_)
        refine wa_cv 237 rfl (wy_pr rfl) wt_237 (M2 := fun _ => False) rfl at_M_gives ⟨_, rfl⟩ rfl rfl ⟨trivial, (Or.inr ⟨wy_pr rfl, fun q => q⟩), trivial, trivial⟩ trivial (fun _ _ q => False.elim q) (gvs_ok (S := (w_up (w_up Sq5 237 110 ky) 237 111 vy)) (t := t) (c := c0) (p := p) (h := h) (tp := tp) (ba := ba) (k := ky) (v := vy) (mP_ag hz.1 (ML_w (P := isM) hMZ (fun j x hj => (w_up_no (fun z => hj ⟨z.1, Or.inr z.2⟩)).trans (w_up_no (fun z => hj ⟨z.1, Or.inl z.2⟩))) (fun j z => by unfold isM at z; omega)) (fun j x hj => (w_up_no (by omega)).trans (w_up_no (by omega)))) ((w_up_at (by decide)).trans ((w_up_at (by decide)).trans hz3)) ⟨by omega, by omega⟩ ⟨by omega, by omega⟩ ⟨by omega, by omega⟩) (fun oq18 Sq18 hp19 q18 => ?_)
        rcases q18 with ⟨rfl, rfl⟩
        show wJ _ _ _ _ _ _ _ _ _ _
        refine wa_return rfl ?_
        first | exact hzk.2.2 | exact hz.2.2.2 (by omega)
  · skip
    exfalso; omega
theorem hit_lh {s rw h1 w1 t1 : Int} {e : aE} {P : Nat → Int → Prop} (hM : w_ML S) (hs : 0 ≤ s ∧ s < 4000) (he : rEc S e rw) (hrw : 0 ≤ rw ∧ rw < 20000) (h108 : 0 ≤ S 237 108 ∧ S 237 108 ≤ 1000000) (hPn : ∀ (j : Nat) (x : Int), P j x → (j < 377 ∨ 385 < j) ∧ (j ≠ 237 ∨ (x ≠ 108 ∧ (x < 166 ∨ 172 < x))) ∧ x ≠ -1) (hlk : wJ (pe_GA xs) wY0 (fun _ => False) (d + 8) t_M_looks ((pe_at t_M_looks.bl 0).getD (0, [])).2 [(0, (2, 237)), (1, (0, s)), (2, (0, 0))] [] S (fun o Z => o = .inl none ∧ (Z 237 169 = h1 ∧ Z 237 170 = w1 ∧ Z 237 171 = t1) ∧ (∀ (j : Nat) (x : Int), (j ≠ 237 ∨ x < 166 ∨ 172 < x) → ¬ P j x → Z j x = S j x))) : wJ (pe_GA xs) wY0 M (d + 9) t_M_hits ((pe_at t_M_hits.bl 0).getD (0, [])).2 [(0, (2, 237)), (1, (0, s)), (2, (0, rw))] [] S (fun o Z => o = .inl none ∧ (Z 237 166 = e.1 ∧ Z 237 169 = e.2.2.2.1 ∧ Z 237 170 = e.2.2.2.2.1 ∧ Z 237 171 = e.2.2.2.2.2.1) ∧ Z 237 108 = S 237 108 + (if h1 = e.2.2.2.1 ∧ w1 = e.2.2.2.2.1 ∧ t1 = e.2.2.2.2.2.1 then 0 else 1) ∧ (∀ (j : Nat) (x : Int), (j ≠ 237 ∨ (x ≠ 108 ∧ (x < 166 ∨ 172 < x))) → ¬ P j x → Z j x = S j x) ∧ w_ML Z) := by
  obtain ⟨⟨a1, a2, a3, a4, a5, a6⟩, a7, a8, a9⟩ := id he
  refine wa_iconst ?_
  refine wa_istore_n (n := 3) rfl ?_
  refine wa_aload_n (n := 0) rfl ?_
  refine wa_iload_n (n := 1) rfl ?_
  refine wa_iconst ?_
  refine wa_cx 237 rfl (wy_pr rfl) wt_237 (M2 := fun _ => False) rfl at_M_looks ⟨_, rfl⟩ rfl rfl ⟨trivial, (Or.inr ⟨wy_pr rfl, fun q => q⟩), trivial, trivial, trivial⟩ trivial (fun _ _ q => False.elim q) (hlk) (fun oq1 Sq1 hp2 q1 => ?_)
  rcases q1 with ⟨rfl, ⟨z69, z70, z71⟩, zf⟩
  show wJ _ _ _ _ _ _ _ _ _ _
  have zM : w_ML _ := ML_w (P := fun j x => P j x ∨ (j = 237 ∧ 166 ≤ x ∧ x ≤ 172)) hM (fun j x hj => zf j x (by omega) (fun z => hj (Or.inl z))) (fun j z => z.elim (fun y => (hPn _ _ y).2.2 rfl) (fun y => by omega))
  have hM := zM
  have z77 := (zf 377 rw (by first | decide | omega) (fun z => by have y := (hPn _ _ z).1; omega)).trans a1
  have z80 := (zf 380 rw (by first | decide | omega) (fun z => by have y := (hPn _ _ z).1; omega)).trans a4
  have z81 := (zf 381 rw (by first | decide | omega) (fun z => by have y := (hPn _ _ z).1; omega)).trans a5
  have z82 := (zf 382 rw (by first | decide | omega) (fun z => by have y := (hPn _ _ z).1; omega)).trans a6
  have z108 := zf 237 108 (by first | decide | omega) (fun z => by have y := (hPn _ _ z).2.1; omega)
  refine wa_aload_n (n := 0) rfl ?_
  refine wb_gfi 237 rfl (wy_pr rfl) wt_237 wf_15_169 (v := h1) (z69) (fun r3 => ?_)
  refine wa_aload_n (n := 0) rfl ?_
  refine wb_gf4 237 rfl (wy_pr rfl) wt_237 wf_15_160 (v := 380) wl_237_160 ?_
  refine wa_iload_n (n := 2) rfl ?_
  refine wb_iald 380 rfl (wy_pr rfl) wt_380 (n := 20000) ((ml_380 hM)) (by omega) (by omega) (v := (e.2.2.2.1)) (z80) (fun r4 => ?_)
  refine wa_icmpne (w_rg0 (by omega) (by omega)) (w_rg0 (by omega) (by omega)) ⟨_, rfl⟩ (fun c5 => ?_) (fun c5 => ?_)
  · skip
    refine wa_iconst ?_
    refine wa_fall ⟨_, rfl⟩ ?_
    refine wa_istore_n (n := 3) rfl ?_
    refine wa_goto ⟨_, rfl⟩ ?_
    refine wa_aload_n (n := 0) rfl ?_
    refine wa_dup (by decide) ?_
    refine wb_gfi 237 rfl (wy_pr rfl) wt_237 wf_15_108 (v := (S 237 108)) (z108) (fun r6 => ?_)
    refine wa_iload_n (n := 3) rfl ?_
    refine wa_ifeq (w_rg0 (by omega) (by omega)) ⟨_, rfl⟩ (fun c7 => ?_) (fun c7 => ?_)
    · skip
      refine wa_iconst ?_
      refine wa_fall ⟨_, rfl⟩ ?_
      refine wa_iadd ?_
      refine wb_pfi 237 rfl (wy_pr rfl) wt_237 wf_15_108 (n := 108) rfl ⟨(by omega), (by omega)⟩ ?_
      refine wa_aload_n (n := 0) rfl ?_
      refine wa_aload_n (n := 0) rfl ?_
      refine wb_gf4 237 rfl (wy_pr rfl) wt_237 wf_15_157 (v := 377) wl_237_157 ?_
      refine wa_iload_n (n := 2) rfl ?_
      refine wb_iald 377 rfl (wy_pr rfl) wt_377 (n := 20000) ((w_up_slot (by decide)).trans ((ml_377 hM))) (by omega) (by omega) (v := (e.1)) ((w_up_slot (by decide)).trans (z77)) (fun r8 => ?_)
      refine wb_pfi 237 rfl (wy_pr rfl) wt_237 wf_15_166 (n := 166) rfl ⟨(by omega), (by omega)⟩ ?_
      refine wa_aload_n (n := 0) rfl ?_
      refine wa_aload_n (n := 0) rfl ?_
      refine wb_gf4 237 rfl (wy_pr rfl) wt_237 wf_15_160 (v := 380) wl_237_160 ?_
      refine wa_iload_n (n := 2) rfl ?_
      refine wb_iald 380 rfl (wy_pr rfl) wt_380 (n := 20000) ((w_up_slot (by decide)).trans ((w_up_slot (by decide)).trans ((ml_380 hM)))) (by omega) (by omega) (v := (e.2.2.2.1)) ((w_up_slot (by decide)).trans ((w_up_slot (by decide)).trans (z80))) (fun r9 => ?_)
      refine wb_pfi 237 rfl (wy_pr rfl) wt_237 wf_15_169 (n := 169) rfl ⟨(by omega), (by omega)⟩ ?_
      refine wa_aload_n (n := 0) rfl ?_
      refine wa_aload_n (n := 0) rfl ?_
      refine wb_gf4 237 rfl (wy_pr rfl) wt_237 wf_15_161 (v := 381) wl_237_161 ?_
      refine wa_iload_n (n := 2) rfl ?_
      refine wb_iald 381 rfl (wy_pr rfl) wt_381 (n := 20000) ((w_up_slot (by decide)).trans ((w_up_slot (by decide)).trans ((w_up_slot (by decide)).trans ((ml_381 hM))))) (by omega) (by omega) (v := (e.2.2.2.2.1)) ((w_up_slot (by decide)).trans ((w_up_slot (by decide)).trans ((w_up_slot (by decide)).trans (z81)))) (fun r10 => ?_)
      refine wb_pfi 237 rfl (wy_pr rfl) wt_237 wf_15_170 (n := 170) rfl ⟨(by omega), (by omega)⟩ ?_
      refine wa_aload_n (n := 0) rfl ?_
      refine wa_aload_n (n := 0) rfl ?_
      refine wb_gf4 237 rfl (wy_pr rfl) wt_237 wf_15_162 (v := 382) wl_237_162 ?_
      refine wa_iload_n (n := 2) rfl ?_
      refine wb_iald 382 rfl (wy_pr rfl) wt_382 (n := 20000) ((w_up_slot (by decide)).trans ((w_up_slot (by decide)).trans ((w_up_slot (by decide)).trans ((w_up_slot (by decide)).trans ((ml_382 hM)))))) (by omega) (by omega) (v := (e.2.2.2.2.2.1)) ((w_up_slot (by decide)).trans ((w_up_slot (by decide)).trans ((w_up_slot (by decide)).trans ((w_up_slot (by decide)).trans (z82))))) (fun r11 => ?_)
      refine wb_pfi 237 rfl (wy_pr rfl) wt_237 wf_15_171 (n := 171) rfl ⟨(by omega), (by omega)⟩ ?_
      refine wa_return rfl ?_
      have ea : (if h1 = e.2.2.2.1 ∧ w1 = e.2.2.2.2.1 ∧ t1 = e.2.2.2.2.2.1 then 0 else 1 : Int) = 1 := by first | exact if_pos (by omega) | exact if_neg (by omega)
      rw [ea]
      exact ⟨rfl, ⟨((w_up_at (by first | decide | omega)).trans ((w_up_at (by first | decide | omega)).trans ((w_up_at (by first | decide | omega)).trans (w_up_same _ _ _ _)))), ((w_up_at (by first | decide | omega)).trans ((w_up_at (by first | decide | omega)).trans (w_up_same _ _ _ _))), ((w_up_at (by first | decide | omega)).trans (w_up_same _ _ _ _)), (w_up_same _ _ _ _)⟩, ((w_up_at (by first | decide | omega)).trans ((w_up_at (by first | decide | omega)).trans ((w_up_at (by first | decide | omega)).trans ((w_up_at (by first | decide | omega)).trans (w_up_same _ _ _ _))))), fun j x hj hk => ((w_up_no (by omega)).trans ((w_up_no (by omega)).trans ((w_up_no (by omega)).trans ((w_up_no (by omega)).trans (w_up_no (by omega)))))).trans (zf j x (by omega) hk), w_ML_up (w_ML_up (w_ML_up (w_ML_up (w_ML_up (zM) (by first | decide | omega)) (by first | decide | omega)) (by first | decide | omega)) (by first | decide | omega)) (by first | decide | omega)⟩
    · skip
      exact absurd c7 (by omega)
  · skip
    refine wa_aload_n (n := 0) rfl ?_
    refine wb_gfi 237 rfl (wy_pr rfl) wt_237 wf_15_170 (v := w1) (z70) (fun r12 => ?_)
    refine wa_aload_n (n := 0) rfl ?_
    refine wb_gf4 237 rfl (wy_pr rfl) wt_237 wf_15_161 (v := 381) wl_237_161 ?_
    refine wa_iload_n (n := 2) rfl ?_
    refine wb_iald 381 rfl (wy_pr rfl) wt_381 (n := 20000) ((ml_381 hM)) (by omega) (by omega) (v := (e.2.2.2.2.1)) (z81) (fun r13 => ?_)
    refine wa_icmpne (w_rg0 (by omega) (by omega)) (w_rg0 (by omega) (by omega)) ⟨_, rfl⟩ (fun c14 => ?_) (fun c14 => ?_)
    · skip
      refine wa_iconst ?_
      refine wa_fall ⟨_, rfl⟩ ?_
      refine wa_istore_n (n := 3) rfl ?_
      refine wa_goto ⟨_, rfl⟩ ?_
      refine wa_aload_n (n := 0) rfl ?_
      refine wa_dup (by decide) ?_
      refine wb_gfi 237 rfl (wy_pr rfl) wt_237 wf_15_108 (v := (S 237 108)) (z108) (fun r15 => ?_)
      refine wa_iload_n (n := 3) rfl ?_
      refine wa_ifeq (w_rg0 (by omega) (by omega)) ⟨_, rfl⟩ (fun c16 => ?_) (fun c16 => ?_)
      · skip
        refine wa_iconst ?_
        refine wa_fall ⟨_, rfl⟩ ?_
        refine wa_iadd ?_
        refine wb_pfi 237 rfl (wy_pr rfl) wt_237 wf_15_108 (n := 108) rfl ⟨(by omega), (by omega)⟩ ?_
        refine wa_aload_n (n := 0) rfl ?_
        refine wa_aload_n (n := 0) rfl ?_
        refine wb_gf4 237 rfl (wy_pr rfl) wt_237 wf_15_157 (v := 377) wl_237_157 ?_
        refine wa_iload_n (n := 2) rfl ?_
        refine wb_iald 377 rfl (wy_pr rfl) wt_377 (n := 20000) ((w_up_slot (by decide)).trans ((ml_377 hM))) (by omega) (by omega) (v := (e.1)) ((w_up_slot (by decide)).trans (z77)) (fun r17 => ?_)
        refine wb_pfi 237 rfl (wy_pr rfl) wt_237 wf_15_166 (n := 166) rfl ⟨(by omega), (by omega)⟩ ?_
        refine wa_aload_n (n := 0) rfl ?_
        refine wa_aload_n (n := 0) rfl ?_
        refine wb_gf4 237 rfl (wy_pr rfl) wt_237 wf_15_160 (v := 380) wl_237_160 ?_
        refine wa_iload_n (n := 2) rfl ?_
        refine wb_iald 380 rfl (wy_pr rfl) wt_380 (n := 20000) ((w_up_slot (by decide)).trans ((w_up_slot (by decide)).trans ((ml_380 hM)))) (by omega) (by omega) (v := (e.2.2.2.1)) ((w_up_slot (by decide)).trans ((w_up_slot (by decide)).trans (z80))) (fun r18 => ?_)
        refine wb_pfi 237 rfl (wy_pr rfl) wt_237 wf_15_169 (n := 169) rfl ⟨(by omega), (by omega)⟩ ?_
        refine wa_aload_n (n := 0) rfl ?_
        refine wa_aload_n (n := 0) rfl ?_
        refine wb_gf4 237 rfl (wy_pr rfl) wt_237 wf_15_161 (v := 381) wl_237_161 ?_
        refine wa_iload_n (n := 2) rfl ?_
        refine wb_iald 381 rfl (wy_pr rfl) wt_381 (n := 20000) ((w_up_slot (by decide)).trans ((w_up_slot (by decide)).trans ((w_up_slot (by decide)).trans ((ml_381 hM))))) (by omega) (by omega) (v := (e.2.2.2.2.1)) ((w_up_slot (by decide)).trans ((w_up_slot (by decide)).trans ((w_up_slot (by decide)).trans (z81)))) (fun r19 => ?_)
        refine wb_pfi 237 rfl (wy_pr rfl) wt_237 wf_15_170 (n := 170) rfl ⟨(by omega), (by omega)⟩ ?_
        refine wa_aload_n (n := 0) rfl ?_
        refine wa_aload_n (n := 0) rfl ?_
        refine wb_gf4 237 rfl (wy_pr rfl) wt_237 wf_15_162 (v := 382) wl_237_162 ?_
        refine wa_iload_n (n := 2) rfl ?_
        refine wb_iald 382 rfl (wy_pr rfl) wt_382 (n := 20000) ((w_up_slot (by decide)).trans ((w_up_slot (by decide)).trans ((w_up_slot (by decide)).trans ((w_up_slot (by decide)).trans ((ml_382 hM)))))) (by omega) (by omega) (v := (e.2.2.2.2.2.1)) ((w_up_slot (by decide)).trans ((w_up_slot (by decide)).trans ((w_up_slot (by decide)).trans ((w_up_slot (by decide)).trans (z82))))) (fun r20 => ?_)
        refine wb_pfi 237 rfl (wy_pr rfl) wt_237 wf_15_171 (n := 171) rfl ⟨(by omega), (by omega)⟩ ?_
        refine wa_return rfl ?_
        have ea : (if h1 = e.2.2.2.1 ∧ w1 = e.2.2.2.2.1 ∧ t1 = e.2.2.2.2.2.1 then 0 else 1 : Int) = 1 := by first | exact if_pos (by omega) | exact if_neg (by omega)
        rw [ea]
        exact ⟨rfl, ⟨((w_up_at (by first | decide | omega)).trans ((w_up_at (by first | decide | omega)).trans ((w_up_at (by first | decide | omega)).trans (w_up_same _ _ _ _)))), ((w_up_at (by first | decide | omega)).trans ((w_up_at (by first | decide | omega)).trans (w_up_same _ _ _ _))), ((w_up_at (by first | decide | omega)).trans (w_up_same _ _ _ _)), (w_up_same _ _ _ _)⟩, ((w_up_at (by first | decide | omega)).trans ((w_up_at (by first | decide | omega)).trans ((w_up_at (by first | decide | omega)).trans ((w_up_at (by first | decide | omega)).trans (w_up_same _ _ _ _))))), fun j x hj hk => ((w_up_no (by omega)).trans ((w_up_no (by omega)).trans ((w_up_no (by omega)).trans ((w_up_no (by omega)).trans (w_up_no (by omega)))))).trans (zf j x (by omega) hk), w_ML_up (w_ML_up (w_ML_up (w_ML_up (w_ML_up (zM) (by first | decide | omega)) (by first | decide | omega)) (by first | decide | omega)) (by first | decide | omega)) (by first | decide | omega)⟩
      · skip
        exact absurd c16 (by omega)
    · skip
      refine wa_aload_n (n := 0) rfl ?_
      refine wb_gfi 237 rfl (wy_pr rfl) wt_237 wf_15_171 (v := t1) (z71) (fun r21 => ?_)
      refine wa_aload_n (n := 0) rfl ?_
      refine wb_gf4 237 rfl (wy_pr rfl) wt_237 wf_15_162 (v := 382) wl_237_162 ?_
      refine wa_iload_n (n := 2) rfl ?_
      refine wb_iald 382 rfl (wy_pr rfl) wt_382 (n := 20000) ((ml_382 hM)) (by omega) (by omega) (v := (e.2.2.2.2.2.1)) (z82) (fun r22 => ?_)
      refine wa_icmpne (w_rg0 (by omega) (by omega)) (w_rg0 (by omega) (by omega)) ⟨_, rfl⟩ (fun c23 => ?_) (fun c23 => ?_)
      · skip
        refine wa_iconst ?_
        refine wa_fall ⟨_, rfl⟩ ?_
        refine wa_istore_n (n := 3) rfl ?_
        refine wa_goto ⟨_, rfl⟩ ?_
        refine wa_aload_n (n := 0) rfl ?_
        refine wa_dup (by decide) ?_
        refine wb_gfi 237 rfl (wy_pr rfl) wt_237 wf_15_108 (v := (S 237 108)) (z108) (fun r24 => ?_)
        refine wa_iload_n (n := 3) rfl ?_
        refine wa_ifeq (w_rg0 (by omega) (by omega)) ⟨_, rfl⟩ (fun c25 => ?_) (fun c25 => ?_)
        · skip
          refine wa_iconst ?_
          refine wa_fall ⟨_, rfl⟩ ?_
          refine wa_iadd ?_
          refine wb_pfi 237 rfl (wy_pr rfl) wt_237 wf_15_108 (n := 108) rfl ⟨(by omega), (by omega)⟩ ?_
          refine wa_aload_n (n := 0) rfl ?_
          refine wa_aload_n (n := 0) rfl ?_
          refine wb_gf4 237 rfl (wy_pr rfl) wt_237 wf_15_157 (v := 377) wl_237_157 ?_
          refine wa_iload_n (n := 2) rfl ?_
          refine wb_iald 377 rfl (wy_pr rfl) wt_377 (n := 20000) ((w_up_slot (by decide)).trans ((ml_377 hM))) (by omega) (by omega) (v := (e.1)) ((w_up_slot (by decide)).trans (z77)) (fun r26 => ?_)
          refine wb_pfi 237 rfl (wy_pr rfl) wt_237 wf_15_166 (n := 166) rfl ⟨(by omega), (by omega)⟩ ?_
          refine wa_aload_n (n := 0) rfl ?_
          refine wa_aload_n (n := 0) rfl ?_
          refine wb_gf4 237 rfl (wy_pr rfl) wt_237 wf_15_160 (v := 380) wl_237_160 ?_
          refine wa_iload_n (n := 2) rfl ?_
          refine wb_iald 380 rfl (wy_pr rfl) wt_380 (n := 20000) ((w_up_slot (by decide)).trans ((w_up_slot (by decide)).trans ((ml_380 hM)))) (by omega) (by omega) (v := (e.2.2.2.1)) ((w_up_slot (by decide)).trans ((w_up_slot (by decide)).trans (z80))) (fun r27 => ?_)
          refine wb_pfi 237 rfl (wy_pr rfl) wt_237 wf_15_169 (n := 169) rfl ⟨(by omega), (by omega)⟩ ?_
          refine wa_aload_n (n := 0) rfl ?_
          refine wa_aload_n (n := 0) rfl ?_
          refine wb_gf4 237 rfl (wy_pr rfl) wt_237 wf_15_161 (v := 381) wl_237_161 ?_
          refine wa_iload_n (n := 2) rfl ?_
          refine wb_iald 381 rfl (wy_pr rfl) wt_381 (n := 20000) ((w_up_slot (by decide)).trans ((w_up_slot (by decide)).trans ((w_up_slot (by decide)).trans ((ml_381 hM))))) (by omega) (by omega) (v := (e.2.2.2.2.1)) ((w_up_slot (by decide)).trans ((w_up_slot (by decide)).trans ((w_up_slot (by decide)).trans (z81)))) (fun r28 => ?_)
          refine wb_pfi 237 rfl (wy_pr rfl) wt_237 wf_15_170 (n := 170) rfl ⟨(by omega), (by omega)⟩ ?_
          refine wa_aload_n (n := 0) rfl ?_
          refine wa_aload_n (n := 0) rfl ?_
          refine wb_gf4 237 rfl (wy_pr rfl) wt_237 wf_15_162 (v := 382) wl_237_162 ?_
          refine wa_iload_n (n := 2) rfl ?_
          refine wb_iald 382 rfl (wy_pr rfl) wt_382 (n := 20000) ((w_up_slot (by decide)).trans ((w_up_slot (by decide)).trans ((w_up_slot (by decide)).trans ((w_up_slot (by decide)).trans ((ml_382 hM)))))) (by omega) (by omega) (v := (e.2.2.2.2.2.1)) ((w_up_slot (by decide)).trans ((w_up_slot (by decide)).trans ((w_up_slot (by decide)).trans ((w_up_slot (by decide)).trans (z82))))) (fun r29 => ?_)
          refine wb_pfi 237 rfl (wy_pr rfl) wt_237 wf_15_171 (n := 171) rfl ⟨(by omega), (by omega)⟩ ?_
          refine wa_return rfl ?_
          have ea : (if h1 = e.2.2.2.1 ∧ w1 = e.2.2.2.2.1 ∧ t1 = e.2.2.2.2.2.1 then 0 else 1 : Int) = 1 := by first | exact if_pos (by omega) | exact if_neg (by omega)
          rw [ea]
          exact ⟨rfl, ⟨((w_up_at (by first | decide | omega)).trans ((w_up_at (by first | decide | omega)).trans ((w_up_at (by first | decide | omega)).trans (w_up_same _ _ _ _)))), ((w_up_at (by first | decide | omega)).trans ((w_up_at (by first | decide | omega)).trans (w_up_same _ _ _ _))), ((w_up_at (by first | decide | omega)).trans (w_up_same _ _ _ _)), (w_up_same _ _ _ _)⟩, ((w_up_at (by first | decide | omega)).trans ((w_up_at (by first | decide | omega)).trans ((w_up_at (by first | decide | omega)).trans ((w_up_at (by first | decide | omega)).trans (w_up_same _ _ _ _))))), fun j x hj hk => ((w_up_no (by omega)).trans ((w_up_no (by omega)).trans ((w_up_no (by omega)).trans ((w_up_no (by omega)).trans (w_up_no (by omega)))))).trans (zf j x (by omega) hk), w_ML_up (w_ML_up (w_ML_up (w_ML_up (w_ML_up (zM) (by first | decide | omega)) (by first | decide | omega)) (by first | decide | omega)) (by first | decide | omega)) (by first | decide | omega)⟩
        · skip
          exact absurd c25 (by omega)
      · skip
        refine wa_iconst ?_
        refine wa_goto ⟨_, rfl⟩ ?_
        refine wa_istore_n (n := 3) rfl ?_
        refine wa_goto ⟨_, rfl⟩ ?_
        refine wa_aload_n (n := 0) rfl ?_
        refine wa_dup (by decide) ?_
        refine wb_gfi 237 rfl (wy_pr rfl) wt_237 wf_15_108 (v := (S 237 108)) (z108) (fun r30 => ?_)
        refine wa_iload_n (n := 3) rfl ?_
        refine wa_ifeq (w_rg0 (by omega) (by omega)) ⟨_, rfl⟩ (fun c31 => ?_) (fun c31 => ?_)
        · skip
          exact absurd c31 (by omega)
        · skip
          refine wa_iconst ?_
          refine wa_goto ⟨_, rfl⟩ ?_
          refine wa_iadd ?_
          refine wb_pfi 237 rfl (wy_pr rfl) wt_237 wf_15_108 (n := 108) rfl ⟨(by omega), (by omega)⟩ ?_
          refine wa_aload_n (n := 0) rfl ?_
          refine wa_aload_n (n := 0) rfl ?_
          refine wb_gf4 237 rfl (wy_pr rfl) wt_237 wf_15_157 (v := 377) wl_237_157 ?_
          refine wa_iload_n (n := 2) rfl ?_
          refine wb_iald 377 rfl (wy_pr rfl) wt_377 (n := 20000) ((w_up_slot (by decide)).trans ((ml_377 hM))) (by omega) (by omega) (v := (e.1)) ((w_up_slot (by decide)).trans (z77)) (fun r32 => ?_)
          refine wb_pfi 237 rfl (wy_pr rfl) wt_237 wf_15_166 (n := 166) rfl ⟨(by omega), (by omega)⟩ ?_
          refine wa_aload_n (n := 0) rfl ?_
          refine wa_aload_n (n := 0) rfl ?_
          refine wb_gf4 237 rfl (wy_pr rfl) wt_237 wf_15_160 (v := 380) wl_237_160 ?_
          refine wa_iload_n (n := 2) rfl ?_
          refine wb_iald 380 rfl (wy_pr rfl) wt_380 (n := 20000) ((w_up_slot (by decide)).trans ((w_up_slot (by decide)).trans ((ml_380 hM)))) (by omega) (by omega) (v := (e.2.2.2.1)) ((w_up_slot (by decide)).trans ((w_up_slot (by decide)).trans (z80))) (fun r33 => ?_)
          refine wb_pfi 237 rfl (wy_pr rfl) wt_237 wf_15_169 (n := 169) rfl ⟨(by omega), (by omega)⟩ ?_
          refine wa_aload_n (n := 0) rfl ?_
          refine wa_aload_n (n := 0) rfl ?_
          refine wb_gf4 237 rfl (wy_pr rfl) wt_237 wf_15_161 (v := 381) wl_237_161 ?_
          refine wa_iload_n (n := 2) rfl ?_
          refine wb_iald 381 rfl (wy_pr rfl) wt_381 (n := 20000) ((w_up_slot (by decide)).trans ((w_up_slot (by decide)).trans ((w_up_slot (by decide)).trans ((ml_381 hM))))) (by omega) (by omega) (v := (e.2.2.2.2.1)) ((w_up_slot (by decide)).trans ((w_up_slot (by decide)).trans ((w_up_slot (by decide)).trans (z81)))) (fun r34 => ?_)
          refine wb_pfi 237 rfl (wy_pr rfl) wt_237 wf_15_170 (n := 170) rfl ⟨(by omega), (by omega)⟩ ?_
          refine wa_aload_n (n := 0) rfl ?_
          refine wa_aload_n (n := 0) rfl ?_
          refine wb_gf4 237 rfl (wy_pr rfl) wt_237 wf_15_162 (v := 382) wl_237_162 ?_
          refine wa_iload_n (n := 2) rfl ?_
          refine wb_iald 382 rfl (wy_pr rfl) wt_382 (n := 20000) ((w_up_slot (by decide)).trans ((w_up_slot (by decide)).trans ((w_up_slot (by decide)).trans ((w_up_slot (by decide)).trans ((ml_382 hM)))))) (by omega) (by omega) (v := (e.2.2.2.2.2.1)) ((w_up_slot (by decide)).trans ((w_up_slot (by decide)).trans ((w_up_slot (by decide)).trans ((w_up_slot (by decide)).trans (z82))))) (fun r35 => ?_)
          refine wb_pfi 237 rfl (wy_pr rfl) wt_237 wf_15_171 (n := 171) rfl ⟨(by omega), (by omega)⟩ ?_
          refine wa_return rfl ?_
          have ea : (if h1 = e.2.2.2.1 ∧ w1 = e.2.2.2.2.1 ∧ t1 = e.2.2.2.2.2.1 then 0 else 1 : Int) = 0 := by first | exact if_pos (by omega) | exact if_neg (by omega)
          rw [ea]
          exact ⟨rfl, ⟨((w_up_at (by first | decide | omega)).trans ((w_up_at (by first | decide | omega)).trans ((w_up_at (by first | decide | omega)).trans (w_up_same _ _ _ _)))), ((w_up_at (by first | decide | omega)).trans ((w_up_at (by first | decide | omega)).trans (w_up_same _ _ _ _))), ((w_up_at (by first | decide | omega)).trans (w_up_same _ _ _ _)), (w_up_same _ _ _ _)⟩, ((w_up_at (by first | decide | omega)).trans ((w_up_at (by first | decide | omega)).trans ((w_up_at (by first | decide | omega)).trans ((w_up_at (by first | decide | omega)).trans (w_up_same _ _ _ _))))), fun j x hj hk => ((w_up_no (by omega)).trans ((w_up_no (by omega)).trans ((w_up_no (by omega)).trans ((w_up_no (by omega)).trans (w_up_no (by omega)))))).trans (zf j x (by omega) hk), w_ML_up (w_ML_up (w_ML_up (w_ML_up (w_ML_up (zM) (by first | decide | omega)) (by first | decide | omega)) (by first | decide | omega)) (by first | decide | omega)) (by first | decide | omega)⟩
end Wi4
