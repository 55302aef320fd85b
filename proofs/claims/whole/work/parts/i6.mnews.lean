/-! PART i6: news of the reference, whole. -/
section Wi6
variable {xs : List (Nat × List Int32)} {M : Nat → Prop} {d : Nat} {S Z A B C : wS} {H : List aH} {T : List aO} {N : List (List Int)} {sl : Nat → List Int} {Q : wO → wS → Prop}
def msM (j : Nat) (x : Int) : Prop := ((j = 237 ∧ (x = 87 ∨ x = 66)) ∨ (329 ≤ j ∧ j ≤ 332 ∧ 0 ≤ x)) ∨ ((j = 322 ∨ j = 323) ∧ 0 ≤ x)
/-- a shape is there, or has been made -/
def msB (pr r u4 : Int) (H : List aH) (S : wS) (sh : Int) (B : wS) : Prop := (0 ≤ r ∧ sh = r ∧ S = B) ∨ (r = -1 ∧ u4 < 4000 ∧ sh = (H.length : Int) ∧ msZ (-1) pr (-1) (H.length : Int) u4 S = B)
theorem msB_f {pr r u4 sh : Int} (h : msB pr r u4 H S sh B) (j : Nat) (x : Int) (hj : ¬ msM j x) : B j x = S j x := by
  unfold msM at hj
  rcases h with ⟨-, -, rfl⟩ | ⟨-, -, -, rfl⟩
  · rfl
  · unfold msZ
    split
    · rename_i hc
      exact (w_up_no (by omega)).trans ((w_up_no (by omega)).trans ((w_up_no (by omega)).trans ((w_up_no (by omega)).trans ((w_up_no (by omega)).trans ((w_up_no (by omega)).trans ((w_up_no (by omega)).trans (w_up_no (by omega))))))))
    · exact (w_up_no (by omega)).trans ((w_up_no (by omega)).trans ((w_up_no (by omega)).trans ((w_up_no (by omega)).trans ((w_up_no (by omega)).trans (w_up_no (by omega))))))
def nwM (g : Int) (j : Nat) (x : Int) : Prop := (314 ≤ j ∧ j ≤ 324 ∧ x = g) ∨ (j = 237 ∧ (x = 68 ∨ x = 62))
theorem nw_f {g u0 sh : Int} (j : Nat) (x : Int) (hj : ¬ nwM g j x) : (w_up (ntZ 4 g u0 A) 315 g sh) j x = A j x := by
  unfold nwM at hj
  unfold ntZ
  repeat first | rfl | refine (w_up_no (by omega)).trans ?_
theorem nw_62 {g u0 sh : Int} : (w_up (ntZ 4 g u0 A) 315 g sh) 237 62 = u0 + 1 := by
  unfold ntZ
  exact (w_up_slot (by first | decide | omega)).trans (w_up_same _ _ _ _)
theorem cf_154 {t c p tp u v0 vs pn en pl f ar n u0 kd bt z : Int} (h : cfQ t c p tp u v0 vs pn en pl f ar n u0 kd bt z S Z) : Z 237 154 = 200 * t + c := by
  obtain ⟨B, -, rfl⟩ := h
  exact (w_up_slot (by first | decide | omega)).trans ((w_up_slot (by first | decide | omega)).trans ((w_up_slot (by first | decide | omega)).trans ((w_up_slot (by first | decide | omega)).trans ((w_up_slot (by first | decide | omega)).trans ((w_up_slot (by first | decide | omega)).trans ((w_up_slot (by first | decide | omega)).trans ((w_up_slot (by first | decide | omega)).trans ((w_up_slot (by first | decide | omega)).trans (w_up_same _ _ _ _)))))))))
theorem cf_370 {t c p tp u v0 vs pn en pl f ar n u0 kd bt z : Int} (h : cfQ t c p tp u v0 vs pn en pl f ar n u0 kd bt z S Z) (hc : 0 ≤ 200 * t + c) : Z 370 (-1) = S 370 (-1) := by
  obtain ⟨B, hm, rfl⟩ := h
  refine (w_up_slot (by first | decide | omega)).trans ((w_up_slot (by first | decide | omega)).trans ((w_up_at (by omega)).trans ((w_up_slot (by first | decide | omega)).trans ((w_up_slot (by first | decide | omega)).trans ((w_up_slot (by first | decide | omega)).trans ((w_up_slot (by first | decide | omega)).trans ((w_up_slot (by first | decide | omega)).trans ((w_up_slot (by first | decide | omega)).trans ((w_up_slot (by first | decide | omega)).trans ((w_up_slot (by first | decide | omega)).trans ((hm.2.2 370 (-1) (Or.inl (by first | decide | omega)) (Or.inl (by first | decide | omega))).trans ?_)))))))))))
  exact (w_up_slot (by first | decide | omega)).trans ((w_up_slot (by first | decide | omega)).trans ((w_up_slot (by first | decide | omega)).trans ((w_up_slot (by first | decide | omega)).trans (w_up_slot (by first | decide | omega)))))
theorem npA_rg {nm fn : Int} (hw : wSh T H) (hf : isO T fn) (hpo : ∀ k : Int, isO T k → 0 ≤ aIx T nm k → (prV T nm k).1 = 4 ∨ (prV T nm k).1 = 5 → isO T (prV T nm k).2.1) : npA T H nm fn = -1 ∨ isO T (npA T H nm fn) := by
  unfold npA
  split
  · exact Or.inl rfl
  · split
    · exact Or.inl rfl
    · rename_i h2
      split
      · rename_i h3
        have z := (aUp_rg (nm := nm) hw hf).resolve_left h2
        have y := aIx_rg (T := T) (nm := nm) (k := aUp T H nm fn)
        exact Or.inr (hpo _ z.1 (by have := z.2; omega) h3)
      · exact Or.inl rfl
set_option maxHeartbeats 4000000 in
theorem nws_ok {t c p h tp nm fn g n u0 u v0 f ar vs pn pl en z u4 r : Int} (h97 : pe_at (pe_GA xs).xs 97 = some (3, tx_97)) (hP : mP t c p h tp S) (ht : rTh S sl T) (hH : rHs S H) (hw : wSh T H) (hT : (T.length : Int) ≤ 8000) (h82 : S 237 82 ≤ 60000) (hN : mN N S) (hnm : nm = ixL N wpro) (hf5 : isO T fn) (hpo : ∀ k : Int, isO T k → 0 ≤ aIx T nm k → (prV T nm k).1 = 4 ∨ (prV T nm k).1 = 5 → isO T (prV T nm k).2.1) (hpv : ∀ k : Int, isO T k → 0 ≤ aIx T nm k → 0 ≤ (prV T nm k).1 ∧ (prV T nm k).1 ≤ 8) (hg : S 237 68 = g) (hgT : g = (T.length : Int)) (hn : S 237 69 = n) (hn1 : 0 ≤ n ∧ n + g ≤ u0) (hu0 : S 237 62 = u0) (hu1 : u0 ≤ 8000) (hu : S 237 94 = u) (hv : S 237 63 = v0) (hf : S 319 fn = f) (har : S 320 fn = ar) (hf1 : 0 ≤ f ∧ f < 400) (hvs : S 296 f = vs) (hpn : S 295 f = pn) (hvs1 : 0 ≤ vs ∧ vs ≤ 1000) (hu2 : 0 ≤ u ∧ u ≤ v0) (hv2 : 0 ≤ v0 ∧ v0 ≤ 60000) (hr : S 237 173 = 2100 * t + pl) (hpl : 0 ≤ pl ∧ pl + 1 + en ≤ 2100) (h76 : S 237 176 = en) (hen : 0 ≤ en ∧ en ≤ 100) (hz : S 360 t = z) (h66 : S 237 66 = u4) (hu4 : 0 ≤ u4 ∧ u4 ≤ 4000 ∧ (H.length : Int) ≤ u4 + 1) (hrr : r = aFs (-1) (npA T H nm fn) (-1) H 0) : wJ (pe_GA xs) wY0 M (d + 8) t_M_news ((pe_at t_M_news.bl 0).getD (0, [])).2 [(0, (2, 237)), (1, (0, fn))] [] S (fun o Z => (c = 200 ∧ o = .inr 238 ∧ hZ 11 S = Z) ∨ (c < 200 ∧ ((¬ (u0 + 2 ≤ 8000 ∧ v0 + vs ≤ 60000) ∨ (r = -1 ∧ 4000 ≤ u4)) ∧ o = .inr 238 ∧ hZ 99 S = Z)) ∨ (c < 200 ∧ (u0 + 2 ≤ 8000 ∧ v0 + vs ≤ 60000) ∧ o = .inl none ∧ ∃ (sh : Int) (B Y : wS), msB (npA T H nm fn) r u4 H S sh B ∧ cfQ t c p tp u v0 vs pn en pl f ar n (u0 + 1) 4 g z (w_up (ntZ 4 g u0 B) 315 g sh) Y ∧ w_up Y 370 (200 * t + c) g = Z)) := by
  have hM : w_ML S := hP.1
  have ht2 := hP.2.1
  have hc2 := hP.2.2.2.2.1
  have hc3 : S 358 t = c := hc2.1
  have h151 : S 237 151 = t := ht2.1
  have hfn1 := hf5.1
  have hixr : -1 ≤ nm ∧ nm ≤ 4000 := by rw [hnm]; have z1 := ixL_rg N wpro; have z2 := hN.2.1; omega
  have hnp := npA_rg (nm := nm) hw hf5 hpo
  have hnr : -1 ≤ npA T H nm fn ∧ npA T H nm fn < 8000 := by rcases hnp with y | y; omega; have := y.1; omega
  obtain ⟨np, hnpe⟩ : ∃ q : Int, q = npA T H nm fn := ⟨_, rfl⟩
  rw [← hnpe] at hnr hrr ⊢
  have hrg := aFs_rg (be := -1) (pr := np) (nm := -1) (H := H)
  rw [← hrr] at hrg
  refine wa_aload_n (n := 0) rfl ?_
  refine wb_gf4 237 rfl (wy_pr rfl) wt_237 wf_15_133 (v := 358) wl_237_133 ?_
  refine wa_aload_n (n := 0) rfl ?_
  refine wb_gfi 237 rfl (wy_pr rfl) wt_237 wf_15_151 (v := t) (h151) (fun r1 => ?_)
  refine wb_iald 358 rfl (wy_pr rfl) wt_358 (n := 2) ((ml_358 hM)) (by omega) (by omega) (v := c) (hc3) (fun r2 => ?_)
  refine wa_sipush (by omega) ?_
  refine wa_icmpne (w_rg0 (by omega) (by omega)) (w_rg0 (by omega) (by omega)) ⟨_, rfl⟩ (fun c3 => ?_) (fun c3 => ?_)
  · skip
    refine wa_aload_n (n := 0) rfl ?_
    refine wa_gs ?_
    refine wa_iconst ?_
    refine wa_iconst ?_
    refine wa_cv 237 rfl (wy_pr rfl) wt_237 (M2 := fun _ => False) rfl at_M_findName ⟨_, rfl⟩ rfl rfl ⟨(Or.inr ⟨wy_pr rfl, fun q => q⟩), trivial, trivial⟩ trivial (fun _ _ q => False.elim q) (wJ_mono (fnPm (p := 0) (m := 5) h97 hM hN ⟨by omega, by omega⟩ ⟨by omega, by omega, by omega⟩) (fun o Z hz => (⟨hz.1, by rw [hnm, ← wpro_e]; exact hz.2⟩ : S = Z ∧ o = .inl (some (0, nm))))) (fun oq4 Sq4 hp5 q4 => ?_)
    rcases q4 with ⟨rfl, rfl⟩
    show wJ _ _ _ _ _ _ _ _ _ _
    refine wa_istore_n (n := 2) rfl ?_
    refine wa_iconst ?_
    refine wa_istore_n (n := 3) rfl ?_
    refine wa_iconst ?_
    refine wa_istore (n := 4) rfl ?_
    refine wa_iload_n (n := 1) rfl ?_
    refine wa_istore (n := 5) rfl ?_
    refine wa_fall ⟨_, rfl⟩ ?_
    by_cases cn : nm = -1
    · skip
      refine wa_iload (n := 5) rfl ?_
      refine wa_iflt (w_rg0 (by omega) (by omega)) ⟨_, rfl⟩ (fun c6 => ?_) (fun c6 => ?_)
      · skip
        exfalso; omega
      · skip
        refine wa_iload_n (n := 2) rfl ?_
        refine wa_iflt (w_rg0 (by omega) (by omega)) ⟨_, rfl⟩ (fun c7 => ?_) (fun c7 => ?_)
        · skip
          refine wJ_S (L2 := [(0, (2, 237)), (1, (0, fn)), (3, (0, np))]) ?_ ⟨rfl, rfl, by rw [hnpe, show npA T H nm fn = -1 from if_pos (by omega)]; rfl, trivial⟩
          refine wa_aload_n (n := 0) rfl ?_
          refine wa_aload_n (n := 0) rfl ?_
          refine wa_aload_n (n := 0) rfl ?_
          refine wb_gf4 237 rfl (wy_pr rfl) wt_237 wf_15_75 (v := 319) wl_237_75 ?_
          refine wa_iload_n (n := 1) rfl ?_
          refine wb_iald 319 rfl (wy_pr rfl) wt_319 (n := 8000) ((ml_319 hM)) (by omega) (by omega) (v := f) (hf) (fun r108 => ?_)
          refine wa_iconst ?_
          refine wa_cv 237 rfl (wy_pr rfl) wt_237 (M2 := fun _ => False) rfl at_M_hasRoomForCall ⟨_, rfl⟩ rfl rfl ⟨(Or.inr ⟨wy_pr rfl, fun q => q⟩), trivial, trivial, trivial⟩ ⟨(Or.inr ⟨wy_pr rfl, fun q => q⟩), trivial⟩ (fun _ _ q => False.elim q) ?_ (fun _ _ _ q => q)
          refine wa_aload_n (n := 0) rfl ?_
          refine wa_iconst ?_
          refine wa_iload_n (n := 2) rfl ?_
          refine wa_iadd ?_
          refine wa_cv 237 rfl (wy_pr rfl) wt_237 (M2 := fun _ => False) rfl at_M_hasRoomFor ⟨_, rfl⟩ rfl rfl ⟨(Or.inr ⟨wy_pr rfl, fun q => q⟩), trivial, trivial, trivial⟩ trivial (fun _ _ q => False.elim q) ?_ (fun _ _ _ q => q)
          refine wa_aload_n (n := 0) rfl ?_
          refine wb_gfi 237 rfl (wy_pr rfl) wt_237 wf_15_62 (v := u0) (hu0) (fun r109 => ?_)
          refine wa_iload_n (n := 1) rfl ?_
          refine wa_iadd ?_
          refine wa_sipush (by omega) ?_
          refine wa_icmpgt (w_rg0 (by omega) (by omega)) (w_rg0 (by omega) (by omega)) ⟨_, rfl⟩ (fun c110 => ?_) (fun c110 => ?_)
          · skip
            refine wa_iconst ?_
            refine wa_fall ⟨_, rfl⟩ ?_
            refine wa_zreturn rfl (Or.inl rfl) ?_
            show wJ _ _ _ _ _ _ _ _ _ _
            refine wa_ifeq (w_rg0 (by omega) (by omega)) ⟨_, rfl⟩ (fun c111 => ?_) (fun c111 => ?_)
            · skip
              refine wa_iconst ?_
              refine wa_fall ⟨_, rfl⟩ ?_
              refine wa_zreturn rfl (Or.inl rfl) ?_
              show wJ _ _ _ _ _ _ _ _ _ _
              refine wa_cv 237 rfl (wy_pr rfl) wt_237 (M2 := fun _ => False) rfl at_M_room ⟨_, rfl⟩ rfl rfl ⟨(Or.inr ⟨wy_pr rfl, fun q => q⟩), trivial, trivial, trivial⟩ trivial (fun _ _ q => False.elim q) ?_ (fun _ _ _ q => q)
              refine wa_iload_n (n := 1) rfl ?_
              refine wa_ifne (w_rg0 (by omega) (by omega)) ⟨_, rfl⟩ (fun c112 => ?_) (fun c112 => ?_)
              · skip
                exact absurd c112 (by omega)
              · skip
                refine wa_aload_n (n := 0) rfl ?_
                refine wb_gf4 237 rfl (wy_pr rfl) wt_237 wf_15_1 (v := 238) wl_237_1 ?_
                refine wa_bipush (w_rg2 (by omega) (by omega)) ?_
                refine wa_iconst ?_
                refine wa_cv 238 rfl (wy_pr rfl) wt_238 (M2 := fun _ => False) rfl at_MH_of ⟨_, rfl⟩ rfl rfl ⟨(Or.inr ⟨wy_pr rfl, fun q => q⟩), trivial, trivial⟩ trivial (fun _ _ q => False.elim q) ?_ (fun _ _ _ q => q)
                refine wa_aload_n (n := 0) rfl ?_
                refine wa_iload_n (n := 1) rfl ?_
                refine wb_pfi 238 rfl (wy_pr rfl) wt_238 wf_11_5 (n := 5) rfl ⟨(by omega), (by omega)⟩ ?_
                refine wa_aload_n (n := 0) rfl ?_
                refine wa_iload_n (n := 2) rfl ?_
                refine wb_pfi 238 rfl (wy_pr rfl) wt_238 wf_11_6 (n := 6) rfl ⟨(by omega), (by omega)⟩ ?_
                refine wa_aload_n (n := 0) rfl ?_
                refine wa_oreturn rfl ?_
                show wJ _ _ _ _ _ _ _ _ _ _
                refine wa_th (j := 238) ?_
                refine ⟨rfl, ?_⟩
                exact Or.inr (Or.inl ⟨by omega, Or.inl (by omega), rfl, rfl⟩)
            · skip
              exact absurd c111 (by omega)
          · skip
            refine wa_iconst ?_
            refine wa_goto ⟨_, rfl⟩ ?_
            refine wa_zreturn rfl (Or.inr rfl) ?_
            show wJ _ _ _ _ _ _ _ _ _ _
            refine wa_ifeq (w_rg0 (by omega) (by omega)) ⟨_, rfl⟩ (fun c113 => ?_) (fun c113 => ?_)
            · skip
              exact absurd c113 (by omega)
            · skip
              refine wa_aload_n (n := 0) rfl ?_
              refine wb_gfi 237 rfl (wy_pr rfl) wt_237 wf_15_63 (v := v0) (hv) (fun r114 => ?_)
              refine wa_aload_n (n := 0) rfl ?_
              refine wb_gf4 237 rfl (wy_pr rfl) wt_237 wf_15_38 (v := 296) wl_237_38 ?_
              refine wa_iload_n (n := 1) rfl ?_
              refine wb_iald 296 rfl (wy_pr rfl) wt_296 (n := 400) ((ml_296 hM)) (by omega) (by omega) (v := vs) (hvs) (fun r115 => ?_)
              refine wa_iadd ?_
              refine wb_ki (n := 60000) rfl ?_
              refine wa_icmpgt (w_rg0 (by omega) (by omega)) (w_rg0 (by omega) (by omega)) ⟨_, rfl⟩ (fun c116 => ?_) (fun c116 => ?_)
              · skip
                refine wa_iconst ?_
                refine wa_fall ⟨_, rfl⟩ ?_
                refine wa_zreturn rfl (Or.inl rfl) ?_
                show wJ _ _ _ _ _ _ _ _ _ _
                refine wa_cv 237 rfl (wy_pr rfl) wt_237 (M2 := fun _ => False) rfl at_M_room ⟨_, rfl⟩ rfl rfl ⟨(Or.inr ⟨wy_pr rfl, fun q => q⟩), trivial, trivial, trivial⟩ trivial (fun _ _ q => False.elim q) ?_ (fun _ _ _ q => q)
                refine wa_iload_n (n := 1) rfl ?_
                refine wa_ifne (w_rg0 (by omega) (by omega)) ⟨_, rfl⟩ (fun c117 => ?_) (fun c117 => ?_)
                · skip
                  exact absurd c117 (by omega)
                · skip
                  refine wa_aload_n (n := 0) rfl ?_
                  refine wb_gf4 237 rfl (wy_pr rfl) wt_237 wf_15_1 (v := 238) wl_237_1 ?_
                  refine wa_bipush (w_rg2 (by omega) (by omega)) ?_
                  refine wa_iconst ?_
                  refine wa_cv 238 rfl (wy_pr rfl) wt_238 (M2 := fun _ => False) rfl at_MH_of ⟨_, rfl⟩ rfl rfl ⟨(Or.inr ⟨wy_pr rfl, fun q => q⟩), trivial, trivial⟩ trivial (fun _ _ q => False.elim q) ?_ (fun _ _ _ q => q)
                  refine wa_aload_n (n := 0) rfl ?_
                  refine wa_iload_n (n := 1) rfl ?_
                  refine wb_pfi 238 rfl (wy_pr rfl) wt_238 wf_11_5 (n := 5) rfl ⟨(by omega), (by omega)⟩ ?_
                  refine wa_aload_n (n := 0) rfl ?_
                  refine wa_iload_n (n := 2) rfl ?_
                  refine wb_pfi 238 rfl (wy_pr rfl) wt_238 wf_11_6 (n := 6) rfl ⟨(by omega), (by omega)⟩ ?_
                  refine wa_aload_n (n := 0) rfl ?_
                  refine wa_oreturn rfl ?_
                  show wJ _ _ _ _ _ _ _ _ _ _
                  refine wa_th (j := 238) ?_
                  refine ⟨rfl, ?_⟩
                  exact Or.inr (Or.inl ⟨by omega, Or.inl (by omega), rfl, rfl⟩)
              · skip
                refine wa_iconst ?_
                refine wa_goto ⟨_, rfl⟩ ?_
                refine wa_zreturn rfl (Or.inr rfl) ?_
                show wJ _ _ _ _ _ _ _ _ _ _
                refine wa_cv 237 rfl (wy_pr rfl) wt_237 (M2 := fun _ => False) rfl at_M_room ⟨_, rfl⟩ rfl rfl ⟨(Or.inr ⟨wy_pr rfl, fun q => q⟩), trivial, trivial, trivial⟩ trivial (fun _ _ q => False.elim q) ?_ (fun _ _ _ q => q)
                refine wa_iload_n (n := 1) rfl ?_
                refine wa_ifne (w_rg0 (by omega) (by omega)) ⟨_, rfl⟩ (fun c118 => ?_) (fun c118 => ?_)
                · skip
                  refine wa_return rfl ?_
                  show wJ _ _ _ _ _ _ _ _ _ _
                  refine wa_aload_n (n := 0) rfl ?_
                  refine wa_iconst ?_
                  refine wa_iload_n (n := 3) rfl ?_
                  refine wa_iconst ?_
                  refine wa_cv 237 rfl (wy_pr rfl) wt_237 (M2 := fun _ => False) rfl at_M_madeShape ⟨_, rfl⟩ rfl rfl ⟨(Or.inr ⟨wy_pr rfl, fun q => q⟩), trivial, trivial, trivial⟩ trivial (fun _ _ q => False.elim q) (wJ_mono (r_ms (be := -1) (pr := np) (nm := -1) (r := r) (u4 := u4) (n := (T.length : Int)) hM hH hw.1 (fun _ => rfl) ⟨by omega, by have := wHs_0 hw.1; omega⟩ hnr ⟨by omega, by omega⟩ hrr h66 hu4) (fun o Z hz => (hz.elim (fun y => Or.inr ⟨r, y.2.1, Or.inl ⟨y.1, rfl, y.2.2⟩⟩) (fun y => y.elim (fun y => Or.inl y) (fun y => Or.inr ⟨_, y.2.2.1, Or.inr ⟨y.1, y.2.1, rfl, y.2.2.2⟩⟩)) : (r = -1 ∧ 4000 ≤ u4 ∧ o = .inr 238 ∧ hZ 99 S = Z) ∨ ∃ (sh : Int), o = .inl (some (0, sh)) ∧ msB np r u4 H S sh Z))) (fun oq119 Sq119 hp120 q119 => ?_)
                  rcases q119 with ⟨hm0, hm1, rfl, rfl⟩ | ⟨sh, rfl, hB⟩
                  · skip
                    refine ⟨rfl, ?_⟩
                    exact Or.inr (Or.inl ⟨by omega, Or.inr ⟨hm0, hm1⟩, rfl, rfl⟩)
                  · skip
                    show wJ _ _ _ _ _ _ _ _ _ _
                    have hfB := msB_f hB
                    have hshr : 0 ≤ sh ∧ sh ≤ 4001 := by have := hw.1.2.1; rcases hB with ⟨y1, y2, -⟩ | ⟨y1, y2, y3, -⟩ <;> omega
                    refine wa_istore (n := 5) rfl ?_
                    refine wa_aload_n (n := 0) rfl ?_
                    refine wa_iconst ?_
                    refine wa_cv 237 rfl (wy_pr rfl) wt_237 (M2 := fun _ => False) rfl at_M_newThing ⟨_, rfl⟩ rfl rfl ⟨trivial, (Or.inr ⟨wy_pr rfl, fun q => q⟩), trivial, trivial, trivial⟩ trivial (fun _ _ q => False.elim q) ?_ (fun _ _ _ q => q)
                    refine wa_aload_n (n := 0) rfl ?_
                    refine wb_gfi 237 rfl (wy_pr rfl) wt_237 wf_15_68 (v := g) (((hfB 237 68 (by unfold msM; omega)).trans (hg))) (fun r121 => ?_)
                    refine wa_istore_n (n := 2) rfl ?_
                    refine wa_aload_n (n := 0) rfl ?_
                    refine wb_gf4 237 rfl (wy_pr rfl) wt_237 wf_15_70 (v := 314) wl_237_70 ?_
                    refine wa_iload_n (n := 2) rfl ?_
                    refine wa_iload_n (n := 1) rfl ?_
                    refine wb_iast 314 rfl (wy_pr rfl) wt_314 (n := 8000) (((hfB 314 (-1) (by unfold msM; omega)).trans ((ml_314 hM)))) (by omega) (by omega) ⟨(by omega), (by omega)⟩ ?_
                    refine wa_aload_n (n := 0) rfl ?_
                    refine wb_gf4 237 rfl (wy_pr rfl) wt_237 wf_15_71 (v := 315) wl_237_71 ?_
                    refine wa_iload_n (n := 2) rfl ?_
                    refine wa_iconst ?_
                    refine wb_iast 315 rfl (wy_pr rfl) wt_315 (n := 8000) ((w_up_slot (by decide)).trans (((hfB 315 (-1) (by unfold msM; omega)).trans ((ml_315 hM))))) (by omega) (by omega) ⟨(by omega), (by omega)⟩ ?_
                    refine wa_aload_n (n := 0) rfl ?_
                    refine wb_gf4 237 rfl (wy_pr rfl) wt_237 wf_15_72 (v := 316) wl_237_72 ?_
                    refine wa_iload_n (n := 2) rfl ?_
                    refine wa_iconst ?_
                    refine wb_iast 316 rfl (wy_pr rfl) wt_316 (n := 8000) ((w_up_slot (by decide)).trans ((w_up_slot (by decide)).trans (((hfB 316 (-1) (by unfold msM; omega)).trans ((ml_316 hM)))))) (by omega) (by omega) ⟨(by omega), (by omega)⟩ ?_
                    refine wa_aload_n (n := 0) rfl ?_
                    refine wb_gf4 237 rfl (wy_pr rfl) wt_237 wf_15_73 (v := 317) wl_237_73 ?_
                    refine wa_iload_n (n := 2) rfl ?_
                    refine wa_iconst ?_
                    refine wb_iast 317 rfl (wy_pr rfl) wt_317 (n := 8000) ((w_up_slot (by decide)).trans ((w_up_slot (by decide)).trans ((w_up_slot (by decide)).trans (((hfB 317 (-1) (by unfold msM; omega)).trans ((ml_317 hM))))))) (by omega) (by omega) ⟨(by omega), (by omega)⟩ ?_
                    refine wa_aload_n (n := 0) rfl ?_
                    refine wb_gf4 237 rfl (wy_pr rfl) wt_237 wf_15_75 (v := 319) wl_237_75 ?_
                    refine wa_iload_n (n := 2) rfl ?_
                    refine wa_iconst ?_
                    refine wb_iast 319 rfl (wy_pr rfl) wt_319 (n := 8000) ((w_up_slot (by decide)).trans ((w_up_slot (by decide)).trans ((w_up_slot (by decide)).trans ((w_up_slot (by decide)).trans (((hfB 319 (-1) (by unfold msM; omega)).trans ((ml_319 hM)))))))) (by omega) (by omega) ⟨(by omega), (by omega)⟩ ?_
                    refine wa_aload_n (n := 0) rfl ?_
                    refine wb_gf4 237 rfl (wy_pr rfl) wt_237 wf_15_76 (v := 320) wl_237_76 ?_
                    refine wa_iload_n (n := 2) rfl ?_
                    refine wa_iconst ?_
                    refine wb_iast 320 rfl (wy_pr rfl) wt_320 (n := 8000) ((w_up_slot (by decide)).trans ((w_up_slot (by decide)).trans ((w_up_slot (by decide)).trans ((w_up_slot (by decide)).trans ((w_up_slot (by decide)).trans (((hfB 320 (-1) (by unfold msM; omega)).trans ((ml_320 hM))))))))) (by omega) (by omega) ⟨(by omega), (by omega)⟩ ?_
                    refine wa_aload_n (n := 0) rfl ?_
                    refine wb_gf4 237 rfl (wy_pr rfl) wt_237 wf_15_77 (v := 321) wl_237_77 ?_
                    refine wa_iload_n (n := 2) rfl ?_
                    refine wa_iconst ?_
                    refine wb_iast 321 rfl (wy_pr rfl) wt_321 (n := 8000) ((w_up_slot (by decide)).trans ((w_up_slot (by decide)).trans ((w_up_slot (by decide)).trans ((w_up_slot (by decide)).trans ((w_up_slot (by decide)).trans ((w_up_slot (by decide)).trans (((hfB 321 (-1) (by unfold msM; omega)).trans ((ml_321 hM)))))))))) (by omega) (by omega) ⟨(by omega), (by omega)⟩ ?_
                    refine wa_aload_n (n := 0) rfl ?_
                    refine wb_gf4 237 rfl (wy_pr rfl) wt_237 wf_15_78 (v := 322) wl_237_78 ?_
                    refine wa_iload_n (n := 2) rfl ?_
                    refine wa_iconst ?_
                    refine wb_zast 322 rfl (wy_pr rfl) wt_322 (n := 8000) ((w_up_slot (by decide)).trans ((w_up_slot (by decide)).trans ((w_up_slot (by decide)).trans ((w_up_slot (by decide)).trans ((w_up_slot (by decide)).trans ((w_up_slot (by decide)).trans ((w_up_slot (by decide)).trans (((hfB 322 (-1) (by unfold msM; omega)).trans ((ml_322 hM))))))))))) (by omega) (by omega) ⟨(by omega), (by omega)⟩ ?_
                    refine wa_aload_n (n := 0) rfl ?_
                    refine wb_gf4 237 rfl (wy_pr rfl) wt_237 wf_15_79 (v := 323) wl_237_79 ?_
                    refine wa_iload_n (n := 2) rfl ?_
                    refine wa_iconst ?_
                    refine wb_iast 323 rfl (wy_pr rfl) wt_323 (n := 8000) ((w_up_slot (by decide)).trans ((w_up_slot (by decide)).trans ((w_up_slot (by decide)).trans ((w_up_slot (by decide)).trans ((w_up_slot (by decide)).trans ((w_up_slot (by decide)).trans ((w_up_slot (by decide)).trans ((w_up_slot (by decide)).trans (((hfB 323 (-1) (by unfold msM; omega)).trans ((ml_323 hM)))))))))))) (by omega) (by omega) ⟨(by omega), (by omega)⟩ ?_
                    refine wa_aload_n (n := 0) rfl ?_
                    refine wb_gf4 237 rfl (wy_pr rfl) wt_237 wf_15_80 (v := 324) wl_237_80 ?_
                    refine wa_iload_n (n := 2) rfl ?_
                    refine wa_iconst ?_
                    refine wb_iast 324 rfl (wy_pr rfl) wt_324 (n := 8000) ((w_up_slot (by decide)).trans ((w_up_slot (by decide)).trans ((w_up_slot (by decide)).trans ((w_up_slot (by decide)).trans ((w_up_slot (by decide)).trans ((w_up_slot (by decide)).trans ((w_up_slot (by decide)).trans ((w_up_slot (by decide)).trans ((w_up_slot (by decide)).trans (((hfB 324 (-1) (by unfold msM; omega)).trans ((ml_324 hM))))))))))))) (by omega) (by omega) ⟨(by omega), (by omega)⟩ ?_
                    refine wa_aload_n (n := 0) rfl ?_
                    refine wa_dup (by decide) ?_
                    refine wb_gfi 237 rfl (wy_pr rfl) wt_237 wf_15_68 (v := g) ((w_up_slot (by decide)).trans ((w_up_slot (by decide)).trans ((w_up_slot (by decide)).trans ((w_up_slot (by decide)).trans ((w_up_slot (by decide)).trans ((w_up_slot (by decide)).trans ((w_up_slot (by decide)).trans ((w_up_slot (by decide)).trans ((w_up_slot (by decide)).trans ((w_up_slot (by decide)).trans (((hfB 237 68 (by unfold msM; omega)).trans (hg))))))))))))) (fun r122 => ?_)
                    refine wa_iconst ?_
                    refine wa_iadd ?_
                    refine wb_pfi 237 rfl (wy_pr rfl) wt_237 wf_15_68 (n := 68) rfl ⟨(by omega), (by omega)⟩ ?_
                    refine wa_aload_n (n := 0) rfl ?_
                    refine wa_dup (by decide) ?_
                    refine wb_gfi 237 rfl (wy_pr rfl) wt_237 wf_15_62 (v := u0) ((w_up_at (by decide)).trans ((w_up_slot (by decide)).trans ((w_up_slot (by decide)).trans ((w_up_slot (by decide)).trans ((w_up_slot (by decide)).trans ((w_up_slot (by decide)).trans ((w_up_slot (by decide)).trans ((w_up_slot (by decide)).trans ((w_up_slot (by decide)).trans ((w_up_slot (by decide)).trans ((w_up_slot (by decide)).trans (((hfB 237 62 (by unfold msM; omega)).trans (hu0)))))))))))))) (fun r123 => ?_)
                    refine wa_iconst ?_
                    refine wa_iadd ?_
                    refine wb_pfi 237 rfl (wy_pr rfl) wt_237 wf_15_62 (n := 62) rfl ⟨(by omega), (by omega)⟩ ?_
                    refine wa_iload_n (n := 2) rfl ?_
                    refine wa_ireturn rfl ?_
                    show wJ _ _ _ _ _ _ _ _ _ _
                    refine wa_istore (n := 6) rfl ?_
                    refine wa_aload_n (n := 0) rfl ?_
                    refine wb_gf4 237 rfl (wy_pr rfl) wt_237 wf_15_71 (v := 315) wl_237_71 ?_
                    refine wa_iload (n := 6) rfl ?_
                    refine wa_iload (n := 5) rfl ?_
                    refine wb_iast 315 rfl (wy_pr rfl) wt_315 (n := 8000) ((w_up_slot (by decide)).trans ((w_up_slot (by decide)).trans ((w_up_slot (by decide)).trans ((w_up_slot (by decide)).trans ((w_up_slot (by decide)).trans ((w_up_slot (by decide)).trans ((w_up_slot (by decide)).trans ((w_up_slot (by decide)).trans ((w_up_slot (by decide)).trans ((w_up_slot (by decide)).trans ((w_up_at (by omega)).trans ((w_up_slot (by decide)).trans (((hfB 315 (-1) (by unfold msM; omega)).trans ((ml_315 hM)))))))))))))))) (by omega) (by omega) ⟨(by omega), (by omega)⟩ ?_
                    refine wa_aload_n (n := 0) rfl ?_
                    refine wa_iload_n (n := 1) rfl ?_
                    refine wa_iconst ?_
                    refine wa_iload (n := 6) rfl ?_
                    refine wa_i2l (w_rg0 (by omega) (by omega)) ?_
                    refine wa_aload_n (n := 0) rfl ?_
                    refine wb_gfi 237 rfl (wy_pr rfl) wt_237 wf_15_176 (v := en) ((w_up_slot (by decide)).trans ((w_up_at (by decide)).trans ((w_up_at (by decide)).trans ((w_up_slot (by decide)).trans ((w_up_slot (by decide)).trans ((w_up_slot (by decide)).trans ((w_up_slot (by decide)).trans ((w_up_slot (by decide)).trans ((w_up_slot (by decide)).trans ((w_up_slot (by decide)).trans ((w_up_slot (by decide)).trans ((w_up_slot (by decide)).trans ((w_up_slot (by decide)).trans (((hfB 237 176 (by unfold msM; omega)).trans (h76)))))))))))))))) (fun r124 => ?_)
                    obtain ⟨X, hXe⟩ : ∃ X : wS, X = (w_up (ntZ 4 g u0 Sq119) 315 g sh) := ⟨_, rfl⟩
                    rw [show (w_up (w_up (w_up (w_up (w_up (w_up (w_up (w_up (w_up (w_up (w_up (w_up (w_up Sq119 314 g 4) 315 g (-1)) 316 g (-1)) 317 g 0) 319 g (-1)) 320 g (-1)) 321 g (-1)) 322 g 0) 323 g 0) 324 g 0) 237 68 (g + 1)) 237 62 (u0 + 1)) 315 g sh) = X from hXe.symm]
                    have hfx : ∀ (j : Nat) (x : Int), ¬ nwM g j x → ¬ msM j x → X j x = S j x := fun j x h1 h2 => by rw [hXe]; exact (nw_f j x h1).trans (hfB j x h2)
                    have hMX : w_ML X := ML_w (P := fun j x => nwM g j x ∨ msM j x) hM (fun j x hj => hfx j x (fun y => hj (Or.inl y)) (fun y => hj (Or.inr y))) (fun j z => by unfold nwM msM at z; omega)
                    have hX62 : X 237 62 = u0 + 1 := by rw [hXe]; exact nw_62
                    refine wa_cv 237 rfl (wy_pr rfl) wt_237 (M2 := fun _ => False) rfl at_M_callsFun ⟨_, rfl⟩ rfl rfl ⟨trivial, trivial, (Or.inr ⟨wy_pr rfl, fun q => q⟩), trivial, trivial, trivial⟩ trivial (fun _ _ q => False.elim q) (cfM_c (S := X) (t := t) (c := c) (p := p) (h := h) (tp := tp) (fn := fn) (kd := 4) (bt := g) (en := en) (u0 := u0 + 1) (mP_ag hP hMX (fun j x hj => hfx j x (by unfold nwM; omega) (by unfold msM; omega))) ((hfx 237 69 (by unfold nwM; omega) (by unfold msM; omega)).trans hn) ⟨by omega, by omega⟩ hX62 ⟨by omega, by omega⟩ ((hfx 237 94 (by unfold nwM; omega) (by unfold msM; omega)).trans hu) ((hfx 237 63 (by unfold nwM; omega) (by unfold msM; omega)).trans hv) ⟨by omega, by omega⟩ ((hfx 319 _ (by unfold nwM; omega) (by unfold msM; omega)).trans hf) ((hfx 320 _ (by unfold nwM; omega) (by unfold msM; omega)).trans har) hf1 ((hfx 296 _ (by unfold nwM; omega) (by unfold msM; omega)).trans hvs) ((hfx 295 _ (by unfold nwM; omega) (by unfold msM; omega)).trans hpn) hvs1 hu2 hv2 ((hfx 237 173 (by unfold nwM; omega) (by unfold msM; omega)).trans hr) hpl hen ((hfx 360 _ (by unfold nwM; omega) (by unfold msM; omega)).trans hz) (fun _ => by omega) ⟨by omega, by omega⟩ ⟨by omega, by omega⟩) (fun oq125 Sq125 hp126 q125 => ?_)
                    rcases q125 with ⟨hq0, rfl, rfl⟩ | ⟨hq0, hq1, rfl, rfl⟩ | ⟨hq0, hq1, rfl, hcf⟩
                    · skip
                      exfalso; omega
                    · skip
                      exfalso; omega
                    · skip
                      show wJ _ _ _ _ _ _ _ _ _ _
                      have hB2t := cf_154 hcf
                      have hB2l := (cf_370 hcf (by omega)).trans (ml_370 hMX)
                      refine wa_aload_n (n := 0) rfl ?_
                      refine wb_gf4 237 rfl (wy_pr rfl) wt_237 wf_15_145 (v := 370) wl_237_145 ?_
                      refine wa_aload_n (n := 0) rfl ?_
                      refine wb_gfi 237 rfl (wy_pr rfl) wt_237 wf_15_154 (v := (200 * t + c)) (hB2t) (fun r127 => ?_)
                      refine wa_iload (n := 6) rfl ?_
                      refine wb_iast 370 rfl (wy_pr rfl) wt_370 (n := 400) (hB2l) (by omega) (by omega) ⟨(by omega), (by omega)⟩ ?_
                      refine wa_return rfl ?_
                      exact Or.inr (Or.inr ⟨by omega, by omega, rfl, sh, _, _, hB, by rw [← hXe]; exact hcf, rfl⟩)
                · skip
                  exact absurd c118 (by omega)
        · skip
          exfalso; omega
    · skip
      refine wJ_S (nwl (fn := fn) hM ht hH hw hT h82 ⟨by omega, by omega⟩ hpo hpv (T.length + 1) fn (-1) (cEn_m T.length (T.length + 1) fn (by omega) (wSh_en hw (Or.inr hf5))) (Or.inr hf5) rfl ?_) ⟨rfl, rfl, rfl, rfl, rfl, rfl, trivial⟩
      refine wJ_S (L2 := [(0, (2, 237)), (1, (0, fn)), (3, (0, np))]) ?_ ⟨rfl, rfl, by rw [hnpe, show npA T H nm fn = _ from if_neg cn]; rfl, trivial⟩
      refine wa_aload_n (n := 0) rfl ?_
      refine wa_aload_n (n := 0) rfl ?_
      refine wa_aload_n (n := 0) rfl ?_
      refine wb_gf4 237 rfl (wy_pr rfl) wt_237 wf_15_75 (v := 319) wl_237_75 ?_
      refine wa_iload_n (n := 1) rfl ?_
      refine wb_iald 319 rfl (wy_pr rfl) wt_319 (n := 8000) ((ml_319 hM)) (by omega) (by omega) (v := f) (hf) (fun r108 => ?_)
      refine wa_iconst ?_
      refine wa_cv 237 rfl (wy_pr rfl) wt_237 (M2 := fun _ => False) rfl at_M_hasRoomForCall ⟨_, rfl⟩ rfl rfl ⟨(Or.inr ⟨wy_pr rfl, fun q => q⟩), trivial, trivial, trivial⟩ ⟨(Or.inr ⟨wy_pr rfl, fun q => q⟩), trivial⟩ (fun _ _ q => False.elim q) ?_ (fun _ _ _ q => q)
      refine wa_aload_n (n := 0) rfl ?_
      refine wa_iconst ?_
      refine wa_iload_n (n := 2) rfl ?_
      refine wa_iadd ?_
      refine wa_cv 237 rfl (wy_pr rfl) wt_237 (M2 := fun _ => False) rfl at_M_hasRoomFor ⟨_, rfl⟩ rfl rfl ⟨(Or.inr ⟨wy_pr rfl, fun q => q⟩), trivial, trivial, trivial⟩ trivial (fun _ _ q => False.elim q) ?_ (fun _ _ _ q => q)
      refine wa_aload_n (n := 0) rfl ?_
      refine wb_gfi 237 rfl (wy_pr rfl) wt_237 wf_15_62 (v := u0) (hu0) (fun r109 => ?_)
      refine wa_iload_n (n := 1) rfl ?_
      refine wa_iadd ?_
      refine wa_sipush (by omega) ?_
      refine wa_icmpgt (w_rg0 (by omega) (by omega)) (w_rg0 (by omega) (by omega)) ⟨_, rfl⟩ (fun c110 => ?_) (fun c110 => ?_)
      · skip
        refine wa_iconst ?_
        refine wa_fall ⟨_, rfl⟩ ?_
        refine wa_zreturn rfl (Or.inl rfl) ?_
        show wJ _ _ _ _ _ _ _ _ _ _
        refine wa_ifeq (w_rg0 (by omega) (by omega)) ⟨_, rfl⟩ (fun c111 => ?_) (fun c111 => ?_)
        · skip
          refine wa_iconst ?_
          refine wa_fall ⟨_, rfl⟩ ?_
          refine wa_zreturn rfl (Or.inl rfl) ?_
          show wJ _ _ _ _ _ _ _ _ _ _
          refine wa_cv 237 rfl (wy_pr rfl) wt_237 (M2 := fun _ => False) rfl at_M_room ⟨_, rfl⟩ rfl rfl ⟨(Or.inr ⟨wy_pr rfl, fun q => q⟩), trivial, trivial, trivial⟩ trivial (fun _ _ q => False.elim q) ?_ (fun _ _ _ q => q)
          refine wa_iload_n (n := 1) rfl ?_
          refine wa_ifne (w_rg0 (by omega) (by omega)) ⟨_, rfl⟩ (fun c112 => ?_) (fun c112 => ?_)
          · skip
            exact absurd c112 (by omega)
          · skip
            refine wa_aload_n (n := 0) rfl ?_
            refine wb_gf4 237 rfl (wy_pr rfl) wt_237 wf_15_1 (v := 238) wl_237_1 ?_
            refine wa_bipush (w_rg2 (by omega) (by omega)) ?_
            refine wa_iconst ?_
            refine wa_cv 238 rfl (wy_pr rfl) wt_238 (M2 := fun _ => False) rfl at_MH_of ⟨_, rfl⟩ rfl rfl ⟨(Or.inr ⟨wy_pr rfl, fun q => q⟩), trivial, trivial⟩ trivial (fun _ _ q => False.elim q) ?_ (fun _ _ _ q => q)
            refine wa_aload_n (n := 0) rfl ?_
            refine wa_iload_n (n := 1) rfl ?_
            refine wb_pfi 238 rfl (wy_pr rfl) wt_238 wf_11_5 (n := 5) rfl ⟨(by omega), (by omega)⟩ ?_
            refine wa_aload_n (n := 0) rfl ?_
            refine wa_iload_n (n := 2) rfl ?_
            refine wb_pfi 238 rfl (wy_pr rfl) wt_238 wf_11_6 (n := 6) rfl ⟨(by omega), (by omega)⟩ ?_
            refine wa_aload_n (n := 0) rfl ?_
            refine wa_oreturn rfl ?_
            show wJ _ _ _ _ _ _ _ _ _ _
            refine wa_th (j := 238) ?_
            refine ⟨rfl, ?_⟩
            exact Or.inr (Or.inl ⟨by omega, Or.inl (by omega), rfl, rfl⟩)
        · skip
          exact absurd c111 (by omega)
      · skip
        refine wa_iconst ?_
        refine wa_goto ⟨_, rfl⟩ ?_
        refine wa_zreturn rfl (Or.inr rfl) ?_
        show wJ _ _ _ _ _ _ _ _ _ _
        refine wa_ifeq (w_rg0 (by omega) (by omega)) ⟨_, rfl⟩ (fun c113 => ?_) (fun c113 => ?_)
        · skip
          exact absurd c113 (by omega)
        · skip
          refine wa_aload_n (n := 0) rfl ?_
          refine wb_gfi 237 rfl (wy_pr rfl) wt_237 wf_15_63 (v := v0) (hv) (fun r114 => ?_)
          refine wa_aload_n (n := 0) rfl ?_
          refine wb_gf4 237 rfl (wy_pr rfl) wt_237 wf_15_38 (v := 296) wl_237_38 ?_
          refine wa_iload_n (n := 1) rfl ?_
          refine wb_iald 296 rfl (wy_pr rfl) wt_296 (n := 400) ((ml_296 hM)) (by omega) (by omega) (v := vs) (hvs) (fun r115 => ?_)
          refine wa_iadd ?_
          refine wb_ki (n := 60000) rfl ?_
          refine wa_icmpgt (w_rg0 (by omega) (by omega)) (w_rg0 (by omega) (by omega)) ⟨_, rfl⟩ (fun c116 => ?_) (fun c116 => ?_)
          · skip
            refine wa_iconst ?_
            refine wa_fall ⟨_, rfl⟩ ?_
            refine wa_zreturn rfl (Or.inl rfl) ?_
            show wJ _ _ _ _ _ _ _ _ _ _
            refine wa_cv 237 rfl (wy_pr rfl) wt_237 (M2 := fun _ => False) rfl at_M_room ⟨_, rfl⟩ rfl rfl ⟨(Or.inr ⟨wy_pr rfl, fun q => q⟩), trivial, trivial, trivial⟩ trivial (fun _ _ q => False.elim q) ?_ (fun _ _ _ q => q)
            refine wa_iload_n (n := 1) rfl ?_
            refine wa_ifne (w_rg0 (by omega) (by omega)) ⟨_, rfl⟩ (fun c117 => ?_) (fun c117 => ?_)
            · skip
              exact absurd c117 (by omega)
            · skip
              refine wa_aload_n (n := 0) rfl ?_
              refine wb_gf4 237 rfl (wy_pr rfl) wt_237 wf_15_1 (v := 238) wl_237_1 ?_
              refine wa_bipush (w_rg2 (by omega) (by omega)) ?_
              refine wa_iconst ?_
              refine wa_cv 238 rfl (wy_pr rfl) wt_238 (M2 := fun _ => False) rfl at_MH_of ⟨_, rfl⟩ rfl rfl ⟨(Or.inr ⟨wy_pr rfl, fun q => q⟩), trivial, trivial⟩ trivial (fun _ _ q => False.elim q) ?_ (fun _ _ _ q => q)
              refine wa_aload_n (n := 0) rfl ?_
              refine wa_iload_n (n := 1) rfl ?_
              refine wb_pfi 238 rfl (wy_pr rfl) wt_238 wf_11_5 (n := 5) rfl ⟨(by omega), (by omega)⟩ ?_
              refine wa_aload_n (n := 0) rfl ?_
              refine wa_iload_n (n := 2) rfl ?_
              refine wb_pfi 238 rfl (wy_pr rfl) wt_238 wf_11_6 (n := 6) rfl ⟨(by omega), (by omega)⟩ ?_
              refine wa_aload_n (n := 0) rfl ?_
              refine wa_oreturn rfl ?_
              show wJ _ _ _ _ _ _ _ _ _ _
              refine wa_th (j := 238) ?_
              refine ⟨rfl, ?_⟩
              exact Or.inr (Or.inl ⟨by omega, Or.inl (by omega), rfl, rfl⟩)
          · skip
            refine wa_iconst ?_
            refine wa_goto ⟨_, rfl⟩ ?_
            refine wa_zreturn rfl (Or.inr rfl) ?_
            show wJ _ _ _ _ _ _ _ _ _ _
            refine wa_cv 237 rfl (wy_pr rfl) wt_237 (M2 := fun _ => False) rfl at_M_room ⟨_, rfl⟩ rfl rfl ⟨(Or.inr ⟨wy_pr rfl, fun q => q⟩), trivial, trivial, trivial⟩ trivial (fun _ _ q => False.elim q) ?_ (fun _ _ _ q => q)
            refine wa_iload_n (n := 1) rfl ?_
            refine wa_ifne (w_rg0 (by omega) (by omega)) ⟨_, rfl⟩ (fun c118 => ?_) (fun c118 => ?_)
            · skip
              refine wa_return rfl ?_
              show wJ _ _ _ _ _ _ _ _ _ _
              refine wa_aload_n (n := 0) rfl ?_
              refine wa_iconst ?_
              refine wa_iload_n (n := 3) rfl ?_
              refine wa_iconst ?_
              refine wa_cv 237 rfl (wy_pr rfl) wt_237 (M2 := fun _ => False) rfl at_M_madeShape ⟨_, rfl⟩ rfl rfl ⟨(Or.inr ⟨wy_pr rfl, fun q => q⟩), trivial, trivial, trivial⟩ trivial (fun _ _ q => False.elim q) (wJ_mono (r_ms (be := -1) (pr := np) (nm := -1) (r := r) (u4 := u4) (n := (T.length : Int)) hM hH hw.1 (fun _ => rfl) ⟨by omega, by have := wHs_0 hw.1; omega⟩ hnr ⟨by omega, by omega⟩ hrr h66 hu4) (fun o Z hz => (hz.elim (fun y => Or.inr ⟨r, y.2.1, Or.inl ⟨y.1, rfl, y.2.2⟩⟩) (fun y => y.elim (fun y => Or.inl y) (fun y => Or.inr ⟨_, y.2.2.1, Or.inr ⟨y.1, y.2.1, rfl, y.2.2.2⟩⟩)) : (r = -1 ∧ 4000 ≤ u4 ∧ o = .inr 238 ∧ hZ 99 S = Z) ∨ ∃ (sh : Int), o = .inl (some (0, sh)) ∧ msB np r u4 H S sh Z))) (fun oq119 Sq119 hp120 q119 => ?_)
              rcases q119 with ⟨hm0, hm1, rfl, rfl⟩ | ⟨sh, rfl, hB⟩
              · skip
                refine ⟨rfl, ?_⟩
                exact Or.inr (Or.inl ⟨by omega, Or.inr ⟨hm0, hm1⟩, rfl, rfl⟩)
              · skip
                show wJ _ _ _ _ _ _ _ _ _ _
                have hfB := msB_f hB
                have hshr : 0 ≤ sh ∧ sh ≤ 4001 := by have := hw.1.2.1; rcases hB with ⟨y1, y2, -⟩ | ⟨y1, y2, y3, -⟩ <;> omega
                refine wa_istore (n := 5) rfl ?_
                refine wa_aload_n (n := 0) rfl ?_
                refine wa_iconst ?_
                refine wa_cv 237 rfl (wy_pr rfl) wt_237 (M2 := fun _ => False) rfl at_M_newThing ⟨_, rfl⟩ rfl rfl ⟨trivial, (Or.inr ⟨wy_pr rfl, fun q => q⟩), trivial, trivial, trivial⟩ trivial (fun _ _ q => False.elim q) ?_ (fun _ _ _ q => q)
                refine wa_aload_n (n := 0) rfl ?_
                refine wb_gfi 237 rfl (wy_pr rfl) wt_237 wf_15_68 (v := g) (((hfB 237 68 (by unfold msM; omega)).trans (hg))) (fun r121 => ?_)
                refine wa_istore_n (n := 2) rfl ?_
                refine wa_aload_n (n := 0) rfl ?_
                refine wb_gf4 237 rfl (wy_pr rfl) wt_237 wf_15_70 (v := 314) wl_237_70 ?_
                refine wa_iload_n (n := 2) rfl ?_
                refine wa_iload_n (n := 1) rfl ?_
                refine wb_iast 314 rfl (wy_pr rfl) wt_314 (n := 8000) (((hfB 314 (-1) (by unfold msM; omega)).trans ((ml_314 hM)))) (by omega) (by omega) ⟨(by omega), (by omega)⟩ ?_
                refine wa_aload_n (n := 0) rfl ?_
                refine wb_gf4 237 rfl (wy_pr rfl) wt_237 wf_15_71 (v := 315) wl_237_71 ?_
                refine wa_iload_n (n := 2) rfl ?_
                refine wa_iconst ?_
                refine wb_iast 315 rfl (wy_pr rfl) wt_315 (n := 8000) ((w_up_slot (by decide)).trans (((hfB 315 (-1) (by unfold msM; omega)).trans ((ml_315 hM))))) (by omega) (by omega) ⟨(by omega), (by omega)⟩ ?_
                refine wa_aload_n (n := 0) rfl ?_
                refine wb_gf4 237 rfl (wy_pr rfl) wt_237 wf_15_72 (v := 316) wl_237_72 ?_
                refine wa_iload_n (n := 2) rfl ?_
                refine wa_iconst ?_
                refine wb_iast 316 rfl (wy_pr rfl) wt_316 (n := 8000) ((w_up_slot (by decide)).trans ((w_up_slot (by decide)).trans (((hfB 316 (-1) (by unfold msM; omega)).trans ((ml_316 hM)))))) (by omega) (by omega) ⟨(by omega), (by omega)⟩ ?_
                refine wa_aload_n (n := 0) rfl ?_
                refine wb_gf4 237 rfl (wy_pr rfl) wt_237 wf_15_73 (v := 317) wl_237_73 ?_
                refine wa_iload_n (n := 2) rfl ?_
                refine wa_iconst ?_
                refine wb_iast 317 rfl (wy_pr rfl) wt_317 (n := 8000) ((w_up_slot (by decide)).trans ((w_up_slot (by decide)).trans ((w_up_slot (by decide)).trans (((hfB 317 (-1) (by unfold msM; omega)).trans ((ml_317 hM))))))) (by omega) (by omega) ⟨(by omega), (by omega)⟩ ?_
                refine wa_aload_n (n := 0) rfl ?_
                refine wb_gf4 237 rfl (wy_pr rfl) wt_237 wf_15_75 (v := 319) wl_237_75 ?_
                refine wa_iload_n (n := 2) rfl ?_
                refine wa_iconst ?_
                refine wb_iast 319 rfl (wy_pr rfl) wt_319 (n := 8000) ((w_up_slot (by decide)).trans ((w_up_slot (by decide)).trans ((w_up_slot (by decide)).trans ((w_up_slot (by decide)).trans (((hfB 319 (-1) (by unfold msM; omega)).trans ((ml_319 hM)))))))) (by omega) (by omega) ⟨(by omega), (by omega)⟩ ?_
                refine wa_aload_n (n := 0) rfl ?_
                refine wb_gf4 237 rfl (wy_pr rfl) wt_237 wf_15_76 (v := 320) wl_237_76 ?_
                refine wa_iload_n (n := 2) rfl ?_
                refine wa_iconst ?_
                refine wb_iast 320 rfl (wy_pr rfl) wt_320 (n := 8000) ((w_up_slot (by decide)).trans ((w_up_slot (by decide)).trans ((w_up_slot (by decide)).trans ((w_up_slot (by decide)).trans ((w_up_slot (by decide)).trans (((hfB 320 (-1) (by unfold msM; omega)).trans ((ml_320 hM))))))))) (by omega) (by omega) ⟨(by omega), (by omega)⟩ ?_
                refine wa_aload_n (n := 0) rfl ?_
                refine wb_gf4 237 rfl (wy_pr rfl) wt_237 wf_15_77 (v := 321) wl_237_77 ?_
                refine wa_iload_n (n := 2) rfl ?_
                refine wa_iconst ?_
                refine wb_iast 321 rfl (wy_pr rfl) wt_321 (n := 8000) ((w_up_slot (by decide)).trans ((w_up_slot (by decide)).trans ((w_up_slot (by decide)).trans ((w_up_slot (by decide)).trans ((w_up_slot (by decide)).trans ((w_up_slot (by decide)).trans (((hfB 321 (-1) (by unfold msM; omega)).trans ((ml_321 hM)))))))))) (by omega) (by omega) ⟨(by omega), (by omega)⟩ ?_
                refine wa_aload_n (n := 0) rfl ?_
                refine wb_gf4 237 rfl (wy_pr rfl) wt_237 wf_15_78 (v := 322) wl_237_78 ?_
                refine wa_iload_n (n := 2) rfl ?_
                refine wa_iconst ?_
                refine wb_zast 322 rfl (wy_pr rfl) wt_322 (n := 8000) ((w_up_slot (by decide)).trans ((w_up_slot (by decide)).trans ((w_up_slot (by decide)).trans ((w_up_slot (by decide)).trans ((w_up_slot (by decide)).trans ((w_up_slot (by decide)).trans ((w_up_slot (by decide)).trans (((hfB 322 (-1) (by unfold msM; omega)).trans ((ml_322 hM))))))))))) (by omega) (by omega) ⟨(by omega), (by omega)⟩ ?_
                refine wa_aload_n (n := 0) rfl ?_
                refine wb_gf4 237 rfl (wy_pr rfl) wt_237 wf_15_79 (v := 323) wl_237_79 ?_
                refine wa_iload_n (n := 2) rfl ?_
                refine wa_iconst ?_
                refine wb_iast 323 rfl (wy_pr rfl) wt_323 (n := 8000) ((w_up_slot (by decide)).trans ((w_up_slot (by decide)).trans ((w_up_slot (by decide)).trans ((w_up_slot (by decide)).trans ((w_up_slot (by decide)).trans ((w_up_slot (by decide)).trans ((w_up_slot (by decide)).trans ((w_up_slot (by decide)).trans (((hfB 323 (-1) (by unfold msM; omega)).trans ((ml_323 hM)))))))))))) (by omega) (by omega) ⟨(by omega), (by omega)⟩ ?_
                refine wa_aload_n (n := 0) rfl ?_
                refine wb_gf4 237 rfl (wy_pr rfl) wt_237 wf_15_80 (v := 324) wl_237_80 ?_
                refine wa_iload_n (n := 2) rfl ?_
                refine wa_iconst ?_
                refine wb_iast 324 rfl (wy_pr rfl) wt_324 (n := 8000) ((w_up_slot (by decide)).trans ((w_up_slot (by decide)).trans ((w_up_slot (by decide)).trans ((w_up_slot (by decide)).trans ((w_up_slot (by decide)).trans ((w_up_slot (by decide)).trans ((w_up_slot (by decide)).trans ((w_up_slot (by decide)).trans ((w_up_slot (by decide)).trans (((hfB 324 (-1) (by unfold msM; omega)).trans ((ml_324 hM))))))))))))) (by omega) (by omega) ⟨(by omega), (by omega)⟩ ?_
                refine wa_aload_n (n := 0) rfl ?_
                refine wa_dup (by decide) ?_
                refine wb_gfi 237 rfl (wy_pr rfl) wt_237 wf_15_68 (v := g) ((w_up_slot (by decide)).trans ((w_up_slot (by decide)).trans ((w_up_slot (by decide)).trans ((w_up_slot (by decide)).trans ((w_up_slot (by decide)).trans ((w_up_slot (by decide)).trans ((w_up_slot (by decide)).trans ((w_up_slot (by decide)).trans ((w_up_slot (by decide)).trans ((w_up_slot (by decide)).trans (((hfB 237 68 (by unfold msM; omega)).trans (hg))))))))))))) (fun r122 => ?_)
                refine wa_iconst ?_
                refine wa_iadd ?_
                refine wb_pfi 237 rfl (wy_pr rfl) wt_237 wf_15_68 (n := 68) rfl ⟨(by omega), (by omega)⟩ ?_
                refine wa_aload_n (n := 0) rfl ?_
                refine wa_dup (by decide) ?_
                refine wb_gfi 237 rfl (wy_pr rfl) wt_237 wf_15_62 (v := u0) ((w_up_at (by decide)).trans ((w_up_slot (by decide)).trans ((w_up_slot (by decide)).trans ((w_up_slot (by decide)).trans ((w_up_slot (by decide)).trans ((w_up_slot (by decide)).trans ((w_up_slot (by decide)).trans ((w_up_slot (by decide)).trans ((w_up_slot (by decide)).trans ((w_up_slot (by decide)).trans ((w_up_slot (by decide)).trans (((hfB 237 62 (by unfold msM; omega)).trans (hu0)))))))))))))) (fun r123 => ?_)
                refine wa_iconst ?_
                refine wa_iadd ?_
                refine wb_pfi 237 rfl (wy_pr rfl) wt_237 wf_15_62 (n := 62) rfl ⟨(by omega), (by omega)⟩ ?_
                refine wa_iload_n (n := 2) rfl ?_
                refine wa_ireturn rfl ?_
                show wJ _ _ _ _ _ _ _ _ _ _
                refine wa_istore (n := 6) rfl ?_
                refine wa_aload_n (n := 0) rfl ?_
                refine wb_gf4 237 rfl (wy_pr rfl) wt_237 wf_15_71 (v := 315) wl_237_71 ?_
                refine wa_iload (n := 6) rfl ?_
                refine wa_iload (n := 5) rfl ?_
                refine wb_iast 315 rfl (wy_pr rfl) wt_315 (n := 8000) ((w_up_slot (by decide)).trans ((w_up_slot (by decide)).trans ((w_up_slot (by decide)).trans ((w_up_slot (by decide)).trans ((w_up_slot (by decide)).trans ((w_up_slot (by decide)).trans ((w_up_slot (by decide)).trans ((w_up_slot (by decide)).trans ((w_up_slot (by decide)).trans ((w_up_slot (by decide)).trans ((w_up_at (by omega)).trans ((w_up_slot (by decide)).trans (((hfB 315 (-1) (by unfold msM; omega)).trans ((ml_315 hM)))))))))))))))) (by omega) (by omega) ⟨(by omega), (by omega)⟩ ?_
                refine wa_aload_n (n := 0) rfl ?_
                refine wa_iload_n (n := 1) rfl ?_
                refine wa_iconst ?_
                refine wa_iload (n := 6) rfl ?_
                refine wa_i2l (w_rg0 (by omega) (by omega)) ?_
                refine wa_aload_n (n := 0) rfl ?_
                refine wb_gfi 237 rfl (wy_pr rfl) wt_237 wf_15_176 (v := en) ((w_up_slot (by decide)).trans ((w_up_at (by decide)).trans ((w_up_at (by decide)).trans ((w_up_slot (by decide)).trans ((w_up_slot (by decide)).trans ((w_up_slot (by decide)).trans ((w_up_slot (by decide)).trans ((w_up_slot (by decide)).trans ((w_up_slot (by decide)).trans ((w_up_slot (by decide)).trans ((w_up_slot (by decide)).trans ((w_up_slot (by decide)).trans ((w_up_slot (by decide)).trans (((hfB 237 176 (by unfold msM; omega)).trans (h76)))))))))))))))) (fun r124 => ?_)
                obtain ⟨X, hXe⟩ : ∃ X : wS, X = (w_up (ntZ 4 g u0 Sq119) 315 g sh) := ⟨_, rfl⟩
                rw [show (w_up (w_up (w_up (w_up (w_up (w_up (w_up (w_up (w_up (w_up (w_up (w_up (w_up Sq119 314 g 4) 315 g (-1)) 316 g (-1)) 317 g 0) 319 g (-1)) 320 g (-1)) 321 g (-1)) 322 g 0) 323 g 0) 324 g 0) 237 68 (g + 1)) 237 62 (u0 + 1)) 315 g sh) = X from hXe.symm]
                have hfx : ∀ (j : Nat) (x : Int), ¬ nwM g j x → ¬ msM j x → X j x = S j x := fun j x h1 h2 => by rw [hXe]; exact (nw_f j x h1).trans (hfB j x h2)
                have hMX : w_ML X := ML_w (P := fun j x => nwM g j x ∨ msM j x) hM (fun j x hj => hfx j x (fun y => hj (Or.inl y)) (fun y => hj (Or.inr y))) (fun j z => by unfold nwM msM at z; omega)
                have hX62 : X 237 62 = u0 + 1 := by rw [hXe]; exact nw_62
                refine wa_cv 237 rfl (wy_pr rfl) wt_237 (M2 := fun _ => False) rfl at_M_callsFun ⟨_, rfl⟩ rfl rfl ⟨trivial, trivial, (Or.inr ⟨wy_pr rfl, fun q => q⟩), trivial, trivial, trivial⟩ trivial (fun _ _ q => False.elim q) (cfM_c (S := X) (t := t) (c := c) (p := p) (h := h) (tp := tp) (fn := fn) (kd := 4) (bt := g) (en := en) (u0 := u0 + 1) (mP_ag hP hMX (fun j x hj => hfx j x (by unfold nwM; omega) (by unfold msM; omega))) ((hfx 237 69 (by unfold nwM; omega) (by unfold msM; omega)).trans hn) ⟨by omega, by omega⟩ hX62 ⟨by omega, by omega⟩ ((hfx 237 94 (by unfold nwM; omega) (by unfold msM; omega)).trans hu) ((hfx 237 63 (by unfold nwM; omega) (by unfold msM; omega)).trans hv) ⟨by omega, by omega⟩ ((hfx 319 _ (by unfold nwM; omega) (by unfold msM; omega)).trans hf) ((hfx 320 _ (by unfold nwM; omega) (by unfold msM; omega)).trans har) hf1 ((hfx 296 _ (by unfold nwM; omega) (by unfold msM; omega)).trans hvs) ((hfx 295 _ (by unfold nwM; omega) (by unfold msM; omega)).trans hpn) hvs1 hu2 hv2 ((hfx 237 173 (by unfold nwM; omega) (by unfold msM; omega)).trans hr) hpl hen ((hfx 360 _ (by unfold nwM; omega) (by unfold msM; omega)).trans hz) (fun _ => by omega) ⟨by omega, by omega⟩ ⟨by omega, by omega⟩) (fun oq125 Sq125 hp126 q125 => ?_)
                rcases q125 with ⟨hq0, rfl, rfl⟩ | ⟨hq0, hq1, rfl, rfl⟩ | ⟨hq0, hq1, rfl, hcf⟩
                · skip
                  exfalso; omega
                · skip
                  exfalso; omega
                · skip
                  show wJ _ _ _ _ _ _ _ _ _ _
                  have hB2t := cf_154 hcf
                  have hB2l := (cf_370 hcf (by omega)).trans (ml_370 hMX)
                  refine wa_aload_n (n := 0) rfl ?_
                  refine wb_gf4 237 rfl (wy_pr rfl) wt_237 wf_15_145 (v := 370) wl_237_145 ?_
                  refine wa_aload_n (n := 0) rfl ?_
                  refine wb_gfi 237 rfl (wy_pr rfl) wt_237 wf_15_154 (v := (200 * t + c)) (hB2t) (fun r127 => ?_)
                  refine wa_iload (n := 6) rfl ?_
                  refine wb_iast 370 rfl (wy_pr rfl) wt_370 (n := 400) (hB2l) (by omega) (by omega) ⟨(by omega), (by omega)⟩ ?_
                  refine wa_return rfl ?_
                  exact Or.inr (Or.inr ⟨by omega, by omega, rfl, sh, _, _, hB, by rw [← hXe]; exact hcf, rfl⟩)
            · skip
              exact absurd c118 (by omega)
  · skip
    refine wa_aload_n (n := 0) rfl ?_
    refine wa_bipush (w_rg2 (by omega) (by omega)) ?_
    refine wa_cv 237 rfl (wy_pr rfl) wt_237 (M2 := fun _ => False) rfl at_M_error ⟨_, rfl⟩ rfl rfl ⟨(Or.inr ⟨wy_pr rfl, fun q => q⟩), trivial, trivial⟩ trivial (fun _ _ q => False.elim q) ?_ (fun _ _ _ q => q)
    refine wa_aload_n (n := 0) rfl ?_
    refine wb_gf4 237 rfl (wy_pr rfl) wt_237 wf_15_1 (v := 238) wl_237_1 ?_
    refine wa_iload_n (n := 1) rfl ?_
    refine wa_iconst ?_
    refine wa_cv 238 rfl (wy_pr rfl) wt_238 (M2 := fun _ => False) rfl at_MH_of ⟨_, rfl⟩ rfl rfl ⟨(Or.inr ⟨wy_pr rfl, fun q => q⟩), trivial, trivial⟩ trivial (fun _ _ q => False.elim q) ?_ (fun _ _ _ q => q)
    refine wa_aload_n (n := 0) rfl ?_
    refine wa_iload_n (n := 1) rfl ?_
    refine wb_pfi 238 rfl (wy_pr rfl) wt_238 wf_11_5 (n := 5) rfl ⟨(by omega), (by omega)⟩ ?_
    refine wa_aload_n (n := 0) rfl ?_
    refine wa_iload_n (n := 2) rfl ?_
    refine wb_pfi 238 rfl (wy_pr rfl) wt_238 wf_11_6 (n := 6) rfl ⟨(by omega), (by omega)⟩ ?_
    refine wa_aload_n (n := 0) rfl ?_
    refine wa_oreturn rfl ?_
    show wJ _ _ _ _ _ _ _ _ _ _
    refine wa_th (j := 238) ?_
    refine ⟨rfl, ?_⟩
    first | exact Or.inl ⟨by omega, rfl, rfl⟩ | exact Or.inr (Or.inl ⟨by omega, Or.inl (by omega), rfl, rfl⟩)
end Wi6
