/-! PART gz: gives, and what is done on things, of the reference. -/
section Wgz
variable {xs : List (Nat × List Int32)} {M : Nat → Prop} {d : Nat} {S Z A : wS} {l : List Int} {t c p h tp ba k v s kd gk gb hd wh sl vk vb es sz s0 v0 la ky vy nm : Int} {Q : wO → wS → Prop}
/-- a value comes into the place of a site's values -/
def gvZ (t ba tp p k v : Int) (S : wS) : wS := w_up (pUZ t ba k v (w_up S 359 t ba)) 366 tp (p + 1)
theorem asZ_e (j : Nat) (x : Int) (j0 : j ≠ 316) (j1 : j ≠ 317) (j2 : j ≠ 318) (j3 : j < 325 ∨ 328 < j) (j4 : j ≠ 237 ∨ (x ≠ 82 ∧ x ≠ 63)) : asZ gb nm ky vy s0 v0 sz la S j x = S j x := by
  unfold asZ
  rw [w_up_slot (by omega), w_up_slot (by omega)]
  by_cases c : sz = 0
  · rw [if_pos c]
    exact (w_up_slot (by omega)).trans ((w_up_slot (by omega)).trans ((w_up_slot (by omega)).trans ((w_up_slot (by omega)).trans ((w_up_slot (by omega)).trans ((w_up_no (by omega)).trans (w_up_no (by omega)))))))
  · rw [if_neg c]
    exact (w_up_slot (by omega)).trans ((w_up_slot (by omega)).trans ((w_up_slot (by omega)).trans ((w_up_slot (by omega)).trans ((w_up_slot (by omega)).trans ((w_up_no (by omega)).trans (w_up_no (by omega)))))))
theorem asZ_m (hM : w_ML S) (hgb : 0 ≤ gb) (hs : 0 ≤ s0) (hla : sz ≠ 0 → 0 ≤ la) : w_ML (asZ gb nm ky vy s0 v0 sz la S) := by
  unfold asZ
  by_cases c : sz = 0
  · rw [if_pos c]; exact w_ML_up (w_ML_up (w_ML_up (w_ML_up (w_ML_up (w_ML_up (w_ML_up (w_ML_up (w_ML_up hM (by first | decide | omega)) (by first | decide | omega)) hs) hs) hs) hs) hgb) hgb) hgb
  · rw [if_neg c]; exact w_ML_up (w_ML_up (w_ML_up (w_ML_up (w_ML_up (w_ML_up (w_ML_up (w_ML_up (w_ML_up hM (by first | decide | omega)) (by first | decide | omega)) hs) hs) hs) hs) (hla c)) hgb) hgb
theorem asZ_n : asZ gb nm ky vy s0 v0 sz la S 317 gb = sz + 1 := w_up_same _ _ _ _
theorem gvs_ok (hP : mP t c p h tp S) (h73 : S 237 173 = 2100 * t + ba) (hba : 0 ≤ ba ∧ ba ≤ h) (hk : -2147483648 ≤ k ∧ k ≤ 2147483647) (hv : -9223372036854775808 ≤ v ∧ v ≤ 9223372036854775807) : wJ (pe_GA xs) wY0 M (d + 2) t_M_gives ((pe_at t_M_gives.bl 0).getD (0, [])).2 [(0, (2, 237)), (1, (0, k)), (2, (1, v))] [] S (fun o Z => o = .inl none ∧ gvZ t ba tp p k v S = Z) := by
  obtain ⟨hM, ⟨mt, mt0, mt1⟩, mp, mf, ⟨mc, mc0, mc1⟩, ⟨mtp, mtq⟩, ⟨mpa, mp0, mp1⟩, mh, mh0, mh1⟩ := hP
  refine wa_aload_n (n := 0) rfl ?_
  refine wb_gf4 237 rfl (wy_pr rfl) wt_237 wf_15_134 (v := 359) wl_237_134 ?_
  refine wa_aload_n (n := 0) rfl ?_
  refine wb_gfi 237 rfl (wy_pr rfl) wt_237 wf_15_151 (v := t) (mt) (fun r1 => ?_)
  refine wa_aload_n (n := 0) rfl ?_
  refine wb_gfi 237 rfl (wy_pr rfl) wt_237 wf_15_173 (v := ((2100 * t) + ba)) (h73) (fun r2 => ?_)
  refine wa_aload_n (n := 0) rfl ?_
  refine wb_gfi 237 rfl (wy_pr rfl) wt_237 wf_15_152 (v := (2100 * t)) (mp) (fun r3 => ?_)
  refine wa_isub ?_
  rw [show (((2100 * t) + ba) - (2100 * t)) = ba by omega]
  refine wb_iast 359 rfl (wy_pr rfl) wt_359 (n := 2) ((ml_359 hM)) (by omega) (by omega) ⟨(by omega), (by omega)⟩ ?_
  refine wa_aload_n (n := 0) rfl ?_
  refine wa_iload_n (n := 1) rfl ?_
  refine wa_lload_n (n := 2) rfl ?_
  refine wa_cv 237 rfl (wy_pr rfl) wt_237 (M2 := fun _ => False) rfl at_M_push ⟨_, rfl⟩ rfl rfl ⟨(Or.inr ⟨wy_pr rfl, fun q => q⟩), trivial, trivial, trivial⟩ trivial (fun _ _ q => False.elim q) (pu_ok (S := (w_up S 359 t ba)) (t := t) (h := ba) (k := k) (v := v) (w_ML_up hM (by omega)) (((w_up_slot (by decide)).trans (mt))) (((w_up_slot (by decide)).trans (mp))) ⟨by omega, by omega⟩ (w_up_same _ _ _ _) ⟨by omega, by omega⟩ hk hv) (fun oq4 Sq4 hp5 q4 => ?_)
  rcases q4 with ⟨rfl, rfl⟩
  show wJ _ _ _ _ _ _ _ _ _ _
  refine wa_aload_n (n := 0) rfl ?_
  refine wb_gf4 237 rfl (wy_pr rfl) wt_237 wf_15_141 (v := 366) wl_237_141 ?_
  refine wa_aload_n (n := 0) rfl ?_
  refine wb_gfi 237 rfl (wy_pr rfl) wt_237 wf_15_154 (v := tp) ((w_up_slot (by decide)).trans ((w_up_slot (by decide)).trans ((w_up_slot (by decide)).trans ((w_up_slot (by decide)).trans (mtp))))) (fun r6 => ?_)
  refine wa_aload_n (n := 0) rfl ?_
  refine wb_gfi 237 rfl (wy_pr rfl) wt_237 wf_15_155 (v := (p + 1)) ((w_up_slot (by decide)).trans ((w_up_slot (by decide)).trans ((w_up_slot (by decide)).trans ((w_up_slot (by decide)).trans (mpa))))) (fun r7 => ?_)
  refine wb_iast 366 rfl (wy_pr rfl) wt_366 (n := 400) ((w_up_slot (by decide)).trans ((w_up_slot (by decide)).trans ((w_up_slot (by decide)).trans ((w_up_slot (by decide)).trans ((ml_366 hM)))))) (by omega) (by omega) ⟨(by omega), (by omega)⟩ ?_
  refine wa_return rfl ?_
  exact ⟨rfl, rfl⟩
theorem rac_ok (hP : mP t c p h tp S) (h73 : S 237 173 = 2100 * t + ba) (hba : 0 ≤ ba ∧ ba ≤ h) (h74 : S 237 174 = gk) (h75 : S 237 175 = gb) (hgb : 0 ≤ gb ∧ gb < 8000) (h76 : S 237 176 = es) (hkd : kd = 4) (hcal : wJ (pe_GA xs) wY0 (fun _ => False) (d + 7) t_M_callsFun ((pe_at t_M_callsFun.bl 0).getD (0, [])).2 [(0, (2, 237)), (1, (0, gb)), (2, (0, 0)), (3, (1, 0)), (5, (0, es))] [] S Q) (hQ : ∀ (o : wO) (Z : wS), Q o Z → o = .inl none ∨ o = .inr 238) : wJ (pe_GA xs) wY0 M (d + 8) t_M_actsOnThing ((pe_at t_M_actsOnThing.bl 0).getD (0, [])).2 [(0, (2, 237)), (1, (0, s)), (2, (0, kd))] [] S Q := by
  obtain ⟨hM, ⟨mt, mt0, mt1⟩, mp, mf, ⟨mc, mc0, mc1⟩, ⟨mtp, mtq⟩, ⟨mpa, mp0, mp1⟩, mh, mh0, mh1⟩ := hP
  refine wa_aload_n (n := 0) rfl ?_
  refine wb_gfl 237 rfl (wy_pr rfl) wt_237 wf_15_175 (v := gb) (h75) (fun r1 => ?_)
  refine wb_l2i_r (wb_l2i_id ⟨(by omega), (by omega)⟩) ?_
  refine wa_istore_n (n := 3) rfl ?_
  refine wa_iload_n (n := 2) rfl ?_
  refine wa_iconst ?_
  refine wa_icmpne (w_rg0 (by omega) (by omega)) (w_rg0 (by omega) (by omega)) ⟨_, rfl⟩ (fun c2 => ?_) (fun c2 => ?_)
  · skip
    exfalso; omega
  · skip
    refine wa_aload_n (n := 0) rfl ?_
    refine wa_iload_n (n := 3) rfl ?_
    refine wa_iconst ?_
    refine wb_lconst (m := 0) rfl ?_
    refine wa_aload_n (n := 0) rfl ?_
    refine wb_gfi 237 rfl (wy_pr rfl) wt_237 wf_15_176 (v := es) (h76) (fun r3 => ?_)
    refine wa_cv 237 rfl (wy_pr rfl) wt_237 (M2 := fun _ => False) rfl at_M_callsFun ⟨_, rfl⟩ rfl rfl ⟨trivial, (Or.inr ⟨wy_pr rfl, fun q => q⟩), trivial, trivial, trivial⟩ trivial (fun _ _ q => False.elim q) ((wJ_mono hcal (fun o Z hz => (⟨hQ o Z hz, hz⟩ : (o = .inl none ∨ o = .inr 238) ∧ Q o Z)))) (fun oq4 Sq4 hp5 q4 => ?_)
    rcases q4 with ⟨rfl | rfl, hzq⟩
    · skip
      show wJ _ _ _ _ _ _ _ _ _ _
      refine wa_return rfl ?_
      exact hzq
    · skip
      refine ⟨rfl, ?_⟩
      exact hzq
set_option maxHeartbeats 4000000 in
theorem rag_ok (hP : mP t c p h tp S) (h73 : S 237 173 = 2100 * t + ba) (hba : 0 ≤ ba ∧ ba ≤ h) (h74 : S 237 174 = gk) (h75 : S 237 175 = gb) (hgb : 0 ≤ gb ∧ gb < 8000) (h76 : S 237 176 = es) (h69 : S 237 169 = hd) (h70 : S 237 170 = wh) (hhd : -1 ≤ hd ∧ hd < 8000) (hwh : (wh = -1 ∧ vk = 0 ∧ vb = 0) ∨ (0 ≤ wh ∧ wh < (l.length : Int) ∧ l.length ≤ 60000 ∧ slC S (if hd = -1 then gb else hd) l ∧ l.getD wh.toNat 0 = sl ∧ S 325 sl = vk ∧ S 326 sl = vb)) (hvk : 0 ≤ vk ∧ vk ≤ 8) (hvb : -9223372036854775808 ≤ vb ∧ vb ≤ 9223372036854775807) (hkd : kd = 0 ∨ kd = 2) : wJ (pe_GA xs) wY0 M (d + 8) t_M_actsOnThing ((pe_at t_M_actsOnThing.bl 0).getD (0, [])).2 [(0, (2, 237)), (1, (0, s)), (2, (0, kd))] [] S (fun o Z => o = .inl none ∧ gvZ t ba tp p vk vb S = Z) := by
  have hP0 := hP
  obtain ⟨hM, ⟨mt, mt0, mt1⟩, mp, mf, ⟨mc, mc0, mc1⟩, ⟨mtp, mtq⟩, ⟨mpa, mp0, mp1⟩, mh, mh0, mh1⟩ := hP
  refine wa_aload_n (n := 0) rfl ?_
  refine wb_gfl 237 rfl (wy_pr rfl) wt_237 wf_15_175 (v := gb) (h75) (fun r101 => ?_)
  refine wb_l2i_r (wb_l2i_id ⟨(by omega), (by omega)⟩) ?_
  refine wa_istore_n (n := 3) rfl ?_
  refine wa_iload_n (n := 2) rfl ?_
  refine wa_iconst ?_
  refine wa_icmpne (w_rg0 (by omega) (by omega)) (w_rg0 (by omega) (by omega)) ⟨_, rfl⟩ (fun c102 => ?_) (fun c102 => ?_)
  · skip
    refine wa_iload_n (n := 2) rfl ?_
    refine wa_bipush (w_rg2 (by omega) (by omega)) ?_
    refine wa_icmpne (w_rg0 (by omega) (by omega)) (w_rg0 (by omega) (by omega)) ⟨_, rfl⟩ (fun c103 => ?_) (fun c103 => ?_)
    · skip
      refine wa_iload_n (n := 2) rfl ?_
      refine wa_iconst ?_
      refine wa_icmpeq (w_rg0 (by omega) (by omega)) (w_rg0 (by omega) (by omega)) ⟨_, rfl⟩ (fun c104 => ?_) (fun c104 => ?_)
      · skip
        exact absurd c104 (by omega)
      · skip
        refine wa_iload_n (n := 2) rfl ?_
        refine wa_iconst ?_
        refine wa_icmpne (w_rg0 (by omega) (by omega)) (w_rg0 (by omega) (by omega)) ⟨_, rfl⟩ (fun c105 => ?_) (fun c105 => ?_)
        · skip
          refine wa_aload_n (n := 0) rfl ?_
          refine wb_gfi 237 rfl (wy_pr rfl) wt_237 wf_15_170 (v := wh) (h70) (fun r106 => ?_)
          refine wa_ifge (w_rg0 (by omega) (by omega)) ⟨_, rfl⟩ (fun c107 => ?_) (fun c107 => ?_)
          · skip
            refine wa_aload_n (n := 0) rfl ?_
            refine wa_aload_n (n := 0) rfl ?_
            refine wb_gfi 237 rfl (wy_pr rfl) wt_237 wf_15_169 (v := hd) (h69) (fun r108 => ?_)
            refine wa_ifge (w_rg0 (by omega) (by omega)) ⟨_, rfl⟩ (fun c109 => ?_) (fun c109 => ?_)
            · skip
              refine wa_aload_n (n := 0) rfl ?_
              refine wb_gfi 237 rfl (wy_pr rfl) wt_237 wf_15_169 (v := hd) (h69) (fun r110 => ?_)
              refine wa_fall ⟨_, rfl⟩ ?_
              refine wa_aload_n (n := 0) rfl ?_
              refine wb_gfi 237 rfl (wy_pr rfl) wt_237 wf_15_170 (v := wh) (h70) (fun r111 => ?_)
              obtain ⟨w0, w1, w2, w3, w4, w5, w6⟩ := hwh.resolve_left (fun z => by omega)
              have eth : (if hd = -1 then gb else hd) = hd := by first | exact if_pos (by omega) | exact if_neg (by omega)
              rw [eth] at w3
              have wsl : 0 ≤ sl ∧ sl < 60000 := by rw [← w4]; exact (w3.2.2 wh.toNat (by omega)).1
              refine wa_cv 237 rfl (wy_pr rfl) wt_237 (M2 := fun _ => False) rfl at_M_slotAt ⟨_, rfl⟩ rfl rfl ⟨trivial, (Or.inr ⟨wy_pr rfl, fun q => q⟩), trivial, trivial, trivial⟩ trivial (fun _ _ q => False.elim q) (wJ_mono (saM_ok (S := S) (th := hd) (i := wh) (l := l) hM ⟨by omega, by omega⟩ w3 ⟨w0, w1⟩ w2) (fun o Z hz => (⟨hz.1, by rw [← w4]; exact hz.2⟩ : S = Z ∧ o = .inl (some (0, sl))))) (fun oq112 Sq112 hp113 q112 => ?_)
              rcases q112 with ⟨rfl, rfl⟩
              show wJ _ _ _ _ _ _ _ _ _ _
              refine wa_fall ⟨_, rfl⟩ ?_
              refine wa_istore (n := 4) rfl ?_
              refine wa_iload (n := 4) rfl ?_
              refine wa_ifge (w_rg0 (by omega) (by omega)) ⟨_, rfl⟩ (fun c114 => ?_) (fun c114 => ?_)
              · skip
                refine wa_aload_n (n := 0) rfl ?_
                refine wb_gf4 237 rfl (wy_pr rfl) wt_237 wf_15_83 (v := 325) wl_237_83 ?_
                refine wa_iload (n := 4) rfl ?_
                refine wb_iald 325 rfl (wy_pr rfl) wt_325 (n := 60000) ((ml_325 hM)) (by omega) (by omega) (v := vk) (w5) (fun r115 => ?_)
                refine wa_fall ⟨_, rfl⟩ ?_
                refine wa_istore (n := 5) rfl ?_
                refine wa_iload (n := 4) rfl ?_
                refine wa_ifge (w_rg0 (by omega) (by omega)) ⟨_, rfl⟩ (fun c116 => ?_) (fun c116 => ?_)
                · skip
                  refine wa_aload_n (n := 0) rfl ?_
                  refine wb_gf4 237 rfl (wy_pr rfl) wt_237 wf_15_84 (v := 326) wl_237_84 ?_
                  refine wa_iload (n := 4) rfl ?_
                  refine wb_lald 326 rfl (wy_pr rfl) wt_326 (n := 60000) ((ml_326 hM)) (by omega) (by omega) (v := vb) (w6) (fun r117 => ?_)
                  refine wa_fall ⟨_, rfl⟩ ?_
                  refine wa_lstore (n := 6) rfl ?_
                  refine wa_iload_n (n := 2) rfl ?_
                  refine wa_iconst ?_
                  refine wa_icmpeq (w_rg0 (by omega) (by omega)) (w_rg0 (by omega) (by omega)) ⟨_, rfl⟩ (fun c118 => ?_) (fun c118 => ?_)
                  · skip
                    exact absurd c118 (by omega)
                  · skip
                    refine wa_aload_n (n := 0) rfl ?_
                    refine wa_iload (n := 5) rfl ?_
                    refine wa_lload (n := 6) rfl ?_
                    refine wa_cv 237 rfl (wy_pr rfl) wt_237 (M2 := fun _ => False) rfl at_M_gives ⟨_, rfl⟩ rfl rfl ⟨trivial, trivial, trivial, trivial, (Or.inr ⟨wy_pr rfl, fun q => q⟩), trivial, trivial, trivial⟩ trivial (fun _ _ q => False.elim q) (wJ_mono (gvs_ok (S := S) (k := vk) (v := vb) hP0 h73 hba ⟨by omega, by omega⟩ ⟨by omega, by omega⟩) (fun o Z hz => (⟨hz.1, by rw [show vk = vk by omega, show vb = vb by omega]; exact hz.2⟩ : o = .inl none ∧ gvZ t ba tp p vk vb S = Z))) (fun oq119 Sq119 hp120 q119 => ?_)
                    rcases q119 with ⟨rfl, hzg⟩
                    show wJ _ _ _ _ _ _ _ _ _ _
                    refine wa_return rfl ?_
                    exact ⟨rfl, hzg⟩
                · skip
                  exact absurd c116 (by omega)
              · skip
                refine wa_iconst ?_
                refine wa_goto ⟨_, rfl⟩ ?_
                refine wa_istore (n := 5) rfl ?_
                refine wa_iload (n := 4) rfl ?_
                refine wa_ifge (w_rg0 (by omega) (by omega)) ⟨_, rfl⟩ (fun c121 => ?_) (fun c121 => ?_)
                · skip
                  exact absurd c121 (by omega)
                · skip
                  refine wb_lconst (m := 0) rfl ?_
                  refine wa_goto ⟨_, rfl⟩ ?_
                  refine wa_lstore (n := 6) rfl ?_
                  refine wa_iload_n (n := 2) rfl ?_
                  refine wa_iconst ?_
                  refine wa_icmpeq (w_rg0 (by omega) (by omega)) (w_rg0 (by omega) (by omega)) ⟨_, rfl⟩ (fun c122 => ?_) (fun c122 => ?_)
                  · skip
                    exact absurd c122 (by omega)
                  · skip
                    refine wa_aload_n (n := 0) rfl ?_
                    refine wa_iload (n := 5) rfl ?_
                    refine wa_lload (n := 6) rfl ?_
                    refine wa_cv 237 rfl (wy_pr rfl) wt_237 (M2 := fun _ => False) rfl at_M_gives ⟨_, rfl⟩ rfl rfl ⟨trivial, trivial, trivial, trivial, (Or.inr ⟨wy_pr rfl, fun q => q⟩), trivial, trivial, trivial⟩ trivial (fun _ _ q => False.elim q) (wJ_mono (gvs_ok (S := S) (k := 0) (v := 0) hP0 h73 hba ⟨by omega, by omega⟩ ⟨by omega, by omega⟩) (fun o Z hz => (⟨hz.1, by rw [show vk = 0 by omega, show vb = 0 by omega]; exact hz.2⟩ : o = .inl none ∧ gvZ t ba tp p vk vb S = Z))) (fun oq123 Sq123 hp124 q123 => ?_)
                    rcases q123 with ⟨rfl, hzg⟩
                    show wJ _ _ _ _ _ _ _ _ _ _
                    refine wa_return rfl ?_
                    exact ⟨rfl, hzg⟩
            · skip
              refine wa_iload_n (n := 3) rfl ?_
              refine wa_goto ⟨_, rfl⟩ ?_
              refine wa_aload_n (n := 0) rfl ?_
              refine wb_gfi 237 rfl (wy_pr rfl) wt_237 wf_15_170 (v := wh) (h70) (fun r125 => ?_)
              obtain ⟨w0, w1, w2, w3, w4, w5, w6⟩ := hwh.resolve_left (fun z => by omega)
              have eth : (if hd = -1 then gb else hd) = gb := by first | exact if_pos (by omega) | exact if_neg (by omega)
              rw [eth] at w3
              have wsl : 0 ≤ sl ∧ sl < 60000 := by rw [← w4]; exact (w3.2.2 wh.toNat (by omega)).1
              refine wa_cv 237 rfl (wy_pr rfl) wt_237 (M2 := fun _ => False) rfl at_M_slotAt ⟨_, rfl⟩ rfl rfl ⟨trivial, (Or.inr ⟨wy_pr rfl, fun q => q⟩), trivial, trivial, trivial⟩ trivial (fun _ _ q => False.elim q) (wJ_mono (saM_ok (S := S) (th := gb) (i := wh) (l := l) hM ⟨by omega, by omega⟩ w3 ⟨w0, w1⟩ w2) (fun o Z hz => (⟨hz.1, by rw [← w4]; exact hz.2⟩ : S = Z ∧ o = .inl (some (0, sl))))) (fun oq126 Sq126 hp127 q126 => ?_)
              rcases q126 with ⟨rfl, rfl⟩
              show wJ _ _ _ _ _ _ _ _ _ _
              refine wa_fall ⟨_, rfl⟩ ?_
              refine wa_istore (n := 4) rfl ?_
              refine wa_iload (n := 4) rfl ?_
              refine wa_ifge (w_rg0 (by omega) (by omega)) ⟨_, rfl⟩ (fun c128 => ?_) (fun c128 => ?_)
              · skip
                refine wa_aload_n (n := 0) rfl ?_
                refine wb_gf4 237 rfl (wy_pr rfl) wt_237 wf_15_83 (v := 325) wl_237_83 ?_
                refine wa_iload (n := 4) rfl ?_
                refine wb_iald 325 rfl (wy_pr rfl) wt_325 (n := 60000) ((ml_325 hM)) (by omega) (by omega) (v := vk) (w5) (fun r129 => ?_)
                refine wa_fall ⟨_, rfl⟩ ?_
                refine wa_istore (n := 5) rfl ?_
                refine wa_iload (n := 4) rfl ?_
                refine wa_ifge (w_rg0 (by omega) (by omega)) ⟨_, rfl⟩ (fun c130 => ?_) (fun c130 => ?_)
                · skip
                  refine wa_aload_n (n := 0) rfl ?_
                  refine wb_gf4 237 rfl (wy_pr rfl) wt_237 wf_15_84 (v := 326) wl_237_84 ?_
                  refine wa_iload (n := 4) rfl ?_
                  refine wb_lald 326 rfl (wy_pr rfl) wt_326 (n := 60000) ((ml_326 hM)) (by omega) (by omega) (v := vb) (w6) (fun r131 => ?_)
                  refine wa_fall ⟨_, rfl⟩ ?_
                  refine wa_lstore (n := 6) rfl ?_
                  refine wa_iload_n (n := 2) rfl ?_
                  refine wa_iconst ?_
                  refine wa_icmpeq (w_rg0 (by omega) (by omega)) (w_rg0 (by omega) (by omega)) ⟨_, rfl⟩ (fun c132 => ?_) (fun c132 => ?_)
                  · skip
                    exact absurd c132 (by omega)
                  · skip
                    refine wa_aload_n (n := 0) rfl ?_
                    refine wa_iload (n := 5) rfl ?_
                    refine wa_lload (n := 6) rfl ?_
                    refine wa_cv 237 rfl (wy_pr rfl) wt_237 (M2 := fun _ => False) rfl at_M_gives ⟨_, rfl⟩ rfl rfl ⟨trivial, trivial, trivial, trivial, (Or.inr ⟨wy_pr rfl, fun q => q⟩), trivial, trivial, trivial⟩ trivial (fun _ _ q => False.elim q) (wJ_mono (gvs_ok (S := S) (k := vk) (v := vb) hP0 h73 hba ⟨by omega, by omega⟩ ⟨by omega, by omega⟩) (fun o Z hz => (⟨hz.1, by rw [show vk = vk by omega, show vb = vb by omega]; exact hz.2⟩ : o = .inl none ∧ gvZ t ba tp p vk vb S = Z))) (fun oq133 Sq133 hp134 q133 => ?_)
                    rcases q133 with ⟨rfl, hzg⟩
                    show wJ _ _ _ _ _ _ _ _ _ _
                    refine wa_return rfl ?_
                    exact ⟨rfl, hzg⟩
                · skip
                  exact absurd c130 (by omega)
              · skip
                refine wa_iconst ?_
                refine wa_goto ⟨_, rfl⟩ ?_
                refine wa_istore (n := 5) rfl ?_
                refine wa_iload (n := 4) rfl ?_
                refine wa_ifge (w_rg0 (by omega) (by omega)) ⟨_, rfl⟩ (fun c135 => ?_) (fun c135 => ?_)
                · skip
                  exact absurd c135 (by omega)
                · skip
                  refine wb_lconst (m := 0) rfl ?_
                  refine wa_goto ⟨_, rfl⟩ ?_
                  refine wa_lstore (n := 6) rfl ?_
                  refine wa_iload_n (n := 2) rfl ?_
                  refine wa_iconst ?_
                  refine wa_icmpeq (w_rg0 (by omega) (by omega)) (w_rg0 (by omega) (by omega)) ⟨_, rfl⟩ (fun c136 => ?_) (fun c136 => ?_)
                  · skip
                    exact absurd c136 (by omega)
                  · skip
                    refine wa_aload_n (n := 0) rfl ?_
                    refine wa_iload (n := 5) rfl ?_
                    refine wa_lload (n := 6) rfl ?_
                    refine wa_cv 237 rfl (wy_pr rfl) wt_237 (M2 := fun _ => False) rfl at_M_gives ⟨_, rfl⟩ rfl rfl ⟨trivial, trivial, trivial, trivial, (Or.inr ⟨wy_pr rfl, fun q => q⟩), trivial, trivial, trivial⟩ trivial (fun _ _ q => False.elim q) (wJ_mono (gvs_ok (S := S) (k := 0) (v := 0) hP0 h73 hba ⟨by omega, by omega⟩ ⟨by omega, by omega⟩) (fun o Z hz => (⟨hz.1, by rw [show vk = 0 by omega, show vb = 0 by omega]; exact hz.2⟩ : o = .inl none ∧ gvZ t ba tp p vk vb S = Z))) (fun oq137 Sq137 hp138 q137 => ?_)
                    rcases q137 with ⟨rfl, hzg⟩
                    show wJ _ _ _ _ _ _ _ _ _ _
                    refine wa_return rfl ?_
                    exact ⟨rfl, hzg⟩
          · skip
            refine wa_iconst ?_
            refine wa_goto ⟨_, rfl⟩ ?_
            refine wa_istore (n := 4) rfl ?_
            refine wa_iload (n := 4) rfl ?_
            refine wa_ifge (w_rg0 (by omega) (by omega)) ⟨_, rfl⟩ (fun c139 => ?_) (fun c139 => ?_)
            · skip
              exact absurd c139 (by omega)
            · skip
              refine wa_iconst ?_
              refine wa_goto ⟨_, rfl⟩ ?_
              refine wa_istore (n := 5) rfl ?_
              refine wa_iload (n := 4) rfl ?_
              refine wa_ifge (w_rg0 (by omega) (by omega)) ⟨_, rfl⟩ (fun c140 => ?_) (fun c140 => ?_)
              · skip
                exact absurd c140 (by omega)
              · skip
                refine wb_lconst (m := 0) rfl ?_
                refine wa_goto ⟨_, rfl⟩ ?_
                refine wa_lstore (n := 6) rfl ?_
                refine wa_iload_n (n := 2) rfl ?_
                refine wa_iconst ?_
                refine wa_icmpeq (w_rg0 (by omega) (by omega)) (w_rg0 (by omega) (by omega)) ⟨_, rfl⟩ (fun c141 => ?_) (fun c141 => ?_)
                · skip
                  exact absurd c141 (by omega)
                · skip
                  refine wa_aload_n (n := 0) rfl ?_
                  refine wa_iload (n := 5) rfl ?_
                  refine wa_lload (n := 6) rfl ?_
                  refine wa_cv 237 rfl (wy_pr rfl) wt_237 (M2 := fun _ => False) rfl at_M_gives ⟨_, rfl⟩ rfl rfl ⟨trivial, trivial, trivial, trivial, (Or.inr ⟨wy_pr rfl, fun q => q⟩), trivial, trivial, trivial⟩ trivial (fun _ _ q => False.elim q) (wJ_mono (gvs_ok (S := S) (k := 0) (v := 0) hP0 h73 hba ⟨by omega, by omega⟩ ⟨by omega, by omega⟩) (fun o Z hz => (⟨hz.1, by rw [show vk = 0 by omega, show vb = 0 by omega]; exact hz.2⟩ : o = .inl none ∧ gvZ t ba tp p vk vb S = Z))) (fun oq142 Sq142 hp143 q142 => ?_)
                  rcases q142 with ⟨rfl, hzg⟩
                  show wJ _ _ _ _ _ _ _ _ _ _
                  refine wa_return rfl ?_
                  exact ⟨rfl, hzg⟩
        · skip
          exact absurd c105 (by omega)
    · skip
      exact absurd c103 (by omega)
  · skip
    exact absurd c102 (by omega)
set_option maxHeartbeats 4000000 in
theorem rmn_ok (hP : mP t c p h tp S) (h73 : S 237 173 = 2100 * t + ba) (hba : 0 ≤ ba ∧ ba ≤ h) (h74 : S 237 174 = gk) (h75 : S 237 175 = gb) (hgb : 0 ≤ gb ∧ gb < 8000) (h76 : S 237 176 = es) (h69 : S 237 169 = hd) (h70 : S 237 170 = wh) (hhd : -1 ≤ hd ∧ hd < 8000) (hwh : (wh = -1 ∧ vk = 0 ∧ vb = 0) ∨ (0 ≤ wh ∧ wh < (l.length : Int) ∧ l.length ≤ 60000 ∧ slC S (if hd = -1 then gb else hd) l ∧ l.getD wh.toNat 0 = sl ∧ S 325 sl = vk ∧ S 326 sl = vb)) (hvk : 0 ≤ vk ∧ vk ≤ 8) (hvb : -9223372036854775808 ≤ vb ∧ vb ≤ 9223372036854775807) (hkd : kd = 5) (hv5 : vk ≠ 5) : wJ (pe_GA xs) wY0 M (d + 8) t_M_actsOnThing ((pe_at t_M_actsOnThing.bl 0).getD (0, [])).2 [(0, (2, 237)), (1, (0, s)), (2, (0, kd))] [] S (fun o Z => o = .inr 238 ∧ hZ (if vk = 0 then 4 else 5) S = Z) := by
  obtain ⟨hM, ⟨mt, mt0, mt1⟩, mp, mf, ⟨mc, mc0, mc1⟩, ⟨mtp, mtq⟩, ⟨mpa, mp0, mp1⟩, mh, mh0, mh1⟩ := hP
  refine wa_aload_n (n := 0) rfl ?_
  refine wb_gfl 237 rfl (wy_pr rfl) wt_237 wf_15_175 (v := gb) (h75) (fun r301 => ?_)
  refine wb_l2i_r (wb_l2i_id ⟨(by omega), (by omega)⟩) ?_
  refine wa_istore_n (n := 3) rfl ?_
  refine wa_iload_n (n := 2) rfl ?_
  refine wa_iconst ?_
  refine wa_icmpne (w_rg0 (by omega) (by omega)) (w_rg0 (by omega) (by omega)) ⟨_, rfl⟩ (fun c302 => ?_) (fun c302 => ?_)
  · skip
    refine wa_iload_n (n := 2) rfl ?_
    refine wa_bipush (w_rg2 (by omega) (by omega)) ?_
    refine wa_icmpne (w_rg0 (by omega) (by omega)) (w_rg0 (by omega) (by omega)) ⟨_, rfl⟩ (fun c303 => ?_) (fun c303 => ?_)
    · skip
      refine wa_iload_n (n := 2) rfl ?_
      refine wa_iconst ?_
      refine wa_icmpeq (w_rg0 (by omega) (by omega)) (w_rg0 (by omega) (by omega)) ⟨_, rfl⟩ (fun c304 => ?_) (fun c304 => ?_)
      · skip
        exact absurd c304 (by omega)
      · skip
        refine wa_iload_n (n := 2) rfl ?_
        refine wa_iconst ?_
        refine wa_icmpne (w_rg0 (by omega) (by omega)) (w_rg0 (by omega) (by omega)) ⟨_, rfl⟩ (fun c305 => ?_) (fun c305 => ?_)
        · skip
          refine wa_aload_n (n := 0) rfl ?_
          refine wb_gfi 237 rfl (wy_pr rfl) wt_237 wf_15_170 (v := wh) (h70) (fun r306 => ?_)
          refine wa_ifge (w_rg0 (by omega) (by omega)) ⟨_, rfl⟩ (fun c307 => ?_) (fun c307 => ?_)
          · skip
            refine wa_aload_n (n := 0) rfl ?_
            refine wa_aload_n (n := 0) rfl ?_
            refine wb_gfi 237 rfl (wy_pr rfl) wt_237 wf_15_169 (v := hd) (h69) (fun r308 => ?_)
            refine wa_ifge (w_rg0 (by omega) (by omega)) ⟨_, rfl⟩ (fun c309 => ?_) (fun c309 => ?_)
            · skip
              refine wa_aload_n (n := 0) rfl ?_
              refine wb_gfi 237 rfl (wy_pr rfl) wt_237 wf_15_169 (v := hd) (h69) (fun r310 => ?_)
              refine wa_fall ⟨_, rfl⟩ ?_
              refine wa_aload_n (n := 0) rfl ?_
              refine wb_gfi 237 rfl (wy_pr rfl) wt_237 wf_15_170 (v := wh) (h70) (fun r311 => ?_)
              obtain ⟨w0, w1, w2, w3, w4, w5, w6⟩ := hwh.resolve_left (fun z => by omega)
              have eth : (if hd = -1 then gb else hd) = hd := by first | exact if_pos (by omega) | exact if_neg (by omega)
              rw [eth] at w3
              have wsl : 0 ≤ sl ∧ sl < 60000 := by rw [← w4]; exact (w3.2.2 wh.toNat (by omega)).1
              refine wa_cv 237 rfl (wy_pr rfl) wt_237 (M2 := fun _ => False) rfl at_M_slotAt ⟨_, rfl⟩ rfl rfl ⟨trivial, (Or.inr ⟨wy_pr rfl, fun q => q⟩), trivial, trivial, trivial⟩ trivial (fun _ _ q => False.elim q) (wJ_mono (saM_ok (S := S) (th := hd) (i := wh) (l := l) hM ⟨by omega, by omega⟩ w3 ⟨w0, w1⟩ w2) (fun o Z hz => (⟨hz.1, by rw [← w4]; exact hz.2⟩ : S = Z ∧ o = .inl (some (0, sl))))) (fun oq312 Sq312 hp313 q312 => ?_)
              rcases q312 with ⟨rfl, rfl⟩
              show wJ _ _ _ _ _ _ _ _ _ _
              refine wa_fall ⟨_, rfl⟩ ?_
              refine wa_istore (n := 4) rfl ?_
              refine wa_iload (n := 4) rfl ?_
              refine wa_ifge (w_rg0 (by omega) (by omega)) ⟨_, rfl⟩ (fun c314 => ?_) (fun c314 => ?_)
              · skip
                refine wa_aload_n (n := 0) rfl ?_
                refine wb_gf4 237 rfl (wy_pr rfl) wt_237 wf_15_83 (v := 325) wl_237_83 ?_
                refine wa_iload (n := 4) rfl ?_
                refine wb_iald 325 rfl (wy_pr rfl) wt_325 (n := 60000) ((ml_325 hM)) (by omega) (by omega) (v := vk) (w5) (fun r315 => ?_)
                refine wa_fall ⟨_, rfl⟩ ?_
                refine wa_istore (n := 5) rfl ?_
                refine wa_iload (n := 4) rfl ?_
                refine wa_ifge (w_rg0 (by omega) (by omega)) ⟨_, rfl⟩ (fun c316 => ?_) (fun c316 => ?_)
                · skip
                  refine wa_aload_n (n := 0) rfl ?_
                  refine wb_gf4 237 rfl (wy_pr rfl) wt_237 wf_15_84 (v := 326) wl_237_84 ?_
                  refine wa_iload (n := 4) rfl ?_
                  refine wb_lald 326 rfl (wy_pr rfl) wt_326 (n := 60000) ((ml_326 hM)) (by omega) (by omega) (v := vb) (w6) (fun r317 => ?_)
                  refine wa_fall ⟨_, rfl⟩ ?_
                  refine wa_lstore (n := 6) rfl ?_
                  refine wa_iload_n (n := 2) rfl ?_
                  refine wa_iconst ?_
                  refine wa_icmpeq (w_rg0 (by omega) (by omega)) (w_rg0 (by omega) (by omega)) ⟨_, rfl⟩ (fun c318 => ?_) (fun c318 => ?_)
                  · skip
                    refine wa_iload (n := 5) rfl ?_
                    refine wa_iconst ?_
                    refine wa_icmpeq (w_rg0 (by omega) (by omega)) (w_rg0 (by omega) (by omega)) ⟨_, rfl⟩ (fun c319 => ?_) (fun c319 => ?_)
                    · skip
                      exfalso; omega
                    · skip
                      refine wa_aload_n (n := 0) rfl ?_
                      refine wa_iload (n := 5) rfl ?_
                      refine wa_ifne (w_rg0 (by omega) (by omega)) ⟨_, rfl⟩ (fun c320 => ?_) (fun c320 => ?_)
                      · skip
                        refine wa_iconst ?_
                        refine wa_fall ⟨_, rfl⟩ ?_
                        refine wa_cv 237 rfl (wy_pr rfl) wt_237 (M2 := fun _ => False) rfl at_M_error ⟨_, rfl⟩ rfl rfl ⟨trivial, trivial, trivial, trivial, (Or.inr ⟨wy_pr rfl, fun q => q⟩), trivial, trivial, trivial⟩ trivial (fun _ _ q => False.elim q) ?_ (fun _ _ _ q => q)
                        refine wa_aload_n (n := 0) rfl ?_
                        refine wb_gf4 237 rfl (wy_pr rfl) wt_237 wf_15_1 (v := 238) wl_237_1 ?_
                        refine wa_iload_n (n := 1) rfl ?_
                        refine wa_iconst ?_
                        refine wa_cv 238 rfl (wy_pr rfl) wt_238 (M2 := fun _ => False) rfl at_MH_of ⟨_, rfl⟩ rfl rfl ⟨(Or.inr ⟨wy_pr rfl, fun q => q⟩), trivial, trivial⟩ trivial (fun _ _ q => False.elim q) ?_ (fun _ _ _ q => q)
                        refine wa_aload_n (n := 0) rfl ?_
                        refine wa_iload_n (n := 1) rfl ?_
                        refine wb_pfi 238 rfl (wy_pr rfl) wt_238 wf_11_5 (n := 5) rfl ⟨(by omega), (by omega)⟩ ?_
                        refine wa_aload_n (n := 0) rfl ?_
                        refine wa_iload_n (n := 2) rfl ?_
                        refine wb_pfi 238 rfl (wy_pr rfl) wt_238 wf_11_6 (n := 6) rfl ⟨(by omega), (by omega)⟩ ?_
                        refine wa_aload_n (n := 0) rfl ?_
                        refine wa_oreturn rfl ?_
                        show wJ _ _ _ _ _ _ _ _ _ _
                        refine wa_th (j := 238) ?_
                        refine ⟨rfl, ?_⟩
                        rw [show (if vk = 0 then 4 else 5 : Int) = 5 by first | exact if_pos (by omega) | exact if_neg (by omega)]
                        exact ⟨rfl, rfl⟩
                      · skip
                        refine wa_iconst ?_
                        refine wa_goto ⟨_, rfl⟩ ?_
                        refine wa_cv 237 rfl (wy_pr rfl) wt_237 (M2 := fun _ => False) rfl at_M_error ⟨_, rfl⟩ rfl rfl ⟨trivial, trivial, trivial, trivial, (Or.inr ⟨wy_pr rfl, fun q => q⟩), trivial, trivial, trivial⟩ trivial (fun _ _ q => False.elim q) ?_ (fun _ _ _ q => q)
                        refine wa_aload_n (n := 0) rfl ?_
                        refine wb_gf4 237 rfl (wy_pr rfl) wt_237 wf_15_1 (v := 238) wl_237_1 ?_
                        refine wa_iload_n (n := 1) rfl ?_
                        refine wa_iconst ?_
                        refine wa_cv 238 rfl (wy_pr rfl) wt_238 (M2 := fun _ => False) rfl at_MH_of ⟨_, rfl⟩ rfl rfl ⟨(Or.inr ⟨wy_pr rfl, fun q => q⟩), trivial, trivial⟩ trivial (fun _ _ q => False.elim q) ?_ (fun _ _ _ q => q)
                        refine wa_aload_n (n := 0) rfl ?_
                        refine wa_iload_n (n := 1) rfl ?_
                        refine wb_pfi 238 rfl (wy_pr rfl) wt_238 wf_11_5 (n := 5) rfl ⟨(by omega), (by omega)⟩ ?_
                        refine wa_aload_n (n := 0) rfl ?_
                        refine wa_iload_n (n := 2) rfl ?_
                        refine wb_pfi 238 rfl (wy_pr rfl) wt_238 wf_11_6 (n := 6) rfl ⟨(by omega), (by omega)⟩ ?_
                        refine wa_aload_n (n := 0) rfl ?_
                        refine wa_oreturn rfl ?_
                        show wJ _ _ _ _ _ _ _ _ _ _
                        refine wa_th (j := 238) ?_
                        refine ⟨rfl, ?_⟩
                        rw [show (if vk = 0 then 4 else 5 : Int) = 4 by first | exact if_pos (by omega) | exact if_neg (by omega)]
                        exact ⟨rfl, rfl⟩
                  · skip
                    exact absurd c318 (by omega)
                · skip
                  exact absurd c316 (by omega)
              · skip
                refine wa_iconst ?_
                refine wa_goto ⟨_, rfl⟩ ?_
                refine wa_istore (n := 5) rfl ?_
                refine wa_iload (n := 4) rfl ?_
                refine wa_ifge (w_rg0 (by omega) (by omega)) ⟨_, rfl⟩ (fun c321 => ?_) (fun c321 => ?_)
                · skip
                  exact absurd c321 (by omega)
                · skip
                  refine wb_lconst (m := 0) rfl ?_
                  refine wa_goto ⟨_, rfl⟩ ?_
                  refine wa_lstore (n := 6) rfl ?_
                  refine wa_iload_n (n := 2) rfl ?_
                  refine wa_iconst ?_
                  refine wa_icmpeq (w_rg0 (by omega) (by omega)) (w_rg0 (by omega) (by omega)) ⟨_, rfl⟩ (fun c322 => ?_) (fun c322 => ?_)
                  · skip
                    refine wa_iload (n := 5) rfl ?_
                    refine wa_iconst ?_
                    refine wa_icmpeq (w_rg0 (by omega) (by omega)) (w_rg0 (by omega) (by omega)) ⟨_, rfl⟩ (fun c323 => ?_) (fun c323 => ?_)
                    · skip
                      exact absurd c323 (by omega)
                    · skip
                      refine wa_aload_n (n := 0) rfl ?_
                      refine wa_iload (n := 5) rfl ?_
                      refine wa_ifne (w_rg0 (by omega) (by omega)) ⟨_, rfl⟩ (fun c324 => ?_) (fun c324 => ?_)
                      · skip
                        exact absurd c324 (by omega)
                      · skip
                        refine wa_iconst ?_
                        refine wa_goto ⟨_, rfl⟩ ?_
                        refine wa_cv 237 rfl (wy_pr rfl) wt_237 (M2 := fun _ => False) rfl at_M_error ⟨_, rfl⟩ rfl rfl ⟨trivial, trivial, trivial, trivial, (Or.inr ⟨wy_pr rfl, fun q => q⟩), trivial, trivial, trivial⟩ trivial (fun _ _ q => False.elim q) ?_ (fun _ _ _ q => q)
                        refine wa_aload_n (n := 0) rfl ?_
                        refine wb_gf4 237 rfl (wy_pr rfl) wt_237 wf_15_1 (v := 238) wl_237_1 ?_
                        refine wa_iload_n (n := 1) rfl ?_
                        refine wa_iconst ?_
                        refine wa_cv 238 rfl (wy_pr rfl) wt_238 (M2 := fun _ => False) rfl at_MH_of ⟨_, rfl⟩ rfl rfl ⟨(Or.inr ⟨wy_pr rfl, fun q => q⟩), trivial, trivial⟩ trivial (fun _ _ q => False.elim q) ?_ (fun _ _ _ q => q)
                        refine wa_aload_n (n := 0) rfl ?_
                        refine wa_iload_n (n := 1) rfl ?_
                        refine wb_pfi 238 rfl (wy_pr rfl) wt_238 wf_11_5 (n := 5) rfl ⟨(by omega), (by omega)⟩ ?_
                        refine wa_aload_n (n := 0) rfl ?_
                        refine wa_iload_n (n := 2) rfl ?_
                        refine wb_pfi 238 rfl (wy_pr rfl) wt_238 wf_11_6 (n := 6) rfl ⟨(by omega), (by omega)⟩ ?_
                        refine wa_aload_n (n := 0) rfl ?_
                        refine wa_oreturn rfl ?_
                        show wJ _ _ _ _ _ _ _ _ _ _
                        refine wa_th (j := 238) ?_
                        refine ⟨rfl, ?_⟩
                        rw [show (if vk = 0 then 4 else 5 : Int) = 4 by first | exact if_pos (by omega) | exact if_neg (by omega)]
                        exact ⟨rfl, rfl⟩
                  · skip
                    exact absurd c322 (by omega)
            · skip
              refine wa_iload_n (n := 3) rfl ?_
              refine wa_goto ⟨_, rfl⟩ ?_
              refine wa_aload_n (n := 0) rfl ?_
              refine wb_gfi 237 rfl (wy_pr rfl) wt_237 wf_15_170 (v := wh) (h70) (fun r325 => ?_)
              obtain ⟨w0, w1, w2, w3, w4, w5, w6⟩ := hwh.resolve_left (fun z => by omega)
              have eth : (if hd = -1 then gb else hd) = gb := by first | exact if_pos (by omega) | exact if_neg (by omega)
              rw [eth] at w3
              have wsl : 0 ≤ sl ∧ sl < 60000 := by rw [← w4]; exact (w3.2.2 wh.toNat (by omega)).1
              refine wa_cv 237 rfl (wy_pr rfl) wt_237 (M2 := fun _ => False) rfl at_M_slotAt ⟨_, rfl⟩ rfl rfl ⟨trivial, (Or.inr ⟨wy_pr rfl, fun q => q⟩), trivial, trivial, trivial⟩ trivial (fun _ _ q => False.elim q) (wJ_mono (saM_ok (S := S) (th := gb) (i := wh) (l := l) hM ⟨by omega, by omega⟩ w3 ⟨w0, w1⟩ w2) (fun o Z hz => (⟨hz.1, by rw [← w4]; exact hz.2⟩ : S = Z ∧ o = .inl (some (0, sl))))) (fun oq326 Sq326 hp327 q326 => ?_)
              rcases q326 with ⟨rfl, rfl⟩
              show wJ _ _ _ _ _ _ _ _ _ _
              refine wa_fall ⟨_, rfl⟩ ?_
              refine wa_istore (n := 4) rfl ?_
              refine wa_iload (n := 4) rfl ?_
              refine wa_ifge (w_rg0 (by omega) (by omega)) ⟨_, rfl⟩ (fun c328 => ?_) (fun c328 => ?_)
              · skip
                refine wa_aload_n (n := 0) rfl ?_
                refine wb_gf4 237 rfl (wy_pr rfl) wt_237 wf_15_83 (v := 325) wl_237_83 ?_
                refine wa_iload (n := 4) rfl ?_
                refine wb_iald 325 rfl (wy_pr rfl) wt_325 (n := 60000) ((ml_325 hM)) (by omega) (by omega) (v := vk) (w5) (fun r329 => ?_)
                refine wa_fall ⟨_, rfl⟩ ?_
                refine wa_istore (n := 5) rfl ?_
                refine wa_iload (n := 4) rfl ?_
                refine wa_ifge (w_rg0 (by omega) (by omega)) ⟨_, rfl⟩ (fun c330 => ?_) (fun c330 => ?_)
                · skip
                  refine wa_aload_n (n := 0) rfl ?_
                  refine wb_gf4 237 rfl (wy_pr rfl) wt_237 wf_15_84 (v := 326) wl_237_84 ?_
                  refine wa_iload (n := 4) rfl ?_
                  refine wb_lald 326 rfl (wy_pr rfl) wt_326 (n := 60000) ((ml_326 hM)) (by omega) (by omega) (v := vb) (w6) (fun r331 => ?_)
                  refine wa_fall ⟨_, rfl⟩ ?_
                  refine wa_lstore (n := 6) rfl ?_
                  refine wa_iload_n (n := 2) rfl ?_
                  refine wa_iconst ?_
                  refine wa_icmpeq (w_rg0 (by omega) (by omega)) (w_rg0 (by omega) (by omega)) ⟨_, rfl⟩ (fun c332 => ?_) (fun c332 => ?_)
                  · skip
                    refine wa_iload (n := 5) rfl ?_
                    refine wa_iconst ?_
                    refine wa_icmpeq (w_rg0 (by omega) (by omega)) (w_rg0 (by omega) (by omega)) ⟨_, rfl⟩ (fun c333 => ?_) (fun c333 => ?_)
                    · skip
                      exfalso; omega
                    · skip
                      refine wa_aload_n (n := 0) rfl ?_
                      refine wa_iload (n := 5) rfl ?_
                      refine wa_ifne (w_rg0 (by omega) (by omega)) ⟨_, rfl⟩ (fun c334 => ?_) (fun c334 => ?_)
                      · skip
                        refine wa_iconst ?_
                        refine wa_fall ⟨_, rfl⟩ ?_
                        refine wa_cv 237 rfl (wy_pr rfl) wt_237 (M2 := fun _ => False) rfl at_M_error ⟨_, rfl⟩ rfl rfl ⟨trivial, trivial, trivial, trivial, (Or.inr ⟨wy_pr rfl, fun q => q⟩), trivial, trivial, trivial⟩ trivial (fun _ _ q => False.elim q) ?_ (fun _ _ _ q => q)
                        refine wa_aload_n (n := 0) rfl ?_
                        refine wb_gf4 237 rfl (wy_pr rfl) wt_237 wf_15_1 (v := 238) wl_237_1 ?_
                        refine wa_iload_n (n := 1) rfl ?_
                        refine wa_iconst ?_
                        refine wa_cv 238 rfl (wy_pr rfl) wt_238 (M2 := fun _ => False) rfl at_MH_of ⟨_, rfl⟩ rfl rfl ⟨(Or.inr ⟨wy_pr rfl, fun q => q⟩), trivial, trivial⟩ trivial (fun _ _ q => False.elim q) ?_ (fun _ _ _ q => q)
                        refine wa_aload_n (n := 0) rfl ?_
                        refine wa_iload_n (n := 1) rfl ?_
                        refine wb_pfi 238 rfl (wy_pr rfl) wt_238 wf_11_5 (n := 5) rfl ⟨(by omega), (by omega)⟩ ?_
                        refine wa_aload_n (n := 0) rfl ?_
                        refine wa_iload_n (n := 2) rfl ?_
                        refine wb_pfi 238 rfl (wy_pr rfl) wt_238 wf_11_6 (n := 6) rfl ⟨(by omega), (by omega)⟩ ?_
                        refine wa_aload_n (n := 0) rfl ?_
                        refine wa_oreturn rfl ?_
                        show wJ _ _ _ _ _ _ _ _ _ _
                        refine wa_th (j := 238) ?_
                        refine ⟨rfl, ?_⟩
                        rw [show (if vk = 0 then 4 else 5 : Int) = 5 by first | exact if_pos (by omega) | exact if_neg (by omega)]
                        exact ⟨rfl, rfl⟩
                      · skip
                        refine wa_iconst ?_
                        refine wa_goto ⟨_, rfl⟩ ?_
                        refine wa_cv 237 rfl (wy_pr rfl) wt_237 (M2 := fun _ => False) rfl at_M_error ⟨_, rfl⟩ rfl rfl ⟨trivial, trivial, trivial, trivial, (Or.inr ⟨wy_pr rfl, fun q => q⟩), trivial, trivial, trivial⟩ trivial (fun _ _ q => False.elim q) ?_ (fun _ _ _ q => q)
                        refine wa_aload_n (n := 0) rfl ?_
                        refine wb_gf4 237 rfl (wy_pr rfl) wt_237 wf_15_1 (v := 238) wl_237_1 ?_
                        refine wa_iload_n (n := 1) rfl ?_
                        refine wa_iconst ?_
                        refine wa_cv 238 rfl (wy_pr rfl) wt_238 (M2 := fun _ => False) rfl at_MH_of ⟨_, rfl⟩ rfl rfl ⟨(Or.inr ⟨wy_pr rfl, fun q => q⟩), trivial, trivial⟩ trivial (fun _ _ q => False.elim q) ?_ (fun _ _ _ q => q)
                        refine wa_aload_n (n := 0) rfl ?_
                        refine wa_iload_n (n := 1) rfl ?_
                        refine wb_pfi 238 rfl (wy_pr rfl) wt_238 wf_11_5 (n := 5) rfl ⟨(by omega), (by omega)⟩ ?_
                        refine wa_aload_n (n := 0) rfl ?_
                        refine wa_iload_n (n := 2) rfl ?_
                        refine wb_pfi 238 rfl (wy_pr rfl) wt_238 wf_11_6 (n := 6) rfl ⟨(by omega), (by omega)⟩ ?_
                        refine wa_aload_n (n := 0) rfl ?_
                        refine wa_oreturn rfl ?_
                        show wJ _ _ _ _ _ _ _ _ _ _
                        refine wa_th (j := 238) ?_
                        refine ⟨rfl, ?_⟩
                        rw [show (if vk = 0 then 4 else 5 : Int) = 4 by first | exact if_pos (by omega) | exact if_neg (by omega)]
                        exact ⟨rfl, rfl⟩
                  · skip
                    exact absurd c332 (by omega)
                · skip
                  exact absurd c330 (by omega)
              · skip
                refine wa_iconst ?_
                refine wa_goto ⟨_, rfl⟩ ?_
                refine wa_istore (n := 5) rfl ?_
                refine wa_iload (n := 4) rfl ?_
                refine wa_ifge (w_rg0 (by omega) (by omega)) ⟨_, rfl⟩ (fun c335 => ?_) (fun c335 => ?_)
                · skip
                  exact absurd c335 (by omega)
                · skip
                  refine wb_lconst (m := 0) rfl ?_
                  refine wa_goto ⟨_, rfl⟩ ?_
                  refine wa_lstore (n := 6) rfl ?_
                  refine wa_iload_n (n := 2) rfl ?_
                  refine wa_iconst ?_
                  refine wa_icmpeq (w_rg0 (by omega) (by omega)) (w_rg0 (by omega) (by omega)) ⟨_, rfl⟩ (fun c336 => ?_) (fun c336 => ?_)
                  · skip
                    refine wa_iload (n := 5) rfl ?_
                    refine wa_iconst ?_
                    refine wa_icmpeq (w_rg0 (by omega) (by omega)) (w_rg0 (by omega) (by omega)) ⟨_, rfl⟩ (fun c337 => ?_) (fun c337 => ?_)
                    · skip
                      exact absurd c337 (by omega)
                    · skip
                      refine wa_aload_n (n := 0) rfl ?_
                      refine wa_iload (n := 5) rfl ?_
                      refine wa_ifne (w_rg0 (by omega) (by omega)) ⟨_, rfl⟩ (fun c338 => ?_) (fun c338 => ?_)
                      · skip
                        exact absurd c338 (by omega)
                      · skip
                        refine wa_iconst ?_
                        refine wa_goto ⟨_, rfl⟩ ?_
                        refine wa_cv 237 rfl (wy_pr rfl) wt_237 (M2 := fun _ => False) rfl at_M_error ⟨_, rfl⟩ rfl rfl ⟨trivial, trivial, trivial, trivial, (Or.inr ⟨wy_pr rfl, fun q => q⟩), trivial, trivial, trivial⟩ trivial (fun _ _ q => False.elim q) ?_ (fun _ _ _ q => q)
                        refine wa_aload_n (n := 0) rfl ?_
                        refine wb_gf4 237 rfl (wy_pr rfl) wt_237 wf_15_1 (v := 238) wl_237_1 ?_
                        refine wa_iload_n (n := 1) rfl ?_
                        refine wa_iconst ?_
                        refine wa_cv 238 rfl (wy_pr rfl) wt_238 (M2 := fun _ => False) rfl at_MH_of ⟨_, rfl⟩ rfl rfl ⟨(Or.inr ⟨wy_pr rfl, fun q => q⟩), trivial, trivial⟩ trivial (fun _ _ q => False.elim q) ?_ (fun _ _ _ q => q)
                        refine wa_aload_n (n := 0) rfl ?_
                        refine wa_iload_n (n := 1) rfl ?_
                        refine wb_pfi 238 rfl (wy_pr rfl) wt_238 wf_11_5 (n := 5) rfl ⟨(by omega), (by omega)⟩ ?_
                        refine wa_aload_n (n := 0) rfl ?_
                        refine wa_iload_n (n := 2) rfl ?_
                        refine wb_pfi 238 rfl (wy_pr rfl) wt_238 wf_11_6 (n := 6) rfl ⟨(by omega), (by omega)⟩ ?_
                        refine wa_aload_n (n := 0) rfl ?_
                        refine wa_oreturn rfl ?_
                        show wJ _ _ _ _ _ _ _ _ _ _
                        refine wa_th (j := 238) ?_
                        refine ⟨rfl, ?_⟩
                        rw [show (if vk = 0 then 4 else 5 : Int) = 4 by first | exact if_pos (by omega) | exact if_neg (by omega)]
                        exact ⟨rfl, rfl⟩
                  · skip
                    exact absurd c336 (by omega)
          · skip
            refine wa_iconst ?_
            refine wa_goto ⟨_, rfl⟩ ?_
            refine wa_istore (n := 4) rfl ?_
            refine wa_iload (n := 4) rfl ?_
            refine wa_ifge (w_rg0 (by omega) (by omega)) ⟨_, rfl⟩ (fun c339 => ?_) (fun c339 => ?_)
            · skip
              exact absurd c339 (by omega)
            · skip
              refine wa_iconst ?_
              refine wa_goto ⟨_, rfl⟩ ?_
              refine wa_istore (n := 5) rfl ?_
              refine wa_iload (n := 4) rfl ?_
              refine wa_ifge (w_rg0 (by omega) (by omega)) ⟨_, rfl⟩ (fun c340 => ?_) (fun c340 => ?_)
              · skip
                exact absurd c340 (by omega)
              · skip
                refine wb_lconst (m := 0) rfl ?_
                refine wa_goto ⟨_, rfl⟩ ?_
                refine wa_lstore (n := 6) rfl ?_
                refine wa_iload_n (n := 2) rfl ?_
                refine wa_iconst ?_
                refine wa_icmpeq (w_rg0 (by omega) (by omega)) (w_rg0 (by omega) (by omega)) ⟨_, rfl⟩ (fun c341 => ?_) (fun c341 => ?_)
                · skip
                  refine wa_iload (n := 5) rfl ?_
                  refine wa_iconst ?_
                  refine wa_icmpeq (w_rg0 (by omega) (by omega)) (w_rg0 (by omega) (by omega)) ⟨_, rfl⟩ (fun c342 => ?_) (fun c342 => ?_)
                  · skip
                    exact absurd c342 (by omega)
                  · skip
                    refine wa_aload_n (n := 0) rfl ?_
                    refine wa_iload (n := 5) rfl ?_
                    refine wa_ifne (w_rg0 (by omega) (by omega)) ⟨_, rfl⟩ (fun c343 => ?_) (fun c343 => ?_)
                    · skip
                      exact absurd c343 (by omega)
                    · skip
                      refine wa_iconst ?_
                      refine wa_goto ⟨_, rfl⟩ ?_
                      refine wa_cv 237 rfl (wy_pr rfl) wt_237 (M2 := fun _ => False) rfl at_M_error ⟨_, rfl⟩ rfl rfl ⟨trivial, trivial, trivial, trivial, (Or.inr ⟨wy_pr rfl, fun q => q⟩), trivial, trivial, trivial⟩ trivial (fun _ _ q => False.elim q) ?_ (fun _ _ _ q => q)
                      refine wa_aload_n (n := 0) rfl ?_
                      refine wb_gf4 237 rfl (wy_pr rfl) wt_237 wf_15_1 (v := 238) wl_237_1 ?_
                      refine wa_iload_n (n := 1) rfl ?_
                      refine wa_iconst ?_
                      refine wa_cv 238 rfl (wy_pr rfl) wt_238 (M2 := fun _ => False) rfl at_MH_of ⟨_, rfl⟩ rfl rfl ⟨(Or.inr ⟨wy_pr rfl, fun q => q⟩), trivial, trivial⟩ trivial (fun _ _ q => False.elim q) ?_ (fun _ _ _ q => q)
                      refine wa_aload_n (n := 0) rfl ?_
                      refine wa_iload_n (n := 1) rfl ?_
                      refine wb_pfi 238 rfl (wy_pr rfl) wt_238 wf_11_5 (n := 5) rfl ⟨(by omega), (by omega)⟩ ?_
                      refine wa_aload_n (n := 0) rfl ?_
                      refine wa_iload_n (n := 2) rfl ?_
                      refine wb_pfi 238 rfl (wy_pr rfl) wt_238 wf_11_6 (n := 6) rfl ⟨(by omega), (by omega)⟩ ?_
                      refine wa_aload_n (n := 0) rfl ?_
                      refine wa_oreturn rfl ?_
                      show wJ _ _ _ _ _ _ _ _ _ _
                      refine wa_th (j := 238) ?_
                      refine ⟨rfl, ?_⟩
                      rw [show (if vk = 0 then 4 else 5 : Int) = 4 by first | exact if_pos (by omega) | exact if_neg (by omega)]
                      exact ⟨rfl, rfl⟩
                · skip
                  exact absurd c341 (by omega)
        · skip
          exact absurd c305 (by omega)
    · skip
      exact absurd c303 (by omega)
  · skip
    exact absurd c302 (by omega)
set_option maxHeartbeats 4000000 in
theorem rmf_ok (hP : mP t c p h tp S) (h73 : S 237 173 = 2100 * t + ba) (hba : 0 ≤ ba ∧ ba ≤ h) (h74 : S 237 174 = gk) (h75 : S 237 175 = gb) (hgb : 0 ≤ gb ∧ gb < 8000) (h76 : S 237 176 = es) (h69 : S 237 169 = hd) (h70 : S 237 170 = wh) (hhd : -1 ≤ hd ∧ hd < 8000) (hwh : (wh = -1 ∧ vk = 0 ∧ vb = 0) ∨ (0 ≤ wh ∧ wh < (l.length : Int) ∧ l.length ≤ 60000 ∧ slC S (if hd = -1 then gb else hd) l ∧ l.getD wh.toNat 0 = sl ∧ S 325 sl = vk ∧ S 326 sl = vb)) (hvk : 0 ≤ vk ∧ vk ≤ 8) (hvb : -9223372036854775808 ≤ vb ∧ vb ≤ 9223372036854775807) (hkd : kd = 5) (hv5 : vk = 5) (hvb2 : 0 ≤ vb ∧ vb < 8000) (hgk : 0 ≤ gk ∧ gk ≤ 8) (hcal : wJ (pe_GA xs) wY0 (fun _ => False) (d + 7) t_M_callsFun ((pe_at t_M_callsFun.bl 0).getD (0, [])).2 [(0, (2, 237)), (1, (0, vb)), (2, (0, gk)), (3, (1, gb)), (5, (0, es))] [] S Q) (hQ : ∀ (o : wO) (Z : wS), Q o Z → o = .inl none ∨ o = .inr 238) : wJ (pe_GA xs) wY0 M (d + 8) t_M_actsOnThing ((pe_at t_M_actsOnThing.bl 0).getD (0, [])).2 [(0, (2, 237)), (1, (0, s)), (2, (0, kd))] [] S Q := by
  obtain ⟨hM, ⟨mt, mt0, mt1⟩, mp, mf, ⟨mc, mc0, mc1⟩, ⟨mtp, mtq⟩, ⟨mpa, mp0, mp1⟩, mh, mh0, mh1⟩ := hP
  refine wa_aload_n (n := 0) rfl ?_
  refine wb_gfl 237 rfl (wy_pr rfl) wt_237 wf_15_175 (v := gb) (h75) (fun r501 => ?_)
  refine wb_l2i_r (wb_l2i_id ⟨(by omega), (by omega)⟩) ?_
  refine wa_istore_n (n := 3) rfl ?_
  refine wa_iload_n (n := 2) rfl ?_
  refine wa_iconst ?_
  refine wa_icmpne (w_rg0 (by omega) (by omega)) (w_rg0 (by omega) (by omega)) ⟨_, rfl⟩ (fun c502 => ?_) (fun c502 => ?_)
  · skip
    refine wa_iload_n (n := 2) rfl ?_
    refine wa_bipush (w_rg2 (by omega) (by omega)) ?_
    refine wa_icmpne (w_rg0 (by omega) (by omega)) (w_rg0 (by omega) (by omega)) ⟨_, rfl⟩ (fun c503 => ?_) (fun c503 => ?_)
    · skip
      refine wa_iload_n (n := 2) rfl ?_
      refine wa_iconst ?_
      refine wa_icmpeq (w_rg0 (by omega) (by omega)) (w_rg0 (by omega) (by omega)) ⟨_, rfl⟩ (fun c504 => ?_) (fun c504 => ?_)
      · skip
        exact absurd c504 (by omega)
      · skip
        refine wa_iload_n (n := 2) rfl ?_
        refine wa_iconst ?_
        refine wa_icmpne (w_rg0 (by omega) (by omega)) (w_rg0 (by omega) (by omega)) ⟨_, rfl⟩ (fun c505 => ?_) (fun c505 => ?_)
        · skip
          refine wa_aload_n (n := 0) rfl ?_
          refine wb_gfi 237 rfl (wy_pr rfl) wt_237 wf_15_170 (v := wh) (h70) (fun r506 => ?_)
          refine wa_ifge (w_rg0 (by omega) (by omega)) ⟨_, rfl⟩ (fun c507 => ?_) (fun c507 => ?_)
          · skip
            refine wa_aload_n (n := 0) rfl ?_
            refine wa_aload_n (n := 0) rfl ?_
            refine wb_gfi 237 rfl (wy_pr rfl) wt_237 wf_15_169 (v := hd) (h69) (fun r508 => ?_)
            refine wa_ifge (w_rg0 (by omega) (by omega)) ⟨_, rfl⟩ (fun c509 => ?_) (fun c509 => ?_)
            · skip
              refine wa_aload_n (n := 0) rfl ?_
              refine wb_gfi 237 rfl (wy_pr rfl) wt_237 wf_15_169 (v := hd) (h69) (fun r510 => ?_)
              refine wa_fall ⟨_, rfl⟩ ?_
              refine wa_aload_n (n := 0) rfl ?_
              refine wb_gfi 237 rfl (wy_pr rfl) wt_237 wf_15_170 (v := wh) (h70) (fun r511 => ?_)
              obtain ⟨w0, w1, w2, w3, w4, w5, w6⟩ := hwh.resolve_left (fun z => by omega)
              have eth : (if hd = -1 then gb else hd) = hd := by first | exact if_pos (by omega) | exact if_neg (by omega)
              rw [eth] at w3
              have wsl : 0 ≤ sl ∧ sl < 60000 := by rw [← w4]; exact (w3.2.2 wh.toNat (by omega)).1
              refine wa_cv 237 rfl (wy_pr rfl) wt_237 (M2 := fun _ => False) rfl at_M_slotAt ⟨_, rfl⟩ rfl rfl ⟨trivial, (Or.inr ⟨wy_pr rfl, fun q => q⟩), trivial, trivial, trivial⟩ trivial (fun _ _ q => False.elim q) (wJ_mono (saM_ok (S := S) (th := hd) (i := wh) (l := l) hM ⟨by omega, by omega⟩ w3 ⟨w0, w1⟩ w2) (fun o Z hz => (⟨hz.1, by rw [← w4]; exact hz.2⟩ : S = Z ∧ o = .inl (some (0, sl))))) (fun oq512 Sq512 hp513 q512 => ?_)
              rcases q512 with ⟨rfl, rfl⟩
              show wJ _ _ _ _ _ _ _ _ _ _
              refine wa_fall ⟨_, rfl⟩ ?_
              refine wa_istore (n := 4) rfl ?_
              refine wa_iload (n := 4) rfl ?_
              refine wa_ifge (w_rg0 (by omega) (by omega)) ⟨_, rfl⟩ (fun c514 => ?_) (fun c514 => ?_)
              · skip
                refine wa_aload_n (n := 0) rfl ?_
                refine wb_gf4 237 rfl (wy_pr rfl) wt_237 wf_15_83 (v := 325) wl_237_83 ?_
                refine wa_iload (n := 4) rfl ?_
                refine wb_iald 325 rfl (wy_pr rfl) wt_325 (n := 60000) ((ml_325 hM)) (by omega) (by omega) (v := vk) (w5) (fun r515 => ?_)
                refine wa_fall ⟨_, rfl⟩ ?_
                refine wa_istore (n := 5) rfl ?_
                refine wa_iload (n := 4) rfl ?_
                refine wa_ifge (w_rg0 (by omega) (by omega)) ⟨_, rfl⟩ (fun c516 => ?_) (fun c516 => ?_)
                · skip
                  refine wa_aload_n (n := 0) rfl ?_
                  refine wb_gf4 237 rfl (wy_pr rfl) wt_237 wf_15_84 (v := 326) wl_237_84 ?_
                  refine wa_iload (n := 4) rfl ?_
                  refine wb_lald 326 rfl (wy_pr rfl) wt_326 (n := 60000) ((ml_326 hM)) (by omega) (by omega) (v := vb) (w6) (fun r517 => ?_)
                  refine wa_fall ⟨_, rfl⟩ ?_
                  refine wa_lstore (n := 6) rfl ?_
                  refine wa_iload_n (n := 2) rfl ?_
                  refine wa_iconst ?_
                  refine wa_icmpeq (w_rg0 (by omega) (by omega)) (w_rg0 (by omega) (by omega)) ⟨_, rfl⟩ (fun c518 => ?_) (fun c518 => ?_)
                  · skip
                    refine wa_iload (n := 5) rfl ?_
                    refine wa_iconst ?_
                    refine wa_icmpeq (w_rg0 (by omega) (by omega)) (w_rg0 (by omega) (by omega)) ⟨_, rfl⟩ (fun c519 => ?_) (fun c519 => ?_)
                    · skip
                      refine wa_aload_n (n := 0) rfl ?_
                      refine wa_lload (n := 6) rfl ?_
                      refine wb_l2i_r (wb_l2i_id ⟨(by omega), (by omega)⟩) ?_
                      refine wa_aload_n (n := 0) rfl ?_
                      refine wb_gfi 237 rfl (wy_pr rfl) wt_237 wf_15_174 (v := gk) (h74) (fun r520 => ?_)
                      refine wa_aload_n (n := 0) rfl ?_
                      refine wb_gfl 237 rfl (wy_pr rfl) wt_237 wf_15_175 (v := gb) (h75) (fun r521 => ?_)
                      refine wa_aload_n (n := 0) rfl ?_
                      refine wb_gfi 237 rfl (wy_pr rfl) wt_237 wf_15_176 (v := es) (h76) (fun r522 => ?_)
                      refine wa_cv 237 rfl (wy_pr rfl) wt_237 (M2 := fun _ => False) rfl at_M_callsFun ⟨_, rfl⟩ rfl rfl ⟨trivial, trivial, trivial, trivial, (Or.inr ⟨wy_pr rfl, fun q => q⟩), trivial, trivial, trivial⟩ trivial (fun _ _ q => False.elim q) ((wJ_mono hcal (fun o Z hz => (⟨hQ o Z hz, hz⟩ : (o = .inl none ∨ o = .inr 238) ∧ Q o Z)))) (fun oq523 Sq523 hp524 q523 => ?_)
                      rcases q523 with ⟨rfl | rfl, hzq⟩
                      · skip
                        show wJ _ _ _ _ _ _ _ _ _ _
                        refine wa_return rfl ?_
                        exact hzq
                      · skip
                        refine ⟨rfl, ?_⟩
                        exact hzq
                    · skip
                      exfalso; omega
                  · skip
                    exact absurd c518 (by omega)
                · skip
                  exact absurd c516 (by omega)
              · skip
                refine wa_iconst ?_
                refine wa_goto ⟨_, rfl⟩ ?_
                refine wa_istore (n := 5) rfl ?_
                refine wa_iload (n := 4) rfl ?_
                refine wa_ifge (w_rg0 (by omega) (by omega)) ⟨_, rfl⟩ (fun c525 => ?_) (fun c525 => ?_)
                · skip
                  exact absurd c525 (by omega)
                · skip
                  refine wb_lconst (m := 0) rfl ?_
                  refine wa_goto ⟨_, rfl⟩ ?_
                  refine wa_lstore (n := 6) rfl ?_
                  refine wa_iload_n (n := 2) rfl ?_
                  refine wa_iconst ?_
                  refine wa_icmpeq (w_rg0 (by omega) (by omega)) (w_rg0 (by omega) (by omega)) ⟨_, rfl⟩ (fun c526 => ?_) (fun c526 => ?_)
                  · skip
                    refine wa_iload (n := 5) rfl ?_
                    refine wa_iconst ?_
                    refine wa_icmpeq (w_rg0 (by omega) (by omega)) (w_rg0 (by omega) (by omega)) ⟨_, rfl⟩ (fun c527 => ?_) (fun c527 => ?_)
                    · skip
                      exact absurd c527 (by omega)
                    · skip
                      exfalso; omega
                  · skip
                    exact absurd c526 (by omega)
            · skip
              refine wa_iload_n (n := 3) rfl ?_
              refine wa_goto ⟨_, rfl⟩ ?_
              refine wa_aload_n (n := 0) rfl ?_
              refine wb_gfi 237 rfl (wy_pr rfl) wt_237 wf_15_170 (v := wh) (h70) (fun r528 => ?_)
              obtain ⟨w0, w1, w2, w3, w4, w5, w6⟩ := hwh.resolve_left (fun z => by omega)
              have eth : (if hd = -1 then gb else hd) = gb := by first | exact if_pos (by omega) | exact if_neg (by omega)
              rw [eth] at w3
              have wsl : 0 ≤ sl ∧ sl < 60000 := by rw [← w4]; exact (w3.2.2 wh.toNat (by omega)).1
              refine wa_cv 237 rfl (wy_pr rfl) wt_237 (M2 := fun _ => False) rfl at_M_slotAt ⟨_, rfl⟩ rfl rfl ⟨trivial, (Or.inr ⟨wy_pr rfl, fun q => q⟩), trivial, trivial, trivial⟩ trivial (fun _ _ q => False.elim q) (wJ_mono (saM_ok (S := S) (th := gb) (i := wh) (l := l) hM ⟨by omega, by omega⟩ w3 ⟨w0, w1⟩ w2) (fun o Z hz => (⟨hz.1, by rw [← w4]; exact hz.2⟩ : S = Z ∧ o = .inl (some (0, sl))))) (fun oq529 Sq529 hp530 q529 => ?_)
              rcases q529 with ⟨rfl, rfl⟩
              show wJ _ _ _ _ _ _ _ _ _ _
              refine wa_fall ⟨_, rfl⟩ ?_
              refine wa_istore (n := 4) rfl ?_
              refine wa_iload (n := 4) rfl ?_
              refine wa_ifge (w_rg0 (by omega) (by omega)) ⟨_, rfl⟩ (fun c531 => ?_) (fun c531 => ?_)
              · skip
                refine wa_aload_n (n := 0) rfl ?_
                refine wb_gf4 237 rfl (wy_pr rfl) wt_237 wf_15_83 (v := 325) wl_237_83 ?_
                refine wa_iload (n := 4) rfl ?_
                refine wb_iald 325 rfl (wy_pr rfl) wt_325 (n := 60000) ((ml_325 hM)) (by omega) (by omega) (v := vk) (w5) (fun r532 => ?_)
                refine wa_fall ⟨_, rfl⟩ ?_
                refine wa_istore (n := 5) rfl ?_
                refine wa_iload (n := 4) rfl ?_
                refine wa_ifge (w_rg0 (by omega) (by omega)) ⟨_, rfl⟩ (fun c533 => ?_) (fun c533 => ?_)
                · skip
                  refine wa_aload_n (n := 0) rfl ?_
                  refine wb_gf4 237 rfl (wy_pr rfl) wt_237 wf_15_84 (v := 326) wl_237_84 ?_
                  refine wa_iload (n := 4) rfl ?_
                  refine wb_lald 326 rfl (wy_pr rfl) wt_326 (n := 60000) ((ml_326 hM)) (by omega) (by omega) (v := vb) (w6) (fun r534 => ?_)
                  refine wa_fall ⟨_, rfl⟩ ?_
                  refine wa_lstore (n := 6) rfl ?_
                  refine wa_iload_n (n := 2) rfl ?_
                  refine wa_iconst ?_
                  refine wa_icmpeq (w_rg0 (by omega) (by omega)) (w_rg0 (by omega) (by omega)) ⟨_, rfl⟩ (fun c535 => ?_) (fun c535 => ?_)
                  · skip
                    refine wa_iload (n := 5) rfl ?_
                    refine wa_iconst ?_
                    refine wa_icmpeq (w_rg0 (by omega) (by omega)) (w_rg0 (by omega) (by omega)) ⟨_, rfl⟩ (fun c536 => ?_) (fun c536 => ?_)
                    · skip
                      refine wa_aload_n (n := 0) rfl ?_
                      refine wa_lload (n := 6) rfl ?_
                      refine wb_l2i_r (wb_l2i_id ⟨(by omega), (by omega)⟩) ?_
                      refine wa_aload_n (n := 0) rfl ?_
                      refine wb_gfi 237 rfl (wy_pr rfl) wt_237 wf_15_174 (v := gk) (h74) (fun r537 => ?_)
                      refine wa_aload_n (n := 0) rfl ?_
                      refine wb_gfl 237 rfl (wy_pr rfl) wt_237 wf_15_175 (v := gb) (h75) (fun r538 => ?_)
                      refine wa_aload_n (n := 0) rfl ?_
                      refine wb_gfi 237 rfl (wy_pr rfl) wt_237 wf_15_176 (v := es) (h76) (fun r539 => ?_)
                      refine wa_cv 237 rfl (wy_pr rfl) wt_237 (M2 := fun _ => False) rfl at_M_callsFun ⟨_, rfl⟩ rfl rfl ⟨trivial, trivial, trivial, trivial, (Or.inr ⟨wy_pr rfl, fun q => q⟩), trivial, trivial, trivial⟩ trivial (fun _ _ q => False.elim q) ((wJ_mono hcal (fun o Z hz => (⟨hQ o Z hz, hz⟩ : (o = .inl none ∨ o = .inr 238) ∧ Q o Z)))) (fun oq540 Sq540 hp541 q540 => ?_)
                      rcases q540 with ⟨rfl | rfl, hzq⟩
                      · skip
                        show wJ _ _ _ _ _ _ _ _ _ _
                        refine wa_return rfl ?_
                        exact hzq
                      · skip
                        refine ⟨rfl, ?_⟩
                        exact hzq
                    · skip
                      exfalso; omega
                  · skip
                    exact absurd c535 (by omega)
                · skip
                  exact absurd c533 (by omega)
              · skip
                refine wa_iconst ?_
                refine wa_goto ⟨_, rfl⟩ ?_
                refine wa_istore (n := 5) rfl ?_
                refine wa_iload (n := 4) rfl ?_
                refine wa_ifge (w_rg0 (by omega) (by omega)) ⟨_, rfl⟩ (fun c542 => ?_) (fun c542 => ?_)
                · skip
                  exact absurd c542 (by omega)
                · skip
                  refine wb_lconst (m := 0) rfl ?_
                  refine wa_goto ⟨_, rfl⟩ ?_
                  refine wa_lstore (n := 6) rfl ?_
                  refine wa_iload_n (n := 2) rfl ?_
                  refine wa_iconst ?_
                  refine wa_icmpeq (w_rg0 (by omega) (by omega)) (w_rg0 (by omega) (by omega)) ⟨_, rfl⟩ (fun c543 => ?_) (fun c543 => ?_)
                  · skip
                    refine wa_iload (n := 5) rfl ?_
                    refine wa_iconst ?_
                    refine wa_icmpeq (w_rg0 (by omega) (by omega)) (w_rg0 (by omega) (by omega)) ⟨_, rfl⟩ (fun c544 => ?_) (fun c544 => ?_)
                    · skip
                      exact absurd c544 (by omega)
                    · skip
                      exfalso; omega
                  · skip
                    exact absurd c543 (by omega)
          · skip
            exfalso; omega
        · skip
          exact absurd c505 (by omega)
    · skip
      exact absurd c503 (by omega)
  · skip
    exact absurd c502 (by omega)
theorem mP_ag {Z : wS} (hP : mP t c p h tp S) (hM : w_ML Z) (f : ∀ (j : Nat) (x : Int), (j = 237 ∧ 150 ≤ x ∧ x ≤ 160) ∨ j = 358 ∨ j = 359 → Z j x = S j x) : mP t c p h tp Z := by
  obtain ⟨-, ⟨a1, a2⟩, a3, a4, ⟨a5, a6⟩, ⟨a7, a8⟩, ⟨a9, a10⟩, a11, a12⟩ := hP
  exact ⟨hM, ⟨(f 237 151 (by omega)).trans a1, a2⟩, (f 237 152 (by omega)).trans a3, (f 237 153 (by omega)).trans a4, ⟨(f 358 t (by omega)).trans a5, a6⟩, ⟨(f 237 154 (by omega)).trans a7, a8⟩, ⟨(f 237 155 (by omega)).trans a9, a10⟩, (f 359 t (by omega)).trans a11, a12⟩
set_option maxHeartbeats 4000000 in
theorem rss_ok {r nm ky vy : Int} (hP : mP t c p h tp S) (h73 : S 237 173 = 2100 * t + ba) (hba : 0 ≤ ba ∧ ba ≤ h) (h74 : S 237 174 = gk) (h75 : S 237 175 = gb) (hgb : 0 ≤ gb ∧ gb < 8000) (h76 : S 237 176 = es) (h71 : S 237 171 = r) (hh1 : 1 ≤ h) (hky : S 363 (2100 * t + h - 1) = ky) (hvy : S 364 (2100 * t + h - 1) = vy) (hkr : 0 ≤ ky ∧ ky ≤ 8) (hvr : -9223372036854775808 ≤ vy ∧ vy ≤ 9223372036854775807) (h70 : S 237 170 = wh) (hr : r = -1) (hwh : 0 ≤ wh ∧ wh < (l.length : Int) ∧ l.length ≤ 60000 ∧ slC S gb l ∧ l.getD wh.toNat 0 = sl) (hnm : 0 ≤ nm ∧ nm ≤ 100000) : wJ (pe_GA xs) wY0 M (d + 7) t_M_sets ((pe_at t_M_sets.bl 0).getD (0, [])).2 [(0, (2, 237)), (1, (0, gb)), (2, (0, nm))] [] S (fun o Z => o = .inl none ∧ gvZ t ba tp p ky vy (w_up (w_up S 325 sl ky) 326 sl vy) = Z) := by
  have hP0 := hP
  obtain ⟨hM, ⟨mt, mt0, mt1⟩, mp, mf, ⟨mc, mc0, mc1⟩, ⟨mtp, mtq⟩, ⟨mpa, mp0, mp1⟩, mh, mh0, mh1⟩ := hP
  obtain ⟨w0, w1, w2, w3, w4⟩ := hwh
  have wsl : 0 ≤ sl ∧ sl < 60000 := by rw [← w4]; exact (w3.2.2 wh.toNat (by omega)).1
  refine wa_aload_n (n := 0) rfl ?_
  refine wa_cv 237 rfl (wy_pr rfl) wt_237 (M2 := fun _ => False) rfl at_M_h ⟨_, rfl⟩ rfl rfl ⟨(Or.inr ⟨wy_pr rfl, fun q => q⟩), trivial, trivial, trivial⟩ trivial (fun _ _ q => False.elim q) ?_ (fun _ _ _ q => q)
  refine wa_aload_n (n := 0) rfl ?_
  refine wb_gfi 237 rfl (wy_pr rfl) wt_237 wf_15_152 (v := (2100 * t)) (mp) (fun r701 => ?_)
  refine wa_aload_n (n := 0) rfl ?_
  refine wb_gf4 237 rfl (wy_pr rfl) wt_237 wf_15_134 (v := 359) wl_237_134 ?_
  refine wa_aload_n (n := 0) rfl ?_
  refine wb_gfi 237 rfl (wy_pr rfl) wt_237 wf_15_151 (v := t) (mt) (fun r702 => ?_)
  refine wb_iald 359 rfl (wy_pr rfl) wt_359 (n := 2) ((ml_359 hM)) (by omega) (by omega) (v := h) (mh) (fun r703 => ?_)
  refine wa_iadd ?_
  refine wa_ireturn rfl ?_
  show wJ _ _ _ _ _ _ _ _ _ _
  refine wa_iconst ?_
  refine wa_isub ?_
  refine wa_istore_n (n := 3) rfl ?_
  refine wa_aload_n (n := 0) rfl ?_
  refine wb_gfi 237 rfl (wy_pr rfl) wt_237 wf_15_171 (v := r) (h71) (fun r704 => ?_)
  refine wa_iflt (w_rg0 (by omega) (by omega)) ⟨_, rfl⟩ (fun c705 => ?_) (fun c705 => ?_)
  · skip
    refine wa_aload_n (n := 0) rfl ?_
    refine wa_iload_n (n := 1) rfl ?_
    refine wa_aload_n (n := 0) rfl ?_
    refine wb_gfi 237 rfl (wy_pr rfl) wt_237 wf_15_170 (v := wh) (h70) (fun r706 => ?_)
    refine wa_cv 237 rfl (wy_pr rfl) wt_237 (M2 := fun _ => False) rfl at_M_slotAt ⟨_, rfl⟩ rfl rfl ⟨trivial, (Or.inr ⟨wy_pr rfl, fun q => q⟩), trivial, trivial, trivial⟩ trivial (fun _ _ q => False.elim q) (wJ_mono (saM_ok (S := S) (th := gb) (i := wh) (l := l) hM ⟨by omega, by omega⟩ w3 ⟨w0, w1⟩ w2) (fun o Z hz => (⟨hz.1, by rw [← w4]; exact hz.2⟩ : S = Z ∧ o = .inl (some (0, sl))))) (fun oq707 Sq707 hp708 q707 => ?_)
    rcases q707 with ⟨rfl, rfl⟩
    show wJ _ _ _ _ _ _ _ _ _ _
    refine wa_istore (n := 4) rfl ?_
    refine wa_aload_n (n := 0) rfl ?_
    refine wb_gf4 237 rfl (wy_pr rfl) wt_237 wf_15_83 (v := 325) wl_237_83 ?_
    refine wa_iload (n := 4) rfl ?_
    refine wa_aload_n (n := 0) rfl ?_
    refine wb_gf4 237 rfl (wy_pr rfl) wt_237 wf_15_138 (v := 363) wl_237_138 ?_
    refine wa_iload_n (n := 3) rfl ?_
    refine wb_iald 363 rfl (wy_pr rfl) wt_363 (n := 4200) ((ml_363 hM)) (by omega) (by omega) (v := ky) (hky) (fun r709 => ?_)
    refine wb_iast 325 rfl (wy_pr rfl) wt_325 (n := 60000) ((ml_325 hM)) (by omega) (by omega) ⟨(by omega), (by omega)⟩ ?_
    refine wa_aload_n (n := 0) rfl ?_
    refine wb_gf4 237 rfl (wy_pr rfl) wt_237 wf_15_84 (v := 326) wl_237_84 ?_
    refine wa_iload (n := 4) rfl ?_
    refine wa_aload_n (n := 0) rfl ?_
    refine wb_gf4 237 rfl (wy_pr rfl) wt_237 wf_15_139 (v := 364) wl_237_139 ?_
    refine wa_iload_n (n := 3) rfl ?_
    refine wb_lald 364 rfl (wy_pr rfl) wt_364 (n := 4200) ((w_up_slot (by decide)).trans ((ml_364 hM))) (by omega) (by omega) (v := vy) ((w_up_slot (by decide)).trans (hvy)) (fun r710 => ?_)
    refine wb_last 326 rfl (wy_pr rfl) wt_326 (n := 60000) ((w_up_slot (by decide)).trans ((ml_326 hM))) (by omega) (by omega) ⟨(by omega), (by omega)⟩ ?_
    refine wa_fall ⟨_, rfl⟩ ?_
    refine wa_aload_n (n := 0) rfl ?_
    refine wa_aload_n (n := 0) rfl ?_
    refine wb_gf4 237 rfl (wy_pr rfl) wt_237 wf_15_138 (v := 363) wl_237_138 ?_
    refine wa_iload_n (n := 3) rfl ?_
    refine wb_iald 363 rfl (wy_pr rfl) wt_363 (n := 4200) ((w_up_slot (by decide)).trans ((w_up_slot (by decide)).trans ((ml_363 hM)))) (by omega) (by omega) (v := ky) ((w_up_slot (by decide)).trans ((w_up_slot (by decide)).trans (hky))) (fun r711 => ?_)
    refine wa_aload_n (n := 0) rfl ?_
    refine wb_gf4 237 rfl (wy_pr rfl) wt_237 wf_15_139 (v := 364) wl_237_139 ?_
    refine wa_iload_n (n := 3) rfl ?_
    refine wb_lald 364 rfl (wy_pr rfl) wt_364 (n := 4200) ((w_up_slot (by decide)).trans ((w_up_slot (by decide)).trans ((ml_364 hM)))) (by omega) (by omega) (v := vy) ((w_up_slot (by decide)).trans ((w_up_slot (by decide)).trans (hvy))) (fun r712 => ?_)
    have hP2 : mP t c p h tp (w_up (w_up S 325 sl ky) 326 sl vy) := mP_ag hP0 (w_ML_up (w_ML_up hM (by omega)) (by omega)) (fun j x hj => (w_up_slot (by omega)).trans (w_up_slot (by omega)))
    refine wa_cv 237 rfl (wy_pr rfl) wt_237 (M2 := fun _ => False) rfl at_M_gives ⟨_, rfl⟩ rfl rfl ⟨trivial, trivial, (Or.inr ⟨wy_pr rfl, fun q => q⟩), trivial, trivial, trivial⟩ trivial (fun _ _ q => False.elim q) (gvs_ok (S := (w_up (w_up S 325 sl ky) 326 sl vy)) (k := ky) (v := vy) hP2 (((w_up_slot (by decide)).trans ((w_up_slot (by decide)).trans (h73)))) hba ⟨by omega, by omega⟩ hvr) (fun oq713 Sq713 hp714 q713 => ?_)
    rcases q713 with ⟨rfl, rfl⟩
    show wJ _ _ _ _ _ _ _ _ _ _
    refine wa_return rfl ?_
    exact ⟨rfl, rfl⟩
  · skip
    exfalso; omega
set_option maxHeartbeats 4000000 in
theorem rsn_ok {r nm ky vy sz s0 v0 la ep ch : Int} (hP : mP t c p h tp S) (h73 : S 237 173 = 2100 * t + ba) (hba : 0 ≤ ba ∧ ba ≤ h) (h74 : S 237 174 = gk) (h75 : S 237 175 = gb) (hgb : 0 ≤ gb ∧ gb < 8000) (h76 : S 237 176 = es) (h71 : S 237 171 = r) (hh1 : 1 ≤ h) (hky : S 363 (2100 * t + h - 1) = ky) (hvy : S 364 (2100 * t + h - 1) = vy) (hkr : 0 ≤ ky ∧ ky ≤ 8) (hvr : -9223372036854775808 ≤ vy ∧ vy ≤ 9223372036854775807) (hr : 0 ≤ r ∧ r ≤ 4000) (hnm : 0 ≤ nm ∧ nm ≤ 100000) (h17 : S 317 gb = sz) (hsz : 0 ≤ sz ∧ sz ≤ 64) (h63 : S 237 63 = v0) (hv0 : 0 ≤ v0 ∧ v0 ≤ 60000) (h82 : S 237 82 = s0) (hs0 : 0 ≤ s0 ∧ s0 ≤ v0) (h18 : S 318 gb = la) (hla : sz ≠ 0 → 0 ≤ la ∧ la < 60000) (h22 : S 322 gb = (if ep = -1 then 0 else 1)) (h23 : ep ≠ -1 → S 323 gb = ep) (hep : -1 ≤ ep ∧ ep ≤ 9000001) (h81 : S 237 81 = ch) (hch : 0 ≤ ch ∧ ch ≤ 9000000) : wJ (pe_GA xs) wY0 M (d + 7) t_M_sets ((pe_at t_M_sets.bl 0).getD (0, [])).2 [(0, (2, 237)), (1, (0, gb)), (2, (0, nm))] [] S (fun o Z => ((64 ≤ sz ∨ 60000 ≤ v0) ∧ o = .inr 238 ∧ hZ 99 S = Z) ∨ (sz < 64 ∧ v0 < 60000 ∧ o = .inl none ∧ gvZ t ba tp p ky vy (chZ gb ep ch (w_up (asZ gb nm ky vy s0 v0 sz la S) 315 gb r)) = Z)) := by
  have hP0 := hP
  obtain ⟨hM, ⟨mt, mt0, mt1⟩, mp, mf, ⟨mc, mc0, mc1⟩, ⟨mtp, mtq⟩, ⟨mpa, mp0, mp1⟩, mh, mh0, mh1⟩ := hP
  have asz : ∀ (j : Nat) (x : Int), j ≠ 316 → j ≠ 317 → j ≠ 318 → (j < 325 ∨ 328 < j) → (j ≠ 237 ∨ (x ≠ 82 ∧ x ≠ 63)) → asZ gb nm ky vy s0 v0 sz la S j x = S j x := fun j x j0 j1 j2 j3 j4 => by
    unfold asZ
    rw [w_up_slot (by omega), w_up_slot (by omega)]
    by_cases c : sz = 0
    · rw [if_pos c]
      exact (w_up_slot (by omega)).trans ((w_up_slot (by omega)).trans ((w_up_slot (by omega)).trans ((w_up_slot (by omega)).trans ((w_up_slot (by omega)).trans ((w_up_no (by omega)).trans (w_up_no (by omega)))))))
    · rw [if_neg c]
      exact (w_up_slot (by omega)).trans ((w_up_slot (by omega)).trans ((w_up_slot (by omega)).trans ((w_up_slot (by omega)).trans ((w_up_slot (by omega)).trans ((w_up_no (by omega)).trans (w_up_no (by omega)))))))
  have chz : ∀ (A : wS) (j : Nat) (x : Int), j ≠ 323 → j ≠ 324 → (j ≠ 237 ∨ x ≠ 81) → chZ gb ep ch A j x = A j x := fun A j x j0 j1 j2 => by
    unfold chZ
    by_cases c : ep = -1
    · rw [if_pos c]
    · rw [if_neg c]
      exact (w_up_slot (by omega)).trans ((w_up_no (by omega)).trans (w_up_slot (by omega)))
  refine wa_aload_n (n := 0) rfl ?_
  refine wa_cv 237 rfl (wy_pr rfl) wt_237 (M2 := fun _ => False) rfl at_M_h ⟨_, rfl⟩ rfl rfl ⟨(Or.inr ⟨wy_pr rfl, fun q => q⟩), trivial, trivial, trivial⟩ trivial (fun _ _ q => False.elim q) ?_ (fun _ _ _ q => q)
  refine wa_aload_n (n := 0) rfl ?_
  refine wb_gfi 237 rfl (wy_pr rfl) wt_237 wf_15_152 (v := (2100 * t)) (mp) (fun r901 => ?_)
  refine wa_aload_n (n := 0) rfl ?_
  refine wb_gf4 237 rfl (wy_pr rfl) wt_237 wf_15_134 (v := 359) wl_237_134 ?_
  refine wa_aload_n (n := 0) rfl ?_
  refine wb_gfi 237 rfl (wy_pr rfl) wt_237 wf_15_151 (v := t) (mt) (fun r902 => ?_)
  refine wb_iald 359 rfl (wy_pr rfl) wt_359 (n := 2) ((ml_359 hM)) (by omega) (by omega) (v := h) (mh) (fun r903 => ?_)
  refine wa_iadd ?_
  refine wa_ireturn rfl ?_
  show wJ _ _ _ _ _ _ _ _ _ _
  refine wa_iconst ?_
  refine wa_isub ?_
  refine wa_istore_n (n := 3) rfl ?_
  refine wa_aload_n (n := 0) rfl ?_
  refine wb_gfi 237 rfl (wy_pr rfl) wt_237 wf_15_171 (v := r) (h71) (fun r904 => ?_)
  refine wa_iflt (w_rg0 (by omega) (by omega)) ⟨_, rfl⟩ (fun c905 => ?_) (fun c905 => ?_)
  · skip
    exfalso; omega
  · skip
    refine wa_aload_n (n := 0) rfl ?_
    refine wa_aload_n (n := 0) rfl ?_
    refine wb_gfi 237 rfl (wy_pr rfl) wt_237 wf_15_63 (v := v0) (h63) (fun r906 => ?_)
    refine wb_ki (n := 60000) rfl ?_
    refine wa_icmpge (w_rg0 (by omega) (by omega)) (w_rg0 (by omega) (by omega)) ⟨_, rfl⟩ (fun c907 => ?_) (fun c907 => ?_)
    · skip
      refine wa_iconst ?_
      refine wa_fall ⟨_, rfl⟩ ?_
      refine wa_cv 237 rfl (wy_pr rfl) wt_237 (M2 := fun _ => False) rfl at_M_room ⟨_, rfl⟩ rfl rfl ⟨trivial, (Or.inr ⟨wy_pr rfl, fun q => q⟩), trivial, trivial, trivial⟩ trivial (fun _ _ q => False.elim q) ?_ (fun _ _ _ q => q)
      refine wa_iload_n (n := 1) rfl ?_
      refine wa_ifne (w_rg0 (by omega) (by omega)) ⟨_, rfl⟩ (fun c908 => ?_) (fun c908 => ?_)
      · skip
        exact absurd c908 (by omega)
      · skip
        refine wa_aload_n (n := 0) rfl ?_
        refine wb_gf4 237 rfl (wy_pr rfl) wt_237 wf_15_1 (v := 238) wl_237_1 ?_
        refine wa_bipush (w_rg2 (by omega) (by omega)) ?_
        refine wa_iconst ?_
        refine wa_cv 238 rfl (wy_pr rfl) wt_238 (M2 := fun _ => False) rfl at_MH_of ⟨_, rfl⟩ rfl rfl ⟨(Or.inr ⟨wy_pr rfl, fun q => q⟩), trivial, trivial⟩ trivial (fun _ _ q => False.elim q) ?_ (fun _ _ _ q => q)
        refine wa_aload_n (n := 0) rfl ?_
        refine wa_iload_n (n := 1) rfl ?_
        refine wb_pfi 238 rfl (wy_pr rfl) wt_238 wf_11_5 (n := 5) rfl ⟨(by omega), (by omega)⟩ ?_
        refine wa_aload_n (n := 0) rfl ?_
        refine wa_iload_n (n := 2) rfl ?_
        refine wb_pfi 238 rfl (wy_pr rfl) wt_238 wf_11_6 (n := 6) rfl ⟨(by omega), (by omega)⟩ ?_
        refine wa_aload_n (n := 0) rfl ?_
        refine wa_oreturn rfl ?_
        show wJ _ _ _ _ _ _ _ _ _ _
        refine wa_th (j := 238) ?_
        refine ⟨rfl, ?_⟩
        exact Or.inl ⟨by omega, rfl, rfl⟩
    · skip
      refine wa_aload_n (n := 0) rfl ?_
      refine wb_gf4 237 rfl (wy_pr rfl) wt_237 wf_15_73 (v := 317) wl_237_73 ?_
      refine wa_iload_n (n := 1) rfl ?_
      refine wb_iald 317 rfl (wy_pr rfl) wt_317 (n := 8000) ((ml_317 hM)) (by omega) (by omega) (v := sz) (h17) (fun r909 => ?_)
      refine wa_bipush (w_rg2 (by omega) (by omega)) ?_
      refine wa_icmpge (w_rg0 (by omega) (by omega)) (w_rg0 (by omega) (by omega)) ⟨_, rfl⟩ (fun c910 => ?_) (fun c910 => ?_)
      · skip
        refine wa_iconst ?_
        refine wa_fall ⟨_, rfl⟩ ?_
        refine wa_cv 237 rfl (wy_pr rfl) wt_237 (M2 := fun _ => False) rfl at_M_room ⟨_, rfl⟩ rfl rfl ⟨trivial, (Or.inr ⟨wy_pr rfl, fun q => q⟩), trivial, trivial, trivial⟩ trivial (fun _ _ q => False.elim q) ?_ (fun _ _ _ q => q)
        refine wa_iload_n (n := 1) rfl ?_
        refine wa_ifne (w_rg0 (by omega) (by omega)) ⟨_, rfl⟩ (fun c911 => ?_) (fun c911 => ?_)
        · skip
          exact absurd c911 (by omega)
        · skip
          refine wa_aload_n (n := 0) rfl ?_
          refine wb_gf4 237 rfl (wy_pr rfl) wt_237 wf_15_1 (v := 238) wl_237_1 ?_
          refine wa_bipush (w_rg2 (by omega) (by omega)) ?_
          refine wa_iconst ?_
          refine wa_cv 238 rfl (wy_pr rfl) wt_238 (M2 := fun _ => False) rfl at_MH_of ⟨_, rfl⟩ rfl rfl ⟨(Or.inr ⟨wy_pr rfl, fun q => q⟩), trivial, trivial⟩ trivial (fun _ _ q => False.elim q) ?_ (fun _ _ _ q => q)
          refine wa_aload_n (n := 0) rfl ?_
          refine wa_iload_n (n := 1) rfl ?_
          refine wb_pfi 238 rfl (wy_pr rfl) wt_238 wf_11_5 (n := 5) rfl ⟨(by omega), (by omega)⟩ ?_
          refine wa_aload_n (n := 0) rfl ?_
          refine wa_iload_n (n := 2) rfl ?_
          refine wb_pfi 238 rfl (wy_pr rfl) wt_238 wf_11_6 (n := 6) rfl ⟨(by omega), (by omega)⟩ ?_
          refine wa_aload_n (n := 0) rfl ?_
          refine wa_oreturn rfl ?_
          show wJ _ _ _ _ _ _ _ _ _ _
          refine wa_th (j := 238) ?_
          refine ⟨rfl, ?_⟩
          exact Or.inl ⟨by omega, rfl, rfl⟩
      · skip
        refine wa_iconst ?_
        refine wa_goto ⟨_, rfl⟩ ?_
        refine wa_cv 237 rfl (wy_pr rfl) wt_237 (M2 := fun _ => False) rfl at_M_room ⟨_, rfl⟩ rfl rfl ⟨trivial, (Or.inr ⟨wy_pr rfl, fun q => q⟩), trivial, trivial, trivial⟩ trivial (fun _ _ q => False.elim q) ?_ (fun _ _ _ q => q)
        refine wa_iload_n (n := 1) rfl ?_
        refine wa_ifne (w_rg0 (by omega) (by omega)) ⟨_, rfl⟩ (fun c912 => ?_) (fun c912 => ?_)
        · skip
          refine wa_return rfl ?_
          show wJ _ _ _ _ _ _ _ _ _ _
          refine wa_aload_n (n := 0) rfl ?_
          refine wa_iload_n (n := 1) rfl ?_
          refine wa_iload_n (n := 2) rfl ?_
          refine wa_aload_n (n := 0) rfl ?_
          refine wb_gf4 237 rfl (wy_pr rfl) wt_237 wf_15_138 (v := 363) wl_237_138 ?_
          refine wa_iload_n (n := 3) rfl ?_
          refine wb_iald 363 rfl (wy_pr rfl) wt_363 (n := 4200) ((ml_363 hM)) (by omega) (by omega) (v := ky) (hky) (fun r913 => ?_)
          refine wa_aload_n (n := 0) rfl ?_
          refine wb_gf4 237 rfl (wy_pr rfl) wt_237 wf_15_139 (v := 364) wl_237_139 ?_
          refine wa_iload_n (n := 3) rfl ?_
          refine wb_lald 364 rfl (wy_pr rfl) wt_364 (n := 4200) ((ml_364 hM)) (by omega) (by omega) (v := vy) (hvy) (fun r914 => ?_)
          refine wa_cv 237 rfl (wy_pr rfl) wt_237 (M2 := fun _ => False) rfl at_M_addSlot ⟨_, rfl⟩ rfl rfl ⟨trivial, (Or.inr ⟨wy_pr rfl, fun q => q⟩), trivial, trivial, trivial⟩ trivial (fun _ _ q => False.elim q) (adM_ok (S := S) (th := gb) (nm := nm) (ty := ky) (va := vy) (s := s0) (v0 := v0) (n := sz) (la := la) hM hgb h82 ⟨by omega, by omega⟩ h63 hv0 h17 ⟨by omega, by omega⟩ h18 hla ⟨by omega, by omega⟩ ⟨by omega, by omega⟩ hvr) (fun oq915 Sq915 hp916 q915 => ?_)
          rcases q915 with ⟨rfl, rfl⟩
          show wJ _ _ _ _ _ _ _ _ _ _
          have hMA : w_ML (asZ gb nm ky vy s0 v0 sz la S) := asZ_m hM hgb.1 (by omega) (fun z => (hla z).1)
          refine wa_aload_n (n := 0) rfl ?_
          refine wb_gf4 237 rfl (wy_pr rfl) wt_237 wf_15_71 (v := 315) wl_237_71 ?_
          refine wa_iload_n (n := 1) rfl ?_
          refine wa_aload_n (n := 0) rfl ?_
          refine wb_gfi 237 rfl (wy_pr rfl) wt_237 wf_15_171 (v := r) ((asz 237 171 (by decide) (by decide) (by decide) (by decide) (by omega)).trans ((h71))) (fun r917 => ?_)
          refine wb_iast 315 rfl (wy_pr rfl) wt_315 (n := 8000) ((asz 315 (-1) (by decide) (by decide) (by decide) (by decide) (by omega)).trans (((ml_315 hM)))) (by omega) (by omega) ⟨(by omega), (by omega)⟩ ?_
          refine wa_aload_n (n := 0) rfl ?_
          refine wa_iload_n (n := 1) rfl ?_
          have m315 : w_ML (w_up (asZ gb nm ky vy s0 v0 sz la S) 315 gb r) := w_ML_up hMA hgb.1
          have e22 : (w_up (asZ gb nm ky vy s0 v0 sz la S) 315 gb r) 322 gb = (if ep = -1 then 0 else 1) := (w_up_slot (by first | decide | omega)).trans ((asz 322 gb (by first | decide | omega) (by first | decide | omega) (by first | decide | omega) (by first | decide | omega) (by first | decide | omega)).trans h22)
          have e23 : ep ≠ -1 → (w_up (asZ gb nm ky vy s0 v0 sz la S) 315 gb r) 323 gb = ep := fun z => (w_up_slot (by first | decide | omega)).trans ((asz 323 gb (by first | decide | omega) (by first | decide | omega) (by first | decide | omega) (by first | decide | omega) (by first | decide | omega)).trans (h23 z))
          have e81 : (w_up (asZ gb nm ky vy s0 v0 sz la S) 315 gb r) 237 81 = ch := (w_up_slot (by first | decide | omega)).trans ((asz 237 81 (by first | decide | omega) (by first | decide | omega) (by first | decide | omega) (by first | decide | omega) (by first | decide | omega)).trans h81)
          refine wa_cv 237 rfl (wy_pr rfl) wt_237 (M2 := fun _ => False) rfl at_M_changed ⟨_, rfl⟩ rfl rfl ⟨trivial, (Or.inr ⟨wy_pr rfl, fun q => q⟩), trivial, trivial, trivial⟩ trivial (fun _ _ q => False.elim q) (r_cg (S := (w_up (asZ gb nm ky vy s0 v0 sz la S) 315 gb r)) (k := gb) (e := ep) (ch := ch) m315 hgb e22 e23 hep e81 hch) (fun oq918 Sq918 hp919 q918 => ?_)
          rcases q918 with ⟨rfl, rfl⟩
          show wJ _ _ _ _ _ _ _ _ _ _
          have hMC : w_ML (chZ gb ep ch (w_up (asZ gb nm ky vy s0 v0 sz la S) 315 gb r)) := by
            unfold chZ
            by_cases c : ep = -1
            · rw [if_pos c]; exact m315
            · rw [if_neg c]; exact w_ML_up (w_ML_up (w_ML_up m315 hgb.1) (by first | decide | omega)) hgb.1
          refine wa_goto ⟨_, rfl⟩ ?_
          refine wa_aload_n (n := 0) rfl ?_
          refine wa_aload_n (n := 0) rfl ?_
          refine wb_gf4 237 rfl (wy_pr rfl) wt_237 wf_15_138 (v := 363) wl_237_138 ?_
          refine wa_iload_n (n := 3) rfl ?_
          refine wb_iald 363 rfl (wy_pr rfl) wt_363 (n := 4200) ((chz _ 363 (-1) (by decide) (by decide) (by omega)).trans (((w_up_slot (by decide)).trans ((asz 363 (-1) (by decide) (by decide) (by decide) (by decide) (by omega)).trans (((ml_363 hM))))))) (by omega) (by omega) (v := ky) ((chz _ 363 (((2100 * t) + h) - 1) (by decide) (by decide) (by omega)).trans (((w_up_slot (by decide)).trans ((asz 363 (((2100 * t) + h) - 1) (by decide) (by decide) (by decide) (by decide) (by omega)).trans ((hky)))))) (fun r920 => ?_)
          refine wa_aload_n (n := 0) rfl ?_
          refine wb_gf4 237 rfl (wy_pr rfl) wt_237 wf_15_139 (v := 364) wl_237_139 ?_
          refine wa_iload_n (n := 3) rfl ?_
          refine wb_lald 364 rfl (wy_pr rfl) wt_364 (n := 4200) ((chz _ 364 (-1) (by decide) (by decide) (by omega)).trans (((w_up_slot (by decide)).trans ((asz 364 (-1) (by decide) (by decide) (by decide) (by decide) (by omega)).trans (((ml_364 hM))))))) (by omega) (by omega) (v := vy) ((chz _ 364 (((2100 * t) + h) - 1) (by decide) (by decide) (by omega)).trans (((w_up_slot (by decide)).trans ((asz 364 (((2100 * t) + h) - 1) (by decide) (by decide) (by decide) (by decide) (by omega)).trans ((hvy)))))) (fun r921 => ?_)
          have hP2 : mP t c p h tp (chZ gb ep ch (w_up (asZ gb nm ky vy s0 v0 sz la S) 315 gb r)) := mP_ag hP0 hMC (fun j x hj => (chz _ j x (by omega) (by omega) (by omega)).trans ((w_up_slot (by omega)).trans (asz j x (by omega) (by omega) (by omega) (by omega) (by omega))))
          refine wa_cv 237 rfl (wy_pr rfl) wt_237 (M2 := fun _ => False) rfl at_M_gives ⟨_, rfl⟩ rfl rfl ⟨trivial, (Or.inr ⟨wy_pr rfl, fun q => q⟩), trivial, trivial, trivial⟩ trivial (fun _ _ q => False.elim q) (gvs_ok (S := (chZ gb ep ch (w_up (asZ gb nm ky vy s0 v0 sz la S) 315 gb r))) (k := ky) (v := vy) hP2 (((chz _ 237 173 (by decide) (by decide) (by omega)).trans (((w_up_slot (by decide)).trans ((asz 237 173 (by decide) (by decide) (by decide) (by decide) (by omega)).trans ((h73))))))) hba ⟨by omega, by omega⟩ hvr) (fun oq922 Sq922 hp923 q922 => ?_)
          rcases q922 with ⟨rfl, rfl⟩
          show wJ _ _ _ _ _ _ _ _ _ _
          refine wa_return rfl ?_
          exact Or.inr ⟨by omega, by omega, rfl, rfl⟩
        · skip
          exact absurd c912 (by omega)
end Wgz
