/-! PART hf: the reference: single, typesOfEs. -/
section Whf
variable {xs : List (Nat × List Int32)} {M : Nat → Prop} {d : Nat} {S Z A : wS} {T : Int → Int} {n : Int} {cs : List hCR} {ms : List hMR} {os : Int → List Int} {Q : wO → wS → Prop}
theorem all_flt {f : List Int} {pb g : Int → Bool} : f.all (fun x => !(g x) || pb x) = (f.filter g).all pb := by
  induction f with
  | nil => rfl
  | cons x f ih =>
    rw [List.all_cons, ih]
    by_cases c : g x = true
    · rw [List.filter_cons_of_pos c, List.all_cons, c]; rfl
    · rw [List.filter_cons_of_neg c, Bool.eq_false_iff.mpr c]; rfl
theorem clR_r9 {k b : Int} (h : k = 7 → 0 ≤ S 321 b ∧ S 321 b < 60) : 0 ≤ clR S k b ∧ clR S k b ≤ 100 := by
  unfold clR
  split
  · omega
  · split
    · omega
    · split
      · split <;> omega
      · split
        · omega
        · split
          · next c => have := h c; omega
          · omega
theorem moA_r {ph m : Int} {k : Nat} : moA cs ms ph k m m = true := alN_t.mpr (fun i _ => decide_eq_true (Or.inl rfl))
theorem ft_t {ph x : Int} {tl : List Int} (hw : wHo cs ms os) (h3 : 0 ≤ x ∧ x < (ms.length : Int)) (h : ftA cs ms ph tl x = true) : (ph ≠ 3 → (hmR ms x).2.2.2.2.1.length = tl.length) ∧ (ph = 3 → 1 ≤ (hmR ms x).2.2.2.2.1.length) := (ft_m (F := [x]) hw (fun y hy => by rw [List.mem_singleton.mp hy]; exact h3) (List.mem_filter.mpr ⟨List.mem_singleton.mpr rfl, h⟩)).2
theorem flt_d {F : List Int} {pb : Int → Bool} {k : Nat} (hk : k < F.length) : (F.drop k).filter pb = if pb (F.getD k 0) = true then F.getD k 0 :: (F.drop (k + 1)).filter pb else (F.drop (k + 1)).filter pb := by
  rw [List.drop_eq_getElem_cons hk, List.getD_eq_getElem?_getD, List.getElem?_eq_getElem hk]
  show List.filter pb (F[k] :: F.drop (k + 1)) = if pb F[k] = true then F[k] :: (F.drop (k + 1)).filter pb else (F.drop (k + 1)).filter pb
  by_cases c : pb F[k] = true
  · rw [if_pos c, List.filter_cons_of_pos c]
  · rw [if_neg c, List.filter_cons_of_neg c]
theorem sgP_m {ph : Int} {k : Nat} (f : List Int) (ch : Int) : msF (fun m => f.all (fun q => moA cs ms ph k m q)) f ch 0 = sgP cs ms ph k f := by
  rw [msF_e _ _ _ _ (by first | decide | omega)]
  unfold sgP bsA
  by_cases c : (f.filter (fun m => f.all (fun q => moA cs ms ph k m q))).length = 1
  · rw [if_pos c, if_pos (by omega), if_neg (by first | decide | omega)]
  · rw [if_neg c, if_neg (by omega)]
theorem rsq_241 {ph fit be fo : Int} {tl F : List Int} {k : Nat} (hM : w_ML S) (hK : KR 241 T n cs ms S) (hw : wHo cs ms os) (hph : 1 ≤ ph ∧ ph ≤ 3) (hT : tEs tl S) (hes : esOk tl) (hty : ∀ c ∈ tl, c < 9 + (cs.length : Int)) (hcd : cdI F S) (hFm : ∀ x ∈ F, 0 ≤ x ∧ x < (ms.length : Int)) (hk : k < F.length) (hft : ftA cs ms ph tl (F.getD k 0) = true) (hk7 : wJ (pe_GA xs) wY0 M (d + 4) t_M_single ((pe_at t_M_single.bl 7).getD (0, [])).2 [(0, (2, 237)), (1, (0, ph)), (2, (0, fit)), (3, (0, be)), (4, (0, fo)), (5, (0, (k : Int))), (6, (0, bI ((ftL cs ms ph tl F).all (fun q => moA cs ms ph tl.length (F.getD k 0) q))))] [] S Q) : ∀ (f q : Nat) (v : Bool), F.length - q < f → q ≤ F.length → (F.take q).all (fun x => !(ftA cs ms ph tl x) || moA cs ms ph tl.length (F.getD k 0) x) = v → wJ (pe_GA xs) wY0 M (d + 4) t_M_single ((pe_at t_M_single.bl 3).getD (0, [])).2 [(0, (2, 237)), (1, (0, ph)), (2, (0, fit)), (3, (0, be)), (4, (0, fo)), (5, (0, (k : Int))), (6, (0, bI v)), (7, (0, (q : Int)))] [] S Q := by
  have h128 : S 237 128 = (F.length : Int) := hcd.1
  have hFl := hcd.2.2
  have h400 := hw.1.2
  have h122 : S 237 122 = (tl.length : Int) := hT.1
  have htl := hT.2.2
  have hmk : F.getD k 0 ∈ F := by rw [List.getD_eq_getElem?_getD, List.getElem?_eq_getElem (show k < F.length by omega)]; exact List.getElem_mem _
  have h55k := hcd.2.1 k hk
  have hlk := ft_t hw (hFm _ hmk) hft
  intro f
  induction f with
  | zero => intro q v h; exact absurd h (Nat.not_lt_zero _)
  | succ f ih =>
    intro q v hf hq hv
    have hbv := bI_rg v
    refine wa_iload (n := 7) rfl ?_
    refine wa_aload_n (n := 0) rfl ?_
    refine wb_gfi 237 rfl (wy_pr rfl) wt_237 wf_15_128 (v := (F.length : Int)) (h128) (fun r1 => ?_)
    refine wa_icmpge (w_rg0 (by omega) (by omega)) (w_rg0 (by omega) (by omega)) ⟨_, rfl⟩ (fun c2 => ?_) (fun c2 => ?_)
    · skip
      have he : (ftL cs ms ph tl F).all (fun q => moA cs ms ph tl.length (F.getD k 0) q) = v := by
        have z := all_flt (f := F) (pb := fun q => moA cs ms ph tl.length (F.getD k 0) q) (g := ftA cs ms ph tl)
        rw [show ftL cs ms ph tl F = F.filter (ftA cs ms ph tl) from rfl, ← z]
        first | (rw [List.take_of_length_le (by omega)] at hv; exact hv) | (have hv0 := bI_0 (b := v) (by omega); rw [hv0] at hv ⊢; exact all_tk hv)
      rw [he] at hk7
      exact wJ_S hk7 ⟨rfl, rfl, rfl, rfl, rfl, rfl, rfl, trivial⟩
    · skip
      refine wa_iload (n := 6) rfl ?_
      refine wa_ifeq (w_rg0 (by omega) (by omega)) ⟨_, rfl⟩ (fun c3 => ?_) (fun c3 => ?_)
      · skip
        have he : (ftL cs ms ph tl F).all (fun q => moA cs ms ph tl.length (F.getD k 0) q) = v := by
          have z := all_flt (f := F) (pb := fun q => moA cs ms ph tl.length (F.getD k 0) q) (g := ftA cs ms ph tl)
          rw [show ftL cs ms ph tl F = F.filter (ftA cs ms ph tl) from rfl, ← z]
          first | (rw [List.take_of_length_le (by omega)] at hv; exact hv) | (have hv0 := bI_0 (b := v) (by omega); rw [hv0] at hv ⊢; exact all_tk hv)
        rw [he] at hk7
        exact wJ_S hk7 ⟨rfl, rfl, rfl, rfl, rfl, rfl, rfl, trivial⟩
      · skip
        have hv1 := bI_1 (b := v) (by omega)
        rw [hv1] at hv
        have hmq : F.getD q 0 ∈ F := by rw [List.getD_eq_getElem?_getD, List.getElem?_eq_getElem (show q < F.length by omega)]; exact List.getElem_mem _
        have h55q := hcd.2.1 q (by omega)
        have hts := all_ts (f := F) (j := q) (pb := (fun x => !(ftA cs ms ph tl x) || moA cs ms ph tl.length (F.getD k 0) x)) (by omega) hv
        refine wa_iload (n := 7) rfl ?_
        refine wa_iload (n := 5) rfl ?_
        refine wa_icmpeq (w_rg0 (by omega) (by omega)) (w_rg0 (by omega) (by omega)) ⟨_, rfl⟩ (fun c4 => ?_) (fun c4 => ?_)
        · skip
          refine wa_iconst ?_
          refine wa_goto ⟨_, rfl⟩ ?_
          refine wa_istore (n := 6) rfl ?_
          refine wa_iinc rfl rfl ?_
          refine wa_goto ⟨_, rfl⟩ ?_
          have hp : (!(ftA cs ms ph tl (F.getD q 0)) || moA cs ms ph tl.length (F.getD k 0) (F.getD q 0)) = true := by
            first | (rw [show q = k by omega, moA_r, Bool.or_true]) | (rw [bI_0 (b := ftA cs ms ph tl (F.getD q 0)) (by omega)]; rfl) | (rw [bI_1 (b := moA cs ms ph tl.length (F.getD k 0) (F.getD q 0)) (by omega), Bool.or_true])
          exact wJ_S (ih (q + 1) true (by omega) (by omega) (hts.trans hp)) ⟨rfl, rfl, rfl, rfl, rfl, rfl, rfl, rfl, trivial⟩
        · skip
          refine wa_aload_n (n := 0) rfl ?_
          refine wa_aload_n (n := 0) rfl ?_
          refine wb_gf4 237 rfl (wy_pr rfl) wt_237 wf_15_129 (v := 355) wl_237_129 ?_
          refine wa_iload (n := 7) rfl ?_
          refine wb_iald 355 rfl (wy_pr rfl) wt_355 (n := 400) ((ml_355 hM)) (by omega) (by omega) (v := (F.getD q 0)) (h55q) (fun r5 => ?_)
          refine wa_iload_n (n := 1) rfl ?_
          refine wa_cv 237 rfl (wy_pr rfl) wt_237 (M2 := fun _ => False) rfl at_M_fitsIn ⟨_, rfl⟩ rfl rfl ⟨(Or.inr ⟨wy_pr rfl, fun q => q⟩), trivial, trivial, trivial, trivial, trivial, trivial, trivial, trivial⟩ trivial (fun _ _ q => False.elim q) (rft_241 (S := S) (m := (F.getD q 0)) (ph := ph) (tl := tl) hM hK hw (hFm _ hmq) hph hT hes hty) (fun oq6 Sq6 hp7 q6 => ?_)
          rcases q6 with ⟨rfl, rfl⟩
          show wJ _ _ _ _ _ _ _ _ _ _
          have hbf5 := bI_rg (ftA cs ms ph tl (F.getD q 0))
          refine wa_ifeq (w_rg0 (by omega) (by omega)) ⟨_, rfl⟩ (fun c8 => ?_) (fun c8 => ?_)
          · skip
            refine wa_iconst ?_
            refine wa_goto ⟨_, rfl⟩ ?_
            refine wa_istore (n := 6) rfl ?_
            refine wa_iinc rfl rfl ?_
            refine wa_goto ⟨_, rfl⟩ ?_
            have hp : (!(ftA cs ms ph tl (F.getD q 0)) || moA cs ms ph tl.length (F.getD k 0) (F.getD q 0)) = true := by
              first | (rw [show q = k by omega, moA_r, Bool.or_true]) | (rw [bI_0 (b := ftA cs ms ph tl (F.getD q 0)) (by omega)]; rfl) | (rw [bI_1 (b := moA cs ms ph tl.length (F.getD k 0) (F.getD q 0)) (by omega), Bool.or_true])
            exact wJ_S (ih (q + 1) true (by omega) (by omega) (hts.trans hp)) ⟨rfl, rfl, rfl, rfl, rfl, rfl, rfl, rfl, trivial⟩
          · skip
            refine wa_aload_n (n := 0) rfl ?_
            refine wa_aload_n (n := 0) rfl ?_
            refine wb_gf4 237 rfl (wy_pr rfl) wt_237 wf_15_129 (v := 355) wl_237_129 ?_
            refine wa_iload (n := 5) rfl ?_
            refine wb_iald 355 rfl (wy_pr rfl) wt_355 (n := 400) ((ml_355 hM)) (by omega) (by omega) (v := (F.getD k 0)) (h55k) (fun r9 => ?_)
            refine wa_aload_n (n := 0) rfl ?_
            refine wb_gf4 237 rfl (wy_pr rfl) wt_237 wf_15_129 (v := 355) wl_237_129 ?_
            refine wa_iload (n := 7) rfl ?_
            refine wb_iald 355 rfl (wy_pr rfl) wt_355 (n := 400) ((ml_355 hM)) (by omega) (by omega) (v := (F.getD q 0)) (h55q) (fun r10 => ?_)
            refine wa_iload_n (n := 1) rfl ?_
            have hftq := bI_1 (b := ftA cs ms ph tl (F.getD q 0)) (by omega)
            have hlq := ft_t hw (hFm _ hmq) hftq
            refine wa_cv 237 rfl (wy_pr rfl) wt_237 (M2 := fun _ => False) rfl at_M_isMoreSpecific ⟨_, rfl⟩ rfl rfl ⟨(Or.inr ⟨wy_pr rfl, fun q => q⟩), trivial, trivial, trivial, trivial, trivial, trivial, trivial, trivial⟩ trivial (fun _ _ q => False.elim q) (rmo_241 (S := S) (m := F.getD k 0) (q := F.getD q 0) (tl := tl) hM hK hw (hFm _ hmk) (hFm _ hmq) hph h122 htl (fun z => ⟨hlk.1 z, hlq.1 z⟩) (fun z => ⟨hlk.2 z, hlq.2 z⟩)) (fun oq11 Sq11 hp12 q11 => ?_)
            rcases q11 with ⟨rfl, rfl⟩
            show wJ _ _ _ _ _ _ _ _ _ _
            have hbm := bI_rg (moA cs ms ph tl.length (F.getD k 0) (F.getD q 0))
            refine wa_ifeq (w_rg0 (by omega) (by omega)) ⟨_, rfl⟩ (fun c13 => ?_) (fun c13 => ?_)
            · skip
              refine wa_iconst ?_
              refine wa_fall ⟨_, rfl⟩ ?_
              refine wa_istore (n := 6) rfl ?_
              refine wa_iinc rfl rfl ?_
              refine wa_goto ⟨_, rfl⟩ ?_
              have hp : (!(ftA cs ms ph tl (F.getD q 0)) || moA cs ms ph tl.length (F.getD k 0) (F.getD q 0)) = false := by
                rw [hftq, bI_0 (b := moA cs ms ph tl.length (F.getD k 0) (F.getD q 0)) (by omega)]; rfl
              exact wJ_S (ih (q + 1) false (by omega) (by omega) (hts.trans hp)) ⟨rfl, rfl, rfl, rfl, rfl, rfl, rfl, rfl, trivial⟩
            · skip
              refine wa_fall ⟨_, rfl⟩ ?_
              refine wa_iconst ?_
              refine wa_goto ⟨_, rfl⟩ ?_
              refine wa_istore (n := 6) rfl ?_
              refine wa_iinc rfl rfl ?_
              refine wa_goto ⟨_, rfl⟩ ?_
              have hp : (!(ftA cs ms ph tl (F.getD q 0)) || moA cs ms ph tl.length (F.getD k 0) (F.getD q 0)) = true := by
                first | (rw [show q = k by omega, moA_r, Bool.or_true]) | (rw [bI_0 (b := ftA cs ms ph tl (F.getD q 0)) (by omega)]; rfl) | (rw [bI_1 (b := moA cs ms ph tl.length (F.getD k 0) (F.getD q 0)) (by omega), Bool.or_true])
              exact wJ_S (ih (q + 1) true (by omega) (by omega) (hts.trans hp)) ⟨rfl, rfl, rfl, rfl, rfl, rfl, rfl, rfl, trivial⟩
theorem rsk_241 {ph R : Int} {tl F : List Int} (hM : w_ML S) (hK : KR 241 T n cs ms S) (hw : wHo cs ms os) (hph : 1 ≤ ph ∧ ph ≤ 3) (hT : tEs tl S) (hes : esOk tl) (hty : ∀ c ∈ tl, c < 9 + (cs.length : Int)) (hcd : cdI F S) (hFm : ∀ x ∈ F, 0 ≤ x ∧ x < (ms.length : Int)) (h1 : ftL cs ms ph tl F ≠ [] → Q (.inl (some (0, R))) S) (h2 : ftL cs ms ph tl F = [] → wJ (pe_GA xs) wY0 M (d + 4) t_M_single ((pe_at t_M_single.bl 16).getD (0, [])).2 [(0, (2, 237)), (1, (0, ph))] [] S Q) : ∀ (r k : Nat) (fit be fo : Int), k + r = F.length → fit = (((F.take k).filter (ftA cs ms ph tl)).length : Int) → (0 ≤ be ∧ be ≤ (k : Int)) → (-1 ≤ fo ∧ fo < 400) → msF (fun m => (ftL cs ms ph tl F).all (fun q => moA cs ms ph tl.length m q)) ((F.drop k).filter (ftA cs ms ph tl)) fo be = R → wJ (pe_GA xs) wY0 M (d + 4) t_M_single ((pe_at t_M_single.bl 2).getD (0, [])).2 [(0, (2, 237)), (1, (0, ph)), (2, (0, fit)), (3, (0, be)), (4, (0, fo)), (5, (0, (k : Int)))] [] S Q := by
  have h128 : S 237 128 = (F.length : Int) := hcd.1
  have hFl := hcd.2.2
  have h400 := hw.1.2
  have h122 : S 237 122 = (tl.length : Int) := hT.1
  have htl := hT.2.2
  intro r
  induction r with
  | zero =>
    intro k fit be fo hr hfit hbe hfo hR
    rw [List.drop_of_length_le (by omega)] at hR
    rw [List.take_of_length_le (by omega)] at hfit
    replace hfit : fit = ((ftL cs ms ph tl F).length : Int) := hfit
    have hfl : (ftL cs ms ph tl F).length ≤ F.length := List.length_filter_le _ _
    replace hR : (if be = 1 then fo else -8) = R := hR
    refine wa_iload (n := 5) rfl ?_
    refine wa_aload_n (n := 0) rfl ?_
    refine wb_gfi 237 rfl (wy_pr rfl) wt_237 wf_15_128 (v := (F.length : Int)) (h128) (fun r1 => ?_)
    refine wa_icmpge (w_rg0 (by omega) (by omega)) (w_rg0 (by omega) (by omega)) ⟨_, rfl⟩ (fun c2 => ?_) (fun c2 => ?_)
    · skip
      refine wa_iload_n (n := 2) rfl ?_
      refine wa_ifle (w_rg0 (by omega) (by omega)) ⟨_, rfl⟩ (fun c3 => ?_) (fun c3 => ?_)
      · skip
        exact wJ_S (h2 (List.eq_nil_of_length_eq_zero (by omega))) ⟨rfl, rfl, trivial⟩
      · skip
        refine wa_iload_n (n := 3) rfl ?_
        refine wa_iconst ?_
        refine wa_icmpne (w_rg0 (by omega) (by omega)) (w_rg0 (by omega) (by omega)) ⟨_, rfl⟩ (fun c4 => ?_) (fun c4 => ?_)
        · skip
          refine wa_bipush (w_rg2 (by omega) (by omega)) ?_
          refine wa_fall ⟨_, rfl⟩ ?_
          refine wa_ireturn rfl ?_
          have hre : (-8) = R := by rw [← hR]; first | exact (if_pos (by omega)).symm | exact (if_neg (by omega)).symm
          rw [hre]
          exact h1 (fun z => absurd (congrArg List.length z) (by show ¬ (ftL cs ms ph tl F).length = 0; omega))
        · skip
          refine wa_iload (n := 4) rfl ?_
          refine wa_goto ⟨_, rfl⟩ ?_
          refine wa_ireturn rfl ?_
          have hre : fo = R := by rw [← hR]; first | exact (if_pos (by omega)).symm | exact (if_neg (by omega)).symm
          rw [hre]
          exact h1 (fun z => absurd (congrArg List.length z) (by show ¬ (ftL cs ms ph tl F).length = 0; omega))
    · skip
      exfalso; omega
  | succ r ih =>
    intro k fit be fo hr hfit hbe hfo hR
    have hk : k < F.length := by omega
    have hmk : F.getD k 0 ∈ F := by rw [List.getD_eq_getElem?_getD, List.getElem?_eq_getElem (show k < F.length by omega)]; exact List.getElem_mem _
    have hmr := hFm _ hmk
    have h55 := hcd.2.1 k hk
    have hfs := flt_s (pb := (ftA cs ms ph tl)) hk
    have hfd := flt_d (pb := (ftA cs ms ph tl)) hk
    have hfl : ((F.take k).filter (ftA cs ms ph tl)).length ≤ k := by have z := List.length_filter_le (ftA cs ms ph tl) (F.take k); rw [List.length_take] at z; omega
    refine wa_iload (n := 5) rfl ?_
    refine wa_aload_n (n := 0) rfl ?_
    refine wb_gfi 237 rfl (wy_pr rfl) wt_237 wf_15_128 (v := (F.length : Int)) (h128) (fun r51 => ?_)
    refine wa_icmpge (w_rg0 (by omega) (by omega)) (w_rg0 (by omega) (by omega)) ⟨_, rfl⟩ (fun c52 => ?_) (fun c52 => ?_)
    · skip
      exfalso; omega
    · skip
      refine wa_aload_n (n := 0) rfl ?_
      refine wa_aload_n (n := 0) rfl ?_
      refine wb_gf4 237 rfl (wy_pr rfl) wt_237 wf_15_129 (v := 355) wl_237_129 ?_
      refine wa_iload (n := 5) rfl ?_
      refine wb_iald 355 rfl (wy_pr rfl) wt_355 (n := 400) ((ml_355 hM)) (by omega) (by omega) (v := (F.getD k 0)) (h55) (fun r53 => ?_)
      refine wa_iload_n (n := 1) rfl ?_
      refine wa_cv 237 rfl (wy_pr rfl) wt_237 (M2 := fun _ => False) rfl at_M_fitsIn ⟨_, rfl⟩ rfl rfl ⟨(Or.inr ⟨wy_pr rfl, fun q => q⟩), trivial, trivial, trivial, trivial, trivial, trivial⟩ trivial (fun _ _ q => False.elim q) (rft_241 (S := S) (m := (F.getD k 0)) (ph := ph) (tl := tl) hM hK hw (hFm _ hmk) hph hT hes hty) (fun oq54 Sq54 hp55 q54 => ?_)
      rcases q54 with ⟨rfl, rfl⟩
      show wJ _ _ _ _ _ _ _ _ _ _
      have hbf53 := bI_rg (ftA cs ms ph tl (F.getD k 0))
      refine wa_ifeq (w_rg0 (by omega) (by omega)) ⟨_, rfl⟩ (fun c56 => ?_) (fun c56 => ?_)
      · skip
        refine wa_iinc rfl rfl ?_
        refine wa_goto ⟨_, rfl⟩ ?_
        have hf0 := bI_0 (b := ftA cs ms ph tl (F.getD k 0)) (by omega)
        rw [if_neg (by rw [hf0]; decide)] at hfs hfd
        rw [hfd] at hR
        exact wJ_S (ih (k + 1) fit be fo (by omega) (by rw [hfs]; exact hfit) ⟨by omega, by omega⟩ hfo hR) ⟨rfl, rfl, rfl, rfl, rfl, rfl, trivial⟩
      · skip
        refine wa_iinc rfl rfl ?_
        refine wa_iconst ?_
        refine wa_istore (n := 6) rfl ?_
        refine wa_iconst ?_
        refine wa_istore (n := 7) rfl ?_
        refine wa_fall ⟨_, rfl⟩ ?_
        have hf1 := bI_1 (b := ftA cs ms ph tl (F.getD k 0)) (by omega)
        rw [if_pos hf1] at hfs hfd
        rw [hfd] at hR
        refine wJ_S (rsq_241 (fit := (fit + 1)) (be := be) (fo := fo) hM hK hw hph hT hes hty hcd hFm hk hf1 ?_ (F.length + 1) 0 true (by omega) (by omega) rfl) ⟨rfl, rfl, rfl, rfl, rfl, rfl, rfl, rfl, trivial⟩
        obtain ⟨bv, hbv⟩ : ∃ x : Bool, x = (ftL cs ms ph tl F).all (fun q => moA cs ms ph tl.length (F.getD k 0) q) := ⟨_, rfl⟩
        rw [← hbv]
        have hbr := bI_rg bv
        have hfit2 : fit + 1 = (((F.take (k + 1)).filter (ftA cs ms ph tl)).length : Int) := by rw [hfs, List.length_append, List.length_singleton]; omega
        refine wa_iload_n (n := 3) rfl ?_
        refine wa_iload (n := 6) rfl ?_
        refine wa_ifeq (w_rg0 (by omega) (by omega)) ⟨_, rfl⟩ (fun c157 => ?_) (fun c157 => ?_)
        · skip
          refine wa_iconst ?_
          refine wa_fall ⟨_, rfl⟩ ?_
          refine wa_iadd ?_
          refine wJ_top (show be + 0 = be by omega) ?_
          refine wa_istore_n (n := 3) rfl ?_
          refine wa_iload (n := 6) rfl ?_
          refine wa_ifeq (w_rg0 (by omega) (by omega)) ⟨_, rfl⟩ (fun c158 => ?_) (fun c158 => ?_)
          · skip
            refine wa_iload (n := 4) rfl ?_
            refine wa_fall ⟨_, rfl⟩ ?_
            refine wa_istore (n := 4) rfl ?_
            refine wa_fall ⟨_, rfl⟩ ?_
            refine wa_iinc rfl rfl ?_
            refine wa_goto ⟨_, rfl⟩ ?_
            have hb0 := bI_0 (b := bv) (by omega)
            rw [hb0] at hbv
            have hR2 : msF (fun m => (ftL cs ms ph tl F).all (fun q => moA cs ms ph tl.length m q)) ((F.drop (k + 1)).filter (ftA cs ms ph tl)) fo be = R := (if_neg (fun z => absurd (hbv.trans z) (by first | decide | omega))).symm.trans hR
            have hbe0 : be + 0 = be := Int.add_zero be
            exact wJ_S (ih (k + 1) (fit + 1) be fo (by omega) hfit2 ⟨by omega, by omega⟩ hfo hR2) ⟨rfl, rfl, rfl, rfl, rfl, rfl, trivial⟩
          · skip
            exact absurd c158 (by omega)
        · skip
          refine wa_iconst ?_
          refine wa_goto ⟨_, rfl⟩ ?_
          refine wa_iadd ?_
          refine wa_istore_n (n := 3) rfl ?_
          refine wa_iload (n := 6) rfl ?_
          refine wa_ifeq (w_rg0 (by omega) (by omega)) ⟨_, rfl⟩ (fun c159 => ?_) (fun c159 => ?_)
          · skip
            exact absurd c159 (by omega)
          · skip
            refine wa_aload_n (n := 0) rfl ?_
            refine wb_gf4 237 rfl (wy_pr rfl) wt_237 wf_15_129 (v := 355) wl_237_129 ?_
            refine wa_iload (n := 5) rfl ?_
            refine wb_iald 355 rfl (wy_pr rfl) wt_355 (n := 400) ((ml_355 hM)) (by omega) (by omega) (v := (F.getD k 0)) (h55) (fun r160 => ?_)
            refine wa_goto ⟨_, rfl⟩ ?_
            refine wa_istore (n := 4) rfl ?_
            refine wa_fall ⟨_, rfl⟩ ?_
            refine wa_iinc rfl rfl ?_
            refine wa_goto ⟨_, rfl⟩ ?_
            have hb1 := bI_1 (b := bv) (by omega)
            rw [hb1] at hbv
            have hR2 : msF (fun m => (ftL cs ms ph tl F).all (fun q => moA cs ms ph tl.length m q)) ((F.drop (k + 1)).filter (ftA cs ms ph tl)) (F.getD k 0) (be + 1) = R := (if_pos hbv.symm).symm.trans hR
            exact wJ_S (ih (k + 1) (fit + 1) (be + 1) (F.getD k 0) (by omega) hfit2 ⟨by omega, by omega⟩ ⟨by omega, by omega⟩ hR2) ⟨rfl, rfl, rfl, rfl, rfl, rfl, trivial⟩
theorem rsp_241 {ph : Int} {tl F : List Int} (hM : w_ML S) (hK : KR 241 T n cs ms S) (hw : wHo cs ms os) (hph : 1 ≤ ph ∧ ph ≤ 3) (hT : tEs tl S) (hes : esOk tl) (hty : ∀ c ∈ tl, c < 9 + (cs.length : Int)) (hcd : cdI F S) (hFm : ∀ x ∈ F, 0 ≤ x ∧ x < (ms.length : Int)) (h1 : ftL cs ms ph tl F ≠ [] → Q (.inl (some (0, sgP cs ms ph tl.length (ftL cs ms ph tl F)))) S) (h2 : ftL cs ms ph tl F = [] → wJ (pe_GA xs) wY0 M (d + 4) t_M_single ((pe_at t_M_single.bl 1).getD (0, [])).2 [(0, (2, 237)), (1, (0, ph + 1))] [] S Q) : wJ (pe_GA xs) wY0 M (d + 4) t_M_single ((pe_at t_M_single.bl 1).getD (0, [])).2 [(0, (2, 237)), (1, (0, ph))] [] S Q := by
  refine wa_iload_n (n := 1) rfl ?_
  refine wa_iconst ?_
  refine wa_icmpgt (w_rg0 (by omega) (by omega)) (w_rg0 (by omega) (by omega)) ⟨_, rfl⟩ (fun c1 => ?_) (fun c1 => ?_)
  · skip
    exfalso; omega
  · skip
    refine wa_iconst ?_
    refine wa_istore_n (n := 2) rfl ?_
    refine wa_iconst ?_
    refine wa_istore_n (n := 3) rfl ?_
    refine wa_iconst ?_
    refine wa_istore (n := 4) rfl ?_
    refine wa_iconst ?_
    refine wa_istore (n := 5) rfl ?_
    refine wa_fall ⟨_, rfl⟩ ?_
    refine wJ_S (rsk_241 hM hK hw hph hT hes hty hcd hFm h1 (fun e => ?_) F.length 0 0 0 (-1) (by omega) rfl ⟨by omega, by omega⟩ ⟨by omega, by omega⟩ (by rw [List.drop_zero]; exact sgP_m (ftL cs ms ph tl F) (-1))) ⟨rfl, rfl, rfl, rfl, rfl, rfl, trivial⟩
    refine wa_iinc rfl rfl ?_
    refine wa_goto ⟨_, rfl⟩ ?_
    exact wJ_S (h2 e) ⟨rfl, rfl, trivial⟩
theorem rsg_241 {tl F : List Int} (hM : w_ML S) (hK : KR 241 T n cs ms S) (hw : wHo cs ms os) (hT : tEs tl S) (hes : esOk tl) (hty : ∀ c ∈ tl, c < 9 + (cs.length : Int)) (hcd : cdI F S) (hFm : ∀ x ∈ F, 0 ≤ x ∧ x < (ms.length : Int)) : wJ (pe_GA xs) wY0 M (d + 4) t_M_single ((pe_at t_M_single.bl 0).getD (0, [])).2 [(0, (2, 237))] [] S (fun o Z => S = Z ∧ o = .inl (some (0, sgA cs ms tl F))) := by
  refine wa_iconst ?_
  refine wa_istore_n (n := 1) rfl ?_
  refine wa_fall ⟨_, rfl⟩ ?_
  refine wJ_S (rsp_241 (ph := 1) hM hK hw ⟨by decide, by decide⟩ hT hes hty hcd hFm (fun e1 => ⟨rfl, ?_⟩) (fun e1 => wJ_S (rsp_241 (ph := 2) hM hK hw ⟨by decide, by decide⟩ hT hes hty hcd hFm (fun e2 => ⟨rfl, ?_⟩) (fun e2 => wJ_S (rsp_241 (ph := 3) hM hK hw ⟨by decide, by decide⟩ hT hes hty hcd hFm (fun e3 => ⟨rfl, ?_⟩) (fun e3 => ?_)) ⟨rfl, rfl, trivial⟩)) ⟨rfl, rfl, trivial⟩)) ⟨rfl, rfl, trivial⟩
  · unfold sgA; rw [if_pos e1]
  · unfold sgA; rw [if_neg (fun z => z e1), if_pos e2]
  · unfold sgA; rw [if_neg (fun z => z e1), if_neg (fun z => z e2), if_pos e3]
  · skip
    refine wa_iload_n (n := 1) rfl ?_
    refine wa_iconst ?_
    refine wa_icmpgt (w_rg0 (by omega) (by omega)) (w_rg0 (by omega) (by omega)) ⟨_, rfl⟩ (fun c301 => ?_) (fun c301 => ?_)
    · skip
      refine wa_bipush (w_rg2 (by omega) (by omega)) ?_
      refine wa_ireturn rfl ?_
      exact ⟨rfl, by unfold sgA; rw [if_neg (fun z => z e1), if_neg (fun z => z e2), if_neg (fun z => z e3)]⟩
    · skip
      exfalso; omega
theorem rsq_261 {ph fit be fo : Int} {tl F : List Int} {k : Nat} (hM : w_ML S) (hK : KR 261 T n cs ms S) (hw : wHo cs ms os) (hph : 1 ≤ ph ∧ ph ≤ 3) (hT : tEs tl S) (hes : esOk tl) (hty : ∀ c ∈ tl, c < 9 + (cs.length : Int)) (hcd : cdI F S) (hFm : ∀ x ∈ F, 0 ≤ x ∧ x < (ms.length : Int)) (hk : k < F.length) (hft : ftA cs ms ph tl (F.getD k 0) = true) (hk7 : wJ (pe_GA xs) wY0 M (d + 4) t_M_single ((pe_at t_M_single.bl 7).getD (0, [])).2 [(0, (2, 237)), (1, (0, ph)), (2, (0, fit)), (3, (0, be)), (4, (0, fo)), (5, (0, (k : Int))), (6, (0, bI ((ftL cs ms ph tl F).all (fun q => moA cs ms ph tl.length (F.getD k 0) q))))] [] S Q) : ∀ (f q : Nat) (v : Bool), F.length - q < f → q ≤ F.length → (F.take q).all (fun x => !(ftA cs ms ph tl x) || moA cs ms ph tl.length (F.getD k 0) x) = v → wJ (pe_GA xs) wY0 M (d + 4) t_M_single ((pe_at t_M_single.bl 3).getD (0, [])).2 [(0, (2, 237)), (1, (0, ph)), (2, (0, fit)), (3, (0, be)), (4, (0, fo)), (5, (0, (k : Int))), (6, (0, bI v)), (7, (0, (q : Int)))] [] S Q := by
  have h128 : S 237 128 = (F.length : Int) := hcd.1
  have hFl := hcd.2.2
  have h400 := hw.1.2
  have h122 : S 237 122 = (tl.length : Int) := hT.1
  have htl := hT.2.2
  have hmk : F.getD k 0 ∈ F := by rw [List.getD_eq_getElem?_getD, List.getElem?_eq_getElem (show k < F.length by omega)]; exact List.getElem_mem _
  have h55k := hcd.2.1 k hk
  have hlk := ft_t hw (hFm _ hmk) hft
  intro f
  induction f with
  | zero => intro q v h; exact absurd h (Nat.not_lt_zero _)
  | succ f ih =>
    intro q v hf hq hv
    have hbv := bI_rg v
    refine wa_iload (n := 7) rfl ?_
    refine wa_aload_n (n := 0) rfl ?_
    refine wb_gfi 237 rfl (wy_pr rfl) wt_237 wf_15_128 (v := (F.length : Int)) (h128) (fun r1 => ?_)
    refine wa_icmpge (w_rg0 (by omega) (by omega)) (w_rg0 (by omega) (by omega)) ⟨_, rfl⟩ (fun c2 => ?_) (fun c2 => ?_)
    · skip
      have he : (ftL cs ms ph tl F).all (fun q => moA cs ms ph tl.length (F.getD k 0) q) = v := by
        have z := all_flt (f := F) (pb := fun q => moA cs ms ph tl.length (F.getD k 0) q) (g := ftA cs ms ph tl)
        rw [show ftL cs ms ph tl F = F.filter (ftA cs ms ph tl) from rfl, ← z]
        first | (rw [List.take_of_length_le (by omega)] at hv; exact hv) | (have hv0 := bI_0 (b := v) (by omega); rw [hv0] at hv ⊢; exact all_tk hv)
      rw [he] at hk7
      exact wJ_S hk7 ⟨rfl, rfl, rfl, rfl, rfl, rfl, rfl, trivial⟩
    · skip
      refine wa_iload (n := 6) rfl ?_
      refine wa_ifeq (w_rg0 (by omega) (by omega)) ⟨_, rfl⟩ (fun c3 => ?_) (fun c3 => ?_)
      · skip
        have he : (ftL cs ms ph tl F).all (fun q => moA cs ms ph tl.length (F.getD k 0) q) = v := by
          have z := all_flt (f := F) (pb := fun q => moA cs ms ph tl.length (F.getD k 0) q) (g := ftA cs ms ph tl)
          rw [show ftL cs ms ph tl F = F.filter (ftA cs ms ph tl) from rfl, ← z]
          first | (rw [List.take_of_length_le (by omega)] at hv; exact hv) | (have hv0 := bI_0 (b := v) (by omega); rw [hv0] at hv ⊢; exact all_tk hv)
        rw [he] at hk7
        exact wJ_S hk7 ⟨rfl, rfl, rfl, rfl, rfl, rfl, rfl, trivial⟩
      · skip
        have hv1 := bI_1 (b := v) (by omega)
        rw [hv1] at hv
        have hmq : F.getD q 0 ∈ F := by rw [List.getD_eq_getElem?_getD, List.getElem?_eq_getElem (show q < F.length by omega)]; exact List.getElem_mem _
        have h55q := hcd.2.1 q (by omega)
        have hts := all_ts (f := F) (j := q) (pb := (fun x => !(ftA cs ms ph tl x) || moA cs ms ph tl.length (F.getD k 0) x)) (by omega) hv
        refine wa_iload (n := 7) rfl ?_
        refine wa_iload (n := 5) rfl ?_
        refine wa_icmpeq (w_rg0 (by omega) (by omega)) (w_rg0 (by omega) (by omega)) ⟨_, rfl⟩ (fun c4 => ?_) (fun c4 => ?_)
        · skip
          refine wa_iconst ?_
          refine wa_goto ⟨_, rfl⟩ ?_
          refine wa_istore (n := 6) rfl ?_
          refine wa_iinc rfl rfl ?_
          refine wa_goto ⟨_, rfl⟩ ?_
          have hp : (!(ftA cs ms ph tl (F.getD q 0)) || moA cs ms ph tl.length (F.getD k 0) (F.getD q 0)) = true := by
            first | (rw [show q = k by omega, moA_r, Bool.or_true]) | (rw [bI_0 (b := ftA cs ms ph tl (F.getD q 0)) (by omega)]; rfl) | (rw [bI_1 (b := moA cs ms ph tl.length (F.getD k 0) (F.getD q 0)) (by omega), Bool.or_true])
          exact wJ_S (ih (q + 1) true (by omega) (by omega) (hts.trans hp)) ⟨rfl, rfl, rfl, rfl, rfl, rfl, rfl, rfl, trivial⟩
        · skip
          refine wa_aload_n (n := 0) rfl ?_
          refine wa_aload_n (n := 0) rfl ?_
          refine wb_gf4 237 rfl (wy_pr rfl) wt_237 wf_15_129 (v := 355) wl_237_129 ?_
          refine wa_iload (n := 7) rfl ?_
          refine wb_iald 355 rfl (wy_pr rfl) wt_355 (n := 400) ((ml_355 hM)) (by omega) (by omega) (v := (F.getD q 0)) (h55q) (fun r5 => ?_)
          refine wa_iload_n (n := 1) rfl ?_
          refine wa_cv 237 rfl (wy_pr rfl) wt_237 (M2 := fun _ => False) rfl at_M_fitsIn ⟨_, rfl⟩ rfl rfl ⟨(Or.inr ⟨wy_pr rfl, fun q => q⟩), trivial, trivial, trivial, trivial, trivial, trivial, trivial, trivial⟩ trivial (fun _ _ q => False.elim q) (rft_261 (S := S) (m := (F.getD q 0)) (ph := ph) (tl := tl) hM hK hw (hFm _ hmq) hph hT hes hty) (fun oq6 Sq6 hp7 q6 => ?_)
          rcases q6 with ⟨rfl, rfl⟩
          show wJ _ _ _ _ _ _ _ _ _ _
          have hbf5 := bI_rg (ftA cs ms ph tl (F.getD q 0))
          refine wa_ifeq (w_rg0 (by omega) (by omega)) ⟨_, rfl⟩ (fun c8 => ?_) (fun c8 => ?_)
          · skip
            refine wa_iconst ?_
            refine wa_goto ⟨_, rfl⟩ ?_
            refine wa_istore (n := 6) rfl ?_
            refine wa_iinc rfl rfl ?_
            refine wa_goto ⟨_, rfl⟩ ?_
            have hp : (!(ftA cs ms ph tl (F.getD q 0)) || moA cs ms ph tl.length (F.getD k 0) (F.getD q 0)) = true := by
              first | (rw [show q = k by omega, moA_r, Bool.or_true]) | (rw [bI_0 (b := ftA cs ms ph tl (F.getD q 0)) (by omega)]; rfl) | (rw [bI_1 (b := moA cs ms ph tl.length (F.getD k 0) (F.getD q 0)) (by omega), Bool.or_true])
            exact wJ_S (ih (q + 1) true (by omega) (by omega) (hts.trans hp)) ⟨rfl, rfl, rfl, rfl, rfl, rfl, rfl, rfl, trivial⟩
          · skip
            refine wa_aload_n (n := 0) rfl ?_
            refine wa_aload_n (n := 0) rfl ?_
            refine wb_gf4 237 rfl (wy_pr rfl) wt_237 wf_15_129 (v := 355) wl_237_129 ?_
            refine wa_iload (n := 5) rfl ?_
            refine wb_iald 355 rfl (wy_pr rfl) wt_355 (n := 400) ((ml_355 hM)) (by omega) (by omega) (v := (F.getD k 0)) (h55k) (fun r9 => ?_)
            refine wa_aload_n (n := 0) rfl ?_
            refine wb_gf4 237 rfl (wy_pr rfl) wt_237 wf_15_129 (v := 355) wl_237_129 ?_
            refine wa_iload (n := 7) rfl ?_
            refine wb_iald 355 rfl (wy_pr rfl) wt_355 (n := 400) ((ml_355 hM)) (by omega) (by omega) (v := (F.getD q 0)) (h55q) (fun r10 => ?_)
            refine wa_iload_n (n := 1) rfl ?_
            have hftq := bI_1 (b := ftA cs ms ph tl (F.getD q 0)) (by omega)
            have hlq := ft_t hw (hFm _ hmq) hftq
            refine wa_cv 237 rfl (wy_pr rfl) wt_237 (M2 := fun _ => False) rfl at_M_isMoreSpecific ⟨_, rfl⟩ rfl rfl ⟨(Or.inr ⟨wy_pr rfl, fun q => q⟩), trivial, trivial, trivial, trivial, trivial, trivial, trivial, trivial⟩ trivial (fun _ _ q => False.elim q) (rmo_261 (S := S) (m := F.getD k 0) (q := F.getD q 0) (tl := tl) hM hK hw (hFm _ hmk) (hFm _ hmq) hph h122 htl (fun z => ⟨hlk.1 z, hlq.1 z⟩) (fun z => ⟨hlk.2 z, hlq.2 z⟩)) (fun oq11 Sq11 hp12 q11 => ?_)
            rcases q11 with ⟨rfl, rfl⟩
            show wJ _ _ _ _ _ _ _ _ _ _
            have hbm := bI_rg (moA cs ms ph tl.length (F.getD k 0) (F.getD q 0))
            refine wa_ifeq (w_rg0 (by omega) (by omega)) ⟨_, rfl⟩ (fun c13 => ?_) (fun c13 => ?_)
            · skip
              refine wa_iconst ?_
              refine wa_fall ⟨_, rfl⟩ ?_
              refine wa_istore (n := 6) rfl ?_
              refine wa_iinc rfl rfl ?_
              refine wa_goto ⟨_, rfl⟩ ?_
              have hp : (!(ftA cs ms ph tl (F.getD q 0)) || moA cs ms ph tl.length (F.getD k 0) (F.getD q 0)) = false := by
                rw [hftq, bI_0 (b := moA cs ms ph tl.length (F.getD k 0) (F.getD q 0)) (by omega)]; rfl
              exact wJ_S (ih (q + 1) false (by omega) (by omega) (hts.trans hp)) ⟨rfl, rfl, rfl, rfl, rfl, rfl, rfl, rfl, trivial⟩
            · skip
              refine wa_fall ⟨_, rfl⟩ ?_
              refine wa_iconst ?_
              refine wa_goto ⟨_, rfl⟩ ?_
              refine wa_istore (n := 6) rfl ?_
              refine wa_iinc rfl rfl ?_
              refine wa_goto ⟨_, rfl⟩ ?_
              have hp : (!(ftA cs ms ph tl (F.getD q 0)) || moA cs ms ph tl.length (F.getD k 0) (F.getD q 0)) = true := by
                first | (rw [show q = k by omega, moA_r, Bool.or_true]) | (rw [bI_0 (b := ftA cs ms ph tl (F.getD q 0)) (by omega)]; rfl) | (rw [bI_1 (b := moA cs ms ph tl.length (F.getD k 0) (F.getD q 0)) (by omega), Bool.or_true])
              exact wJ_S (ih (q + 1) true (by omega) (by omega) (hts.trans hp)) ⟨rfl, rfl, rfl, rfl, rfl, rfl, rfl, rfl, trivial⟩
theorem rsk_261 {ph R : Int} {tl F : List Int} (hM : w_ML S) (hK : KR 261 T n cs ms S) (hw : wHo cs ms os) (hph : 1 ≤ ph ∧ ph ≤ 3) (hT : tEs tl S) (hes : esOk tl) (hty : ∀ c ∈ tl, c < 9 + (cs.length : Int)) (hcd : cdI F S) (hFm : ∀ x ∈ F, 0 ≤ x ∧ x < (ms.length : Int)) (h1 : ftL cs ms ph tl F ≠ [] → Q (.inl (some (0, R))) S) (h2 : ftL cs ms ph tl F = [] → wJ (pe_GA xs) wY0 M (d + 4) t_M_single ((pe_at t_M_single.bl 16).getD (0, [])).2 [(0, (2, 237)), (1, (0, ph))] [] S Q) : ∀ (r k : Nat) (fit be fo : Int), k + r = F.length → fit = (((F.take k).filter (ftA cs ms ph tl)).length : Int) → (0 ≤ be ∧ be ≤ (k : Int)) → (-1 ≤ fo ∧ fo < 400) → msF (fun m => (ftL cs ms ph tl F).all (fun q => moA cs ms ph tl.length m q)) ((F.drop k).filter (ftA cs ms ph tl)) fo be = R → wJ (pe_GA xs) wY0 M (d + 4) t_M_single ((pe_at t_M_single.bl 2).getD (0, [])).2 [(0, (2, 237)), (1, (0, ph)), (2, (0, fit)), (3, (0, be)), (4, (0, fo)), (5, (0, (k : Int)))] [] S Q := by
  have h128 : S 237 128 = (F.length : Int) := hcd.1
  have hFl := hcd.2.2
  have h400 := hw.1.2
  have h122 : S 237 122 = (tl.length : Int) := hT.1
  have htl := hT.2.2
  intro r
  induction r with
  | zero =>
    intro k fit be fo hr hfit hbe hfo hR
    rw [List.drop_of_length_le (by omega)] at hR
    rw [List.take_of_length_le (by omega)] at hfit
    replace hfit : fit = ((ftL cs ms ph tl F).length : Int) := hfit
    have hfl : (ftL cs ms ph tl F).length ≤ F.length := List.length_filter_le _ _
    replace hR : (if be = 1 then fo else -8) = R := hR
    refine wa_iload (n := 5) rfl ?_
    refine wa_aload_n (n := 0) rfl ?_
    refine wb_gfi 237 rfl (wy_pr rfl) wt_237 wf_15_128 (v := (F.length : Int)) (h128) (fun r1 => ?_)
    refine wa_icmpge (w_rg0 (by omega) (by omega)) (w_rg0 (by omega) (by omega)) ⟨_, rfl⟩ (fun c2 => ?_) (fun c2 => ?_)
    · skip
      refine wa_iload_n (n := 2) rfl ?_
      refine wa_ifle (w_rg0 (by omega) (by omega)) ⟨_, rfl⟩ (fun c3 => ?_) (fun c3 => ?_)
      · skip
        exact wJ_S (h2 (List.eq_nil_of_length_eq_zero (by omega))) ⟨rfl, rfl, trivial⟩
      · skip
        refine wa_iload_n (n := 3) rfl ?_
        refine wa_iconst ?_
        refine wa_icmpne (w_rg0 (by omega) (by omega)) (w_rg0 (by omega) (by omega)) ⟨_, rfl⟩ (fun c4 => ?_) (fun c4 => ?_)
        · skip
          refine wa_bipush (w_rg2 (by omega) (by omega)) ?_
          refine wa_fall ⟨_, rfl⟩ ?_
          refine wa_ireturn rfl ?_
          have hre : (-8) = R := by rw [← hR]; first | exact (if_pos (by omega)).symm | exact (if_neg (by omega)).symm
          rw [hre]
          exact h1 (fun z => absurd (congrArg List.length z) (by show ¬ (ftL cs ms ph tl F).length = 0; omega))
        · skip
          refine wa_iload (n := 4) rfl ?_
          refine wa_goto ⟨_, rfl⟩ ?_
          refine wa_ireturn rfl ?_
          have hre : fo = R := by rw [← hR]; first | exact (if_pos (by omega)).symm | exact (if_neg (by omega)).symm
          rw [hre]
          exact h1 (fun z => absurd (congrArg List.length z) (by show ¬ (ftL cs ms ph tl F).length = 0; omega))
    · skip
      exfalso; omega
  | succ r ih =>
    intro k fit be fo hr hfit hbe hfo hR
    have hk : k < F.length := by omega
    have hmk : F.getD k 0 ∈ F := by rw [List.getD_eq_getElem?_getD, List.getElem?_eq_getElem (show k < F.length by omega)]; exact List.getElem_mem _
    have hmr := hFm _ hmk
    have h55 := hcd.2.1 k hk
    have hfs := flt_s (pb := (ftA cs ms ph tl)) hk
    have hfd := flt_d (pb := (ftA cs ms ph tl)) hk
    have hfl : ((F.take k).filter (ftA cs ms ph tl)).length ≤ k := by have z := List.length_filter_le (ftA cs ms ph tl) (F.take k); rw [List.length_take] at z; omega
    refine wa_iload (n := 5) rfl ?_
    refine wa_aload_n (n := 0) rfl ?_
    refine wb_gfi 237 rfl (wy_pr rfl) wt_237 wf_15_128 (v := (F.length : Int)) (h128) (fun r51 => ?_)
    refine wa_icmpge (w_rg0 (by omega) (by omega)) (w_rg0 (by omega) (by omega)) ⟨_, rfl⟩ (fun c52 => ?_) (fun c52 => ?_)
    · skip
      exfalso; omega
    · skip
      refine wa_aload_n (n := 0) rfl ?_
      refine wa_aload_n (n := 0) rfl ?_
      refine wb_gf4 237 rfl (wy_pr rfl) wt_237 wf_15_129 (v := 355) wl_237_129 ?_
      refine wa_iload (n := 5) rfl ?_
      refine wb_iald 355 rfl (wy_pr rfl) wt_355 (n := 400) ((ml_355 hM)) (by omega) (by omega) (v := (F.getD k 0)) (h55) (fun r53 => ?_)
      refine wa_iload_n (n := 1) rfl ?_
      refine wa_cv 237 rfl (wy_pr rfl) wt_237 (M2 := fun _ => False) rfl at_M_fitsIn ⟨_, rfl⟩ rfl rfl ⟨(Or.inr ⟨wy_pr rfl, fun q => q⟩), trivial, trivial, trivial, trivial, trivial, trivial⟩ trivial (fun _ _ q => False.elim q) (rft_261 (S := S) (m := (F.getD k 0)) (ph := ph) (tl := tl) hM hK hw (hFm _ hmk) hph hT hes hty) (fun oq54 Sq54 hp55 q54 => ?_)
      rcases q54 with ⟨rfl, rfl⟩
      show wJ _ _ _ _ _ _ _ _ _ _
      have hbf53 := bI_rg (ftA cs ms ph tl (F.getD k 0))
      refine wa_ifeq (w_rg0 (by omega) (by omega)) ⟨_, rfl⟩ (fun c56 => ?_) (fun c56 => ?_)
      · skip
        refine wa_iinc rfl rfl ?_
        refine wa_goto ⟨_, rfl⟩ ?_
        have hf0 := bI_0 (b := ftA cs ms ph tl (F.getD k 0)) (by omega)
        rw [if_neg (by rw [hf0]; decide)] at hfs hfd
        rw [hfd] at hR
        exact wJ_S (ih (k + 1) fit be fo (by omega) (by rw [hfs]; exact hfit) ⟨by omega, by omega⟩ hfo hR) ⟨rfl, rfl, rfl, rfl, rfl, rfl, trivial⟩
      · skip
        refine wa_iinc rfl rfl ?_
        refine wa_iconst ?_
        refine wa_istore (n := 6) rfl ?_
        refine wa_iconst ?_
        refine wa_istore (n := 7) rfl ?_
        refine wa_fall ⟨_, rfl⟩ ?_
        have hf1 := bI_1 (b := ftA cs ms ph tl (F.getD k 0)) (by omega)
        rw [if_pos hf1] at hfs hfd
        rw [hfd] at hR
        refine wJ_S (rsq_261 (fit := (fit + 1)) (be := be) (fo := fo) hM hK hw hph hT hes hty hcd hFm hk hf1 ?_ (F.length + 1) 0 true (by omega) (by omega) rfl) ⟨rfl, rfl, rfl, rfl, rfl, rfl, rfl, rfl, trivial⟩
        obtain ⟨bv, hbv⟩ : ∃ x : Bool, x = (ftL cs ms ph tl F).all (fun q => moA cs ms ph tl.length (F.getD k 0) q) := ⟨_, rfl⟩
        rw [← hbv]
        have hbr := bI_rg bv
        have hfit2 : fit + 1 = (((F.take (k + 1)).filter (ftA cs ms ph tl)).length : Int) := by rw [hfs, List.length_append, List.length_singleton]; omega
        refine wa_iload_n (n := 3) rfl ?_
        refine wa_iload (n := 6) rfl ?_
        refine wa_ifeq (w_rg0 (by omega) (by omega)) ⟨_, rfl⟩ (fun c157 => ?_) (fun c157 => ?_)
        · skip
          refine wa_iconst ?_
          refine wa_fall ⟨_, rfl⟩ ?_
          refine wa_iadd ?_
          refine wJ_top (show be + 0 = be by omega) ?_
          refine wa_istore_n (n := 3) rfl ?_
          refine wa_iload (n := 6) rfl ?_
          refine wa_ifeq (w_rg0 (by omega) (by omega)) ⟨_, rfl⟩ (fun c158 => ?_) (fun c158 => ?_)
          · skip
            refine wa_iload (n := 4) rfl ?_
            refine wa_fall ⟨_, rfl⟩ ?_
            refine wa_istore (n := 4) rfl ?_
            refine wa_fall ⟨_, rfl⟩ ?_
            refine wa_iinc rfl rfl ?_
            refine wa_goto ⟨_, rfl⟩ ?_
            have hb0 := bI_0 (b := bv) (by omega)
            rw [hb0] at hbv
            have hR2 : msF (fun m => (ftL cs ms ph tl F).all (fun q => moA cs ms ph tl.length m q)) ((F.drop (k + 1)).filter (ftA cs ms ph tl)) fo be = R := (if_neg (fun z => absurd (hbv.trans z) (by first | decide | omega))).symm.trans hR
            have hbe0 : be + 0 = be := Int.add_zero be
            exact wJ_S (ih (k + 1) (fit + 1) be fo (by omega) hfit2 ⟨by omega, by omega⟩ hfo hR2) ⟨rfl, rfl, rfl, rfl, rfl, rfl, trivial⟩
          · skip
            exact absurd c158 (by omega)
        · skip
          refine wa_iconst ?_
          refine wa_goto ⟨_, rfl⟩ ?_
          refine wa_iadd ?_
          refine wa_istore_n (n := 3) rfl ?_
          refine wa_iload (n := 6) rfl ?_
          refine wa_ifeq (w_rg0 (by omega) (by omega)) ⟨_, rfl⟩ (fun c159 => ?_) (fun c159 => ?_)
          · skip
            exact absurd c159 (by omega)
          · skip
            refine wa_aload_n (n := 0) rfl ?_
            refine wb_gf4 237 rfl (wy_pr rfl) wt_237 wf_15_129 (v := 355) wl_237_129 ?_
            refine wa_iload (n := 5) rfl ?_
            refine wb_iald 355 rfl (wy_pr rfl) wt_355 (n := 400) ((ml_355 hM)) (by omega) (by omega) (v := (F.getD k 0)) (h55) (fun r160 => ?_)
            refine wa_goto ⟨_, rfl⟩ ?_
            refine wa_istore (n := 4) rfl ?_
            refine wa_fall ⟨_, rfl⟩ ?_
            refine wa_iinc rfl rfl ?_
            refine wa_goto ⟨_, rfl⟩ ?_
            have hb1 := bI_1 (b := bv) (by omega)
            rw [hb1] at hbv
            have hR2 : msF (fun m => (ftL cs ms ph tl F).all (fun q => moA cs ms ph tl.length m q)) ((F.drop (k + 1)).filter (ftA cs ms ph tl)) (F.getD k 0) (be + 1) = R := (if_pos hbv.symm).symm.trans hR
            exact wJ_S (ih (k + 1) (fit + 1) (be + 1) (F.getD k 0) (by omega) hfit2 ⟨by omega, by omega⟩ ⟨by omega, by omega⟩ hR2) ⟨rfl, rfl, rfl, rfl, rfl, rfl, trivial⟩
theorem rsp_261 {ph : Int} {tl F : List Int} (hM : w_ML S) (hK : KR 261 T n cs ms S) (hw : wHo cs ms os) (hph : 1 ≤ ph ∧ ph ≤ 3) (hT : tEs tl S) (hes : esOk tl) (hty : ∀ c ∈ tl, c < 9 + (cs.length : Int)) (hcd : cdI F S) (hFm : ∀ x ∈ F, 0 ≤ x ∧ x < (ms.length : Int)) (h1 : ftL cs ms ph tl F ≠ [] → Q (.inl (some (0, sgP cs ms ph tl.length (ftL cs ms ph tl F)))) S) (h2 : ftL cs ms ph tl F = [] → wJ (pe_GA xs) wY0 M (d + 4) t_M_single ((pe_at t_M_single.bl 1).getD (0, [])).2 [(0, (2, 237)), (1, (0, ph + 1))] [] S Q) : wJ (pe_GA xs) wY0 M (d + 4) t_M_single ((pe_at t_M_single.bl 1).getD (0, [])).2 [(0, (2, 237)), (1, (0, ph))] [] S Q := by
  refine wa_iload_n (n := 1) rfl ?_
  refine wa_iconst ?_
  refine wa_icmpgt (w_rg0 (by omega) (by omega)) (w_rg0 (by omega) (by omega)) ⟨_, rfl⟩ (fun c1 => ?_) (fun c1 => ?_)
  · skip
    exfalso; omega
  · skip
    refine wa_iconst ?_
    refine wa_istore_n (n := 2) rfl ?_
    refine wa_iconst ?_
    refine wa_istore_n (n := 3) rfl ?_
    refine wa_iconst ?_
    refine wa_istore (n := 4) rfl ?_
    refine wa_iconst ?_
    refine wa_istore (n := 5) rfl ?_
    refine wa_fall ⟨_, rfl⟩ ?_
    refine wJ_S (rsk_261 hM hK hw hph hT hes hty hcd hFm h1 (fun e => ?_) F.length 0 0 0 (-1) (by omega) rfl ⟨by omega, by omega⟩ ⟨by omega, by omega⟩ (by rw [List.drop_zero]; exact sgP_m (ftL cs ms ph tl F) (-1))) ⟨rfl, rfl, rfl, rfl, rfl, rfl, trivial⟩
    refine wa_iinc rfl rfl ?_
    refine wa_goto ⟨_, rfl⟩ ?_
    exact wJ_S (h2 e) ⟨rfl, rfl, trivial⟩
theorem rsg_261 {tl F : List Int} (hM : w_ML S) (hK : KR 261 T n cs ms S) (hw : wHo cs ms os) (hT : tEs tl S) (hes : esOk tl) (hty : ∀ c ∈ tl, c < 9 + (cs.length : Int)) (hcd : cdI F S) (hFm : ∀ x ∈ F, 0 ≤ x ∧ x < (ms.length : Int)) : wJ (pe_GA xs) wY0 M (d + 4) t_M_single ((pe_at t_M_single.bl 0).getD (0, [])).2 [(0, (2, 237))] [] S (fun o Z => S = Z ∧ o = .inl (some (0, sgA cs ms tl F))) := by
  refine wa_iconst ?_
  refine wa_istore_n (n := 1) rfl ?_
  refine wa_fall ⟨_, rfl⟩ ?_
  refine wJ_S (rsp_261 (ph := 1) hM hK hw ⟨by decide, by decide⟩ hT hes hty hcd hFm (fun e1 => ⟨rfl, ?_⟩) (fun e1 => wJ_S (rsp_261 (ph := 2) hM hK hw ⟨by decide, by decide⟩ hT hes hty hcd hFm (fun e2 => ⟨rfl, ?_⟩) (fun e2 => wJ_S (rsp_261 (ph := 3) hM hK hw ⟨by decide, by decide⟩ hT hes hty hcd hFm (fun e3 => ⟨rfl, ?_⟩) (fun e3 => ?_)) ⟨rfl, rfl, trivial⟩)) ⟨rfl, rfl, trivial⟩)) ⟨rfl, rfl, trivial⟩
  · unfold sgA; rw [if_pos e1]
  · unfold sgA; rw [if_neg (fun z => z e1), if_pos e2]
  · unfold sgA; rw [if_neg (fun z => z e1), if_neg (fun z => z e2), if_pos e3]
  · skip
    refine wa_iload_n (n := 1) rfl ?_
    refine wa_iconst ?_
    refine wa_icmpgt (w_rg0 (by omega) (by omega)) (w_rg0 (by omega) (by omega)) ⟨_, rfl⟩ (fun c301 => ?_) (fun c301 => ?_)
    · skip
      refine wa_bipush (w_rg2 (by omega) (by omega)) ?_
      refine wa_ireturn rfl ?_
      exact ⟨rfl, by unfold sgA; rw [if_neg (fun z => z e1), if_neg (fun z => z e2), if_neg (fun z => z e3)]⟩
    · skip
      exfalso; omega
def tyM (j : Nat) (x : Int) : Prop := (j = 352 ∧ 0 ≤ x) ∨ (j = 237 ∧ (x = 122 ∨ x = 172))
theorem rtyl {nn r : Int} {tl : List Int} (hM : w_ML S) (h73 : S 237 173 = r) (hr : 0 ≤ r ∧ r + 1 + (tl.length : Int) ≤ 4200) (hcl : rCl S r tl) (hnn : nn = (tl.length : Int)) (h8 : tl.length ≤ 8) : ∀ (f k : Nat) (A : wS), tl.length - k < f → k ≤ tl.length → A 237 122 = nn → (∀ i : Nat, i < k → A 352 (i : Int) = tl.getD i 0) → (∀ (j : Nat) (x : Int), ¬ tyM j x → A j x = S j x) → wJ (pe_GA xs) wY0 M (d + 1) t_M_typesOfEs ((pe_at t_M_typesOfEs.bl 1).getD (0, [])).2 [(0, (2, 237)), (1, (0, nn)), (2, (0, (k : Int)))] [] A (fun o Z => o = .inl none ∧ tEs tl Z ∧ Z 237 172 = nn ∧ ∀ (j : Nat) (x : Int), ¬ tyM j x → Z j x = S j x) := by
  intro f
  induction f with
  | zero => intro k A h; exact absurd h (Nat.not_lt_zero _)
  | succ f ih =>
    intro k A hf hk h122 hty hfr
    have hMA : w_ML A := ML_w hM hfr (fun j z => by unfold tyM at z; omega)
    have e73 : A 237 173 = r := (hfr 237 173 (by unfold tyM; omega)).trans h73
    refine wa_iload_n (n := 2) rfl ?_
    refine wa_iload_n (n := 1) rfl ?_
    refine wa_icmpge (w_rg0 (by omega) (by omega)) (w_rg0 (by omega) (by omega)) ⟨_, rfl⟩ (fun c1 => ?_) (fun c1 => ?_)
    · skip
      refine wa_aload_n (n := 0) rfl ?_
      refine wa_iload_n (n := 1) rfl ?_
      refine wb_pfi 237 rfl (wy_pr rfl) wt_237 wf_15_172 (n := 172) rfl ⟨(by omega), (by omega)⟩ ?_
      refine wa_return rfl ?_
      exact ⟨rfl, ⟨(w_up_at (by first | decide | omega)).trans (h122.trans hnn), fun i hi => (w_up_slot (by first | decide | omega)).trans (hty i (by omega)), h8⟩, w_up_same _ _ _ _, fun j x hj => (w_up_no (by unfold tyM at hj; omega)).trans (hfr j x hj)⟩
    · skip
      have hck := hcl k (by omega)
      have hk3 := hck.2.1
      have hk7 := hck.2.2
      have e363 : A 363 ((r + 1) + (k : Int)) = S 363 ((r + 1) + (k : Int)) := hfr 363 _ (by unfold tyM; omega)
      have e364 : A 364 ((r + 1) + (k : Int)) = S 364 ((r + 1) + (k : Int)) := hfr 364 _ (by unfold tyM; omega)
      refine wa_aload_n (n := 0) rfl ?_
      refine wb_gf4 237 rfl (wy_pr rfl) wt_237 wf_15_123 (v := 352) wl_237_123 ?_
      refine wa_iload_n (n := 2) rfl ?_
      refine wa_aload_n (n := 0) rfl ?_
      refine wa_aload_n (n := 0) rfl ?_
      refine wb_gf4 237 rfl (wy_pr rfl) wt_237 wf_15_138 (v := 363) wl_237_138 ?_
      refine wa_aload_n (n := 0) rfl ?_
      refine wb_gfi 237 rfl (wy_pr rfl) wt_237 wf_15_173 (v := r) (e73) (fun r2 => ?_)
      refine wa_iconst ?_
      refine wa_iadd ?_
      refine wa_iload_n (n := 2) rfl ?_
      refine wa_iadd ?_
      refine wb_iald 363 rfl (wy_pr rfl) wt_363 (n := 4200) ((ml_363 hMA)) (by omega) (by omega) (v := (S 363 ((r + 1) + (k : Int)))) (e363) (fun r3 => ?_)
      refine wa_aload_n (n := 0) rfl ?_
      refine wb_gf4 237 rfl (wy_pr rfl) wt_237 wf_15_139 (v := 364) wl_237_139 ?_
      refine wa_aload_n (n := 0) rfl ?_
      refine wb_gfi 237 rfl (wy_pr rfl) wt_237 wf_15_173 (v := r) (e73) (fun r4 => ?_)
      refine wa_iconst ?_
      refine wa_iadd ?_
      refine wa_iload_n (n := 2) rfl ?_
      refine wa_iadd ?_
      refine wb_lald 364 rfl (wy_pr rfl) wt_364 (n := 4200) ((ml_364 hMA)) (by omega) (by omega) (v := (S 364 ((r + 1) + (k : Int)))) (e364) (fun r5 => ?_)
      have e321 : ∀ x : Int, A 321 x = S 321 x := fun x => hfr 321 x (by unfold tyM; omega)
      have hcr : clR A (S 363 ((r + 1) + (k : Int))) (S 364 ((r + 1) + (k : Int))) = tl.getD k 0 := by rw [← hck.1]; unfold clR; rw [e321]
      refine wa_cv 237 rfl (wy_pr rfl) wt_237 (M2 := fun _ => False) rfl at_M_typeOf ⟨_, rfl⟩ rfl rfl ⟨(Or.inr ⟨wy_pr rfl, fun q => q⟩), trivial, trivial, trivial⟩ ⟨trivial, (Or.inr ⟨wy_pr rfl, fun q => q⟩), trivial⟩ (fun _ _ q => False.elim q) (wJ_mono (mty_ok (S := A) (k := (S 363 ((r + 1) + (k : Int)))) (b := (S 364 ((r + 1) + (k : Int)))) hMA ⟨by omega, by omega⟩ (fun z => by have y := hk7 z; rw [e321]; exact y) ⟨by omega, by omega⟩) (fun o Z hz => (⟨hz.1, hz.2.trans (by rw [hcr])⟩ : A = Z ∧ o = .inl (some (0, tl.getD k 0))))) (fun oq6 Sq6 hp7 q6 => ?_)
      rcases q6 with ⟨rfl, rfl⟩
      show wJ _ _ _ _ _ _ _ _ _ _
      have hcrg : 0 ≤ tl.getD k 0 ∧ tl.getD k 0 ≤ 100 := by rw [← hcr]; exact clR_r9 (fun z => by have y := hk7 z; rw [e321]; exact ⟨y.2.2.1, y.2.2.2⟩)
      refine wb_iast 352 rfl (wy_pr rfl) wt_352 (n := 8) ((ml_352 hMA)) (by omega) (by omega) ⟨(by omega), (by omega)⟩ ?_
      refine wa_iinc rfl rfl ?_
      refine wa_goto ⟨_, rfl⟩ ?_
      refine wJ_S (ih (k + 1) _ (by omega) (by omega) ((w_up_slot (by first | decide | omega)).trans h122) (fun i hi => ?_) (fun j x hj => (w_up_no (by unfold tyM at hj; omega)).trans (hfr j x hj))) ⟨rfl, rfl, rfl, trivial⟩
      by_cases ci : i = k
      · rw [ci]; exact w_up_same _ _ _ _
      · exact (w_up_at (by omega)).trans (hty i (by omega))
theorem rty {r : Int} {tl : List Int} (hM : w_ML S) (h73 : S 237 173 = r) (hr : 0 ≤ r ∧ r + 1 + (tl.length : Int) ≤ 4200) (hcl : rCl S r tl) (h8 : tl.length ≤ 8) : wJ (pe_GA xs) wY0 M (d + 1) t_M_typesOfEs ((pe_at t_M_typesOfEs.bl 0).getD (0, [])).2 [(0, (2, 237)), (1, (0, (tl.length : Int)))] [] S (fun o Z => o = .inl none ∧ tEs tl Z ∧ Z 237 172 = (tl.length : Int) ∧ ∀ (j : Nat) (x : Int), ¬ tyM j x → Z j x = S j x) := by
  refine wa_aload_n (n := 0) rfl ?_
  refine wa_iload_n (n := 1) rfl ?_
  refine wb_pfi 237 rfl (wy_pr rfl) wt_237 wf_15_122 (n := 122) rfl ⟨(by omega), (by omega)⟩ ?_
  refine wa_iconst ?_
  refine wa_istore_n (n := 2) rfl ?_
  refine wa_fall ⟨_, rfl⟩ ?_
  exact wJ_S (rtyl (S := S) hM h73 hr hcl rfl h8 (tl.length + 1) 0 _ (by omega) (by omega) (w_up_same _ _ _ _) (fun i hi => absurd hi (Nat.not_lt_zero _)) (fun j x hj => w_up_no (by unfold tyM at hj; omega))) ⟨rfl, rfl, rfl, trivial⟩
end Whf
