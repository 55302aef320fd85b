/-! PART at: the class's Reader on a program: numbers, signs, texts; a token. -/
section Wat
variable {xs : List (Nat × List Int32)} {M : Nat → Prop} {d : Nat} {A B C S S1 Z : wS} {Q : wO → wS → Prop} {T : Int → Int} {n : Int} {N X : List (List Int)}
theorem lx_tx_ln (T : Int → Int) (n : Int) : ∀ (f : Nat) (t : Int) (l : List Int), (lx_tx T n f t l).1 = 3 → ((lx_tx T n f t l).2.2.length : Int) ≤ l.length + ((lx_tx T n f t l).2.1 - t) := by
  intro f
  induction f with
  | zero => intro t l h; exact absurd h (by show ¬ (5 : Int) = 3; decide)
  | succ f ih =>
    intro t l h
    rw [lx_tx_s] at h ⊢
    by_cases h1 : lx_at T n t = 34
    · rw [if_pos h1]; show (l.length : Int) ≤ l.length + (t - t); omega
    · rw [if_neg h1] at h ⊢
      by_cases h2 : lx_tc T n t = 0 ∨ l.length = 60
      · rw [if_pos h2] at h; exact absurd h (by show ¬ (5 : Int) = 3; decide)
      · rw [if_neg h2] at h ⊢
        have := ih _ _ h
        have e : (l ++ [lx_tc T n t]).length = l.length + 1 := by rw [List.length_append]; rfl
        have e2 : t ≤ lx_t2 T n t := by unfold lx_t2; split <;> omega
        rw [e] at this
        omega
theorem pt_no {p k : Int} (h : lx_tk T n 0 p ≠ 1) (h3 : lx_tk T n 0 p ≠ 3) (c1 : cL 9 10 N S) (c2 : cL 10 12 X S) : cL 9 10 (Nn T n p N) S ∧ cL 10 12 (Xn T n p X) S := by
  rw [show Nn T n p N = N from if_neg (fun z => h z.1), show Xn T n p X = X from if_neg h3]
  exact ⟨c1, c2⟩
theorem xu2 {p : Int} (hB : rd_B T n S) (h7 : S 14 7 = 2) (h8 : S 14 8 = 0) (hI : gI S) (hW : wd_at S 2 1024) (hL : wd_L S 2 1024) (hV : wv_L S 2) (hR : rd_L S) (hb : rb_I 2 S) (h33 : 33 ≤ S 2 7) (hr2 : r2_I S) (c1 : cL 9 10 N S) (c2 : cL 10 12 X S) (hp : 0 ≤ p ∧ p < n) (hle : lx_le (T p) = false) (hdi : lx_di (T p) = true) : wJ (pe_GA xs) wY0 (mS [3, 4, 5, 6, 7, 8, 9, 10, 15, 16, 17]) (d + 6) t_XR_addNumber ((pe_at t_XR_addNumber.bl 0).getD (0, [])).2 [(0, (2, 14)), (1, (0, p))] [] S (fun o Z => ∃ e : Int, o = .inl (some (0, e)) ∧ pt_ok T n p N X S Z e) := by
  have hn := hB.2.2.1
  have hn1 := hB.2.2.2.1
  have hn2 := hB.2.2.2.2.1
  have hrm := rmR_rfl S
  have hb1 : S 2 7 ≤ 400000 ∧ S 2 1 ≤ 4000000 ∧ S 4 (-1) ≤ 1000000 ∧ S 3 (-1) ≤ 10000000 ∧ S 14 3 ≤ 400000 := hb
  have hc0 : 0 ≤ S 2 7 ∧ S 2 7 ≤ S 4 (-1) := hW.1
  have hu0 : 0 ≤ S 2 1 ∧ S 2 1 ≤ S 3 (-1) := hW.2.1
  have hl1 : 1024 ≤ S 3 (-1) := hL.2.2.2.2.2.2.1
  have hr1 : 0 ≤ S 14 3 := hR.1.1
  have hv1 : 0 ≤ S 2 10 := hV.1.1
  have hv2 : 0 ≤ S 2 12 := hV.2.1.1
  have h0 : 0 ≤ S 2 7 ∧ 0 ≤ S 2 1 ∧ 0 ≤ S 14 3 ∧ 0 ≤ S 2 10 ∧ 0 ≤ S 2 12 := ⟨hc0.1, hu0.1, hr1, hv1, hv2⟩
  have hpr := rp_rfl hW hL hV hR hI
  have hen : lx_en T n 0 p = (lx_nu T n p ((n - p).toNat + 1) p 0).1 := by unfold lx_en; rw [if_neg (by omega), if_neg (by rw [hle]; decide), if_pos hdi]
  have htk : lx_tk T n 0 p = if (lx_nu T n p ((n - p).toNat + 1) p 0).1 - p ≤ 10 ∧ (lx_nu T n p ((n - p).toNat + 1) p 0).2 ≤ 2147483647 then 2 else 5 := by unfold lx_tk; rw [if_neg (by omega), if_neg (by rw [hle]; decide), if_pos hdi]
  have hva : lx_va T n p = (lx_nu T n p ((n - p).toNat + 1) p 0).2 := rfl
  generalize hee : lx_nu T n p ((n - p).toNat + 1) p 0 = eu at hen htk hva
  obtain ⟨e, u⟩ := eu
  have hen : lx_en T n 0 p = e := hen
  have hva : lx_va T n p = u := hva
  have htk : lx_tk T n 0 p = if e - p ≤ 10 ∧ u ≤ 2147483647 then 2 else 5 := htk
  refine wa_iload_n (n := 1) rfl ?_
  refine wa_istore_n (n := 2) rfl ?_
  refine wa_lconst ?_
  refine wa_lstore_n (n := 3) rfl ?_
  refine wa_fall ⟨_, rfl⟩ ?_
  refine wJ_S (xu_l (d := d + 5) (e := e) (u := u) (p := p) hB (fun hpe hen1 v hv0 hv1 hvu => ?_) ((n - p).toNat + 1) p 0 0 (by omega) (by omega) (by omega) (by omega) hee (fun _ => rfl) ⟨by decide, by rw [show (min (p - p) 10).toNat = 0 by omega]; decide⟩) ⟨rfl, rfl, rfl, rfl, trivial⟩
  refine wa_iload_n (n := 2) rfl ?_
  refine wa_iload_n (n := 1) rfl ?_
  refine wa_isub ?_
  refine wa_bipush (w_rg2 (by omega) (by omega)) ?_
  refine wa_icmpgt (w_rg0 (by omega) (by omega)) (w_rg0 (by omega) (by omega)) ⟨_, rfl⟩ (fun c31 => ?_) (fun c31 => ?_)
  · skip
    refine wa_aload_n (n := 0) rfl ?_
    refine wa_iload_n (n := 1) rfl ?_
    refine wa_cv 14 rfl (wy_pr rfl) wt_14 (M2 := mS [15, 16, 17]) rfl at_XR_addBad ⟨_, rfl⟩ rfl rfl ⟨(Or.inr ⟨wy_pr rfl, mS_no rfl⟩), trivial, trivial, trivial, trivial⟩ trivial (fun _ _ q => mS_sub (by decide) q) ?_ (fun _ _ _ q => q)
    refine wa_aload_n (n := 0) rfl ?_
    refine wa_iconst ?_
    refine wa_iload_n (n := 1) rfl ?_
    refine wa_iconst ?_
    refine wa_cv 14 rfl (wy_pr rfl) wt_14 (M2 := mS [15, 16, 17]) rfl at_XR_add ⟨_, rfl⟩ rfl rfl ⟨(Or.inr ⟨wy_pr rfl, mS_no rfl⟩), trivial, trivial⟩ trivial (fun _ _ q => mS_sub (by decide) q) (ad_ok (S := S) hI ⟨by omega, by omega⟩ ⟨by omega, by omega⟩ ⟨by omega, by omega⟩ hR) (fun oq34 Sq34 hp35 q34 => ?_)
    rcases q34 with ⟨rfl, ad32⟩
    show wJ _ _ _ _ _ _ _ _ _ _
    generalize Sq34 = Z33 at ad32 ⊢
    refine wa_aload_n (n := 0) rfl ?_
    refine wb_gfi 14 rfl (wy_pr rfl) wt_14 wf_6_6 (v := n) (((ad32.2.2.2.1 14 6 (by decide) (by decide) (by decide) (by decide) (by decide) (Or.inr (by decide))).trans (hB.2.1))) (fun r36 => ?_)
    refine wa_ireturn rfl ?_
    show wJ _ _ _ _ _ _ _ _ _ _
    refine wa_ireturn rfl ?_
    have htk5 : lx_tk T n 0 p = 5 := by rw [htk, if_neg (by omega)]
    obtain ⟨d1, d2⟩ := pt_no (k := 0) (by rw [htk5]; decide) (by rw [htk5]; decide) c1 c2
    refine ⟨n, rfl, pt_fin h0 hpr rfl (by omega) ?_ ?_ ?_ d1 d2 (by omega) (by omega) ad32⟩
    · unfold kp; rw [htk5]; rfl
    · unfold vp; rw [htk5]; rfl
    · rw [htk5, if_pos rfl]
  · skip
    refine wa_lload_n (n := 3) rfl ?_
    refine wb_kl (n := 2147483647) rfl ?_
    refine wa_lcmp (w_rg1 (by omega) (by omega)) (w_rg1 (by omega) (by omega)) ?_
    refine wa_ifle (by have := @wb_lcmp_cases; exact w_lcmp_rg) ⟨_, rfl⟩ (fun c37 => ?_) (fun c37 => ?_)
    · skip
      have c37x := @wb_lcmp_cases v 2147483647
      refine wa_aload_n (n := 0) rfl ?_
      refine wa_iconst ?_
      refine wa_iload_n (n := 1) rfl ?_
      refine wa_lload_n (n := 3) rfl ?_
      refine wb_l2i_r (wb_l2i_id ⟨(by omega), (by omega)⟩) ?_
      refine wa_cv 14 rfl (wy_pr rfl) wt_14 (M2 := mS [15, 16, 17]) rfl at_XR_add ⟨_, rfl⟩ rfl rfl ⟨(Or.inr ⟨wy_pr rfl, mS_no rfl⟩), trivial, trivial, trivial, trivial⟩ trivial (fun _ _ q => mS_sub (by decide) q) (ad_ok (S := S) hI ⟨by omega, by omega⟩ ⟨by omega, by omega⟩ ⟨by omega, by omega⟩ hR) (fun oq40 Sq40 hp41 q40 => ?_)
      rcases q40 with ⟨rfl, ad38⟩
      show wJ _ _ _ _ _ _ _ _ _ _
      generalize Sq40 = Z39 at ad38 ⊢
      refine wa_iload_n (n := 2) rfl ?_
      refine wa_ireturn rfl ?_
      have htk2 : lx_tk T n 0 p = 2 := by rw [htk, if_pos (by omega)]
      obtain ⟨d1, d2⟩ := pt_no (k := 0) (by rw [htk2]; decide) (by rw [htk2]; decide) c1 c2
      refine ⟨e, rfl, pt_fin h0 hpr rfl (by omega) ?_ ?_ ?_ d1 d2 (by omega) (by omega) ad38⟩
      · unfold kp; rw [htk2]; rfl
      · unfold vp; rw [htk2, if_neg (by decide), if_pos rfl, hva]; omega
      · rw [htk2, if_neg (by decide), hen]
    · skip
      have c37x := @wb_lcmp_cases v 2147483647
      refine wa_fall ⟨_, rfl⟩ ?_
      refine wa_aload_n (n := 0) rfl ?_
      refine wa_iload_n (n := 1) rfl ?_
      refine wa_cv 14 rfl (wy_pr rfl) wt_14 (M2 := mS [15, 16, 17]) rfl at_XR_addBad ⟨_, rfl⟩ rfl rfl ⟨(Or.inr ⟨wy_pr rfl, mS_no rfl⟩), trivial, trivial, trivial, trivial⟩ trivial (fun _ _ q => mS_sub (by decide) q) ?_ (fun _ _ _ q => q)
      refine wa_aload_n (n := 0) rfl ?_
      refine wa_iconst ?_
      refine wa_iload_n (n := 1) rfl ?_
      refine wa_iconst ?_
      refine wa_cv 14 rfl (wy_pr rfl) wt_14 (M2 := mS [15, 16, 17]) rfl at_XR_add ⟨_, rfl⟩ rfl rfl ⟨(Or.inr ⟨wy_pr rfl, mS_no rfl⟩), trivial, trivial⟩ trivial (fun _ _ q => mS_sub (by decide) q) (ad_ok (S := S) hI ⟨by omega, by omega⟩ ⟨by omega, by omega⟩ ⟨by omega, by omega⟩ hR) (fun oq44 Sq44 hp45 q44 => ?_)
      rcases q44 with ⟨rfl, ad42⟩
      show wJ _ _ _ _ _ _ _ _ _ _
      generalize Sq44 = Z43 at ad42 ⊢
      refine wa_aload_n (n := 0) rfl ?_
      refine wb_gfi 14 rfl (wy_pr rfl) wt_14 wf_6_6 (v := n) (((ad42.2.2.2.1 14 6 (by decide) (by decide) (by decide) (by decide) (by decide) (Or.inr (by decide))).trans (hB.2.1))) (fun r46 => ?_)
      refine wa_ireturn rfl ?_
      show wJ _ _ _ _ _ _ _ _ _ _
      refine wa_ireturn rfl ?_
      have htk5 : lx_tk T n 0 p = 5 := by rw [htk, if_neg (by omega)]
      obtain ⟨d1, d2⟩ := pt_no (k := 0) (by rw [htk5]; decide) (by rw [htk5]; decide) c1 c2
      refine ⟨n, rfl, pt_fin h0 hpr rfl (by omega) ?_ ?_ ?_ d1 d2 (by omega) (by omega) ad42⟩
      · unfold kp; rw [htk5]; rfl
      · unfold vp; rw [htk5]; rfl
      · rw [htk5, if_pos rfl]
theorem as2_12 {p u : Int} (hx49 : pe_at (pe_GA xs).xs 49 = some (0, tx_49)) (hB : rd_B T n S) (h7 : S 14 7 = 2) (h8 : S 14 8 = 0) (hI : gI S) (hW : wd_at S 2 1024) (hL : wd_L S 2 1024) (hV : wv_L S 2) (hR : rd_L S) (hb : rb_I 2 S) (h33 : 33 ≤ S 2 7) (hr2 : r2_I S) (c1 : cL 9 10 N S) (c2 : cL 10 12 X S) (hp : 0 ≤ p ∧ p < n) (hle : lx_le (T p) = false) (hdi : lx_di (T p) = false) (h34 : T p ≠ 34) (hsf : lx_sf (T p) (lx_at T n (p + 1)) (lx_at T n (p + 2)) 0 = if (T p = 40 ∨ T p = 41 ∨ T p = 123 ∨ T p = 125 ∨ T p = 91 ∨ T p = 93 ∨ T p = 44 ∨ T p = 59 ∨ T p = 46 ∨ T p = 58 ∨ T p = 61 ∨ T p = 60 ∨ T p = 62 ∨ T p = 43 ∨ T p = 45 ∨ T p = 42 ∨ T p = 47 ∨ T p = 37 ∨ T p = 33) then (4, T p, 1) else (5, T p, 1)) : wJ (pe_GA xs) wY0 (mS [3, 4, 5, 6, 7, 8, 9, 10, 15, 16, 17]) (d + 6) t_XR_addSign ((pe_at t_XR_addSign.bl 12).getD (0, [])).2 [(0, (2, 14)), (1, (0, p)), (2, (0, T p)), (3, (0, u)), (4, (0, -1))] [] S (fun o Z => ∃ e : Int, o = .inl (some (0, e)) ∧ pt_ok T n p N X S Z e) := by
  have hn := hB.2.2.1
  have hn1 := hB.2.2.2.1
  have hn2 := hB.2.2.2.2.1
  have hrm := rmR_rfl S
  have hb1 : S 2 7 ≤ 400000 ∧ S 2 1 ≤ 4000000 ∧ S 4 (-1) ≤ 1000000 ∧ S 3 (-1) ≤ 10000000 ∧ S 14 3 ≤ 400000 := hb
  have hc0 : 0 ≤ S 2 7 ∧ S 2 7 ≤ S 4 (-1) := hW.1
  have hu0 : 0 ≤ S 2 1 ∧ S 2 1 ≤ S 3 (-1) := hW.2.1
  have hl1 : 1024 ≤ S 3 (-1) := hL.2.2.2.2.2.2.1
  have hr1 : 0 ≤ S 14 3 := hR.1.1
  have hv1 : 0 ≤ S 2 10 := hV.1.1
  have hv2 : 0 ≤ S 2 12 := hV.2.1.1
  have h0 : 0 ≤ S 2 7 ∧ 0 ≤ S 2 1 ∧ 0 ≤ S 14 3 ∧ 0 ≤ S 2 10 ∧ 0 ≤ S 2 12 := ⟨hc0.1, hu0.1, hr1, hv1, hv2⟩
  have hpr := rp_rfl hW hL hV hR hI
  have hTp := hB.2.2.2.2.2.2 p hp.1 hp.2
  have htk : lx_tk T n 0 p = (lx_sf (T p) (lx_at T n (p + 1)) (lx_at T n (p + 2)) 0).1 := by unfold lx_tk; rw [if_neg (by omega), if_neg (by rw [hle]; decide), if_neg (by rw [hdi]; decide), if_neg h34]
  have hen : lx_en T n 0 p = p + (lx_sf (T p) (lx_at T n (p + 1)) (lx_at T n (p + 2)) 0).2.2 := by unfold lx_en; rw [if_neg (by omega), if_neg (by rw [hle]; decide), if_neg (by rw [hdi]; decide), if_neg h34]
  have hsi : lx_si T n 0 p = (lx_sf (T p) (lx_at T n (p + 1)) (lx_at T n (p + 2)) 0).2.1 := rfl
  have hs := sgx_rg (T p)
  refine wa_ks ?_
  refine wa_iload_n (n := 2) rfl ?_
  refine wb_i2c_r (wb_i2c_id (by omega) (by omega)) ?_
  refine wb_si 49 rfl hx49 (by decide) rfl rfl (by omega) (by omega) (v := (sgx (T p))) (sgx_ok (by omega) (by omega)) ?_
  refine wa_istore (n := 5) rfl ?_
  refine wa_iload (n := 5) rfl ?_
  refine wa_ifge (w_rg0 (by omega) (by omega)) ⟨_, rfl⟩ (fun c101 => ?_) (fun c101 => ?_)
  · skip
    refine wa_aload_n (n := 0) rfl ?_
    refine wa_bipush (w_rg2 (by omega) (by omega)) ?_
    refine wa_iload (n := 5) rfl ?_
    refine wa_iadd ?_
    refine wa_iload_n (n := 1) rfl ?_
    refine wa_iconst ?_
    refine wa_cv 14 rfl (wy_pr rfl) wt_14 (M2 := mS [15, 16, 17]) rfl at_XR_add ⟨_, rfl⟩ rfl rfl ⟨trivial, (Or.inr ⟨wy_pr rfl, mS_no rfl⟩), trivial, trivial, trivial, trivial, trivial⟩ trivial (fun _ _ q => mS_sub (by decide) q) (ad_ok (S := S) hI ⟨by omega, by omega⟩ ⟨by omega, by omega⟩ ⟨by omega, by omega⟩ hR) (fun oq104 Sq104 hp105 q104 => ?_)
    rcases q104 with ⟨rfl, ad102⟩
    show wJ _ _ _ _ _ _ _ _ _ _
    generalize Sq104 = Z103 at ad102 ⊢
    refine wa_iload_n (n := 1) rfl ?_
    refine wa_iconst ?_
    refine wa_iadd ?_
    refine wa_ireturn rfl ?_
    obtain ⟨hk1, hk2⟩ := sgx_in (T := T) (p := p) (by omega)
    rw [if_pos (hk2 (by omega))] at hsf
    have htkv : lx_tk T n 0 p = 4 := by rw [htk, hsf]
    obtain ⟨d1, d2⟩ := pt_no (k := 0) (by rw [htkv]; decide) (by rw [htkv]; decide) c1 c2
    refine ⟨p + 1, rfl, pt_fin h0 hpr rfl (by omega) ?_ ?_ ?_ d1 d2 (by omega) (by omega) ad102⟩
    · unfold kp; rw [htkv, hsi, hsf]; exact hk1.symm
    · unfold vp; rw [htkv]; rfl
    · rw [htkv, hen, hsf]; exact (if_neg (by decide)).symm
  · skip
    refine wa_aload_n (n := 0) rfl ?_
    refine wa_iload_n (n := 1) rfl ?_
    refine wa_cv 14 rfl (wy_pr rfl) wt_14 (M2 := mS [15, 16, 17]) rfl at_XR_addBad ⟨_, rfl⟩ rfl rfl ⟨trivial, (Or.inr ⟨wy_pr rfl, mS_no rfl⟩), trivial, trivial, trivial, trivial, trivial⟩ trivial (fun _ _ q => mS_sub (by decide) q) ?_ (fun _ _ _ q => q)
    refine wa_aload_n (n := 0) rfl ?_
    refine wa_iconst ?_
    refine wa_iload_n (n := 1) rfl ?_
    refine wa_iconst ?_
    refine wa_cv 14 rfl (wy_pr rfl) wt_14 (M2 := mS [15, 16, 17]) rfl at_XR_add ⟨_, rfl⟩ rfl rfl ⟨(Or.inr ⟨wy_pr rfl, mS_no rfl⟩), trivial, trivial⟩ trivial (fun _ _ q => mS_sub (by decide) q) (ad_ok (S := S) hI ⟨by omega, by omega⟩ ⟨by omega, by omega⟩ ⟨by omega, by omega⟩ hR) (fun oq108 Sq108 hp109 q108 => ?_)
    rcases q108 with ⟨rfl, ad106⟩
    show wJ _ _ _ _ _ _ _ _ _ _
    generalize Sq108 = Z107 at ad106 ⊢
    refine wa_aload_n (n := 0) rfl ?_
    refine wb_gfi 14 rfl (wy_pr rfl) wt_14 wf_6_6 (v := n) (((ad106.2.2.2.1 14 6 (by decide) (by decide) (by decide) (by decide) (by decide) (Or.inr (by decide))).trans (hB.2.1))) (fun r110 => ?_)
    refine wa_ireturn rfl ?_
    show wJ _ _ _ _ _ _ _ _ _ _
    refine wa_ireturn rfl ?_
    rw [if_neg (sgx_no (by omega))] at hsf
    have htkv : lx_tk T n 0 p = 5 := by rw [htk, hsf]
    obtain ⟨d1, d2⟩ := pt_no (k := 0) (by rw [htkv]; decide) (by rw [htkv]; decide) c1 c2
    refine ⟨n, rfl, pt_fin h0 hpr rfl (by omega) ?_ ?_ ?_ d1 d2 (by omega) (by omega) ad106⟩
    · unfold kp; rw [htkv, hsi, hsf]; rfl
    · unfold vp; rw [htkv]; rfl
    · rw [htkv, hen, hsf]; exact (if_pos rfl).symm
theorem xs2 {p : Int} (hx49 : pe_at (pe_GA xs).xs 49 = some (0, tx_49)) (hB : rd_B T n S) (h7 : S 14 7 = 2) (h8 : S 14 8 = 0) (hI : gI S) (hW : wd_at S 2 1024) (hL : wd_L S 2 1024) (hV : wv_L S 2) (hR : rd_L S) (hb : rb_I 2 S) (h33 : 33 ≤ S 2 7) (hr2 : r2_I S) (c1 : cL 9 10 N S) (c2 : cL 10 12 X S) (hp : 0 ≤ p ∧ p < n) (hle : lx_le (T p) = false) (hdi : lx_di (T p) = false) (h34 : T p ≠ 34) : wJ (pe_GA xs) wY0 (mS [3, 4, 5, 6, 7, 8, 9, 10, 15, 16, 17]) (d + 6) t_XR_addSign ((pe_at t_XR_addSign.bl 0).getD (0, [])).2 [(0, (2, 14)), (1, (0, p))] [] S (fun o Z => ∃ e : Int, o = .inl (some (0, e)) ∧ pt_ok T n p N X S Z e) := by
  have hn := hB.2.2.1
  have hn1 := hB.2.2.2.1
  have hn2 := hB.2.2.2.2.1
  have hrm := rmR_rfl S
  have hb1 : S 2 7 ≤ 400000 ∧ S 2 1 ≤ 4000000 ∧ S 4 (-1) ≤ 1000000 ∧ S 3 (-1) ≤ 10000000 ∧ S 14 3 ≤ 400000 := hb
  have hc0 : 0 ≤ S 2 7 ∧ S 2 7 ≤ S 4 (-1) := hW.1
  have hu0 : 0 ≤ S 2 1 ∧ S 2 1 ≤ S 3 (-1) := hW.2.1
  have hl1 : 1024 ≤ S 3 (-1) := hL.2.2.2.2.2.2.1
  have hr1 : 0 ≤ S 14 3 := hR.1.1
  have hv1 : 0 ≤ S 2 10 := hV.1.1
  have hv2 : 0 ≤ S 2 12 := hV.2.1.1
  have h0 : 0 ≤ S 2 7 ∧ 0 ≤ S 2 1 ∧ 0 ≤ S 14 3 ∧ 0 ≤ S 2 10 ∧ 0 ≤ S 2 12 := ⟨hc0.1, hu0.1, hr1, hv1, hv2⟩
  have hpr := rp_rfl hW hL hV hR hI
  have hTp := hB.2.2.2.2.2.2 p hp.1 hp.2
  have htk : lx_tk T n 0 p = (lx_sf (T p) (lx_at T n (p + 1)) (lx_at T n (p + 2)) 0).1 := by unfold lx_tk; rw [if_neg (by omega), if_neg (by rw [hle]; decide), if_neg (by rw [hdi]; decide), if_neg h34]
  have hen : lx_en T n 0 p = p + (lx_sf (T p) (lx_at T n (p + 1)) (lx_at T n (p + 2)) 0).2.2 := by unfold lx_en; rw [if_neg (by omega), if_neg (by rw [hle]; decide), if_neg (by rw [hdi]; decide), if_neg h34]
  have hsi : lx_si T n 0 p = (lx_sf (T p) (lx_at T n (p + 1)) (lx_at T n (p + 2)) 0).2.1 := rfl
  have ha1 := lx_at_rg (k := p + 1) hB (by omega)
  have ha2 := lx_at_rg (k := p + 2) hB (by omega)
  refine wa_aload_n (n := 0) rfl ?_
  refine wb_gf6 14 rfl (wy_pr rfl) wt_14 wf_6_5 (v := 1) (hB.1) (by decide) ?_
  refine wa_iload_n (n := 1) rfl ?_
  refine wb_bald 1 rfl (wy_pr rfl) wt_1 (n := (S 1 (-1))) rfl (by omega) (by omega) (v := (T p)) ((hB.2.2.2.2.2.1 p (by omega) (by omega))) (fun r101 => ?_)
  refine wa_istore_n (n := 2) rfl ?_
  refine wa_aload_n (n := 0) rfl ?_
  refine wa_iload_n (n := 1) rfl ?_
  refine wa_iconst ?_
  refine wa_iadd ?_
  refine wa_cv 14 rfl (wy_pr rfl) wt_14 (M2 := fun _ => False) rfl at_XR_signAt ⟨_, rfl⟩ rfl rfl ⟨trivial, (Or.inr ⟨wy_pr rfl, fun q => q⟩), trivial, trivial⟩ trivial (fun _ _ q => False.elim q) (sa_ok (S := S) hB ⟨by omega, by omega⟩) (fun oq102 Sq102 hp103 q102 => ?_)
  rcases q102 with ⟨rfl, rfl⟩
  show wJ _ _ _ _ _ _ _ _ _ _
  refine wa_istore_n (n := 3) rfl ?_
  refine wa_iconst ?_
  refine wa_istore (n := 4) rfl ?_
  refine wa_iload_n (n := 3) rfl ?_
  refine wa_bipush (w_rg2 (by omega) (by omega)) ?_
  refine wa_icmpne (w_rg0 (by omega) (by omega)) (w_rg0 (by omega) (by omega)) ⟨_, rfl⟩ (fun c104 => ?_) (fun c104 => ?_)
  · skip
    refine wa_iload_n (n := 2) rfl ?_
    refine wa_iload_n (n := 3) rfl ?_
    refine wa_icmpne (w_rg0 (by omega) (by omega)) (w_rg0 (by omega) (by omega)) ⟨_, rfl⟩ (fun c105 => ?_) (fun c105 => ?_)
    · skip
      refine wa_iload (n := 4) rfl ?_
      refine wa_iconst ?_
      refine wa_icmpeq (w_rg0 (by omega) (by omega)) (w_rg0 (by omega) (by omega)) ⟨_, rfl⟩ (fun c106 => ?_) (fun c106 => ?_)
      · skip
        refine wa_aload_n (n := 0) rfl ?_
        refine wb_gfz 14 rfl (wy_pr rfl) wt_14 wf_6_8 (v := 0) (h8) (fun r107 => ?_)
        refine wa_ifeq (w_rg0 (by omega) (by omega)) ⟨_, rfl⟩ (fun c108 => ?_) (fun c108 => ?_)
        · skip
          exact wJ_S (as2_12 (u := lx_at T n (p + 1)) hx49 hB h7 h8 hI hW hL hV hR hb h33 hr2 c1 c2 hp hle hdi h34 (by unfold lx_sf; rw [if_neg (by omega), if_neg (by omega), if_neg (by omega), if_neg (by omega), if_neg (by omega), if_neg (by omega), if_neg (by omega)])) ⟨rfl, rfl, rfl, rfl, rfl, trivial⟩
        · skip
          exact absurd c108 (by omega)
      · skip
        exact absurd c106 (by omega)
    · skip
      refine wa_iload_n (n := 2) rfl ?_
      refine wa_bipush (w_rg2 (by omega) (by omega)) ?_
      refine wa_icmpeq (w_rg0 (by omega) (by omega)) (w_rg0 (by omega) (by omega)) ⟨_, rfl⟩ (fun c109 => ?_) (fun c109 => ?_)
      · skip
        refine wa_iload_n (n := 2) rfl ?_
        refine wa_bipush (w_rg2 (by omega) (by omega)) ?_
        refine wa_icmpne (w_rg0 (by omega) (by omega)) (w_rg0 (by omega) (by omega)) ⟨_, rfl⟩ (fun c110 => ?_) (fun c110 => ?_)
        · skip
          exact absurd c110 (by omega)
        · skip
          refine wa_bipush (w_rg2 (by omega) (by omega)) ?_
          refine wa_goto ⟨_, rfl⟩ ?_
          refine wa_istore (n := 4) rfl ?_
          refine wa_fall ⟨_, rfl⟩ ?_
          refine wa_iload (n := 4) rfl ?_
          refine wa_iconst ?_
          refine wa_icmpeq (w_rg0 (by omega) (by omega)) (w_rg0 (by omega) (by omega)) ⟨_, rfl⟩ (fun c111 => ?_) (fun c111 => ?_)
          · skip
            exact absurd c111 (by omega)
          · skip
            refine wa_aload_n (n := 0) rfl ?_
            refine wa_iload (n := 4) rfl ?_
            refine wa_iload_n (n := 1) rfl ?_
            refine wa_iconst ?_
            refine wa_cv 14 rfl (wy_pr rfl) wt_14 (M2 := mS [15, 16, 17]) rfl at_XR_add ⟨_, rfl⟩ rfl rfl ⟨trivial, trivial, trivial, (Or.inr ⟨wy_pr rfl, mS_no rfl⟩), trivial, trivial⟩ trivial (fun _ _ q => mS_sub (by decide) q) (ad_ok (S := S) hI ⟨by omega, by omega⟩ ⟨by omega, by omega⟩ ⟨by omega, by omega⟩ hR) (fun oq114 Sq114 hp115 q114 => ?_)
            rcases q114 with ⟨rfl, ad112⟩
            show wJ _ _ _ _ _ _ _ _ _ _
            generalize Sq114 = Z113 at ad112 ⊢
            refine wa_iload_n (n := 1) rfl ?_
            refine wa_iconst ?_
            refine wa_iadd ?_
            refine wa_ireturn rfl ?_
            have hsf : lx_sf (T p) (lx_at T n (p + 1)) (lx_at T n (p + 2)) 0 = (4, 260, 2) := by unfold lx_sf; rw [if_neg (by omega), if_neg (by omega), if_neg (by omega), if_neg (by omega), if_pos (by omega)]
            have htkv : lx_tk T n 0 p = 4 := by rw [htk, hsf]
            obtain ⟨d1, d2⟩ := pt_no (k := 0) (by rw [htkv]; decide) (by rw [htkv]; decide) c1 c2
            refine ⟨p + 2, rfl, pt_fin h0 hpr rfl (by omega) ?_ ?_ ?_ d1 d2 (by omega) (by omega) ad112⟩
            · unfold kp; rw [htkv, hsi, hsf]; rfl
            · unfold vp; rw [htkv]; rfl
            · rw [htkv, hen, hsf]; exact (if_neg (by decide)).symm
      · skip
        refine wa_iload_n (n := 2) rfl ?_
        refine wa_bipush (w_rg2 (by omega) (by omega)) ?_
        refine wa_icmpne (w_rg0 (by omega) (by omega)) (w_rg0 (by omega) (by omega)) ⟨_, rfl⟩ (fun c116 => ?_) (fun c116 => ?_)
        · skip
          refine wa_iload (n := 4) rfl ?_
          refine wa_iconst ?_
          refine wa_icmpeq (w_rg0 (by omega) (by omega)) (w_rg0 (by omega) (by omega)) ⟨_, rfl⟩ (fun c117 => ?_) (fun c117 => ?_)
          · skip
            refine wa_aload_n (n := 0) rfl ?_
            refine wb_gfz 14 rfl (wy_pr rfl) wt_14 wf_6_8 (v := 0) (h8) (fun r118 => ?_)
            refine wa_ifeq (w_rg0 (by omega) (by omega)) ⟨_, rfl⟩ (fun c119 => ?_) (fun c119 => ?_)
            · skip
              exact wJ_S (as2_12 (u := lx_at T n (p + 1)) hx49 hB h7 h8 hI hW hL hV hR hb h33 hr2 c1 c2 hp hle hdi h34 (by unfold lx_sf; rw [if_neg (by omega), if_neg (by omega), if_neg (by omega), if_neg (by omega), if_neg (by omega), if_neg (by omega), if_neg (by omega)])) ⟨rfl, rfl, rfl, rfl, rfl, trivial⟩
            · skip
              exact absurd c119 (by omega)
          · skip
            exact absurd c117 (by omega)
        · skip
          refine wa_fall ⟨_, rfl⟩ ?_
          refine wa_iload_n (n := 2) rfl ?_
          refine wa_bipush (w_rg2 (by omega) (by omega)) ?_
          refine wa_icmpne (w_rg0 (by omega) (by omega)) (w_rg0 (by omega) (by omega)) ⟨_, rfl⟩ (fun c120 => ?_) (fun c120 => ?_)
          · skip
            refine wa_bipush (w_rg2 (by omega) (by omega)) ?_
            refine wa_fall ⟨_, rfl⟩ ?_
            refine wa_istore (n := 4) rfl ?_
            refine wa_fall ⟨_, rfl⟩ ?_
            refine wa_iload (n := 4) rfl ?_
            refine wa_iconst ?_
            refine wa_icmpeq (w_rg0 (by omega) (by omega)) (w_rg0 (by omega) (by omega)) ⟨_, rfl⟩ (fun c121 => ?_) (fun c121 => ?_)
            · skip
              exact absurd c121 (by omega)
            · skip
              refine wa_aload_n (n := 0) rfl ?_
              refine wa_iload (n := 4) rfl ?_
              refine wa_iload_n (n := 1) rfl ?_
              refine wa_iconst ?_
              refine wa_cv 14 rfl (wy_pr rfl) wt_14 (M2 := mS [15, 16, 17]) rfl at_XR_add ⟨_, rfl⟩ rfl rfl ⟨trivial, trivial, trivial, (Or.inr ⟨wy_pr rfl, mS_no rfl⟩), trivial, trivial⟩ trivial (fun _ _ q => mS_sub (by decide) q) (ad_ok (S := S) hI ⟨by omega, by omega⟩ ⟨by omega, by omega⟩ ⟨by omega, by omega⟩ hR) (fun oq124 Sq124 hp125 q124 => ?_)
              rcases q124 with ⟨rfl, ad122⟩
              show wJ _ _ _ _ _ _ _ _ _ _
              generalize Sq124 = Z123 at ad122 ⊢
              refine wa_iload_n (n := 1) rfl ?_
              refine wa_iconst ?_
              refine wa_iadd ?_
              refine wa_ireturn rfl ?_
              have hsf : lx_sf (T p) (lx_at T n (p + 1)) (lx_at T n (p + 2)) 0 = (4, 261, 2) := by unfold lx_sf; rw [if_neg (by omega), if_neg (by omega), if_neg (by omega), if_neg (by omega), if_neg (by omega), if_pos (by omega)]
              have htkv : lx_tk T n 0 p = 4 := by rw [htk, hsf]
              obtain ⟨d1, d2⟩ := pt_no (k := 0) (by rw [htkv]; decide) (by rw [htkv]; decide) c1 c2
              refine ⟨p + 2, rfl, pt_fin h0 hpr rfl (by omega) ?_ ?_ ?_ d1 d2 (by omega) (by omega) ad122⟩
              · unfold kp; rw [htkv, hsi, hsf]; rfl
              · unfold vp; rw [htkv]; rfl
              · rw [htkv, hen, hsf]; exact (if_neg (by decide)).symm
          · skip
            exact absurd c120 (by omega)
  · skip
    refine wa_iload_n (n := 2) rfl ?_
    refine wa_bipush (w_rg2 (by omega) (by omega)) ?_
    refine wa_icmpeq (w_rg0 (by omega) (by omega)) (w_rg0 (by omega) (by omega)) ⟨_, rfl⟩ (fun c126 => ?_) (fun c126 => ?_)
    · skip
      refine wa_iload_n (n := 2) rfl ?_
      refine wa_bipush (w_rg2 (by omega) (by omega)) ?_
      refine wa_icmpne (w_rg0 (by omega) (by omega)) (w_rg0 (by omega) (by omega)) ⟨_, rfl⟩ (fun c127 => ?_) (fun c127 => ?_)
      · skip
        exact absurd c127 (by omega)
      · skip
        refine wa_bipush (w_rg2 (by omega) (by omega)) ?_
        refine wa_goto ⟨_, rfl⟩ ?_
        refine wa_istore (n := 4) rfl ?_
        refine wa_goto ⟨_, rfl⟩ ?_
        refine wa_iload (n := 4) rfl ?_
        refine wa_iconst ?_
        refine wa_icmpeq (w_rg0 (by omega) (by omega)) (w_rg0 (by omega) (by omega)) ⟨_, rfl⟩ (fun c128 => ?_) (fun c128 => ?_)
        · skip
          exact absurd c128 (by omega)
        · skip
          refine wa_aload_n (n := 0) rfl ?_
          refine wa_iload (n := 4) rfl ?_
          refine wa_iload_n (n := 1) rfl ?_
          refine wa_iconst ?_
          refine wa_cv 14 rfl (wy_pr rfl) wt_14 (M2 := mS [15, 16, 17]) rfl at_XR_add ⟨_, rfl⟩ rfl rfl ⟨trivial, trivial, trivial, (Or.inr ⟨wy_pr rfl, mS_no rfl⟩), trivial, trivial⟩ trivial (fun _ _ q => mS_sub (by decide) q) (ad_ok (S := S) hI ⟨by omega, by omega⟩ ⟨by omega, by omega⟩ ⟨by omega, by omega⟩ hR) (fun oq131 Sq131 hp132 q131 => ?_)
          rcases q131 with ⟨rfl, ad129⟩
          show wJ _ _ _ _ _ _ _ _ _ _
          generalize Sq131 = Z130 at ad129 ⊢
          refine wa_iload_n (n := 1) rfl ?_
          refine wa_iconst ?_
          refine wa_iadd ?_
          refine wa_ireturn rfl ?_
          have hsf : lx_sf (T p) (lx_at T n (p + 1)) (lx_at T n (p + 2)) 0 = (4, 256, 2) := by unfold lx_sf; rw [if_pos (by omega)]
          have htkv : lx_tk T n 0 p = 4 := by rw [htk, hsf]
          obtain ⟨d1, d2⟩ := pt_no (k := 0) (by rw [htkv]; decide) (by rw [htkv]; decide) c1 c2
          refine ⟨p + 2, rfl, pt_fin h0 hpr rfl (by omega) ?_ ?_ ?_ d1 d2 (by omega) (by omega) ad129⟩
          · unfold kp; rw [htkv, hsi, hsf]; rfl
          · unfold vp; rw [htkv]; rfl
          · rw [htkv, hen, hsf]; exact (if_neg (by decide)).symm
    · skip
      refine wa_iload_n (n := 2) rfl ?_
      refine wa_bipush (w_rg2 (by omega) (by omega)) ?_
      refine wa_icmpeq (w_rg0 (by omega) (by omega)) (w_rg0 (by omega) (by omega)) ⟨_, rfl⟩ (fun c133 => ?_) (fun c133 => ?_)
      · skip
        refine wa_iload_n (n := 2) rfl ?_
        refine wa_bipush (w_rg2 (by omega) (by omega)) ?_
        refine wa_icmpne (w_rg0 (by omega) (by omega)) (w_rg0 (by omega) (by omega)) ⟨_, rfl⟩ (fun c134 => ?_) (fun c134 => ?_)
        · skip
          refine wa_iload_n (n := 2) rfl ?_
          refine wa_bipush (w_rg2 (by omega) (by omega)) ?_
          refine wa_icmpne (w_rg0 (by omega) (by omega)) (w_rg0 (by omega) (by omega)) ⟨_, rfl⟩ (fun c135 => ?_) (fun c135 => ?_)
          · skip
            exact absurd c135 (by omega)
          · skip
            refine wa_bipush (w_rg2 (by omega) (by omega)) ?_
            refine wa_goto ⟨_, rfl⟩ ?_
            refine wa_istore (n := 4) rfl ?_
            refine wa_goto ⟨_, rfl⟩ ?_
            refine wa_iload (n := 4) rfl ?_
            refine wa_iconst ?_
            refine wa_icmpeq (w_rg0 (by omega) (by omega)) (w_rg0 (by omega) (by omega)) ⟨_, rfl⟩ (fun c136 => ?_) (fun c136 => ?_)
            · skip
              exact absurd c136 (by omega)
            · skip
              refine wa_aload_n (n := 0) rfl ?_
              refine wa_iload (n := 4) rfl ?_
              refine wa_iload_n (n := 1) rfl ?_
              refine wa_iconst ?_
              refine wa_cv 14 rfl (wy_pr rfl) wt_14 (M2 := mS [15, 16, 17]) rfl at_XR_add ⟨_, rfl⟩ rfl rfl ⟨trivial, trivial, trivial, (Or.inr ⟨wy_pr rfl, mS_no rfl⟩), trivial, trivial⟩ trivial (fun _ _ q => mS_sub (by decide) q) (ad_ok (S := S) hI ⟨by omega, by omega⟩ ⟨by omega, by omega⟩ ⟨by omega, by omega⟩ hR) (fun oq139 Sq139 hp140 q139 => ?_)
              rcases q139 with ⟨rfl, ad137⟩
              show wJ _ _ _ _ _ _ _ _ _ _
              generalize Sq139 = Z138 at ad137 ⊢
              refine wa_iload_n (n := 1) rfl ?_
              refine wa_iconst ?_
              refine wa_iadd ?_
              refine wa_ireturn rfl ?_
              have hsf : lx_sf (T p) (lx_at T n (p + 1)) (lx_at T n (p + 2)) 0 = (4, 257, 2) := by unfold lx_sf; rw [if_neg (by omega), if_pos (by omega)]
              have htkv : lx_tk T n 0 p = 4 := by rw [htk, hsf]
              obtain ⟨d1, d2⟩ := pt_no (k := 0) (by rw [htkv]; decide) (by rw [htkv]; decide) c1 c2
              refine ⟨p + 2, rfl, pt_fin h0 hpr rfl (by omega) ?_ ?_ ?_ d1 d2 (by omega) (by omega) ad137⟩
              · unfold kp; rw [htkv, hsi, hsf]; rfl
              · unfold vp; rw [htkv]; rfl
              · rw [htkv, hen, hsf]; exact (if_neg (by decide)).symm
        · skip
          exact absurd c134 (by omega)
      · skip
        refine wa_iload_n (n := 2) rfl ?_
        refine wa_bipush (w_rg2 (by omega) (by omega)) ?_
        refine wa_icmpeq (w_rg0 (by omega) (by omega)) (w_rg0 (by omega) (by omega)) ⟨_, rfl⟩ (fun c141 => ?_) (fun c141 => ?_)
        · skip
          refine wa_iload_n (n := 2) rfl ?_
          refine wa_bipush (w_rg2 (by omega) (by omega)) ?_
          refine wa_icmpne (w_rg0 (by omega) (by omega)) (w_rg0 (by omega) (by omega)) ⟨_, rfl⟩ (fun c142 => ?_) (fun c142 => ?_)
          · skip
            refine wa_iload_n (n := 2) rfl ?_
            refine wa_bipush (w_rg2 (by omega) (by omega)) ?_
            refine wa_icmpne (w_rg0 (by omega) (by omega)) (w_rg0 (by omega) (by omega)) ⟨_, rfl⟩ (fun c143 => ?_) (fun c143 => ?_)
            · skip
              refine wa_iload_n (n := 2) rfl ?_
              refine wa_bipush (w_rg2 (by omega) (by omega)) ?_
              refine wa_icmpne (w_rg0 (by omega) (by omega)) (w_rg0 (by omega) (by omega)) ⟨_, rfl⟩ (fun c144 => ?_) (fun c144 => ?_)
              · skip
                exact absurd c144 (by omega)
              · skip
                refine wa_bipush (w_rg2 (by omega) (by omega)) ?_
                refine wa_goto ⟨_, rfl⟩ ?_
                refine wa_istore (n := 4) rfl ?_
                refine wa_goto ⟨_, rfl⟩ ?_
                refine wa_iload (n := 4) rfl ?_
                refine wa_iconst ?_
                refine wa_icmpeq (w_rg0 (by omega) (by omega)) (w_rg0 (by omega) (by omega)) ⟨_, rfl⟩ (fun c145 => ?_) (fun c145 => ?_)
                · skip
                  exact absurd c145 (by omega)
                · skip
                  refine wa_aload_n (n := 0) rfl ?_
                  refine wa_iload (n := 4) rfl ?_
                  refine wa_iload_n (n := 1) rfl ?_
                  refine wa_iconst ?_
                  refine wa_cv 14 rfl (wy_pr rfl) wt_14 (M2 := mS [15, 16, 17]) rfl at_XR_add ⟨_, rfl⟩ rfl rfl ⟨trivial, trivial, trivial, (Or.inr ⟨wy_pr rfl, mS_no rfl⟩), trivial, trivial⟩ trivial (fun _ _ q => mS_sub (by decide) q) (ad_ok (S := S) hI ⟨by omega, by omega⟩ ⟨by omega, by omega⟩ ⟨by omega, by omega⟩ hR) (fun oq148 Sq148 hp149 q148 => ?_)
                  rcases q148 with ⟨rfl, ad146⟩
                  show wJ _ _ _ _ _ _ _ _ _ _
                  generalize Sq148 = Z147 at ad146 ⊢
                  refine wa_iload_n (n := 1) rfl ?_
                  refine wa_iconst ?_
                  refine wa_iadd ?_
                  refine wa_ireturn rfl ?_
                  have hsf : lx_sf (T p) (lx_at T n (p + 1)) (lx_at T n (p + 2)) 0 = (4, 258, 2) := by unfold lx_sf; rw [if_neg (by omega), if_neg (by omega), if_pos (by omega)]
                  have htkv : lx_tk T n 0 p = 4 := by rw [htk, hsf]
                  obtain ⟨d1, d2⟩ := pt_no (k := 0) (by rw [htkv]; decide) (by rw [htkv]; decide) c1 c2
                  refine ⟨p + 2, rfl, pt_fin h0 hpr rfl (by omega) ?_ ?_ ?_ d1 d2 (by omega) (by omega) ad146⟩
                  · unfold kp; rw [htkv, hsi, hsf]; rfl
                  · unfold vp; rw [htkv]; rfl
                  · rw [htkv, hen, hsf]; exact (if_neg (by decide)).symm
            · skip
              exact absurd c143 (by omega)
          · skip
            exact absurd c142 (by omega)
        · skip
          refine wa_iload_n (n := 2) rfl ?_
          refine wa_bipush (w_rg2 (by omega) (by omega)) ?_
          refine wa_icmpne (w_rg0 (by omega) (by omega)) (w_rg0 (by omega) (by omega)) ⟨_, rfl⟩ (fun c150 => ?_) (fun c150 => ?_)
          · skip
            refine wa_iload_n (n := 2) rfl ?_
            refine wa_iload_n (n := 3) rfl ?_
            refine wa_icmpne (w_rg0 (by omega) (by omega)) (w_rg0 (by omega) (by omega)) ⟨_, rfl⟩ (fun c151 => ?_) (fun c151 => ?_)
            · skip
              refine wa_iload (n := 4) rfl ?_
              refine wa_iconst ?_
              refine wa_icmpeq (w_rg0 (by omega) (by omega)) (w_rg0 (by omega) (by omega)) ⟨_, rfl⟩ (fun c152 => ?_) (fun c152 => ?_)
              · skip
                refine wa_aload_n (n := 0) rfl ?_
                refine wb_gfz 14 rfl (wy_pr rfl) wt_14 wf_6_8 (v := 0) (h8) (fun r153 => ?_)
                refine wa_ifeq (w_rg0 (by omega) (by omega)) ⟨_, rfl⟩ (fun c154 => ?_) (fun c154 => ?_)
                · skip
                  exact wJ_S (as2_12 (u := lx_at T n (p + 1)) hx49 hB h7 h8 hI hW hL hV hR hb h33 hr2 c1 c2 hp hle hdi h34 (by unfold lx_sf; rw [if_neg (by omega), if_neg (by omega), if_neg (by omega), if_neg (by omega), if_neg (by omega), if_neg (by omega), if_neg (by omega)])) ⟨rfl, rfl, rfl, rfl, rfl, trivial⟩
                · skip
                  exact absurd c154 (by omega)
              · skip
                exact absurd c152 (by omega)
            · skip
              refine wa_iload_n (n := 2) rfl ?_
              refine wa_bipush (w_rg2 (by omega) (by omega)) ?_
              refine wa_icmpeq (w_rg0 (by omega) (by omega)) (w_rg0 (by omega) (by omega)) ⟨_, rfl⟩ (fun c155 => ?_) (fun c155 => ?_)
              · skip
                refine wa_iload_n (n := 2) rfl ?_
                refine wa_bipush (w_rg2 (by omega) (by omega)) ?_
                refine wa_icmpne (w_rg0 (by omega) (by omega)) (w_rg0 (by omega) (by omega)) ⟨_, rfl⟩ (fun c156 => ?_) (fun c156 => ?_)
                · skip
                  exact absurd c156 (by omega)
                · skip
                  refine wa_bipush (w_rg2 (by omega) (by omega)) ?_
                  refine wa_goto ⟨_, rfl⟩ ?_
                  refine wa_istore (n := 4) rfl ?_
                  refine wa_fall ⟨_, rfl⟩ ?_
                  refine wa_iload (n := 4) rfl ?_
                  refine wa_iconst ?_
                  refine wa_icmpeq (w_rg0 (by omega) (by omega)) (w_rg0 (by omega) (by omega)) ⟨_, rfl⟩ (fun c157 => ?_) (fun c157 => ?_)
                  · skip
                    exact absurd c157 (by omega)
                  · skip
                    refine wa_aload_n (n := 0) rfl ?_
                    refine wa_iload (n := 4) rfl ?_
                    refine wa_iload_n (n := 1) rfl ?_
                    refine wa_iconst ?_
                    refine wa_cv 14 rfl (wy_pr rfl) wt_14 (M2 := mS [15, 16, 17]) rfl at_XR_add ⟨_, rfl⟩ rfl rfl ⟨trivial, trivial, trivial, (Or.inr ⟨wy_pr rfl, mS_no rfl⟩), trivial, trivial⟩ trivial (fun _ _ q => mS_sub (by decide) q) (ad_ok (S := S) hI ⟨by omega, by omega⟩ ⟨by omega, by omega⟩ ⟨by omega, by omega⟩ hR) (fun oq160 Sq160 hp161 q160 => ?_)
                    rcases q160 with ⟨rfl, ad158⟩
                    show wJ _ _ _ _ _ _ _ _ _ _
                    generalize Sq160 = Z159 at ad158 ⊢
                    refine wa_iload_n (n := 1) rfl ?_
                    refine wa_iconst ?_
                    refine wa_iadd ?_
                    refine wa_ireturn rfl ?_
                    have hsf : lx_sf (T p) (lx_at T n (p + 1)) (lx_at T n (p + 2)) 0 = (4, 260, 2) := by unfold lx_sf; rw [if_neg (by omega), if_neg (by omega), if_neg (by omega), if_neg (by omega), if_pos (by omega)]
                    have htkv : lx_tk T n 0 p = 4 := by rw [htk, hsf]
                    obtain ⟨d1, d2⟩ := pt_no (k := 0) (by rw [htkv]; decide) (by rw [htkv]; decide) c1 c2
                    refine ⟨p + 2, rfl, pt_fin h0 hpr rfl (by omega) ?_ ?_ ?_ d1 d2 (by omega) (by omega) ad158⟩
                    · unfold kp; rw [htkv, hsi, hsf]; rfl
                    · unfold vp; rw [htkv]; rfl
                    · rw [htkv, hen, hsf]; exact (if_neg (by decide)).symm
              · skip
                refine wa_iload_n (n := 2) rfl ?_
                refine wa_bipush (w_rg2 (by omega) (by omega)) ?_
                refine wa_icmpne (w_rg0 (by omega) (by omega)) (w_rg0 (by omega) (by omega)) ⟨_, rfl⟩ (fun c162 => ?_) (fun c162 => ?_)
                · skip
                  refine wa_iload (n := 4) rfl ?_
                  refine wa_iconst ?_
                  refine wa_icmpeq (w_rg0 (by omega) (by omega)) (w_rg0 (by omega) (by omega)) ⟨_, rfl⟩ (fun c163 => ?_) (fun c163 => ?_)
                  · skip
                    refine wa_aload_n (n := 0) rfl ?_
                    refine wb_gfz 14 rfl (wy_pr rfl) wt_14 wf_6_8 (v := 0) (h8) (fun r164 => ?_)
                    refine wa_ifeq (w_rg0 (by omega) (by omega)) ⟨_, rfl⟩ (fun c165 => ?_) (fun c165 => ?_)
                    · skip
                      exact wJ_S (as2_12 (u := lx_at T n (p + 1)) hx49 hB h7 h8 hI hW hL hV hR hb h33 hr2 c1 c2 hp hle hdi h34 (by unfold lx_sf; rw [if_neg (by omega), if_neg (by omega), if_neg (by omega), if_neg (by omega), if_neg (by omega), if_neg (by omega), if_neg (by omega)])) ⟨rfl, rfl, rfl, rfl, rfl, trivial⟩
                    · skip
                      exact absurd c165 (by omega)
                  · skip
                    exact absurd c163 (by omega)
                · skip
                  refine wa_fall ⟨_, rfl⟩ ?_
                  refine wa_iload_n (n := 2) rfl ?_
                  refine wa_bipush (w_rg2 (by omega) (by omega)) ?_
                  refine wa_icmpne (w_rg0 (by omega) (by omega)) (w_rg0 (by omega) (by omega)) ⟨_, rfl⟩ (fun c166 => ?_) (fun c166 => ?_)
                  · skip
                    refine wa_bipush (w_rg2 (by omega) (by omega)) ?_
                    refine wa_fall ⟨_, rfl⟩ ?_
                    refine wa_istore (n := 4) rfl ?_
                    refine wa_fall ⟨_, rfl⟩ ?_
                    refine wa_iload (n := 4) rfl ?_
                    refine wa_iconst ?_
                    refine wa_icmpeq (w_rg0 (by omega) (by omega)) (w_rg0 (by omega) (by omega)) ⟨_, rfl⟩ (fun c167 => ?_) (fun c167 => ?_)
                    · skip
                      exact absurd c167 (by omega)
                    · skip
                      refine wa_aload_n (n := 0) rfl ?_
                      refine wa_iload (n := 4) rfl ?_
                      refine wa_iload_n (n := 1) rfl ?_
                      refine wa_iconst ?_
                      refine wa_cv 14 rfl (wy_pr rfl) wt_14 (M2 := mS [15, 16, 17]) rfl at_XR_add ⟨_, rfl⟩ rfl rfl ⟨trivial, trivial, trivial, (Or.inr ⟨wy_pr rfl, mS_no rfl⟩), trivial, trivial⟩ trivial (fun _ _ q => mS_sub (by decide) q) (ad_ok (S := S) hI ⟨by omega, by omega⟩ ⟨by omega, by omega⟩ ⟨by omega, by omega⟩ hR) (fun oq170 Sq170 hp171 q170 => ?_)
                      rcases q170 with ⟨rfl, ad168⟩
                      show wJ _ _ _ _ _ _ _ _ _ _
                      generalize Sq170 = Z169 at ad168 ⊢
                      refine wa_iload_n (n := 1) rfl ?_
                      refine wa_iconst ?_
                      refine wa_iadd ?_
                      refine wa_ireturn rfl ?_
                      have hsf : lx_sf (T p) (lx_at T n (p + 1)) (lx_at T n (p + 2)) 0 = (4, 261, 2) := by unfold lx_sf; rw [if_neg (by omega), if_neg (by omega), if_neg (by omega), if_neg (by omega), if_neg (by omega), if_pos (by omega)]
                      have htkv : lx_tk T n 0 p = 4 := by rw [htk, hsf]
                      obtain ⟨d1, d2⟩ := pt_no (k := 0) (by rw [htkv]; decide) (by rw [htkv]; decide) c1 c2
                      refine ⟨p + 2, rfl, pt_fin h0 hpr rfl (by omega) ?_ ?_ ?_ d1 d2 (by omega) (by omega) ad168⟩
                      · unfold kp; rw [htkv, hsi, hsf]; rfl
                      · unfold vp; rw [htkv]; rfl
                      · rw [htkv, hen, hsf]; exact (if_neg (by decide)).symm
                  · skip
                    exact absurd c166 (by omega)
          · skip
            refine wa_fall ⟨_, rfl⟩ ?_
            refine wa_iload_n (n := 2) rfl ?_
            refine wa_bipush (w_rg2 (by omega) (by omega)) ?_
            refine wa_icmpne (w_rg0 (by omega) (by omega)) (w_rg0 (by omega) (by omega)) ⟨_, rfl⟩ (fun c172 => ?_) (fun c172 => ?_)
            · skip
              refine wa_iload_n (n := 2) rfl ?_
              refine wa_bipush (w_rg2 (by omega) (by omega)) ?_
              refine wa_icmpne (w_rg0 (by omega) (by omega)) (w_rg0 (by omega) (by omega)) ⟨_, rfl⟩ (fun c173 => ?_) (fun c173 => ?_)
              · skip
                refine wa_iload_n (n := 2) rfl ?_
                refine wa_bipush (w_rg2 (by omega) (by omega)) ?_
                refine wa_icmpne (w_rg0 (by omega) (by omega)) (w_rg0 (by omega) (by omega)) ⟨_, rfl⟩ (fun c174 => ?_) (fun c174 => ?_)
                · skip
                  refine wa_bipush (w_rg2 (by omega) (by omega)) ?_
                  refine wa_fall ⟨_, rfl⟩ ?_
                  refine wa_istore (n := 4) rfl ?_
                  refine wa_goto ⟨_, rfl⟩ ?_
                  refine wa_iload (n := 4) rfl ?_
                  refine wa_iconst ?_
                  refine wa_icmpeq (w_rg0 (by omega) (by omega)) (w_rg0 (by omega) (by omega)) ⟨_, rfl⟩ (fun c175 => ?_) (fun c175 => ?_)
                  · skip
                    exact absurd c175 (by omega)
                  · skip
                    refine wa_aload_n (n := 0) rfl ?_
                    refine wa_iload (n := 4) rfl ?_
                    refine wa_iload_n (n := 1) rfl ?_
                    refine wa_iconst ?_
                    refine wa_cv 14 rfl (wy_pr rfl) wt_14 (M2 := mS [15, 16, 17]) rfl at_XR_add ⟨_, rfl⟩ rfl rfl ⟨trivial, trivial, trivial, (Or.inr ⟨wy_pr rfl, mS_no rfl⟩), trivial, trivial⟩ trivial (fun _ _ q => mS_sub (by decide) q) (ad_ok (S := S) hI ⟨by omega, by omega⟩ ⟨by omega, by omega⟩ ⟨by omega, by omega⟩ hR) (fun oq178 Sq178 hp179 q178 => ?_)
                    rcases q178 with ⟨rfl, ad176⟩
                    show wJ _ _ _ _ _ _ _ _ _ _
                    generalize Sq178 = Z177 at ad176 ⊢
                    refine wa_iload_n (n := 1) rfl ?_
                    refine wa_iconst ?_
                    refine wa_iadd ?_
                    refine wa_ireturn rfl ?_
                    have hsf : lx_sf (T p) (lx_at T n (p + 1)) (lx_at T n (p + 2)) 0 = (4, 259, 2) := by unfold lx_sf; rw [if_neg (by omega), if_neg (by omega), if_neg (by omega), if_pos (by omega)]
                    have htkv : lx_tk T n 0 p = 4 := by rw [htk, hsf]
                    obtain ⟨d1, d2⟩ := pt_no (k := 0) (by rw [htkv]; decide) (by rw [htkv]; decide) c1 c2
                    refine ⟨p + 2, rfl, pt_fin h0 hpr rfl (by omega) ?_ ?_ ?_ d1 d2 (by omega) (by omega) ad176⟩
                    · unfold kp; rw [htkv, hsi, hsf]; rfl
                    · unfold vp; rw [htkv]; rfl
                    · rw [htkv, hen, hsf]; exact (if_neg (by decide)).symm
                · skip
                  exact absurd c174 (by omega)
              · skip
                exact absurd c173 (by omega)
            · skip
              exact absurd c172 (by omega)
end Wat
