/-! PART au: the class's Reader on a program: texts; a token. -/
section Wau
variable {xs : List (Nat × List Int32)} {M : Nat → Prop} {d : Nat} {A B C S S1 Z : wS} {Q : wO → wS → Prop} {T : Int → Int} {n : Int} {N X : List (List Int)}
theorem rp_tx {l : List Int} (h1 : wd_at S 2 1024) (h2 : wd_L S 2 1024) (hv : wv_L S 2) (h3 : rd_L S) (h4 : gI S) (g : tx_Z S Z l) : rp_ag S Z := by
  have e : ∀ (j : Nat) (i : Int), j ≠ 18 → Z j i = S j i := fun j i hj => g.2 j i (Or.inl hj)
  have el : ∀ j : Nat, Z j (-1) = S j (-1) := fun j => g.2 j (-1) (Or.inr (by omega))
  have er : ∀ j : Nat, j ≠ 18 → Z j = S j := fun j hj => funext fun i => e j i hj
  have hG : wG ≠ 18 := by decide
  refine ⟨⟨by rw [er 2 (by decide)]; omega, by rw [er 2 (by decide)]; omega, by rw [er 14 (by decide)]; omega, by rw [er 2 (by decide)]; omega, by rw [er 2 (by decide)]; omega⟩, fun _ _ _ => ⟨e _ _ (by decide), e _ _ (by decide)⟩, fun _ _ _ => e _ _ (by decide), fun _ _ _ => e _ _ (by decide), fun _ _ _ => e _ _ (by decide), fun _ _ _ => ⟨e _ _ (by decide), e _ _ (by decide), e _ _ (by decide)⟩, ⟨Or.inl (by rw [el]; omega), Or.inl (by rw [el]; omega), Or.inl (by rw [el]; omega)⟩, fun j i _ _ c => g.2 j i (by omega), ?_, ?_, ?_, ?_, gI_ag h4 (fun j hj => er j (by omega)), rmR_ag (rmR_rfl S) (fun k _ => el k) (e _ _ hG) (e _ _ hG)⟩
  · unfold wd_at
    rw [er (2 + 1) (by decide), er (2 + 2) (by decide), er (2 + 3) (by decide), er (2 + 4) (by decide), er (2 + 10) (by decide), er 2 (by decide)]; exact h1
  · unfold wd_L
    rw [el, el, el, el, el, el, el]; exact h2
  · unfold wv_L
    rw [er (2 + 5) (by decide), er (2 + 6) (by decide), er (2 + 7) (by decide), er (2 + 8) (by decide), er 2 (by decide)]; exact hv
  · unfold rd_L
    rw [el, el, el, er 14 (by decide)]; exact h3
theorem cL_rp {L : List (List Int)} {nm : Nat} {f : Int} (hI : wd_at S 2 1024) (h : cL nm f L S) (g : rp_ag S Z) (hf : (nm = 9 ∧ f = 10) ∨ (nm = 10 ∧ f = 12)) (he : Z 2 f = S 2 f) : cL nm f L Z := by
  refine cL_ag hI h g (fun i i0 i1 => ?_) he
  rcases hf with ⟨rfl, rfl⟩ | ⟨rfl, rfl⟩
  · exact g.2.2.2.1 i i0 i1
  · exact g.2.2.2.2.1 i i0 i1
theorem xt9 {p e v : Int} (h0 : 0 ≤ S 2 7 ∧ 0 ≤ S 2 1 ∧ 0 ≤ S 14 3 ∧ 0 ≤ S 2 10 ∧ 0 ≤ S 2 12) (hr : rp_ag S S1) (z3 : S1 14 3 = S 14 3) (hb : S1 14 3 ≤ 400000) (c1 : cL 9 10 N S1) (c2 : cL 10 12 (adL X (lx_by T n p)) S1) (hv : v = ixL (adL X (lx_by T n p)) (lx_by T n p)) (hvr : -1 ≤ v ∧ v ≤ 4000) (hp : 0 ≤ p ∧ p ≤ 65536) (he : 0 ≤ e ∧ e ≤ 65536) (htk : lx_tk T n 0 p = 3) (hen : lx_en T n 0 p = e + 1) (b1 : S1 2 7 ≤ S 2 7 + 1) (b2 : S1 2 1 ≤ S 2 1 + (e + 1 - p)) : wJ (pe_GA xs) wY0 (mS [3, 4, 5, 6, 7, 8, 9, 10, 15, 16, 17]) (d + 4) t_XR_addText ((pe_at t_XR_addText.bl 9).getD (0, [])).2 [(0, (2, 14)), (1, (0, p)), (3, (0, e))] [(0, v)] S1 (fun o Z => ∃ e : Int, o = .inl (some (0, e)) ∧ pt_ok T n p N X S Z e) := by
  have hR := hr.2.2.2.2.2.2.2.2.2.2.2.1
  have hI := hr.2.2.2.2.2.2.2.2.2.2.2.2.1
  have hrm := rmR_rfl S1
  have hNn : Nn T n p N = N := if_neg (fun z => by rw [htk] at z; omega)
  have hXn : Xn T n p X = adL X (lx_by T n p) := if_pos htk
  refine wa_istore (n := 4) rfl ?_
  refine wa_aload_n (n := 0) rfl ?_
  refine wa_iload (n := 4) rfl ?_
  refine wa_iconst ?_
  refine wa_icmpne (w_rg0 (by omega) (by omega)) (w_rg0 (by omega) (by omega)) ⟨_, rfl⟩ (fun c101 => ?_) (fun c101 => ?_)
  · skip
    refine wa_iconst ?_
    refine wa_fall ⟨_, rfl⟩ ?_
    refine wa_iload_n (n := 1) rfl ?_
    refine wa_iload (n := 4) rfl ?_
    refine wa_cv 14 rfl (wy_pr rfl) wt_14 (M2 := mS [15, 16, 17]) rfl at_XR_add ⟨_, rfl⟩ rfl rfl ⟨trivial, (Or.inr ⟨wy_pr rfl, mS_no rfl⟩), trivial, trivial, trivial⟩ trivial (fun _ _ q => mS_sub (by decide) q) (ad_ok (S := S1) hI ⟨by omega, by omega⟩ ⟨by omega, by omega⟩ ⟨by omega, by omega⟩ hR) (fun oq104 Sq104 hp105 q104 => ?_)
    rcases q104 with ⟨rfl, ad102⟩
    show wJ _ _ _ _ _ _ _ _ _ _
    generalize Sq104 = Z103 at ad102 ⊢
    refine wa_iload_n (n := 3) rfl ?_
    refine wa_iconst ?_
    refine wa_iadd ?_
    refine wa_ireturn rfl ?_
    refine ⟨e + 1, rfl, pt_fin h0 hr z3 (by omega) ?_ ?_ ?_ (by rw [hNn]; exact c1) (by rw [hXn]; exact c2) b1 b2 ad102⟩
    · unfold kp; rw [htk, if_neg (by decide), if_neg (by decide), if_pos rfl, ← hv, if_neg (by omega)]
    · unfold vp; rw [htk, if_neg (by decide), if_neg (by decide), if_pos rfl]; exact hv
    · rw [htk, if_neg (by decide), hen]
  · skip
    refine wa_iconst ?_
    refine wa_goto ⟨_, rfl⟩ ?_
    refine wa_iload_n (n := 1) rfl ?_
    refine wa_iload (n := 4) rfl ?_
    refine wa_cv 14 rfl (wy_pr rfl) wt_14 (M2 := mS [15, 16, 17]) rfl at_XR_add ⟨_, rfl⟩ rfl rfl ⟨trivial, (Or.inr ⟨wy_pr rfl, mS_no rfl⟩), trivial, trivial, trivial⟩ trivial (fun _ _ q => mS_sub (by decide) q) (ad_ok (S := S1) hI ⟨by omega, by omega⟩ ⟨by omega, by omega⟩ ⟨by omega, by omega⟩ hR) (fun oq108 Sq108 hp109 q108 => ?_)
    rcases q108 with ⟨rfl, ad106⟩
    show wJ _ _ _ _ _ _ _ _ _ _
    generalize Sq108 = Z107 at ad106 ⊢
    refine wa_iload_n (n := 3) rfl ?_
    refine wa_iconst ?_
    refine wa_iadd ?_
    refine wa_ireturn rfl ?_
    refine ⟨e + 1, rfl, pt_fin h0 hr z3 (by omega) ?_ ?_ ?_ (by rw [hNn]; exact c1) (by rw [hXn]; exact c2) b1 b2 ad106⟩
    · unfold kp; rw [htk, if_neg (by decide), if_neg (by decide), if_pos rfl, ← hv, if_pos (by omega)]
    · unfold vp; rw [htk, if_neg (by decide), if_neg (by decide), if_pos rfl]; exact hv
    · rw [htk, if_neg (by decide), hen]
theorem xt2 {p : Int} (hB : rd_B T n S) (h7 : S 14 7 = 2) (h8 : S 14 8 = 0) (hI : gI S) (hW : wd_at S 2 1024) (hL : wd_L S 2 1024) (hV : wv_L S 2) (hR : rd_L S) (hb : rb_I 2 S) (h33 : 33 ≤ S 2 7) (hr2 : r2_I S) (c1 : cL 9 10 N S) (c2 : cL 10 12 X S) (hp : 0 ≤ p ∧ p < n) (h18 : S 18 (-1) = 60) (h34 : T p = 34) : wJ (pe_GA xs) wY0 (mS [3, 4, 5, 6, 7, 8, 9, 10, 15, 16, 17]) (d + 6) t_XR_addText ((pe_at t_XR_addText.bl 0).getD (0, [])).2 [(0, (2, 14)), (1, (0, p))] [] S (fun o Z => ∃ e : Int, o = .inl (some (0, e)) ∧ pt_ok T n p N X S Z e) := by
  have hn := hB.2.2.1
  have hn1 := hB.2.2.2.1
  have hn2 := hB.2.2.2.2.1
  have hrm := rmR_rfl S
  have hb1 : S 2 7 ≤ 400000 ∧ S 2 1 ≤ 4000000 ∧ S 4 (-1) ≤ 1000000 ∧ S 3 (-1) ≤ 10000000 ∧ S 14 3 ≤ 400000 := hb
  have hc0 : 0 ≤ S 2 7 ∧ S 2 7 ≤ S 4 (-1) := hW.1
  have hu0 : 0 ≤ S 2 1 ∧ S 2 1 ≤ S 3 (-1) := hW.2.1
  have hl1 : 1024 ≤ S 3 (-1) := hL.2.2.2.2.2.2.1
  have hr1 : 0 ≤ S 14 3 := hR.1.1
  have hv1 : 0 ≤ S 2 10 := hV.1.1
  have hv2 : 0 ≤ S 2 12 := hV.2.1.1
  have h0 : 0 ≤ S 2 7 ∧ 0 ≤ S 2 1 ∧ 0 ≤ S 14 3 ∧ 0 ≤ S 2 10 ∧ 0 ≤ S 2 12 := ⟨hc0.1, hu0.1, hr1, hv1, hv2⟩
  have hpr := rp_rfl hW hL hV hR hI
  have hle : lx_le (T p) = false := by rw [h34]; decide
  have hdi : lx_di (T p) = false := by rw [h34]; decide
  have hen : lx_en T n 0 p = (lx_tx T n ((n - p).toNat + 1) (p + 1) []).2.1 + 1 := by unfold lx_en; rw [if_neg (by omega), if_neg (by rw [hle]; decide), if_neg (by rw [hdi]; decide), if_pos h34]
  have htk : lx_tk T n 0 p = (lx_tx T n ((n - p).toNat + 1) (p + 1) []).1 := by unfold lx_tk; rw [if_neg (by omega), if_neg (by rw [hle]; decide), if_neg (by rw [hdi]; decide), if_pos h34]
  have hby : lx_by T n p = (lx_tx T n ((n - p).toNat + 1) (p + 1) []).2.2 := rfl
  have hle2 := lx_tx_le T n ((n - p).toNat + 1) (p + 1) [] (by omega)
  have hln := lx_tx_ln T n ((n - p).toNat + 1) (p + 1) []
  generalize hee : lx_tx T n ((n - p).toNat + 1) (p + 1) [] = eu at hen htk hle2 hby hln
  obtain ⟨tk, e, bs⟩ := eu
  have hen : lx_en T n 0 p = e + 1 := hen
  have htk : lx_tk T n 0 p = tk := htk
  have hby : lx_by T n p = bs := hby
  have hln : tk = 3 → (bs.length : Int) ≤ ([] : List Int).length + (e - (p + 1)) := hln
  have hl0 : (([] : List Int).length : Int) = 0 := rfl
  have hle2 : p + 1 ≤ e := hle2.1
  refine wa_iconst ?_
  refine wa_istore_n (n := 2) rfl ?_
  refine wa_iload_n (n := 1) rfl ?_
  refine wa_iconst ?_
  refine wa_iadd ?_
  refine wa_istore_n (n := 3) rfl ?_
  refine wa_fall ⟨_, rfl⟩ ?_
  refine wJ_S (xt_l (d := d + 5) (tk := tk) (e := e) (bs := bs) (p := p) hB h18 (fun ht5 Z l hz => ?_) (fun Z l i hz hl60 hi0 hi => ?_) ((n - p).toNat + 1) (p + 1) [] S (by omega) (by omega) (by omega) (by decide) hee ⟨fun i hi => absurd hi (Nat.not_lt_zero _), fun _ _ _ => rfl⟩) ⟨rfl, rfl, rfl, rfl, trivial⟩
  · skip
    have hx := rp_tx hW hL hV hR hI hz
    have zr : ∀ j : Nat, j ≠ 18 → Z j = S j := fun j hj => funext fun i => hz.2 j i (Or.inl hj)
    have zW := hx.2.2.2.2.2.2.2.2.1
    have zL := hx.2.2.2.2.2.2.2.2.2.1
    have zV := hx.2.2.2.2.2.2.2.2.2.2.1
    have zR := hx.2.2.2.2.2.2.2.2.2.2.2.1
    have zI := hx.2.2.2.2.2.2.2.2.2.2.2.2.1
    have zm := rmR_rfl Z
    have z3 : Z 14 3 = S 14 3 := by rw [zr 14 (by decide)]
    have z27 : Z 2 7 = S 2 7 := by rw [zr 2 (by decide)]
    have z21 : Z 2 1 = S 2 1 := by rw [zr 2 (by decide)]
    have z4l : Z 4 (-1) = S 4 (-1) := by rw [zr 4 (by decide)]
    have z3l : Z 3 (-1) = S 3 (-1) := by rw [zr 3 (by decide)]
    have k1 := cL_rp hW c1 hx (Or.inl ⟨rfl, rfl⟩) (by rw [zr 2 (by decide)])
    have k2 := cL_rp hW c2 hx (Or.inr ⟨rfl, rfl⟩) (by rw [zr 2 (by decide)])
    have z18 : Z 18 (-1) = 60 := (hz.2 18 (-1) (Or.inr (by decide))).trans h18
    refine wa_aload_n (n := 0) rfl ?_
    refine wa_iload_n (n := 1) rfl ?_
    refine wa_cv 14 rfl (wy_pr rfl) wt_14 (M2 := mS [15, 16, 17]) rfl at_XR_addBad ⟨_, rfl⟩ rfl rfl ⟨(Or.inr ⟨wy_pr rfl, mS_no rfl⟩), trivial, trivial⟩ trivial (fun _ _ q => mS_sub (by decide) q) ?_ (fun _ _ _ q => q)
    refine wa_aload_n (n := 0) rfl ?_
    refine wa_iconst ?_
    refine wa_iload_n (n := 1) rfl ?_
    refine wa_iconst ?_
    refine wa_cv 14 rfl (wy_pr rfl) wt_14 (M2 := mS [15, 16, 17]) rfl at_XR_add ⟨_, rfl⟩ rfl rfl ⟨(Or.inr ⟨wy_pr rfl, mS_no rfl⟩), trivial, trivial⟩ trivial (fun _ _ q => mS_sub (by decide) q) (ad_ok (S := Z) zI ⟨by omega, by omega⟩ ⟨by omega, by omega⟩ ⟨by omega, by omega⟩ zR) (fun oq263 Sq263 hp264 q263 => ?_)
    rcases q263 with ⟨rfl, ad261⟩
    show wJ _ _ _ _ _ _ _ _ _ _
    generalize Sq263 = Z262 at ad261 ⊢
    refine wa_aload_n (n := 0) rfl ?_
    refine wb_gfi 14 rfl (wy_pr rfl) wt_14 wf_6_6 (v := n) (((ad261.2.2.2.1 14 6 (by decide) (by decide) (by decide) (by decide) (by decide) (Or.inr (by decide))).trans (((hz.2 14 6 (by omega)).trans hB.2.1)))) (fun r265 => ?_)
    refine wa_ireturn rfl ?_
    show wJ _ _ _ _ _ _ _ _ _ _
    refine wa_ireturn rfl ?_
    have htk5 : lx_tk T n 0 p = 5 := by rw [htk]; exact ht5
    obtain ⟨d1, d2⟩ := pt_no (k := 0) (by rw [htk5]; decide) (by rw [htk5]; decide) k1 k2
    refine ⟨n, rfl, pt_fin h0 hx z3 (by omega) ?_ ?_ ?_ d1 d2 (by omega) (by omega) ad261⟩
    · unfold kp; rw [htk5]; rfl
    · unfold vp; rw [htk5]; rfl
    · rw [htk5, if_pos rfl]
  · skip
    have hx := rp_tx hW hL hV hR hI hz
    have zr : ∀ j : Nat, j ≠ 18 → Z j = S j := fun j hj => funext fun i => hz.2 j i (Or.inl hj)
    have zW := hx.2.2.2.2.2.2.2.2.1
    have zL := hx.2.2.2.2.2.2.2.2.2.1
    have zV := hx.2.2.2.2.2.2.2.2.2.2.1
    have zR := hx.2.2.2.2.2.2.2.2.2.2.2.1
    have zI := hx.2.2.2.2.2.2.2.2.2.2.2.2.1
    have zm := rmR_rfl Z
    have z3 : Z 14 3 = S 14 3 := by rw [zr 14 (by decide)]
    have z27 : Z 2 7 = S 2 7 := by rw [zr 2 (by decide)]
    have z21 : Z 2 1 = S 2 1 := by rw [zr 2 (by decide)]
    have z4l : Z 4 (-1) = S 4 (-1) := by rw [zr 4 (by decide)]
    have z3l : Z 3 (-1) = S 3 (-1) := by rw [zr 3 (by decide)]
    have k1 := cL_rp hW c1 hx (Or.inl ⟨rfl, rfl⟩) (by rw [zr 2 (by decide)])
    have k2 := cL_rp hW c2 hx (Or.inr ⟨rfl, rfl⟩) (by rw [zr 2 (by decide)])
    have z18 : Z 18 (-1) = 60 := (hz.2 18 (-1) (Or.inr (by decide))).trans h18
    have hio : (tk = 5 ∧ i = n) ∨ (tk = 3 ∧ i = e ∧ i < n) := by omega
    refine wa_iload_n (n := 3) rfl ?_
    refine wa_aload_n (n := 0) rfl ?_
    refine wb_gfi 14 rfl (wy_pr rfl) wt_14 wf_6_6 (v := n) (((hz.2 14 6 (by omega)).trans hB.2.1)) (fun r341 => ?_)
    refine wa_icmplt (w_rg0 (by omega) (by omega)) (w_rg0 (by omega) (by omega)) ⟨_, rfl⟩ (fun c342 => ?_) (fun c342 => ?_)
    · skip
      refine wa_aload_n (n := 0) rfl ?_
      refine wb_gfz 14 rfl (wy_pr rfl) wt_14 wf_6_8 (v := 0) (((hz.2 14 8 (by omega)).trans h8)) (fun r343 => ?_)
      refine wa_ifeq (w_rg0 (by omega) (by omega)) ⟨_, rfl⟩ (fun c344 => ?_) (fun c344 => ?_)
      · skip
        refine wa_aload_n (n := 0) rfl ?_
        refine wb_gf5 14 rfl (wy_pr rfl) wt_14 wf_6_7 (v := 2) (((hz.2 14 7 (by omega)).trans h7)) (fun r345 => ?_)
        refine wa_aload_n (n := 0) rfl ?_
        refine wb_gf5 14 rfl (wy_pr rfl) wt_14 wf_6_7 (v := 2) (((hz.2 14 7 (by omega)).trans h7)) (fun r346 => ?_)
        refine wa_aload_n (n := 0) rfl ?_
        refine wb_gf4 14 rfl (wy_pr rfl) wt_14 wf_6_9 (v := 18) wl_14_9 ?_
        refine wa_iconst ?_
        refine wa_iload_n (n := 2) rfl ?_
        have ht3 : tk = 3 ∧ i = e ∧ i < n ∧ l = bs := hi.elim (fun w => by omega) id
        have hlb := ht3.2.2.2
        have hln3 := hln ht3.1
        have hlen : (l.length : Int) = bs.length := by rw [hlb]
        refine wa_cv 2 rfl (wy_pr rfl) wt_2 (M2 := mS [3, 4, 5, 6, 7, 8]) rfl at_XW_wordFor ⟨_, rfl⟩ rfl rfl ⟨(Or.inr ⟨wy_pr rfl, mS_no rfl⟩), trivial, trivial, trivial, trivial⟩ ⟨(Or.inr ⟨wy_pr rfl, mS_no rfl⟩), trivial⟩ (fun _ _ q => mS_sub (by decide) q) (wo_2_18 (S := Z) (a0 := 0) (n := (l.length : Int)) zI zL ⟨by omega, by omega, by omega, by omega⟩ ⟨by omega, by omega⟩ ⟨by omega, by omega, by omega⟩ zW (by omega)) (fun oq347 Sq347 hp348 q347 => ?_)
        rcases q347 with ⟨k, rfl, hk0, hk1, hwq, rfl⟩ | ⟨rfl, hno, hq, hzI⟩
        · skip
          show wJ _ _ _ _ _ _ _ _ _ _
          have htk3 : lx_tk T n 0 p = 3 := by rw [htk]; exact ht3.1
          have hgl : ∀ m : Nat, m < l.length → Z 18 ((0 : Int) + (m : Int)) = bs.getD m 0 := fun m hm => by rw [show (0 : Int) + (m : Int) = (m : Int) by omega, hz.1 m hm, hlb]
          have y0 := hx
          have yq : wqL Z bs k := ⟨by rw [hwq.1, hlen], fun m hm => (hwq.2 m (by omega)).trans ((hgl m (by omega)).trans (by show _ = bs.getD ((0 : Int) + (m : Int)).toNat 0; rw [show ((0 : Int) + (m : Int)).toNat = m by omega]))⟩
          have yk : 0 ≤ k ∧ k < Z 2 7 := ⟨hk0, hk1⟩
          have y1 := k1
          have y2 := k2
          have y14 : ∀ m : Int, Z 14 m = Z 14 m := fun _ => rfl
          have yb1 : Z 2 7 ≤ S 2 7 + 1 := by omega
          have yb2 : Z 2 1 ≤ S 2 1 + (e + 1 - p) := by omega
          have yW := y0.2.2.2.2.2.2.2.2.1
          have yL := y0.2.2.2.2.2.2.2.2.2.1
          have yV := y0.2.2.2.2.2.2.2.2.2.2.1
          have yR := y0.2.2.2.2.2.2.2.2.2.2.2.1
          have yI := y0.2.2.2.2.2.2.2.2.2.2.2.2.1
          have yc : Z 2 7 ≤ Z 4 (-1) := yW.1.2
          have y3 : Z 14 3 = S 14 3 := (y14 3).trans z3
          have yix : Z 8 k = ixL X bs := ix_no yW yV.2.1 y2 yk yq
          have ynl : Z 2 12 = (X.length : Int) := y2.1
          have yr : -1 ≤ Z 8 k ∧ Z 8 k ≤ 4000 := by
            have w1 : Z 2 12 ≤ 4000 := yV.2.2.2.2.2.2.2
            rcases yV.2.1.2.2 k yk.1 yk.2 with w | ⟨w, w2, -⟩
            · have w : Z 8 k = -1 := w
              omega
            · have w : 0 ≤ Z 8 k := w
              have w2 : Z 8 k < Z 2 12 := w2
              omega
          refine wa_cv 2 rfl (wy_pr rfl) wt_2 (M2 := mS [10]) rfl at_XW_textFor ⟨_, rfl⟩ rfl rfl ⟨(Or.inr ⟨wy_pr rfl, mS_no rfl⟩), trivial, trivial, trivial, trivial⟩ trivial (fun _ _ q => mS_sub (by decide) q) (tf_2 (d := d + 3) (S := Z) yI yL yV ⟨yk.1, yk.2, yc⟩) (fun oq Sq hpq hq9 => ?_)
          rcases hq9 with ⟨hcn, rfl, rfl⟩ | ⟨hcn, hg, rfl⟩
          · show wJ _ _ _ _ _ _ _ _ _ _
            refine wa_fall ⟨_, rfl⟩ ?_
            have hadd : adL X bs = X := by
              rcases hcn with w | w
              · exact adL_in (Decidable.byContradiction (fun z => by have := ixL_no.mpr z; omega))
              · exact adL_full (by omega)
            exact wJ_S (xt9 (d := d + 2) (X := X) h0 y0 y3 (by omega) y1 (by rw [hby, hadd]; exact y2) (by rw [hby, hadd]; exact yix) yr ⟨by omega, by omega⟩ ⟨by omega, by omega⟩ htk3 (by rw [hen, ht3.2.1]) yb1 (by rw [ht3.2.1]; exact yb2)) ⟨rfl, rfl, rfl, trivial⟩
          · show wJ _ _ _ _ _ _ _ _ _ _
            refine wa_fall ⟨_, rfl⟩ ?_
            have hz9 := rp_tf yW yL yV yR ⟨yk, hcn.1, hcn.2⟩ hg
            have hxn : bs ∉ X := ixL_no.mp (by omega)
            have hadd : adL X bs = X ++ [bs] := adL_new hxn (by omega)
            have e9 : ∀ m : Int, m ≠ 12 → Sq 2 m = Z 2 m := fun m z => hg.2.2.2.1 2 m (by decide) (by decide) (by decide) (Or.inl (by decide)) (Or.inr z)
            have e14 : Sq 14 3 = Z 14 3 := hg.2.2.2.1 14 3 (by decide) (by decide) (by decide) (Or.inl (by decide)) (Or.inl (by decide))
            exact wJ_S (xt9 (d := d + 2) (X := X) h0 (rp_tr h0 y0 hz9) (e14.trans y3) (by omega) (cL_rp yW y1 hz9 (Or.inl ⟨rfl, rfl⟩) (e9 10 (by decide))) (by rw [hby, hadd]; exact cL_nf yW y2 hz9 hg yk yq) (by rw [hby, hadd, ixL_new hxn]; exact ynl) ⟨by omega, by omega⟩ ⟨by omega, by omega⟩ ⟨by omega, by omega⟩ htk3 (by rw [hen, ht3.2.1]) (by rw [e9 7 (by decide)]; exact yb1) (by rw [e9 1 (by decide), ht3.2.1]; exact yb2)) ⟨rfl, rfl, rfl, trivial⟩
        · skip
          generalize Sq347 = Zw at hq hzI ⊢
          show wJ _ _ _ _ _ _ _ _ _ _
          have htk3 : lx_tk T n 0 p = 3 := by rw [htk]; exact ht3.1
          have hgl : ∀ m : Nat, m < l.length → Z 18 ((0 : Int) + (m : Int)) = bs.getD m 0 := fun m hm => by rw [show (0 : Int) + (m : Int) = (m : Int) by omega, hz.1 m hm, hlb]
          have hxw := rp_wn zW zL zV zR ⟨by omega, by omega⟩ ⟨by omega, by omega⟩ hq hzI
          have y0 := rp_tr h0 hx hxw
          have hw7 : Zw 2 7 = Z 2 7 + 1 := hq.1.2
          have hw1 : Zw 2 1 = Z 2 1 + (l.length : Int) := hq.1.1
          have yq : wqL Zw bs (Z 2 7) := ⟨hq.2.2.1.2.1.trans hlen, fun m hm => by
            rw [show Zw 4 (Z 2 7) = Z 2 1 from hq.2.2.1.1]
            exact (hq.2.2.2.2.2.1 (m : Int) (by omega) (by omega)).trans ((hgl m (by omega)).trans (by show _ = bs.getD ((0 : Int) + (m : Int)).toNat 0; rw [show ((0 : Int) + (m : Int)).toNat = m by omega]))⟩
          have yk : 0 ≤ Z 2 7 ∧ Z 2 7 < Zw 2 7 := ⟨by omega, by omega⟩
          have e2 : ∀ m : Int, m ≠ 1 → m ≠ 7 → Zw 2 m = Z 2 m := fun m z1 z2 => hq.2.2.2.2.2.2.1 2 m (by decide) (by decide) (by omega)
          have y1 := cL_rp zW k1 hxw (Or.inl ⟨rfl, rfl⟩) (e2 10 (by decide) (by decide))
          have y2 := cL_rp zW k2 hxw (Or.inr ⟨rfl, rfl⟩) (e2 12 (by decide) (by decide))
          have y14 : ∀ m : Int, Zw 14 m = Z 14 m := fun m => hq.2.2.2.2.2.2.1 14 m (by decide) (by decide) (by omega)
          have yb1 : Zw 2 7 ≤ S 2 7 + 1 := by omega
          have yb2 : Zw 2 1 ≤ S 2 1 + (e + 1 - p) := by omega
          have yW := y0.2.2.2.2.2.2.2.2.1
          have yL := y0.2.2.2.2.2.2.2.2.2.1
          have yV := y0.2.2.2.2.2.2.2.2.2.2.1
          have yR := y0.2.2.2.2.2.2.2.2.2.2.2.1
          have yI := y0.2.2.2.2.2.2.2.2.2.2.2.2.1
          have yc : Zw 2 7 ≤ Zw 4 (-1) := yW.1.2
          have y3 : Zw 14 3 = S 14 3 := (y14 3).trans z3
          have yix : Zw 8 (Z 2 7) = ixL X bs := ix_no yW yV.2.1 y2 yk yq
          have ynl : Zw 2 12 = (X.length : Int) := y2.1
          have yr : -1 ≤ Zw 8 (Z 2 7) ∧ Zw 8 (Z 2 7) ≤ 4000 := by
            have w1 : Zw 2 12 ≤ 4000 := yV.2.2.2.2.2.2.2
            rcases yV.2.1.2.2 (Z 2 7) yk.1 yk.2 with w | ⟨w, w2, -⟩
            · have w : Zw 8 (Z 2 7) = -1 := w
              omega
            · have w : 0 ≤ Zw 8 (Z 2 7) := w
              have w2 : Zw 8 (Z 2 7) < Zw 2 12 := w2
              omega
          refine wa_cv 2 rfl (wy_pr rfl) wt_2 (M2 := mS [10]) rfl at_XW_textFor ⟨_, rfl⟩ rfl rfl ⟨(Or.inr ⟨wy_pr rfl, mS_no rfl⟩), trivial, trivial, trivial, trivial⟩ trivial (fun _ _ q => mS_sub (by decide) q) (tf_2 (d := d + 3) (S := Zw) yI yL yV ⟨yk.1, yk.2, yc⟩) (fun oq Sq hpq hq9 => ?_)
          rcases hq9 with ⟨hcn, rfl, rfl⟩ | ⟨hcn, hg, rfl⟩
          · show wJ _ _ _ _ _ _ _ _ _ _
            refine wa_fall ⟨_, rfl⟩ ?_
            have hadd : adL X bs = X := by
              rcases hcn with w | w
              · exact adL_in (Decidable.byContradiction (fun z => by have := ixL_no.mpr z; omega))
              · exact adL_full (by omega)
            exact wJ_S (xt9 (d := d + 2) (X := X) h0 y0 y3 (by omega) y1 (by rw [hby, hadd]; exact y2) (by rw [hby, hadd]; exact yix) yr ⟨by omega, by omega⟩ ⟨by omega, by omega⟩ htk3 (by rw [hen, ht3.2.1]) yb1 (by rw [ht3.2.1]; exact yb2)) ⟨rfl, rfl, rfl, trivial⟩
          · show wJ _ _ _ _ _ _ _ _ _ _
            refine wa_fall ⟨_, rfl⟩ ?_
            have hz9 := rp_tf yW yL yV yR ⟨yk, hcn.1, hcn.2⟩ hg
            have hxn : bs ∉ X := ixL_no.mp (by omega)
            have hadd : adL X bs = X ++ [bs] := adL_new hxn (by omega)
            have e9 : ∀ m : Int, m ≠ 12 → Sq 2 m = Zw 2 m := fun m z => hg.2.2.2.1 2 m (by decide) (by decide) (by decide) (Or.inl (by decide)) (Or.inr z)
            have e14 : Sq 14 3 = Zw 14 3 := hg.2.2.2.1 14 3 (by decide) (by decide) (by decide) (Or.inl (by decide)) (Or.inl (by decide))
            exact wJ_S (xt9 (d := d + 2) (X := X) h0 (rp_tr h0 y0 hz9) (e14.trans y3) (by omega) (cL_rp yW y1 hz9 (Or.inl ⟨rfl, rfl⟩) (e9 10 (by decide))) (by rw [hby, hadd]; exact cL_nf yW y2 hz9 hg yk yq) (by rw [hby, hadd, ixL_new hxn]; exact ynl) ⟨by omega, by omega⟩ ⟨by omega, by omega⟩ ⟨by omega, by omega⟩ htk3 (by rw [hen, ht3.2.1]) (by rw [e9 7 (by decide)]; exact yb1) (by rw [e9 1 (by decide), ht3.2.1]; exact yb2)) ⟨rfl, rfl, rfl, trivial⟩
      · skip
        exact absurd c344 (by omega)
    · skip
      refine wa_aload_n (n := 0) rfl ?_
      refine wa_iload_n (n := 1) rfl ?_
      refine wa_cv 14 rfl (wy_pr rfl) wt_14 (M2 := mS [15, 16, 17]) rfl at_XR_addBad ⟨_, rfl⟩ rfl rfl ⟨(Or.inr ⟨wy_pr rfl, mS_no rfl⟩), trivial, trivial, trivial, trivial⟩ trivial (fun _ _ q => mS_sub (by decide) q) ?_ (fun _ _ _ q => q)
      refine wa_aload_n (n := 0) rfl ?_
      refine wa_iconst ?_
      refine wa_iload_n (n := 1) rfl ?_
      refine wa_iconst ?_
      refine wa_cv 14 rfl (wy_pr rfl) wt_14 (M2 := mS [15, 16, 17]) rfl at_XR_add ⟨_, rfl⟩ rfl rfl ⟨(Or.inr ⟨wy_pr rfl, mS_no rfl⟩), trivial, trivial⟩ trivial (fun _ _ q => mS_sub (by decide) q) (ad_ok (S := Z) zI ⟨by omega, by omega⟩ ⟨by omega, by omega⟩ ⟨by omega, by omega⟩ zR) (fun oq351 Sq351 hp352 q351 => ?_)
      rcases q351 with ⟨rfl, ad349⟩
      show wJ _ _ _ _ _ _ _ _ _ _
      generalize Sq351 = Z350 at ad349 ⊢
      refine wa_aload_n (n := 0) rfl ?_
      refine wb_gfi 14 rfl (wy_pr rfl) wt_14 wf_6_6 (v := n) (((ad349.2.2.2.1 14 6 (by decide) (by decide) (by decide) (by decide) (by decide) (Or.inr (by decide))).trans (((hz.2 14 6 (by omega)).trans hB.2.1)))) (fun r353 => ?_)
      refine wa_ireturn rfl ?_
      show wJ _ _ _ _ _ _ _ _ _ _
      refine wa_ireturn rfl ?_
      have htk5 : lx_tk T n 0 p = 5 := by rw [htk]; exact (show tk = 5 by omega)
      obtain ⟨d1, d2⟩ := pt_no (k := 0) (by rw [htk5]; decide) (by rw [htk5]; decide) k1 k2
      refine ⟨n, rfl, pt_fin h0 hx z3 (by omega) ?_ ?_ ?_ d1 d2 (by omega) (by omega) ad349⟩
      · unfold kp; rw [htk5]; rfl
      · unfold vp; rw [htk5]; rfl
      · rw [htk5, if_pos rfl]
theorem at2 {p : Int} (hx49 : pe_at (pe_GA xs).xs 49 = some (0, tx_49)) (hB : rd_B T n S) (h7 : S 14 7 = 2) (h8 : S 14 8 = 0) (hI : gI S) (hW : wd_at S 2 1024) (hL : wd_L S 2 1024) (hV : wv_L S 2) (hR : rd_L S) (hb : rb_I 2 S) (h33 : 33 ≤ S 2 7) (hr2 : r2_I S) (c1 : cL 9 10 N S) (c2 : cL 10 12 X S) (hp : 0 ≤ p ∧ p < n) (h18 : S 18 (-1) = 60) : wJ (pe_GA xs) wY0 (mS [3, 4, 5, 6, 7, 8, 9, 10, 15, 16, 17]) (d + 7) t_XR_addToken ((pe_at t_XR_addToken.bl 0).getD (0, [])).2 [(0, (2, 14)), (1, (0, p))] [] S (fun o Z => ∃ e : Int, o = .inl (some (0, e)) ∧ pt_ok T n p N X S Z e) := by
  have hn := hB.2.2.1
  have hn1 := hB.2.2.2.1
  have hn2 := hB.2.2.2.2.1
  have hrm := rmR_rfl S
  have hb1 : S 2 7 ≤ 400000 ∧ S 2 1 ≤ 4000000 ∧ S 4 (-1) ≤ 1000000 ∧ S 3 (-1) ≤ 10000000 ∧ S 14 3 ≤ 400000 := hb
  have hc0 : 0 ≤ S 2 7 ∧ S 2 7 ≤ S 4 (-1) := hW.1
  have hu0 : 0 ≤ S 2 1 ∧ S 2 1 ≤ S 3 (-1) := hW.2.1
  have hl1 : 1024 ≤ S 3 (-1) := hL.2.2.2.2.2.2.1
  have hr1 : 0 ≤ S 14 3 := hR.1.1
  have hv1 : 0 ≤ S 2 10 := hV.1.1
  have hv2 : 0 ≤ S 2 12 := hV.2.1.1
  have h0 : 0 ≤ S 2 7 ∧ 0 ≤ S 2 1 ∧ 0 ≤ S 14 3 ∧ 0 ≤ S 2 10 ∧ 0 ≤ S 2 12 := ⟨hc0.1, hu0.1, hr1, hv1, hv2⟩
  have hpr := rp_rfl hW hL hV hR hI
  have hr := hB.2.2.2.2.2.2 p hp.1 hp.2
  refine wa_aload_n (n := 0) rfl ?_
  refine wb_gf6 14 rfl (wy_pr rfl) wt_14 wf_6_5 (v := 1) (hB.1) (by decide) ?_
  refine wa_iload_n (n := 1) rfl ?_
  refine wb_bald 1 rfl (wy_pr rfl) wt_1 (n := (S 1 (-1))) rfl (by omega) (by omega) (v := (T p)) ((hB.2.2.2.2.2.1 p (by omega) (by omega))) (fun r101 => ?_)
  refine wa_istore_n (n := 2) rfl ?_
  refine wa_iload_n (n := 2) rfl ?_
  refine wa_cs (M2 := fun _ => False) rfl at_X_beginsName ⟨_, rfl⟩ rfl rfl ⟨trivial, (Or.inr ⟨wy_pr rfl, fun q => q⟩), trivial, trivial⟩ trivial (fun _ _ q => False.elim q) (xle_ok (S := S) (c := (T p)) ⟨by omega, by omega⟩) (fun oq103 Sq103 hp104 q103 => ?_)
  rcases q103 with ⟨rfl, ⟨rfl, hl102⟩ | ⟨rfl, hl102⟩⟩
  · skip
    show wJ _ _ _ _ _ _ _ _ _ _
    refine wa_ifeq (w_rg0 (by omega) (by omega)) ⟨_, rfl⟩ (fun c105 => ?_) (fun c105 => ?_)
    · skip
      exact absurd c105 (by omega)
    · skip
      refine wa_aload_n (n := 0) rfl ?_
      refine wa_iload_n (n := 1) rfl ?_
      refine wa_cv 14 rfl (wy_pr rfl) wt_14 (M2 := mS [3, 4, 5, 6, 7, 8, 9, 10, 15, 16, 17]) rfl at_XR_addName ⟨_, rfl⟩ rfl rfl ⟨trivial, (Or.inr ⟨wy_pr rfl, mS_no rfl⟩), trivial, trivial⟩ trivial (fun _ _ q => q) (xn2 hB h7 h8 hI hW hL hV hR hb h33 hr2 c1 c2 hp hl102) (fun oq108 Sq108 hp109 q108 => ?_)
      rcases q108 with ⟨e107, rfl, hz106⟩
      show wJ _ _ _ _ _ _ _ _ _ _
      have hhhz106 := hz106
      refine wa_ireturn rfl ?_
      exact ⟨e107, rfl, by assumption⟩
  · skip
    show wJ _ _ _ _ _ _ _ _ _ _
    refine wa_ifeq (w_rg0 (by omega) (by omega)) ⟨_, rfl⟩ (fun c110 => ?_) (fun c110 => ?_)
    · skip
      refine wa_iload_n (n := 2) rfl ?_
      refine wa_cs (M2 := fun _ => False) rfl at_X_isDigit ⟨_, rfl⟩ rfl rfl ⟨trivial, (Or.inr ⟨wy_pr rfl, fun q => q⟩), trivial, trivial⟩ trivial (fun _ _ q => False.elim q) (xdi_ok (S := S) (c := (T p)) ⟨by omega, by omega⟩) (fun oq112 Sq112 hp113 q112 => ?_)
      rcases q112 with ⟨rfl, ⟨rfl, hd111⟩ | ⟨rfl, hd111⟩⟩
      · skip
        show wJ _ _ _ _ _ _ _ _ _ _
        refine wa_ifeq (w_rg0 (by omega) (by omega)) ⟨_, rfl⟩ (fun c114 => ?_) (fun c114 => ?_)
        · skip
          exact absurd c114 (by omega)
        · skip
          refine wa_aload_n (n := 0) rfl ?_
          refine wa_iload_n (n := 1) rfl ?_
          refine wa_cv 14 rfl (wy_pr rfl) wt_14 (M2 := mS [3, 4, 5, 6, 7, 8, 9, 10, 15, 16, 17]) rfl at_XR_addNumber ⟨_, rfl⟩ rfl rfl ⟨trivial, (Or.inr ⟨wy_pr rfl, mS_no rfl⟩), trivial, trivial⟩ trivial (fun _ _ q => q) (xu2 hB h7 h8 hI hW hL hV hR hb h33 hr2 c1 c2 hp hl102 hd111) (fun oq117 Sq117 hp118 q117 => ?_)
          rcases q117 with ⟨e116, rfl, hz115⟩
          show wJ _ _ _ _ _ _ _ _ _ _
          have hhhz115 := hz115
          refine wa_ireturn rfl ?_
          exact ⟨e116, rfl, by assumption⟩
      · skip
        show wJ _ _ _ _ _ _ _ _ _ _
        refine wa_ifeq (w_rg0 (by omega) (by omega)) ⟨_, rfl⟩ (fun c119 => ?_) (fun c119 => ?_)
        · skip
          refine wa_iload_n (n := 2) rfl ?_
          refine wa_bipush (w_rg2 (by omega) (by omega)) ?_
          refine wa_icmpne (w_rg0 (by omega) (by omega)) (w_rg0 (by omega) (by omega)) ⟨_, rfl⟩ (fun c120 => ?_) (fun c120 => ?_)
          · skip
            refine wa_aload_n (n := 0) rfl ?_
            refine wa_iload_n (n := 1) rfl ?_
            refine wa_cv 14 rfl (wy_pr rfl) wt_14 (M2 := mS [3, 4, 5, 6, 7, 8, 9, 10, 15, 16, 17]) rfl at_XR_addSign ⟨_, rfl⟩ rfl rfl ⟨trivial, (Or.inr ⟨wy_pr rfl, mS_no rfl⟩), trivial, trivial⟩ trivial (fun _ _ q => q) (xs2 hx49 hB h7 h8 hI hW hL hV hR hb h33 hr2 c1 c2 hp hl102 hd111 (by omega)) (fun oq123 Sq123 hp124 q123 => ?_)
            rcases q123 with ⟨e122, rfl, hz121⟩
            show wJ _ _ _ _ _ _ _ _ _ _
            have hhhz121 := hz121
            refine wa_fall ⟨_, rfl⟩ ?_
            refine wa_ireturn rfl ?_
            exact ⟨e122, rfl, by assumption⟩
          · skip
            refine wa_aload_n (n := 0) rfl ?_
            refine wa_iload_n (n := 1) rfl ?_
            refine wa_cv 14 rfl (wy_pr rfl) wt_14 (M2 := mS [3, 4, 5, 6, 7, 8, 9, 10, 15, 16, 17]) rfl at_XR_addText ⟨_, rfl⟩ rfl rfl ⟨trivial, (Or.inr ⟨wy_pr rfl, mS_no rfl⟩), trivial, trivial⟩ trivial (fun _ _ q => q) (xt2 hB h7 h8 hI hW hL hV hR hb h33 hr2 c1 c2 hp h18 (by omega)) (fun oq127 Sq127 hp128 q127 => ?_)
            rcases q127 with ⟨e126, rfl, hz125⟩
            show wJ _ _ _ _ _ _ _ _ _ _
            have hhhz125 := hz125
            refine wa_goto ⟨_, rfl⟩ ?_
            refine wa_ireturn rfl ?_
            exact ⟨e126, rfl, by assumption⟩
        · skip
          exact absurd c119 (by omega)
    · skip
      exact absurd c110 (by omega)
end Wau
