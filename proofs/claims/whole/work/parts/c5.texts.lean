/-! PART c5: the reference's takesText. -/
section Wc5
variable {xs : List (Nat × List Int32)} {M : Nat → Prop} {d : Nat} {A B C S Z S0 : wS} {Q : wO → wS → Prop} {T : Int → Int} {n f0 u dp b0 b1 : Int} {N X : List (List Int)} {c i k pm : Nat} {I : List pz_I} {F : List pz_F} {PA : Nat → Int}
variable {L : List (List Int)} {x : List Int}
theorem lx_tx60 (T : Int → Int) (n : Int) : ∀ (f : Nat) (t : Int) (l : List Int), l.length ≤ 60 → (lx_tx T n f t l).2.2.length ≤ 60 := by
  intro f
  induction f with
  | zero => intro t l h; exact h
  | succ f ih =>
    intro t l h
    rw [lx_tx_s]
    split
    · exact h
    · split
      · exact h
      · refine ih _ _ ?_
        rw [List.length_append]
        have : [lx_tc T n t].length = 1 := rfl
        omega
/-- a text's token -/
theorem k34 (h : kq T n N X i = 3 ∨ kq T n N X i = 4) : lx_tk T n 0 (tp T n 0 i) = 3 ∧ XL T n X (i + 1) = adL (XL T n X i) (lx_by T n (tp T n 0 i)) ∧ (((lx_by T n (tp T n 0 i)) ∈ (XL T n X i) ∧ kq T n N X i = 3 ∧ vq T n N X i = ((XL T n X i).idxOf (lx_by T n (tp T n 0 i)) : Int)) ∨ ((lx_by T n (tp T n 0 i)) ∉ (XL T n X i) ∧ (XL T n X i).length < 4000 ∧ kq T n N X i = 3 ∧ vq T n N X i = ((XL T n X i).length : Int)) ∨ ((lx_by T n (tp T n 0 i)) ∉ (XL T n X i) ∧ 4000 ≤ (XL T n X i).length ∧ kq T n N X i = 4)) := by
  have hq := kq_cs T n N X i
  have hs := sk_rx (lx_si T n 0 (tp T n 0 i))
  have h1 : lx_tk T n 0 (tp T n 0 i) = 3 := by omega
  have hn : ¬ n ≤ (tp T n 0 i) := fun q => by have := (tk_x0 (T := T) (n := n) (h := 0) (p := (tp T n 0 i))).2 q; omega
  have hk : kq T n N X i = if ixL (adL (XL T n X i) (lx_by T n (tp T n 0 i))) (lx_by T n (tp T n 0 i)) = -1 then 4 else 3 := by
    show (if n ≤ (tp T n 0 i) then 0 else kp T n (tp T n 0 i) (NL T n N i) (XL T n X i)) = _
    unfold kp; rw [if_neg hn, if_neg (by omega), if_neg (by omega), if_pos h1]
  have hv : vq T n N X i = ixL (adL (XL T n X i) (lx_by T n (tp T n 0 i))) (lx_by T n (tp T n 0 i)) := by unfold vq vp; rw [if_neg (by omega), if_neg (by omega), if_pos h1]
  refine ⟨h1, by show Xn T n (tp T n 0 i) (XL T n X i) = _; unfold Xn; rw [if_pos h1], ?_⟩
  by_cases hm : (lx_by T n (tp T n 0 i)) ∈ (XL T n X i)
  · have hi : ixL (XL T n X i) (lx_by T n (tp T n 0 i)) = ((XL T n X i).idxOf (lx_by T n (tp T n 0 i)) : Int) := if_pos hm
    rw [adL_in hm] at hk hv
    rw [if_neg (by omega)] at hk
    exact Or.inl ⟨hm, hk, hv.trans hi⟩
  · by_cases hl : (XL T n X i).length < 4000
    · rw [adL_new hm hl] at hk hv
      rw [ixL_new hm] at hk hv
      rw [if_neg (by omega)] at hk
      exact Or.inr (Or.inl ⟨hm, hl, hk, hv⟩)
    · rw [adL_full (by omega), ixL_no.mpr hm, if_pos rfl] at hk
      exact Or.inr (Or.inr ⟨hm, by omega, hk⟩)
/-- one more text -/
theorem mX_nw (hN : mX L S) (hl : L.length < 4000) (hT : lx_tl S x) (hm : x.length ≤ 60) (hx : xc_ag (w_up (w_up S 284 (L.length : Int) (tls L : Int)) 285 (L.length : Int) (x.length : Int)) Z (tls L : Int) x.length) : mX (L ++ [x]) (w_up (w_up Z 237 20 ((tls L : Int) + (x.length : Int))) 237 19 ((L.length : Int) + 1)) := by
  obtain ⟨n1, n2, n4, n3⟩ := hN
  have hlen : (L ++ [x]).length = L.length + 1 := by rw [List.length_append]; rfl
  refine ⟨by rw [hlen]; exact w_up_same _ _ _ _, by omega, by rw [tls_ap]; exact (w_up_at (by decide)).trans (w_up_same _ _ _ _), fun k hk => ?_⟩
  have e84 : ∀ y : Int, y ≠ (L.length : Int) → w_up (w_up Z 237 20 ((tls L : Int) + (x.length : Int))) 237 19 ((L.length : Int) + 1) 284 y = S 284 y := fun y hy => (w_up_slot (by decide)).trans ((w_up_slot (by decide)).trans ((hx.2 284 y (Or.inl (by decide))).trans ((w_up_slot (by decide)).trans (w_up_at hy))))
  have e85 : ∀ y : Int, y ≠ (L.length : Int) → w_up (w_up Z 237 20 ((tls L : Int) + (x.length : Int))) 237 19 ((L.length : Int) + 1) 285 y = S 285 y := fun y hy => (w_up_slot (by decide)).trans ((w_up_slot (by decide)).trans ((hx.2 285 y (Or.inl (by decide))).trans ((w_up_at hy).trans (w_up_slot (by decide)))))
  have e83 : ∀ y : Int, (y < (tls L : Int) ∨ (tls L : Int) + (x.length : Int) ≤ y) → w_up (w_up Z 237 20 ((tls L : Int) + (x.length : Int))) 237 19 ((L.length : Int) + 1) 283 y = S 283 y := fun y hy => (w_up_slot (by decide)).trans ((w_up_slot (by decide)).trans ((hx.2 283 y (Or.inr hy)).trans ((w_up_slot (by decide)).trans (w_up_slot (by decide)))))
  by_cases e : k < L.length
  · obtain ⟨a1, a2, a3, a4⟩ := n3 k e
    have htk := tls_tk e
    rw [gD_l e, List.take_append_of_le_length (by omega), e84 _ (by omega), e85 _ (by omega)]
    exact ⟨a1, a2, a3, fun y hy => by rw [e83 _ (by omega)]; exact a4 y hy⟩
  · have ek : k = L.length := by omega
    subst ek
    have htk : (L ++ [x]).take L.length = L := List.take_left
    rw [gD_r, htk]
    refine ⟨(w_up_slot (by decide)).trans ((w_up_slot (by decide)).trans ((hx.2 284 _ (Or.inl (by decide))).trans ((w_up_slot (by decide)).trans (w_up_same _ _ _ _)))), (w_up_slot (by decide)).trans ((w_up_slot (by decide)).trans ((hx.2 285 _ (Or.inl (by decide))).trans (w_up_same _ _ _ _))), hm, fun y hy => ?_⟩
    have q := hx.1 y hy
    rw [w_up_slot (by decide), w_up_slot (by decide)] at q
    exact (w_up_slot (by decide)).trans ((w_up_slot (by decide)).trans (q.trans (hT.2 y hy)))
/-- a text is taken -/
theorem rQ_tt {Z1 : wS} (h : rQ T n N X f0 b0 b1 S0 u dp i I F PA S) (hk : kq T n N X i = 3 ∨ kq T n N X i = 4) (e : ∀ (j : Nat) (y : Int), (j < 283 ∨ 285 < j ∨ y = -1) → (j ≠ 237 ∨ (y ≠ 19 ∧ y ≠ 20)) → Z1 j y = S j y) (e3 : xTb T n X → ∀ (j : Nat) (y : Int), (((j = 284 ∨ j = 285) ∧ 4000 ≤ y) ∨ (j = 283 ∧ 69632 ≤ y)) → Z1 j y = S j y) (g : lx_ag Z1 Z) (hz : lx_I Z (lx_ne Z1 (tp T n 0 i))) (hX : mX (XL T n X (i + 1)) Z1) : rQ T n N X f0 b0 b1 S0 u dp (i + 1) I F PA Z := by
  obtain ⟨h1, ⟨h2, h3⟩, h4, h5, pm, ⟨⟨c1, c2⟩, c3, c4, c5, c6, c7⟩, h7, h8, h9⟩ := h
  have hw : wG = 1000000 := rfl
  have e2 : ∀ (j : Nat) (y : Int), j ≠ 240 → (j < 283 ∨ 285 < j) → (j ≠ 237 ∨ (y < 6 ∨ (12 < y ∧ y ≠ 19 ∧ y ≠ 20))) → Z j y = S j y := fun j y j1 j2 j3 => (g j y (Or.inl j1) (by omega)).trans (e j y (by omega) (by omega))
  have e1 : rL T n i Z1 := by
    obtain ⟨a1, a2, a3, a4, a5, a6, a7⟩ := h1
    have e239 : Z1 239 = S 239 := funext fun y => e 239 y (by omega) (by omega)
    have e240 : Z1 240 = S 240 := funext fun y => e 240 y (by omega) (by omega)
    have f : ∀ y : Int, y < 19 → Z1 237 y = S 237 y := fun y hy => e 237 y (by omega) (by omega)
    refine ⟨e239.trans a1, (f 4 (by decide)).trans a2, (f 5 (by decide)).trans a3, fun q hq => (e q.1 (-1) (by omega) (by omega)).trans (a4 q hq), by rw [f 4 (by decide)]; exact a5, by rw [f 4 (by decide)]; exact a6, ?_⟩
    unfold lx_St lx_tl at a7 ⊢
    rw [f 6 (by decide), f 7 (by decide), f 8 (by decide), f 9 (by decide), f 10 (by decide), f 12 (by decide), f 4 (by decide), f 5 (by decide), e239, e240]
    exact a7
  have hN : NL T n N (i + 1) = NL T n N i := NL_nx (X := X) (by omega)
  obtain ⟨q1, q2⟩ := rB_ag (Z := Z) h7 (fun j y hj => e2 j y (by omega) (by omega) (Or.inl (by omega)))
  have e81 : Z 281 = S 281 := funext fun y => e2 281 y (by decide) (by decide) (Or.inl (by decide))
  have e82 : Z 282 = S 282 := funext fun y => e2 282 y (by decide) (by decide) (Or.inl (by decide))
  have p : ∀ y : Int, 20 < y → Z 237 y = S 237 y := fun y hy => e2 237 y (by decide) (by decide) (Or.inr (by omega))
  have h5n : rFr (xTb T n X) S0 Z := fun j y j1 j2 j3 j4 j5 => by
    by_cases c : j < 283 ∨ 285 < j
    · exact (e2 j y j3 c (by omega)).trans (h5 j y j1 j2 j3 j4 j5)
    · refine ((g j y (Or.inl j3) (by omega)).trans (e3 ?_ j y (by omega))).trans (h5 j y j1 j2 j3 j4 j5)
      rcases j4 with z | z | z
      · omega
      · omega
      · exact z.1
  refine ⟨rL_nx e1 g hz, ⟨?_, mX_lx hX g⟩, by rw [hN]; exact h4, h5n, pm, ⟨⟨(p 27 (by decide)).trans c1, (p 28 (by decide)).trans c2⟩, (p 29 (by decide)).trans c3, (p 26 (by decide)).trans c4, (p 25 (by decide)).trans c5, (p 34 (by decide)).trans c6, (p 59 (by decide)).trans c7⟩, q1, ?_, ?_⟩
  · rw [hN]
    unfold mN at h2 ⊢
    rw [e81, e82, e2 237 16 (by decide) (by decide) (Or.inr (by decide))]
    exact h2
  · rw [q2, e2 wG 0 (by decide) (by decide) (Or.inl (by decide))]; omega
  · rw [e2 wG 0 (by decide) (by decide) (Or.inl (by decide)), e2 wG 1 (by decide) (by decide) (Or.inl (by decide))]; exact ⟨h9.1, by have := h9.2; omega⟩
theorem rQ_I3 {Z1 : wS} (h : rQ T n N X f0 b0 b1 S0 u dp i I F PA S) (e : ∀ (j : Nat) (y : Int), (j < 283 ∨ 285 < j ∨ y = -1) → (j ≠ 237 ∨ (y ≠ 19 ∧ y ≠ 20)) → Z1 j y = S j y) : lx_I Z1 (tp T n 0 i) := by
  obtain ⟨a1, a2, a3, a4, a5, a6, a7⟩ := h.1
  have e239 : Z1 239 = S 239 := funext fun y => e 239 y (by omega) (by omega)
  have e240 : Z1 240 = S 240 := funext fun y => e 240 y (by omega) (by omega)
  have f : ∀ y : Int, y < 19 → Z1 237 y = S 237 y := fun y hy => e 237 y (by omega) (by omega)
  refine ⟨fun q hq => (e q.1 (-1) (by omega) (by omega)).trans (a4 q hq), by rw [f 4 (by decide)]; exact a5, by rw [f 4 (by decide)]; exact a6, ?_⟩
  unfold lx_St lx_tl at a7 ⊢
  rw [f 6 (by decide), f 7 (by decide), f 8 (by decide), f 9 (by decide), f 10 (by decide), f 12 (by decide), f 4 (by decide), f 5 (by decide), e239, e240]
  exact a7
theorem ttw (h : rQ T n N X f0 b0 b1 S0 u dp i I F PA S) (ip : ((i : Nat) : Int) ≤ tp T n 0 i) (hk : kq T n N X i = 3 ∨ kq T n N X i = 4) : wJ (pe_GA xs) wY0 M (d + 3) t_M_takesText ((pe_at t_M_takesText.bl 0).getD (0, [])).2 [(0, (2, 237))] [] S (fun o Z => (o = .inl (some (0, vq T n N X i)) ∧ kq T n N X i = 3 ∧ rQ T n N X f0 b0 b1 S0 u dp (i + 1) I F PA Z ∧ Z 237 60 = S 237 60 ∧ Z 237 61 = S 237 61) ∨ (o = .inr 238 ∧ kq T n N X i = 4 ∧ rFu T n N X f0 b0 b1 S0 (7 + 16 * (tp T n 0 i)) Z)) := by
  obtain ⟨k1, k2, k3⟩ := k34 hk
  obtain ⟨t6, t7, t8, t9⟩ := rL_tk h.1
  have hM := h.1.2.2.2.1
  have hN := h.2.1.2
  have hT : lx_tl S (lx_by T n (tp T n 0 i)) := by
    obtain ⟨a1, a2, a3, a4, a5, a6, a7⟩ := h.1
    have q := a7.2.2.2.2.2 (t6.trans k1)
    rw [a1, a2] at q
    exact q
  have hm : (lx_by T n (tp T n 0 i)).length ≤ 60 := lx_tx60 T n _ _ [] (Nat.zero_le _)
  have h5 : S 237 6 ≠ 5 := by omega
  have ht6 := tls_60 (fun k hk => (hN.2.2.2 k hk).2.2.1)
  have hN0 := hN
  obtain ⟨n1, n2, n4, n3⟩ := hN0
  refine wa_iconst ?_
  refine wa_istore_n (n := 1) rfl ?_
  refine wa_fall ⟨_, rfl⟩ ?_
  refine wJ_S (tx_o (d := d) hM hN hT hm (fun hin => ?_) (fun hno => ?_) ((XL T n X i).length + 1) 0 (by omega) (Nat.zero_le _) (fun y hy => absurd hy (Nat.not_lt_zero _))) ⟨rfl, rfl, trivial⟩
  · have hv : vq T n N X i = ((XL T n X i).idxOf (lx_by T n (tp T n 0 i)) : Int) ∧ kq T n N X i = 3 := by
      rcases k3 with ⟨a, b, c⟩ | ⟨a, b⟩ | ⟨a, b⟩
      · exact ⟨c, b⟩
      · exact absurd hin a
      · exact absurd hin a
    rw [← hv.1]
    refine wa_iload_n (n := 2) rfl ?_
    refine wa_ifeq (w_rg0 (by omega) (by omega)) ⟨_, rfl⟩ (fun c101 => ?_) (fun c101 => ?_)
    · skip
      exact absurd c101 (by omega)
    · skip
      refine wa_aload_n (n := 0) rfl ?_
      refine wa_cv 237 rfl (wy_pr rfl) wt_237 (M2 := fun _ => False) rfl at_M_next ⟨_, rfl⟩ rfl rfl ⟨(Or.inr ⟨wy_pr rfl, fun q => q⟩), trivial, trivial, trivial⟩ trivial (fun _ _ q => False.elim q) (nx_I h.1.2.2.2 h5) (fun oq102 Sq102 hp103 q102 => ?_)
      rcases q102 with ⟨rfl, hl, hz⟩
      show wJ _ _ _ _ _ _ _ _ _ _
      refine wa_iload_n (n := 1) rfl ?_
      refine wa_ireturn rfl ?_
      exact Or.inl ⟨rfl, hv.2, rQ_tt h hk (fun _ _ _ _ => rfl) (fun _ _ _ _ => rfl) hl hz (by rw [k2, adL_in hin]; exact hN), hl 237 60 (Or.inl (by decide)) (Or.inr (by decide)), hl 237 61 (Or.inl (by decide)) (Or.inr (by decide))⟩
  · have hv : ((XL T n X i).length < 4000 ∧ vq T n N X i = ((XL T n X i).length : Int) ∧ kq T n N X i = 3) ∨ (4000 ≤ (XL T n X i).length ∧ kq T n N X i = 4) := by
      rcases k3 with ⟨a, b, c⟩ | ⟨a, b, c, e⟩ | ⟨a, b, c⟩
      · exact absurd a hno
      · exact Or.inl ⟨b, e, c⟩
      · exact Or.inr ⟨b, c⟩
    refine wa_aload_n (n := 0) rfl ?_
    refine wa_aload_n (n := 0) rfl ?_
    refine wb_gfi 237 rfl (wy_pr rfl) wt_237 wf_15_19 (v := ((XL T n X i).length : Int)) (n1) (fun r201 => ?_)
    refine wa_sipush (by omega) ?_
    refine wa_icmpge (w_rg0 (by omega) (by omega)) (w_rg0 (by omega) (by omega)) ⟨_, rfl⟩ (fun c202 => ?_) (fun c202 => ?_)
    · skip
      refine wa_iconst ?_
      refine wa_fall ⟨_, rfl⟩ ?_
      refine wa_bipush (w_rg2 (by omega) (by omega)) ?_
      refine wa_cv 237 rfl (wy_pr rfl) wt_237 (M2 := fun _ => False) rfl at_M_must ⟨_, rfl⟩ rfl rfl ⟨(Or.inr ⟨wy_pr rfl, fun q => q⟩), trivial⟩ trivial (fun _ _ q => False.elim q) (must_ok (S := S) (g := 0) (n := 7) (by omega) ⟨by omega, by omega⟩) (fun oq203 Sq203 hp204 q203 => ?_)
      rcases q203 with ⟨hg, rfl, rfl⟩ | ⟨hg, rfl, rfl⟩
      · skip
        exact absurd hg (by decide)
      · skip
        refine ⟨rfl, ?_⟩
        first | exact Or.inr ⟨rfl, by omega, rFu_mk h ip⟩ | (exfalso; omega)
    · skip
      refine wa_iconst ?_
      refine wa_goto ⟨_, rfl⟩ ?_
      refine wa_bipush (w_rg2 (by omega) (by omega)) ?_
      refine wa_cv 237 rfl (wy_pr rfl) wt_237 (M2 := fun _ => False) rfl at_M_must ⟨_, rfl⟩ rfl rfl ⟨(Or.inr ⟨wy_pr rfl, fun q => q⟩), trivial⟩ trivial (fun _ _ q => False.elim q) (must_ok (S := S) (g := 1) (n := 7) (by omega) ⟨by omega, by omega⟩) (fun oq205 Sq205 hp206 q205 => ?_)
      rcases q205 with ⟨hg, rfl, rfl⟩ | ⟨hg, rfl, rfl⟩
      · skip
        show wJ _ _ _ _ _ _ _ _ _ _
        refine wa_aload_n (n := 0) rfl ?_
        refine wb_gfi 237 rfl (wy_pr rfl) wt_237 wf_15_19 (v := ((XL T n X i).length : Int)) (n1) (fun r207 => ?_)
        refine wa_istore_n (n := 1) rfl ?_
        refine wa_aload_n (n := 0) rfl ?_
        refine wb_gf4 237 rfl (wy_pr rfl) wt_237 wf_15_22 (v := 284) wl_237_22 ?_
        refine wa_iload_n (n := 1) rfl ?_
        refine wa_aload_n (n := 0) rfl ?_
        refine wb_gfi 237 rfl (wy_pr rfl) wt_237 wf_15_20 (v := (tls (XL T n X i) : Int)) (n4) (fun r208 => ?_)
        refine wb_iast 284 rfl (wy_pr rfl) wt_284 (n := 16000) ((ml_284 hM)) (by omega) (by omega) ⟨(by omega), (by omega)⟩ ?_
        refine wa_aload_n (n := 0) rfl ?_
        refine wb_gf4 237 rfl (wy_pr rfl) wt_237 wf_15_23 (v := 285) wl_237_23 ?_
        refine wa_iload_n (n := 1) rfl ?_
        refine wa_aload_n (n := 0) rfl ?_
        refine wb_gfi 237 rfl (wy_pr rfl) wt_237 wf_15_12 (v := ((lx_by T n (tp T n 0 i)).length : Int)) ((w_up_slot (by decide)).trans (hT.1)) (fun r209 => ?_)
        refine wb_iast 285 rfl (wy_pr rfl) wt_285 (n := 16000) ((w_up_slot (by decide)).trans ((ml_285 hM))) (by omega) (by omega) ⟨(by omega), (by omega)⟩ ?_
        refine wa_iconst ?_
        refine wa_istore_n (n := 2) rfl ?_
        refine wa_fall ⟨_, rfl⟩ ?_
        refine wJ_S (tx_c (S := (w_up (w_up S 284 ((XL T n X i).length : Int) (tls (XL T n X i) : Int)) 285 ((XL T n X i).length : Int) ((lx_by T n (tp T n 0 i)).length : Int))) (x := (lx_by T n (tp T n 0 i))) (b := (tls (XL T n X i) : Int)) (k := ((XL T n X i).length : Int)) (fun q hq => (w_up_no (by omega)).trans ((w_up_no (by omega)).trans (hM q hq))) ⟨hT.1, hT.2⟩ hm ⟨by omega, by omega⟩ n4 (fun Z3 hz3 => ?_) ((lx_by T n (tp T n 0 i)).length + 1) 0 _ (by omega) (Nat.zero_le _) ⟨fun z hz => absurd hz (Nat.not_lt_zero _), fun _ _ _ => rfl⟩) ⟨rfl, rfl, rfl, trivial⟩
        refine wa_aload_n (n := 0) rfl ?_
        refine wa_dup (by decide) ?_
        refine wb_gfi 237 rfl (wy_pr rfl) wt_237 wf_15_20 (v := (tls (XL T n X i) : Int)) (((hz3.2 237 20 (Or.inl (by decide))).trans n4)) (fun r260 => ?_)
        refine wa_aload_n (n := 0) rfl ?_
        refine wb_gfi 237 rfl (wy_pr rfl) wt_237 wf_15_12 (v := ((lx_by T n (tp T n 0 i)).length : Int)) (((hz3.2 237 12 (Or.inl (by decide))).trans hT.1)) (fun r261 => ?_)
        refine wa_iadd ?_
        refine wb_pfi 237 rfl (wy_pr rfl) wt_237 wf_15_20 (n := 20) rfl ⟨(by omega), (by omega)⟩ ?_
        refine wa_aload_n (n := 0) rfl ?_
        refine wa_dup (by decide) ?_
        refine wb_gfi 237 rfl (wy_pr rfl) wt_237 wf_15_19 (v := ((XL T n X i).length : Int)) ((w_up_at (by decide)).trans (((hz3.2 237 19 (Or.inl (by decide))).trans n1))) (fun r262 => ?_)
        refine wa_iconst ?_
        refine wa_iadd ?_
        refine wb_pfi 237 rfl (wy_pr rfl) wt_237 wf_15_19 (n := 19) rfl ⟨(by omega), (by omega)⟩ ?_
        refine wa_aload_n (n := 0) rfl ?_
        have eZ : ∀ (j : Nat) (y : Int), (j < 283 ∨ 285 < j ∨ y = -1) → (j ≠ 237 ∨ (y ≠ 19 ∧ y ≠ 20)) → (w_up (w_up Z3 237 20 ((tls (XL T n X i) : Int) + ((lx_by T n (tp T n 0 i)).length : Int))) 237 19 (((XL T n X i).length : Int) + 1)) j y = S j y := fun j y j1 j2 => (w_up_no (by omega)).trans ((w_up_no (by omega)).trans ((hz3.2 j y (by omega)).trans ((w_up_no (by omega)).trans (w_up_no (by omega)))))
        have eZ3 : xTb T n X → ∀ (j : Nat) (y : Int), (((j = 284 ∨ j = 285) ∧ 4000 ≤ y) ∨ (j = 283 ∧ 69632 ≤ y)) → (w_up (w_up Z3 237 20 ((tls (XL T n X i) : Int) + ((lx_by T n (tp T n 0 i)).length : Int))) 237 19 (((XL T n X i).length : Int) + 1)) j y = S j y := fun hb j y hj => by
          have b := hb i
          exact (w_up_no (by omega)).trans ((w_up_no (by omega)).trans ((hz3.2 j y (by omega)).trans ((w_up_no (by omega)).trans (w_up_no (by omega)))))
        have hmx : mX (XL T n X (i + 1)) (w_up (w_up Z3 237 20 ((tls (XL T n X i) : Int) + ((lx_by T n (tp T n 0 i)).length : Int))) 237 19 (((XL T n X i).length : Int) + 1)) := by rw [k2, adL_new hno (by omega)]; exact mX_nw hN (by omega) hT hm hz3
        have hI3 : lx_I (w_up (w_up Z3 237 20 ((tls (XL T n X i) : Int) + ((lx_by T n (tp T n 0 i)).length : Int))) 237 19 (((XL T n X i).length : Int) + 1)) (tp T n 0 i) := rQ_I3 h eZ
        have h53 : (w_up (w_up Z3 237 20 ((tls (XL T n X i) : Int) + ((lx_by T n (tp T n 0 i)).length : Int))) 237 19 (((XL T n X i).length : Int) + 1)) 237 6 ≠ 5 := by rw [eZ 237 6 (by decide) (by decide)]; exact h5
        refine wa_cv 237 rfl (wy_pr rfl) wt_237 (M2 := fun _ => False) rfl at_M_next ⟨_, rfl⟩ rfl rfl ⟨(Or.inr ⟨wy_pr rfl, fun q => q⟩), trivial, trivial⟩ trivial (fun _ _ q => False.elim q) (nx_I hI3 h53) (fun oq263 Sq263 hp264 q263 => ?_)
        rcases q263 with ⟨rfl, hl, hz⟩
        show wJ _ _ _ _ _ _ _ _ _ _
        refine wa_iload_n (n := 1) rfl ?_
        refine wa_ireturn rfl ?_
        refine Or.inl ⟨?_, by omega, rQ_tt h hk eZ eZ3 hl hz hmx, ?_, ?_⟩
        · exact congrArg (fun z => Sum.inl (some (0, z))) (by omega)
        · exact (hl 237 60 (Or.inl (by decide)) (Or.inr (by decide))).trans (eZ 237 60 (by decide) (by decide))
        · exact (hl 237 61 (Or.inl (by decide)) (Or.inr (by decide))).trans (eZ 237 61 (by decide) (by decide))
      · skip
        exact absurd hg (by decide)
end Wc5
