/-! PART c3: the reference's isName, declares. -/
section Wc3
variable {xs : List (Nat × List Int32)} {M : Nat → Prop} {d : Nat} {A B C S Z S0 : wS} {Q : wO → wS → Prop} {T : Int → Int} {n f0 u dp b0 b1 : Int} {N X : List (List Int)} {c i k pm : Nat} {I : List pz_I} {F : List pz_F} {PA : Nat → Int}
variable {y v : Int}
theorem inw (hX : w_X xs) (h : rQ T n N X f0 b0 b1 S0 u dp i I F PA S) : wJ (pe_GA xs) wY0 M (d + 7) t_M_isName ((pe_at t_M_isName.bl 0).getD (0, [])).2 [(0, (2, 237))] [] S (fun o Z => S = Z ∧ ((o = .inl (some (0, 1)) ∧ (kq T n N X i = 5 ∨ kq T n N X i = 6)) ∨ (o = .inl (some (0, 0)) ∧ kq T n N X i ≠ 5 ∧ kq T n N X i ≠ 6))) := by
  obtain ⟨t6, t7, t8, t9⟩ := rL_tk h.1
  have hq := kq_cs T n N X i
  have hs := sk_rx (lx_si T n 0 (tp T n 0 i))
  have h7 := rL_7 h.1
  have hle : S 237 7 ≤ S 237 8 := by
    rw [t7, t8]
    obtain ⟨a1, a2, a3, a4, a5, a6, a7, -⟩ := h.1
    exact (lx_en_le (by rw [a2] at a6; exact a6.2)).1
  have ex : sl_ (S 239) (S 237 7) (S 237 8 - S 237 7) = (nmx T n (tp T n 0 i)) := by unfold nmx; rw [h.1.1, t7, t8]
  refine wa_aload_n (n := 0) rfl ?_
  refine wb_gfi 237 rfl (wy_pr rfl) wt_237 wf_15_6 (v := (S 237 6)) rfl (fun r101 => ?_)
  refine wa_iconst ?_
  refine wa_icmpne (w_rg0 (by omega) (by omega)) (w_rg0 (by omega) (by omega)) ⟨_, rfl⟩ (fun c102 => ?_) (fun c102 => ?_)
  · skip
    refine wa_iconst ?_
    refine wa_fall ⟨_, rfl⟩ ?_
    refine wa_zreturn rfl (Or.inl rfl) ?_
    exact ⟨rfl, Or.inr ⟨rfl, by omega, by omega⟩⟩
  · skip
    refine wa_aload_n (n := 0) rfl ?_
    refine wa_cv 237 rfl (wy_pr rfl) wt_237 (M2 := fun _ => False) rfl at_M_isKeyword ⟨_, rfl⟩ rfl rfl ⟨(Or.inr ⟨wy_pr rfl, fun q => q⟩), trivial⟩ trivial (fun _ _ q => False.elim q) ?_ (fun _ _ _ q => q)
    refine wa_aload_n (n := 0) rfl ?_
    refine wa_ks ?_
    refine wa_cv 237 rfl (wy_pr rfl) wt_237 (M2 := fun _ => False) rfl at_M_isOneOf ⟨_, rfl⟩ rfl rfl ⟨(Or.inr ⟨wy_pr rfl, fun q => q⟩), trivial⟩ trivial (fun _ _ q => False.elim q) (isOneOf_ok (S := S) h.1.2.2.2.1 (wx_85 hX) (by decide) (by decide) ⟨h7.1.1, h7.1.2, h7.2.1, h7.2.2⟩ (by decide)) (fun oq103 Sq103 hp104 q103 => ?_)
    rcases q103 with ⟨rfl, ⟨rfl, ho⟩ | ⟨rfl, ho⟩⟩
    · skip
      show wJ _ _ _ _ _ _ _ _ _ _
      have hkw := (oo_85 (by omega) hle).mp ho
      rw [ex] at hkw
      refine wa_zreturn rfl (Or.inr rfl) ?_
      show wJ _ _ _ _ _ _ _ _ _ _
      refine wa_ifne (w_rg0 (by omega) (by omega)) ⟨_, rfl⟩ (fun c105 => ?_) (fun c105 => ?_)
      · skip
        refine wa_iconst ?_
        refine wa_fall ⟨_, rfl⟩ ?_
        refine wa_zreturn rfl (Or.inl rfl) ?_
        exact ⟨rfl, Or.inr ⟨rfl, by omega, by omega⟩⟩
      · skip
        exact absurd c105 (by omega)
    · skip
      show wJ _ _ _ _ _ _ _ _ _ _
      have hkw : kwL (nmx T n (tp T n 0 i)) = -1 := by
        refine Classical.byContradiction (fun q => ?_)
        rw [← ex] at q
        rw [(oo_85 (by omega) hle).mpr q] at ho
        exact absurd ho (by decide)
      refine wa_zreturn rfl (Or.inl rfl) ?_
      show wJ _ _ _ _ _ _ _ _ _ _
      refine wa_ifne (w_rg0 (by omega) (by omega)) ⟨_, rfl⟩ (fun c106 => ?_) (fun c106 => ?_)
      · skip
        exact absurd c106 (by omega)
      · skip
        refine wa_iconst ?_
        refine wa_goto ⟨_, rfl⟩ ?_
        refine wa_zreturn rfl (Or.inr rfl) ?_
        exact ⟨rfl, Or.inl ⟨rfl, by omega⟩⟩
/-- a variable's number, both ways -/
theorem vix_ix : ∀ {l : List Int} {y : Int}, l.Nodup → ixI l.reverse y = vix l y := by
  intro l
  induction l with
  | nil => intro y _; exact if_neg (List.not_mem_nil)
  | cons x r ih =>
    intro y hn
    obtain ⟨h1, h2⟩ := List.nodup_cons.mp hn
    rw [List.reverse_cons]
    have ihy := ih (y := y) h2
    unfold ixI at ihy ⊢
    by_cases e : x = y
    · subst e
      have hv : vix (x :: r) x = (r.length : Int) := if_pos rfl
      have hnm : x ∉ r.reverse := fun q => h1 (List.mem_reverse.mp q)
      rw [if_pos (List.mem_append.mpr (Or.inr (List.mem_singleton.mpr rfl))), hv, List.idxOf_append, if_neg hnm]
      have : [x].idxOf x = 0 := by rw [List.idxOf_cons]; simp
      rw [this, List.length_reverse]
      omega
    · have hv : vix (x :: r) y = vix r y := if_neg e
      rw [hv, ← ihy]
      by_cases hm : y ∈ r.reverse
      · rw [if_pos hm, if_pos (List.mem_append.mpr (Or.inl hm)), List.idxOf_append, if_pos hm]
      · rw [if_neg hm, if_neg (fun q => by
          rcases List.mem_append.mp q with z | z
          · exact hm z
          · exact e (List.mem_singleton.mp z).symm)]
theorem vix_no : ∀ {l : List Int} {y : Int}, vix l y = -1 ↔ y ∉ l := by
  intro l
  induction l with
  | nil => intro y; exact ⟨fun _ => List.not_mem_nil, fun _ => rfl⟩
  | cons x r ih =>
    intro y
    by_cases e : x = y
    · have hv : vix (x :: r) y = (r.length : Int) := if_pos e
      rw [hv]
      exact ⟨fun q => by omega, fun q => absurd (e ▸ List.mem_cons_self) q⟩
    · have hv : vix (x :: r) y = vix r y := if_neg e
      rw [hv, ih]
      exact ⟨fun q z => (List.mem_cons.mp z).elim (fun w => e w.symm) q, fun q z => q (List.mem_cons_of_mem _ z)⟩
/-- a name's token -/
theorem k56 (h : kq T n N X i = 5 ∨ kq T n N X i = 6) : lx_tk T n 0 (tp T n 0 i) = 1 ∧ kwL (nmx T n (tp T n 0 i)) = -1 ∧ (((nmx T n (tp T n 0 i)) ∈ NL T n N i ∧ kq T n N X i = 5 ∧ vq T n N X i = ixL (NL T n N i) (nmx T n (tp T n 0 i)) ∧ 0 ≤ ixL (NL T n N i) (nmx T n (tp T n 0 i))) ∨ (ixL (NL T n N i) (nmx T n (tp T n 0 i)) = -1 ∧ (NL T n N i).length < 4000 ∧ kq T n N X i = 5 ∧ vq T n N X i = ((NL T n N i).length : Int)) ∨ (ixL (NL T n N i) (nmx T n (tp T n 0 i)) = -1 ∧ 4000 ≤ (NL T n N i).length ∧ kq T n N X i = 6)) := by
  have hq := kq_cs T n N X i
  have hs := sk_rx (lx_si T n 0 (tp T n 0 i))
  have h1 : lx_tk T n 0 (tp T n 0 i) = 1 ∧ kwL (nmx T n (tp T n 0 i)) = -1 := by omega
  have hn : ¬ n ≤ (tp T n 0 i) := fun q => by have := (tk_x0 (T := T) (n := n) (h := 0) (p := (tp T n 0 i))).2 q; omega
  have hk : kq T n N X i = if ixL (adL (NL T n N i) (nmx T n (tp T n 0 i))) (nmx T n (tp T n 0 i)) = -1 then 6 else 5 := by
    show (if n ≤ (tp T n 0 i) then 0 else kp T n (tp T n 0 i) (NL T n N i) (XL T n X i)) = _
    unfold kp; rw [if_neg hn, if_pos h1.1, if_pos h1.2]
  have hv : vq T n N X i = ixL (adL (NL T n N i) (nmx T n (tp T n 0 i))) (nmx T n (tp T n 0 i)) := by unfold vq vp; rw [if_pos h1.1, if_pos h1.2]
  refine ⟨h1.1, h1.2, ?_⟩
  by_cases hm : (nmx T n (tp T n 0 i)) ∈ NL T n N i
  · have hi : ixL (NL T n N i) (nmx T n (tp T n 0 i)) ≠ -1 := fun q => (ixL_no.mp q) hm
    have hr := ixL_rg (NL T n N i) (nmx T n (tp T n 0 i))
    rw [adL_in hm] at hk hv
    rw [if_neg hi] at hk
    exact Or.inl ⟨hm, hk, hv, by omega⟩
  · have hi : ixL (NL T n N i) (nmx T n (tp T n 0 i)) = -1 := ixL_no.mpr hm
    by_cases hl : (NL T n N i).length < 4000
    · rw [adL_new hm hl] at hk hv
      rw [ixL_new hm] at hk hv
      rw [if_neg (by omega)] at hk
      exact Or.inr (Or.inl ⟨hi, hl, hk, hv⟩)
    · rw [adL_full (by omega), hi, if_pos rfl] at hk
      exact Or.inr (Or.inr ⟨hi, by omega, hk⟩)
/-- one more variable -/
theorem rQ_v {k : Nat} (h : rQ T n N X f0 b0 b1 S0 u dp i I F PA S) (hu : u = f0 + (k : Int)) (hk0 : 0 < k) (hl : (F.getD k (-1, 0, [])).2.2.length < 60) (hy : vix (F.getD k (-1, 0, [])).2.2 y = -1) (hyr : 0 ≤ y ∧ y < ((NL T n N i).length : Int)) : rQ T n N X f0 b0 b1 S0 u dp i I (pz_v f0 F u y) PA (w_up (w_up S (nP k + 1) ((F.getD k (-1, 0, [])).2.2.length : Int) y) (nP k) 2 (((F.getD k (-1, 0, [])).2.2.length : Int) + 1)) := by
  obtain ⟨h1, ⟨h2, h3⟩, ⟨v1, v2, v3, v4⟩, h5, pm, ⟨⟨c1, c2⟩, c3, c4, c5, c6, c7⟩, hB, r1, r2⟩ := h
  obtain ⟨b1', b2, b3, b4, ⟨b5, b6⟩, b7, b8, b9⟩ := hB
  have hkF : k < F.length := by omega
  have hk4 : k < 400 := by omega
  have hn4 : nP 400 = 2025600 := rfl
  have hnk : nP k = 2000000 + 64 * k := rfl
  have hw : wG = 1000000 := rfl
  have hku : (u - f0).toNat = k := by omega
  have hlen : (pz_v f0 F u y).length = F.length := by unfold pz_v; rw [List.length_set]
  have hget : ∀ q : Nat, q < F.length → (pz_v f0 F u y).getD q (-1, 0, []) = if q = k then ((F.getD k (-1, 0, [])).1, (F.getD k (-1, 0, [])).2.1, y :: (F.getD k (-1, 0, [])).2.2) else F.getD q (-1, 0, []) := fun q hq => by
    unfold pz_v pz_f; rw [hku]; exact gD_s hq
  have fr : ∀ (j : Nat) (x : Int), (j < nP k ∨ nP k + 1 < j) → w_up (w_up S (nP k + 1) ((F.getD k (-1, 0, [])).2.2.length : Int) y) (nP k) 2 (((F.getD k (-1, 0, [])).2.2.length : Int) + 1) j x = S j x := fun j x hj => (w_up_slot (by omega)).trans (w_up_slot (by omega))
  generalize hZ : w_up (w_up S (nP k + 1) ((F.getD k (-1, 0, [])).2.2.length : Int) y) (nP k) 2 (((F.getD k (-1, 0, [])).2.2.length : Int) + 1) = Z at fr
  have z0 : ∀ x : Int, x ≠ 2 → Z (nP k) x = S (nP k) x := fun x hx => by rw [← hZ]; exact (w_up_at hx).trans (w_up_slot (by omega))
  have z2 : Z (nP k) 2 = ((F.getD k (-1, 0, [])).2.2.length : Int) + 1 := by rw [← hZ]; exact w_up_same _ _ _ _
  have z1 : ∀ x : Int, x ≠ ((F.getD k (-1, 0, [])).2.2.length : Int) → Z (nP k + 1) x = S (nP k + 1) x := fun x hx => by rw [← hZ]; exact (w_up_slot (by omega)).trans (w_up_at hx)
  have z1y : Z (nP k + 1) ((F.getD k (-1, 0, [])).2.2.length : Int) = y := by rw [← hZ]; exact (w_up_slot (by omega)).trans (w_up_same _ _ _ _)
  have el2 : ∀ (j : Nat) (y : Int), ((y = -1 ∧ (j < 287 ∨ (292 < j ∧ j < 400))) ∨ j = 239 ∨ j = 240 ∨ (281 ≤ j ∧ j ≤ 285) ∨ (j = 237 ∧ y ≤ 20)) → Z j y = S j y := fun j y hj => fr j y (by omega)
  have eP : ∀ q : Nat, q < 400 → q ≠ k → ∀ (j : Nat) (y : Int), nP q ≤ j → j < nP q + 64 → Z j y = S j y := fun q q1 q2 j y j1 j2 => fr j y (by unfold nP at *; omega)
  have eI : ∀ (r : Nat) (j : Nat) (y : Int), r < 3 → (j = 287 + 2 * r ∨ ∃ g : Nat, g ≤ 11 ∧ j = fs r g) → Z j y = S j y := fun r j y hr hj => fr j y (by have := fs_rg hr hj; omega)
  obtain ⟨i1, d1⟩ := iI_ag (Z := Z) b7 (fun j y => eI 0 j y (by decide))
  obtain ⟨i2, d2⟩ := iI_ag (Z := Z) b8 (fun j y => eI 1 j y (by decide))
  obtain ⟨i3, d3⟩ := iI_ag (Z := Z) b9 (fun j y => eI 2 j y (by decide))
  obtain ⟨la, l1, l2, ⟨⟨a1, a2, a3, a4⟩, ⟨p1, p2, p3⟩, p4, p5, p6, p7, p8⟩⟩ := b1' k hkF
  have eJ : ∀ (r : Nat) (j : Nat) (x : Int), r < 3 → (j = nP k + (2 + r) ∨ ∃ g : Nat, g ≤ 11 ∧ j = fa k r g) → Z j x = S j x := fun r j x hr hj => fr j x (by rcases hj with q | ⟨g, g1, q⟩ <;> first | omega | (unfold fa at q; omega))
  obtain ⟨j1, e1⟩ := iI_ag (Z := Z) p6 (fun j y => eJ 0 j y (by decide))
  obtain ⟨j2, e2⟩ := iI_ag (Z := Z) p7 (fun j y => eJ 1 j y (by decide))
  obtain ⟨j3, e3⟩ := iI_ag (Z := Z) p8 (fun j y => eJ 2 j y (by decide))
  have hph : phP k Z = phP k S := by unfold phP; rw [e1, e2, e3]
  refine ⟨rL_ag2 h1 el2, ⟨mN_ag2 h2 el2, mX_ag2 h3 el2⟩, ⟨by rw [hlen]; exact v1, by rw [hlen]; exact v2, by rw [hlen]; exact v3, fun q hq => ?_⟩, fun j x j1 j2 j3 j4 j5 => (fr j x (by omega)).trans (h5 j x j1 j2 j3 j4 j5), pm, ⟨⟨(fr 237 27 (by omega)).trans c1, (fr 237 28 (by omega)).trans c2⟩, (fr 237 29 (by omega)).trans c3, by rw [hlen]; exact (fr 237 26 (by omega)).trans c4, (fr 237 25 (by omega)).trans c5, (fr 237 34 (by omega)).trans c6, (fr 237 59 (by omega)).trans c7⟩, ⟨fun q hq => ?_, fun q q1 q2 => (rSh_ag (b2 q (by omega) q2) (eP q (by omega) (by omega))).1, fun q q1 q2 c hc z => b3 q q1 q2 c hc ⟨by rw [← eP q (by omega) (by omega) (nP q + c) (-1) (by omega) (by omega)]; exact z.1, z.2⟩, by rw [hlen]; exact b4, ⟨fun q hq => (fr 286 _ (by omega)).trans (b5 q hq), (fr 286 _ (by omega)).trans b6⟩, i1, i2, i3⟩, ?_, ?_⟩
  · rw [hlen] at hq
    obtain ⟨w1, w2, w3, w4⟩ := v4 q hq
    rw [hget q hq]
    by_cases e : q = k
    · rw [if_pos e]
      rw [e] at w1 w2 w3 w4 ⊢
      refine ⟨Or.inr (w1.resolve_left (fun z => by have := z.1; omega)), List.nodup_cons.mpr ⟨vix_no.mp hy, w2⟩, by show _ + 1 ≤ 60; omega, fun z hz => ?_⟩
      rcases List.mem_cons.mp hz with rfl | hz
      · exact hyr
      · exact w4 z hz
    · rw [if_neg e]; exact ⟨w1, w2, w3, w4⟩
  · rw [hlen] at hq
    by_cases e : q = k
    · subst e
      refine ⟨la, l1, l2, ?_⟩
      rw [hget q hq, if_pos rfl]
      have hrv : (y :: (F.getD q (-1, 0, [])).2.2).reverse = (F.getD q (-1, 0, [])).2.2.reverse ++ [y] := List.reverse_cons
      have hrl : (F.getD q (-1, 0, [])).2.2.reverse.length = (F.getD q (-1, 0, [])).2.2.length := List.length_reverse
      show pO q (aro f0 (F.getD q (-1, 0, [])).1) (PA q) (y :: (F.getD q (-1, 0, [])).2.2).reverse _ la _ _ Z
      rw [hrv]
      have hl9 : ((F.getD q (-1, 0, [])).2.2.reverse ++ [y]).length = (F.getD q (-1, 0, [])).2.2.length + 1 := by rw [List.length_append, hrl]; rfl
      refine ⟨⟨(z0 0 (by decide)).trans a1, (z0 1 (by decide)).trans a2, by rw [hl9]; exact z2, by rw [z0 3 (by decide), z0 4 (by decide), z0 5 (by decide), z0 6 (by decide), z0 7 (by decide)]; exact a4⟩, ⟨⟨by rw [z0 _ (by decide)]; exact p1.1, p1.2⟩, ⟨by rw [z1 _ (by omega)]; exact p2.1, p2.2⟩, (z1 _ (by omega)).trans p3⟩, by omega, fun t ht => ?_, j1, j2, j3⟩
      rw [hl9] at ht
      by_cases e2 : t = (F.getD q (-1, 0, [])).2.2.length
      · rw [e2, z1y, ← hrl, gD_r]
      · rw [z1 _ (by omega), gD_l (by omega)]
        exact p5 t (by omega)
    · obtain ⟨l0, q1, q2, q3⟩ := b1' q hq
      refine ⟨l0, q1, q2, ?_⟩
      rw [hget q hq, if_neg e]
      exact (pO_ag q3 (eP q (by omega) e)).1
  · have e9 : phs Z pm = phs S pm := phs_ag pm (fun q q1 => by
      by_cases e : q = k
      · rw [e]; exact hph
      · by_cases e2 : q < F.length
        · exact (rPt_ag (b1' q e2) (eP q (by omega) e)).2
        · exact (rSh_ag (b2 q (by omega) q1) (eP q (by omega) e)).2)
    unfold phA at r1 ⊢
    rw [e9, d1, d2, d3, fr wG 0 (by omega)]
    exact r1
  · rw [fr wG 1 (by omega), fr wG 0 (by omega)]; exact r2
end Wc3
