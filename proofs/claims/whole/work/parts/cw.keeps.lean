/-! PART cw: the reference's keeps. -/
section Wcw
variable {xs : List (Nat × List Int32)} {M : Nat → Prop} {d : Nat} {A B C S Z : wS} {Q : wO → wS → Prop}
variable {f0 u a b op : Int} {I : List pz_I} {F : List pz_F} {x : pz_I} {k r : Nat}
variable {p sb un s n b0 b1 : Int} {T : Int → Int} {N X : List (List Int)} {S0 : wS} {i : Nat}
/-- all instructions, function by function -/
theorem psm_h (f : Int) (m : Nat) (I : List pz_I) : (∀ x ∈ I, f ≤ x.2.2.2 ∧ x.2.2.2 < f + (m : Int)) → psm (fun u => pz_h I u) f m = (I.length : Int) := by
  refine li_end (p := fun I => (∀ x ∈ I, f ≤ x.2.2.2 ∧ x.2.2.2 < f + (m : Int)) → psm (fun u => pz_h I u) f m = (I.length : Int)) (fun _ => ?_) (fun l x ih => ?_) I
  · exact psm_z f m
  · intro h
    have e : psm (fun u => pz_h (l ++ [x]) u) f m = psm (fun u => pz_h l u + (if x.2.2.2 = u then 1 else 0)) f m := psm_cg m (fun y _ => by rw [pz_h_ap, show pz_h [x] (f + (y : Int)) = _ from pz_h_1 x.1 x.2.1 x.2.2.1 x.2.2.2 _])
    have hx := h x (List.mem_append_right _ (List.mem_singleton.mpr rfl))
    rw [e, psm_add, ih (fun y hy => h y (List.mem_append_left _ hy)), psm_one, if_pos hx, List.length_append]
    show (l.length : Int) + 1 = ((l.length + 1 : Nat) : Int)
    omega
theorem on_s (u : Int) (l : List pz_I) (x : pz_I) : pz_s (on u (l ++ [x])) = pz_s (on u l) + (if x.2.2.2 = u then (if x.1 = 27 then 1 else 0) else 0) := by
  rw [on_ap]
  by_cases e : x.2.2.2 = u
  · rw [if_pos e, if_pos e, pz_s_ap, pz_s_x]
  · rw [if_neg e, if_neg e]; omega
theorem psm_so (f : Int) (m : Nat) (I : List pz_I) : (∀ x ∈ I, f ≤ x.2.2.2 ∧ x.2.2.2 < f + (m : Int)) → psm (fun u => pz_s (on u I)) f m = pz_s I := by
  refine li_end (p := fun I => (∀ x ∈ I, f ≤ x.2.2.2 ∧ x.2.2.2 < f + (m : Int)) → psm (fun u => pz_s (on u I)) f m = pz_s I) (fun _ => ?_) (fun l x ih => ?_) I
  · exact psm_z f m
  · intro h
    have e : psm (fun u => pz_s (on u (l ++ [x]))) f m = psm (fun u => pz_s (on u l) + (if x.2.2.2 = u then (if x.1 = 27 then 1 else 0) else 0)) f m := psm_cg m (fun y _ => on_s _ l x)
    have hx := h x (List.mem_append_right _ (List.mem_singleton.mpr rfl))
    rw [e, psm_add, ih (fun y hy => h y (List.mem_append_left _ hy)), pz_s_ap, pz_s_x]
    by_cases e27 : x.1 = 27
    · have e2 : psm (fun u => if x.2.2.2 = u then (if x.1 = 27 then 1 else 0) else 0) f m = psm (fun u => if x.2.2.2 = u then 1 else 0) f m := psm_cg m (fun y _ => by rw [if_pos e27])
      rw [e2, psm_one, if_pos hx, if_pos e27]
    · have e2 : psm (fun u => if x.2.2.2 = u then (if x.1 = 27 then 1 else 0) else 0) f m = psm (fun _ => 0) f m := psm_cg m (fun y _ => by rw [if_neg e27, ite_self])
      rw [e2, psm_z, if_neg e27]
theorem PS_le (f0 : Int) (I : List pz_I) {k m : Nat} (h : k ≤ m) : 0 ≤ (psm (fun u => pz_h I u) f0 k) ∧ (psm (fun u => pz_h I u) f0 k) ≤ (psm (fun u => pz_h I u) f0 m) := ⟨psm_mo (k := 0) (Nat.zero_le k) (fun x _ => (pz_h_rg I _).1), psm_mo h (fun x _ => (pz_h_rg I _).1)⟩
theorem SS_le (f0 : Int) (I : List pz_I) {k m : Nat} (h : k ≤ m) : 0 ≤ (psm (fun u => pz_s (on u I)) f0 k) ∧ (psm (fun u => pz_s (on u I)) f0 k) ≤ (psm (fun u => pz_s (on u I)) f0 m) := ⟨psm_mo (k := 0) (Nat.zero_le k) (fun x _ => pz_s_nn _), psm_mo h (fun x _ => pz_s_nn _)⟩
theorem PS_s (f0 : Int) (I : List pz_I) (k : Nat) : (psm (fun u => pz_h I u) f0 (k + 1)) = (psm (fun u => pz_h I u) f0 k) + pz_h I (f0 + (k : Int)) := rfl
theorem SS_s (f0 : Int) (I : List pz_I) (k : Nat) : (psm (fun u => pz_s (on u I)) f0 (k + 1)) = (psm (fun u => pz_s (on u I)) f0 k) + pz_s (on (f0 + (k : Int)) I) := rfl
theorem he_kw (h : rQ T n N X f0 b0 b1 S0 f0 0 i I F (pA F) S) (hk : k < F.length) : wJ (pe_GA xs) wY0 M d t_MP_here ((pe_at t_MP_here.bl 0).getD (0, [])).2 [(0, (2, (nP k : Int)))] [] S (fun q Z => S = Z ∧ q = .inl (some (0, pz_h I (f0 + (k : Int))))) := by
  obtain ⟨h1, h2, ⟨v1, v2, v3, v4⟩, h5, pm, hc, hB, hR⟩ := h
  obtain ⟨la, l1, l2, l3⟩ := hB.1 k hk
  refine wJ_mono (he_r (f := k) (by omega) l3) (fun q Z hz => ⟨hz.1, hz.2.trans (congrArg (fun z => Sum.inl (some (0, z))) ?_)⟩)
  rw [List.length_map]
  unfold ru
  omega
/-- the counting -/
theorem ke_1 (h : rQ T n N X f0 b0 b1 S0 f0 0 i I F (pA F) S) (hI : (I.length : Int) ≤ 900000) (hend : wJ (pe_GA xs) wY0 M (d + 1) t_M_keeps ((pe_at t_M_keeps.bl 2).getD (0, [])).2 [(0, (2, 237)), (1, (0, (I.length : Int)))] [] S Q) : ∀ (m k : Nat), F.length - k < m → k ≤ F.length → wJ (pe_GA xs) wY0 M (d + 1) t_M_keeps ((pe_at t_M_keeps.bl 1).getD (0, [])).2 [(0, (2, 237)), (1, (0, (psm (fun u => pz_h I u) f0 k))), (2, (0, (k : Int)))] [] S Q := by
  obtain ⟨v1, v2, v3, v4⟩ := h.2.2.1
  have h26 := (rQ_pp h).2.2.2.2.2.2
  have hall := psm_h f0 F.length I v3
  obtain ⟨pm, hc, hB, hR⟩ := h.2.2.2.2
  have h286 := hB.2.2.2.2.1.1
  have hl286 := hB.2.2.2.2.1.2
  have hpm := hB.2.2.2.1
  intro m
  induction m with
  | zero => intro k hm; exact absurd hm (Nat.not_lt_zero _)
  | succ m ih =>
    intro k hm hk
    have g1 := PS_le f0 I hk
    have g2 := pz_h_rg I (f0 + (k : Int))
    refine wa_iload_n (n := 2) rfl ?_
    refine wa_aload_n (n := 0) rfl ?_
    refine wb_gfi 237 rfl (wy_pr rfl) wt_237 wf_15_26 (v := (F.length : Int)) (h26) (fun r101 => ?_)
    refine wa_icmpge (w_rg0 (by omega) (by omega)) (w_rg0 (by omega) (by omega)) ⟨_, rfl⟩ (fun c102 => ?_) (fun c102 => ?_)
    · skip
      have ek : k = F.length := by omega
      subst ek
      rw [hall]
      exact wJ_S hend ⟨rfl, rfl, trivial⟩
    · skip
      refine wa_iload_n (n := 1) rfl ?_
      refine wa_aload_n (n := 0) rfl ?_
      refine wb_gf4 237 rfl (wy_pr rfl) wt_237 wf_15_24 (v := 286) wl_237_24 ?_
      refine wa_iload_n (n := 2) rfl ?_
      refine wb_aaldO 286 rfl (wy_pr rfl) wt_286 (by omega) (n := 400) (hl286) (by omega) (v := (nP k : Int)) ((h286 k (by omega))) ?_
      have hkF : k < F.length := by omega
      have hpk : w_pr wY0 S (nP k) := by
        obtain ⟨la, l1, l2, l3⟩ := hB.1 k hkF
        exact l3.2.1.1
      refine wa_cv (nP k) rfl hpk (wt_P0 (by omega)) (M2 := fun _ => False) rfl at_MP_here ⟨_, rfl⟩ rfl rfl ⟨(Or.inr ⟨wy_pr rfl, fun q => q⟩), trivial, trivial, trivial⟩ ⟨trivial, trivial⟩ (fun _ _ q => False.elim q) (he_kw h hkF) (fun oq103 Sq103 hp104 q103 => ?_)
      rcases q103 with ⟨rfl, rfl⟩
      show wJ _ _ _ _ _ _ _ _ _ _
      refine wa_iadd ?_
      refine wa_istore_n (n := 1) rfl ?_
      refine wa_iinc rfl rfl ?_
      refine wa_goto ⟨_, rfl⟩ ?_
      rw [show ((k : Int) + 1) = ((k + 1 : Nat) : Int) by omega]
      exact wJ_S (ih (k + 1) (by omega) (by omega)) ⟨rfl, rfl, rfl, trivial⟩
/-- the q-th function's rows and instructions -/
def kR (f0 : Int) (I : List pz_I) (F : List pz_F) (un p sb : Int) (q : Nat) (Z : wS) : Prop := (Z 293 (f0 + (q : Int)) = un ∧ Z 295 (f0 + (q : Int)) = (F.getD q (-1, 0, [])).2.1 ∧ Z 296 (f0 + (q : Int)) = ((F.getD q (-1, 0, [])).2.2.length : Int) ∧ Z 297 (f0 + (q : Int)) = p + (psm (fun u => pz_h I u) f0 q) ∧ Z 298 (f0 + (q : Int)) = pz_h I (f0 + (q : Int)) ∧ Z 299 (f0 + (q : Int)) = sb + (psm (fun u => pz_s (on u I)) f0 q) ∧ Z 300 (f0 + (q : Int)) = pz_s (on (f0 + (q : Int)) I)) ∧ kpD f0 I F (f0 + (q : Int)) (p + (psm (fun u => pz_h I u) f0 q)) (sb + (psm (fun u => pz_s (on u I)) f0 q)) (on (f0 + (q : Int)) I).length Z
/-- the first q functions are kept -/
def kU (f0 : Int) (I : List pz_I) (F : List pz_F) (un p sb : Int) (q : Nat) (S Z : wS) : Prop := (Z 237 43 = p + (psm (fun u => pz_h I u) f0 q) ∧ Z 237 47 = sb + (psm (fun u => pz_s (on u I)) f0 q)) ∧ (∀ k : Nat, k < q → kR f0 I F un p sb k Z) ∧ (∀ (j : Nat) (x : Int), (x < 0 ∨ (293 ≤ j ∧ j ≤ 300 ∧ (x < f0 ∨ f0 + (q : Int) ≤ x ∨ j = 294)) ∨ (301 ≤ j ∧ j ≤ 303 ∧ x < p) ∨ (((304 ≤ j ∧ j ≤ 313) ∨ j = 376) ∧ x < sb) ∨ ((j < 293 ∨ 313 < j) ∧ j ≠ 376)) → (j ≠ 237 ∨ (x ≠ 43 ∧ x ≠ 47 ∧ x ≠ 48)) → Z j x = S j x) ∧ rD Z
theorem kU_kpf (hp : 0 ≤ p) (hsb : 0 ≤ sb) (hf : 0 ≤ f0) {q : Nat} (h : kU f0 I F un p sb q S Z) : ∀ (j : Nat) (x : Int), (x < 0 ∨ ((j < 293 ∨ 313 < j) ∧ j ≠ 376)) → (j ≠ 237 ∨ (x ≠ 43 ∧ x ≠ 47 ∧ x ≠ 48)) → Z j x = S j x := fun j x q1 q2 => h.2.2.1 j x (by omega) q2
theorem kpD_ag {r : Nat} (hr : r ≤ (on u I).length) (h : kpD f0 I F u p sb r S) (e1 : ∀ (j : Nat) (x : Int), 301 ≤ j → j ≤ 303 → p ≤ x → x < p + ((on u I).length : Int) → Z j x = S j x) (e2 : ∀ (j : Nat) (x : Int), ((304 ≤ j ∧ j ≤ 313) ∨ j = 376) → sb ≤ x → x < sb + pz_s (on u I) → Z j x = S j x) : kpD f0 I F u p sb r Z := by
  intro t ht
  obtain ⟨⟨a1, a2, a3⟩, a4⟩ := h t ht
  refine ⟨⟨(e1 301 _ (by decide) (by decide) (by omega) (by omega)).trans a1, (e1 302 _ (by decide) (by decide) (by omega) (by omega)).trans a2, (e1 303 _ (by decide) (by decide) (by omega) (by omega)).trans a3⟩, fun q => sRow_ag (a4 q) (fun j hj => e2 j _ hj ?_ ?_)⟩
  · have := os_nn u I t; omega
  · have := os_lt (u := u) (I := I) (r := t) (by omega) q; omega
theorem kU_s (hp : 0 ≤ p) (hsb : 0 ≤ sb) (hf : 0 ≤ f0) (h : kU f0 I F un p sb k S Z) {Z2 : wS} (g : kP_P f0 I F k un (p + (psm (fun u => pz_h I u) f0 k)) (sb + (psm (fun u => pz_s (on u I)) f0 k)) Z Z2) : kU f0 I F un p sb (k + 1) S Z2 := by
  obtain ⟨⟨a1, a2⟩, a3, a4, a5⟩ := h
  obtain ⟨⟨c1, c2, c3, c4, c5, c6, c7⟩, ⟨d1, d2⟩, g1, g2, g3⟩ := g
  have hl := on_len (f0 + (k : Int)) I
  have m0 := PS_le f0 I (Nat.le_refl k)
  have m1 := SS_le f0 I (Nat.le_refl k)
  have e1 := PS_s f0 I k
  have e2 := SS_s f0 I k
  refine ⟨⟨by omega, by omega⟩, fun q hq => ?_, fun j x q1 q2 => (g2 j x (by omega) q2).trans (a4 j x (by omega) q2), g3⟩
  by_cases e : q = k
  · subst e
    exact ⟨⟨c1, c2, c3, c4, by omega, c6, c7⟩, g1⟩
  · have hq2 : q < k := by omega
    obtain ⟨⟨b1, b2, b3, b4, b5, b6, b7⟩, b8⟩ := a3 q hq2
    have w : ∀ j : Nat, 293 ≤ j → j ≤ 300 → Z2 j (f0 + (q : Int)) = Z j (f0 + (q : Int)) := fun j j0 j1 => g2 j _ (by omega) (by omega)
    have m2 := PS_le f0 I (show q + 1 ≤ k by omega)
    have m3 := SS_le f0 I (show q + 1 ≤ k by omega)
    have e3 := PS_s f0 I q
    have e4 := SS_s f0 I q
    have hl2 := on_len (f0 + (q : Int)) I
    refine ⟨⟨(w 293 (by decide) (by decide)).trans b1, (w 295 (by decide) (by decide)).trans b2, (w 296 (by decide) (by decide)).trans b3, (w 297 (by decide) (by decide)).trans b4, (w 298 (by decide) (by decide)).trans b5, (w 299 (by decide) (by decide)).trans b6, (w 300 (by decide) (by decide)).trans b7⟩, kpD_ag (Nat.le_refl _) b8 (fun j x j0 j1 x0 x1 => g2 j x (by omega) (by omega)) (fun j x j0 x0 x1 => g2 j x (by omega) (by omega))⟩
theorem ke_5 (hQ : kQ f0 I F S) (hp : 0 ≤ p ∧ p + (I.length : Int) ≤ 20000) (hsb : 0 ≤ sb ∧ sb + pz_s I ≤ 4000) (hown : ∀ x ∈ I, f0 ≤ x.2.2.2 ∧ x.2.2.2 < f0 + (F.length : Int)) (hun : S 237 33 = un) (hend : ∀ Z : wS, kU f0 I F un p sb F.length S Z → wJ (pe_GA xs) wY0 M (d + 4) t_M_keeps ((pe_at t_M_keeps.bl 6).getD (0, [])).2 [(0, (2, 237))] [] Z Q) : ∀ (m k : Nat) (Z : wS), F.length - k < m → k ≤ F.length → kU f0 I F un p sb k S Z → wJ (pe_GA xs) wY0 M (d + 4) t_M_keeps ((pe_at t_M_keeps.bl 5).getD (0, [])).2 [(0, (2, 237)), (2, (0, (k : Int)))] [] Z Q := by
  have hall := psm_h f0 F.length I hown
  have hsal := psm_so f0 F.length I hown
  have hf := hQ.1.2.1
  intro m
  induction m with
  | zero => intro k Z hm; exact absurd hm (Nat.not_lt_zero _)
  | succ m ih =>
    intro k Z hm hk hz
    have hfr := kU_kpf hp.1 hsb.1 hf.1 hz
    have hQz := kQ_ag hQ hfr
    have h26 := hQz.2.2.2.2.1
    have g1 := PS_le f0 I hk
    have g3 := SS_le f0 I hk
    have z33 : Z 237 33 = un := (hfr 237 33 (by omega) (by omega)).trans hun
    refine wa_iload_n (n := 2) rfl ?_
    refine wa_aload_n (n := 0) rfl ?_
    refine wb_gfi 237 rfl (wy_pr rfl) wt_237 wf_15_26 (v := (F.length : Int)) (h26) (fun r101 => ?_)
    refine wa_icmpge (w_rg0 (by omega) (by omega)) (w_rg0 (by omega) (by omega)) ⟨_, rfl⟩ (fun c102 => ?_) (fun c102 => ?_)
    · skip
      have ek : k = F.length := by omega
      subst ek
      exact wJ_S (hend Z hz) ⟨rfl, trivial⟩
    · skip
      refine wa_aload_n (n := 0) rfl ?_
      refine wa_iload_n (n := 2) rfl ?_
      have hkF : k < F.length := by omega
      have hl := on_len (f0 + (k : Int)) I
      have g2 := PS_le f0 I (show k + 1 ≤ F.length by omega)
      have g4 := SS_le f0 I (show k + 1 ≤ F.length by omega)
      have e1 := PS_s f0 I k
      have e2 := SS_s f0 I k
      refine wa_cv 237 rfl (wy_pr rfl) wt_237 (M2 := fun _ => False) rfl at_M_keepsPart ⟨_, rfl⟩ rfl rfl ⟨(Or.inr ⟨wy_pr rfl, fun q => q⟩), trivial, trivial⟩ trivial (fun _ _ q => False.elim q) (kp_ok (d := d) (p := p + (psm (fun u => pz_h I u) f0 k)) (sb := sb + (psm (fun u => pz_s (on u I)) f0 k)) hQz hkF ⟨by omega, by omega⟩ ⟨by omega, by omega⟩ z33 hz.1.1 hz.1.2 hz.2.2.2) (fun oq103 Sq103 hp104 q103 => ?_)
      rcases q103 with ⟨rfl, hkp⟩
      show wJ _ _ _ _ _ _ _ _ _ _
      refine wa_iinc rfl rfl ?_
      refine wa_goto ⟨_, rfl⟩ ?_
      rw [show ((k : Int) + 1) = ((k + 1 : Nat) : Int) by omega]
      exact wJ_S (ih (k + 1) _ (by omega) (by omega) (kU_s hp.1 hsb.1 hf.1 hz hkp)) ⟨rfl, rfl, trivial⟩
/-- a unit is kept -/
def kV (f0 : Int) (I : List pz_I) (F : List pz_F) (un p sb : Int) (S Z : wS) : Prop := (Z 237 33 = un + 1 ∧ Z 237 34 = f0 + (F.length : Int) ∧ Z 237 43 = p + (I.length : Int) ∧ Z 237 47 = sb + pz_s I ∧ Z 294 un = f0) ∧ (∀ k : Nat, k < F.length → kR f0 I F un p sb k Z) ∧ (∀ (j : Nat) (x : Int), (x < 0 ∨ (293 ≤ j ∧ j ≤ 300 ∧ j ≠ 294 ∧ (x < f0 ∨ f0 + (F.length : Int) ≤ x)) ∨ (j = 294 ∧ x ≠ un) ∨ (301 ≤ j ∧ j ≤ 303 ∧ x < p) ∨ (((304 ≤ j ∧ j ≤ 313) ∨ j = 376) ∧ x < sb) ∨ ((j < 293 ∨ 313 < j) ∧ j ≠ 376)) → (j ≠ 237 ∨ (x ≠ 33 ∧ x ≠ 34 ∧ x ≠ 43 ∧ x ≠ 47 ∧ x ≠ 48)) → Z j x = S j x) ∧ rD Z
theorem ke_w (h : rQ T n N X f0 b0 b1 S0 f0 0 i I F (pA F) S) (h9 : nK f0 I) (hI : (I.length : Int) ≤ 900000) (hun : S 237 33 = un) (hu : 0 ≤ un ∧ un < 16) (h43 : S 237 43 = p) (hp : 0 ≤ p ∧ p ≤ 20000) (h47 : S 237 47 = sb) (hsb : 0 ≤ sb ∧ sb ≤ 4000) (hd : rD S) : wJ (pe_GA xs) wY0 M (d + 4) t_M_keeps ((pe_at t_M_keeps.bl 0).getD (0, [])).2 [(0, (2, 237))] [] S (fun q Z => (¬ (p + (I.length : Int) ≤ 20000 ∧ sb + pz_s I ≤ 4000) ∧ q = .inr 238 ∧ w_hl S 7 n = Z) ∨ ((p + (I.length : Int) ≤ 20000 ∧ sb + pz_s I ≤ 4000) ∧ q = .inl none ∧ kV f0 I F un p sb S Z)) := by
  obtain ⟨v1, v2, v3, v4⟩ := h.2.2.1
  have hM := h.1.2.2.2.1
  have h4 := h.1.2.1
  have h34 := (rQ_pp h).2.2.2.2.2.1
  have hn := rQ_n h
  have hs1 : S 287 2 = pz_s I := by
    obtain ⟨pm, hc, hB, hR⟩ := h.2.2.2.2
    exact hB.2.2.2.2.2.1.1.2.1.trans (sk_len I).1
  have hsn := pz_s_nn I
  have hsl : pz_s I ≤ (I.length : Int) := by unfold pz_s; have := List.countP_le_length (p := fun x : pz_I => x.1 == 27) (l := I); omega
  refine wa_iconst ?_
  refine wa_istore_n (n := 1) rfl ?_
  refine wa_iconst ?_
  refine wa_istore_n (n := 2) rfl ?_
  refine wa_fall ⟨_, rfl⟩ ?_
  refine wJ_S (ke_1 (d := d + 3) h hI ?_ (F.length + 1) 0 (by omega) (Nat.zero_le _)) ⟨rfl, rfl, rfl, trivial⟩
  refine wa_aload_n (n := 0) rfl ?_
  refine wb_gfi 237 rfl (wy_pr rfl) wt_237 wf_15_43 (v := p) (h43) (fun r101 => ?_)
  refine wa_iload_n (n := 1) rfl ?_
  refine wa_iadd ?_
  refine wa_sipush (by omega) ?_
  refine wa_icmpgt (w_rg0 (by omega) (by omega)) (w_rg0 (by omega) (by omega)) ⟨_, rfl⟩ (fun c102 => ?_) (fun c102 => ?_)
  · skip
    refine wa_aload_n (n := 0) rfl ?_
    refine wb_gf4 237 rfl (wy_pr rfl) wt_237 wf_15_1 (v := 238) wl_237_1 ?_
    refine wa_bipush (w_rg2 (by omega) (by omega)) ?_
    refine wa_aload_n (n := 0) rfl ?_
    refine wb_gfi 237 rfl (wy_pr rfl) wt_237 wf_15_4 (v := n) (h4) (fun r103 => ?_)
    refine wa_cv 238 rfl (wy_pr rfl) wt_238 (M2 := fun _ => False) rfl at_MH_of ⟨_, rfl⟩ rfl rfl ⟨(Or.inr ⟨wy_pr rfl, fun q => q⟩), trivial, trivial⟩ trivial (fun _ _ q => False.elim q) ?_ (fun _ _ _ q => q)
    refine wa_aload_n (n := 0) rfl ?_
    refine wa_iload_n (n := 1) rfl ?_
    refine wb_pfi 238 rfl (wy_pr rfl) wt_238 wf_11_5 (n := 5) rfl ⟨(by omega), (by omega)⟩ ?_
    refine wa_aload_n (n := 0) rfl ?_
    refine wa_iload_n (n := 2) rfl ?_
    refine wb_pfi 238 rfl (wy_pr rfl) wt_238 wf_11_6 (n := 6) rfl ⟨(by omega), (by omega)⟩ ?_
    refine wa_aload_n (n := 0) rfl ?_
    refine wa_oreturn rfl ?_
    show wJ _ _ _ _ _ _ _ _ _ _
    refine wa_th (j := 238) ?_
    exact Or.inl ⟨by omega, rfl, rfl⟩
  · skip
    refine wa_aload_n (n := 0) rfl ?_
    refine wb_gfi 237 rfl (wy_pr rfl) wt_237 wf_15_47 (v := sb) (h47) (fun r104 => ?_)
    refine wa_aload_n (n := 0) rfl ?_
    refine wb_gf4 237 rfl (wy_pr rfl) wt_237 wf_15_30 (v := 287) wl_237_30 ?_
    refine wb_gfi 287 rfl (wy_pr rfl) wt_287 wf_13_2 (v := (pz_s I)) (hs1) (fun r105 => ?_)
    refine wa_iadd ?_
    refine wa_sipush (by omega) ?_
    refine wa_icmple (w_rg0 (by omega) (by omega)) (w_rg0 (by omega) (by omega)) ⟨_, rfl⟩ (fun c106 => ?_) (fun c106 => ?_)
    · skip
      refine wa_aload_n (n := 0) rfl ?_
      refine wb_gf4 237 rfl (wy_pr rfl) wt_237 wf_15_36 (v := 294) wl_237_36 ?_
      refine wa_aload_n (n := 0) rfl ?_
      refine wb_gfi 237 rfl (wy_pr rfl) wt_237 wf_15_33 (v := un) (hun) (fun r107 => ?_)
      refine wa_aload_n (n := 0) rfl ?_
      refine wb_gfi 237 rfl (wy_pr rfl) wt_237 wf_15_34 (v := f0) (h34) (fun r108 => ?_)
      refine wb_iast 294 rfl (wy_pr rfl) wt_294 (n := 16) ((ml_294 hM)) (by omega) (by omega) ⟨(by omega), (by omega)⟩ ?_
      refine wa_iconst ?_
      refine wa_istore_n (n := 2) rfl ?_
      refine wa_fall ⟨_, rfl⟩ ?_
      have hfit : p + (I.length : Int) ≤ 20000 ∧ sb + pz_s I ≤ 4000 := ⟨by omega, by omega⟩
      have hQ := kq_of h h9 (by omega) (by omega)
      have fr : ∀ (j : Nat) (x : Int), (j ≠ 294 ∨ x ≠ un) → (w_up S 294 un f0) j x = S j x := fun j x q => w_up_no (by omega)
      have hQ2 : kQ f0 I F (w_up S 294 un f0) := by
        obtain ⟨⟨q1, q2⟩, q3, ⟨q4, q5⟩, ⟨q6, q7, q8⟩, q9, q10⟩ := hQ
        exact kQ_ag ⟨⟨q1, q2⟩, q3, ⟨q4, q5⟩, ⟨q6, q7, q8⟩, q9, q10⟩ (fun j x a1 a2 => fr j x (by omega))
      have hU0 : kU f0 I F un p sb 0 (w_up S 294 un f0) (w_up S 294 un f0) := ⟨⟨(fr 237 43 (by omega)).trans (h43.trans (by show p = p + 0; omega)), (fr 237 47 (by omega)).trans (h47.trans (by show sb = sb + 0; omega))⟩, fun k hk => absurd hk (Nat.not_lt_zero _), fun _ _ _ _ => rfl, rD_ag hd (fun j x q => fr j x (by omega))⟩
      refine wJ_S (ke_5 (d := d) (un := un) hQ2 ⟨hp.1, hfit.1⟩ ⟨hsb.1, hfit.2⟩ v3 ((fr 237 33 (by omega)).trans hun) (fun Z hz => ?_) (F.length + 1) 0 _ (by omega) (Nat.zero_le _) hU0) ⟨rfl, rfl, trivial⟩
      obtain ⟨⟨z1, z2⟩, z3, z4, z5⟩ := hz
      rw [psm_h f0 F.length I v3] at z1
      rw [psm_so f0 F.length I v3] at z2
      have zz : ∀ x : Int, x ≠ 43 → x ≠ 47 → x ≠ 48 → Z 237 x = S 237 x := fun x x1 x2 x3 => (z4 237 x (by omega) (by omega)).trans (fr 237 x (by omega))
      have z26 : Z 237 26 = (F.length : Int) := (zz 26 (by decide) (by decide) (by decide)).trans hQ.2.2.2.2.1
      have z34 : Z 237 34 = f0 := (zz 34 (by decide) (by decide) (by decide)).trans h34
      have z33 : Z 237 33 = un := (zz 33 (by decide) (by decide) (by decide)).trans hun
      refine wa_aload_n (n := 0) rfl ?_
      refine wa_dup (by decide) ?_
      refine wb_gfi 237 rfl (wy_pr rfl) wt_237 wf_15_34 (v := f0) (z34) (fun r409 => ?_)
      refine wa_aload_n (n := 0) rfl ?_
      refine wb_gfi 237 rfl (wy_pr rfl) wt_237 wf_15_26 (v := (F.length : Int)) (z26) (fun r410 => ?_)
      refine wa_iadd ?_
      refine wb_pfi 237 rfl (wy_pr rfl) wt_237 wf_15_34 (n := 34) rfl ⟨(by omega), (by omega)⟩ ?_
      refine wa_aload_n (n := 0) rfl ?_
      refine wa_dup (by decide) ?_
      refine wb_gfi 237 rfl (wy_pr rfl) wt_237 wf_15_33 (v := un) ((w_up_at (by decide)).trans (z33)) (fun r411 => ?_)
      refine wa_iconst ?_
      refine wa_iadd ?_
      refine wb_pfi 237 rfl (wy_pr rfl) wt_237 wf_15_33 (n := 33) rfl ⟨(by omega), (by omega)⟩ ?_
      refine wa_return rfl ?_
      have e : ∀ (j : Nat) (x : Int), (j ≠ 237 ∨ (x ≠ 33 ∧ x ≠ 34)) → (w_up (w_up Z 237 34 (f0 + (F.length : Int))) 237 33 (un + 1)) j x = Z j x := fun j x q => (w_up_no (by omega)).trans (w_up_no (by omega))
      refine Or.inr ⟨hfit, rfl, ⟨w_up_same _ _ _ _, (w_up_at (by decide)).trans (w_up_same _ _ _ _), (e 237 43 (by omega)).trans z1, (e 237 47 (by omega)).trans z2, ?_⟩, fun k hk => ?_, fun j x q1 q2 => ?_, rD_ag z5 (fun j x q => e j x (by omega))⟩
      · exact (e 294 _ (by omega)).trans ((z4 294 un (by omega) (by omega)).trans (w_up_same _ _ _ _))
      · obtain ⟨⟨b1, b2, b3, b4, b5, b6, b7⟩, b8⟩ := z3 k hk
        exact ⟨⟨(e 293 _ (by omega)).trans b1, (e 295 _ (by omega)).trans b2, (e 296 _ (by omega)).trans b3, (e 297 _ (by omega)).trans b4, (e 298 _ (by omega)).trans b5, (e 299 _ (by omega)).trans b6, (e 300 _ (by omega)).trans b7⟩, kpD_ag (Nat.le_refl _) b8 (fun j x j0 j1 _ _ => e j x (by omega)) (fun j x j0 _ _ => e j x (by omega))⟩
      · exact (e j x (by omega)).trans ((z4 j x (by omega) (by omega)).trans (fr j x (by omega)))
    · skip
      refine wa_fall ⟨_, rfl⟩ ?_
      refine wa_aload_n (n := 0) rfl ?_
      refine wb_gf4 237 rfl (wy_pr rfl) wt_237 wf_15_1 (v := 238) wl_237_1 ?_
      refine wa_bipush (w_rg2 (by omega) (by omega)) ?_
      refine wa_aload_n (n := 0) rfl ?_
      refine wb_gfi 237 rfl (wy_pr rfl) wt_237 wf_15_4 (v := n) (h4) (fun r109 => ?_)
      refine wa_cv 238 rfl (wy_pr rfl) wt_238 (M2 := fun _ => False) rfl at_MH_of ⟨_, rfl⟩ rfl rfl ⟨(Or.inr ⟨wy_pr rfl, fun q => q⟩), trivial, trivial⟩ trivial (fun _ _ q => False.elim q) ?_ (fun _ _ _ q => q)
      refine wa_aload_n (n := 0) rfl ?_
      refine wa_iload_n (n := 1) rfl ?_
      refine wb_pfi 238 rfl (wy_pr rfl) wt_238 wf_11_5 (n := 5) rfl ⟨(by omega), (by omega)⟩ ?_
      refine wa_aload_n (n := 0) rfl ?_
      refine wa_iload_n (n := 2) rfl ?_
      refine wb_pfi 238 rfl (wy_pr rfl) wt_238 wf_11_6 (n := 6) rfl ⟨(by omega), (by omega)⟩ ?_
      refine wa_aload_n (n := 0) rfl ?_
      refine wa_oreturn rfl ?_
      show wJ _ _ _ _ _ _ _ _ _ _
      refine wa_th (j := 238) ?_
      exact Or.inl ⟨by omega, rfl, rfl⟩
end Wcw
