/-! PART cu: a function's instructions; where a name's variable stands. -/
section Wcu
variable {xs : List (Nat × List Int32)} {M : Nat → Prop} {d : Nat} {A B C S Z : wS} {Q : wO → wS → Prop}
variable {f0 u a b op : Int} {I : List pz_I} {F : List pz_F} {x : pz_I} {k r : Nat}
/-- the instructions of the function u -/
def on (u : Int) (I : List pz_I) : List pz_I := I.filter (fun x => x.2.2.2 == u)
theorem on_ap : on u (I ++ [x]) = if x.2.2.2 = u then on u I ++ [x] else on u I := by
  unfold on
  rw [List.filter_append]
  by_cases e : x.2.2.2 = u
  · rw [if_pos e, List.filter_cons_of_pos (by simpa using e)]; rfl
  · rw [if_neg e, List.filter_cons_of_neg (by simpa using e)]; exact List.append_nil _
theorem on_len (u : Int) (I : List pz_I) : ((on u I).length : Int) = pz_h I u := by
  unfold on pz_h
  rw [List.countP_eq_length_filter]
theorem on_mem (h : x ∈ on u I) : x ∈ I ∧ x.2.2.2 = u := by
  obtain ⟨h1, h2⟩ := List.mem_filter.mp h
  exact ⟨h1, by simpa using h2⟩
theorem on_get (h : r < (on u I).length) : (on u I).getD r (0, 0, 0, 0) ∈ I := by
  rw [List.getD_eq_getElem?_getD, List.getElem?_eq_getElem h]
  exact (on_mem (List.getElem_mem h)).1
theorem pz_s_nn (I : List pz_I) : 0 ≤ pz_s I := by unfold pz_s; omega
theorem pz_s_x (x : pz_I) : pz_s [x] = if x.1 = 27 then 1 else 0 := pz_s_1 x.1 x.2.1 x.2.2.1 x.2.2.2
theorem sk_ex {s : Nat} (h : (s : Int) < pz_s I) : (sk1 (I ++ [x])).getD s 0 = (sk1 I).getD s 0 ∧ (sk2 (I ++ [x])).getD s 0 = (sk2 I).getD s 0 ∧ (sk3 (I ++ [x])).getD s 0 = (sk3 I).getD s 0 := by
  obtain ⟨l1, l2, l3⟩ := sk_len I
  by_cases e : x.1 = 27
  · obtain ⟨a, b, c⟩ := sk_in (I := I) e
    rw [a, b, c]
    exact ⟨gD_l (by omega), gD_l (by omega), gD_l (by omega)⟩
  · obtain ⟨a, b, c⟩ := sk_no (I := I) e
    rw [a, b, c]
    exact ⟨rfl, rfl, rfl⟩
/-- an instruction as it lies in a part; of a site, what is kept of it -/
def rlx (f0 : Int) (I : List pz_I) (x : pz_I) (t : Int × Int × Int) : Prop := ∃ s : Int, t = renc f0 s x ∧ (x.1 = 27 → (0 ≤ s ∧ s < pz_s I) ∧ (sk1 I).getD s.toNat 0 = x.2.1 % 16 ∧ (sk2 I).getD s.toNat 0 = x.2.2.1 ∧ (sk3 I).getD s.toNat 0 = x.2.1 / 16)
theorem rl_on (f0 u : Int) (I : List pz_I) : I.length ≤ 20000 → (rl f0 u I).length = (on u I).length ∧ ∀ r : Nat, r < (on u I).length → rlx f0 I ((on u I).getD r (0, 0, 0, 0)) ((rl f0 u I).getD r (0, 0, 0)) := by
  refine li_end (p := fun I => I.length ≤ 20000 → (rl f0 u I).length = (on u I).length ∧ ∀ r : Nat, r < (on u I).length → rlx f0 I ((on u I).getD r (0, 0, 0, 0)) ((rl f0 u I).getD r (0, 0, 0))) (fun _ => ⟨rfl, fun r hr => absurd hr (Nat.not_lt_zero _)⟩) (fun l x ih => ?_) I
  intro hl
  rw [List.length_append] at hl
  have hl2 : l.length < 20000 := hl
  obtain ⟨ih1, ih2⟩ := ih (by omega)
  have hsx : pz_s (l ++ [x]) = pz_s l + if x.1 = 27 then 1 else 0 := by rw [pz_s_ap, pz_s_x]
  have hnn := pz_s_nn l
  have hle : pz_s l ≤ pz_s (l ++ [x]) := by rw [pz_s_ap]; have := pz_s_nn [x]; omega
  have hx : ∀ r : Nat, r < (on u l).length → rlx f0 (l ++ [x]) ((on u l).getD r (0, 0, 0, 0)) ((rl f0 u l).getD r (0, 0, 0)) := fun r hr => by
    obtain ⟨s, s1, s2⟩ := ih2 r hr
    refine ⟨s, s1, fun e => ?_⟩
    obtain ⟨⟨a, b⟩, c1, c2, c3⟩ := s2 e
    obtain ⟨d1, d2, d3⟩ := sk_ex (I := l) (x := x) (s := s.toNat) (by omega)
    exact ⟨⟨a, by omega⟩, d1.trans c1, d2.trans c2, d3.trans c3⟩
  rw [on_ap, rl_ap]
  by_cases e : x.2.2.2 = u
  · rw [if_pos e, if_pos ⟨e, hl2⟩]
    refine ⟨by rw [List.length_append, List.length_append, ih1]; rfl, fun r hr => ?_⟩
    rw [List.length_append] at hr
    have hr2 : r < (on u l).length + 1 := hr
    by_cases er : r = (on u l).length
    · subst er
      rw [gD_r, ← ih1, gD_r]
      refine ⟨pz_s l, rfl, fun e2 => ?_⟩
      obtain ⟨a, b, c⟩ := sk_in (I := l) e2
      obtain ⟨l1, l2, l3⟩ := sk_len l
      rw [if_pos e2] at hsx
      refine ⟨⟨hnn, by omega⟩, ?_, ?_, ?_⟩
      · rw [a, show (pz_s l).toNat = (sk1 l).length by omega, gD_r]
      · rw [b, show (pz_s l).toNat = (sk2 l).length by omega, gD_r]
      · rw [c, show (pz_s l).toNat = (sk3 l).length by omega, gD_r]
    · rw [gD_l (by omega), gD_l (by omega)]
      exact hx r (by omega)
  · rw [if_neg e, if_neg (fun q => e q.1)]
    exact ⟨ih1, hx⟩
/-- the k-th part, while the unit is kept -/
def kPt (f0 : Int) (I : List pz_I) (F : List pz_F) (k : Nat) (S : wS) : Prop := ∃ lo la lb : List Int, pO k (aro f0 (F.getD k (-1, 0, [])).1) (F.getD k (-1, 0, [])).2.1 (F.getD k (-1, 0, [])).2.2.reverse lo la lb 0 S ∧ (lo.length = (on (f0 + (k : Int)) I).length ∧ la.length = (on (f0 + (k : Int)) I).length ∧ lb.length = (on (f0 + (k : Int)) I).length) ∧ ∀ r : Nat, r < (on (f0 + (k : Int)) I).length → rlx f0 I ((on (f0 + (k : Int)) I).getD r (0, 0, 0, 0)) (lo.getD r 0, la.getD r 0, lb.getD r 0)
/-- what holds of functions and instructions when a unit is kept -/
def kFv (f0 : Int) (I : List pz_I) (F : List pz_F) : Prop := (0 ≤ f0 ∧ f0 + (F.length : Int) ≤ 400) ∧ (I.length ≤ 20000 ∧ pz_s I ≤ 4000) ∧ (∀ x ∈ I, 0 ≤ x.1 ∧ (x.1 = 24 → f0 ≤ x.2.1 ∧ x.2.1 < 400) ∧ ((x.1 = 3 ∨ x.1 = 4) → x.2.2.1 = 0) ∧ (x.1 = 27 → 0 ≤ x.2.1 ∧ x.2.1 < 1000)) ∧ ∀ k : Nat, k < F.length → ((k = 0 ∧ (F.getD k (-1, 0, [])).1 = -1 ∧ (F.getD k (-1, 0, [])).2.2 = []) ∨ (f0 ≤ (F.getD k (-1, 0, [])).1 ∧ (F.getD k (-1, 0, [])).1 < f0 + (k : Int))) ∧ (F.getD k (-1, 0, [])).2.2.Nodup ∧ (F.getD k (-1, 0, [])).2.2.length ≤ 60
/-- what the reference reads while it keeps a unit -/
def kQ (f0 : Int) (I : List pz_I) (F : List pz_F) (S : wS) : Prop := (w_ML S ∧ kFv f0 I F) ∧ (∀ k : Nat, k < F.length → kPt f0 I F k S) ∧ ((∀ k : Nat, k < F.length → S 286 (k : Int) = (nP k : Int)) ∧ S 286 (-1) = 400) ∧ (iI 287 (fs 0) 4000 (sk1 I) S ∧ iI 289 (fs 1) 4000 (sk2 I) S ∧ iI 291 (fs 2) 4000 (sk3 I) S) ∧ S 237 26 = (F.length : Int) ∧ S 237 34 = f0
/-- what keeping changes -/
def kpf (S Z : wS) : Prop := ∀ (j : Nat) (x : Int), (x < 0 ∨ ((j < 293 ∨ 313 < j) ∧ j ≠ 376)) → (j ≠ 237 ∨ (x ≠ 43 ∧ x ≠ 47 ∧ x ≠ 48)) → Z j x = S j x
theorem kpf_rfl : kpf S S := fun _ _ _ _ => rfl
theorem kpf_tr (h : kpf S Z) (h2 : kpf Z A) : kpf S A := fun j x q1 q2 => (h2 j x q1 q2).trans (h j x q1 q2)
theorem kQ_ag (h : kQ f0 I F S) (e : kpf S Z) : kQ f0 I F Z := by
  obtain ⟨⟨h1, h2⟩, h3, ⟨h4, h5⟩, ⟨h6, h7, h8⟩, h9, h10⟩ := h
  have eI : ∀ (r : Nat) (j : Nat) (x : Int), r < 3 → (j = 287 + 2 * r ∨ ∃ g : Nat, g ≤ 11 ∧ j = fs r g) → Z j x = S j x := fun r j x hr hj => e j x (by have := fs_rg hr hj; omega) (by have := fs_rg hr hj; omega)
  refine ⟨⟨fun q hq => (e q.1 (-1) (Or.inl (by decide)) (Or.inr (by decide))).trans (h1 q hq), h2⟩, fun k hk => ?_, ⟨fun k hk => (e 286 _ (by omega) (by omega)).trans (h4 k hk), (e 286 _ (by omega) (by omega)).trans h5⟩, ⟨(iI_ag h6 (fun j x => eI 0 j x (by decide))).1, (iI_ag h7 (fun j x => eI 1 j x (by decide))).1, (iI_ag h8 (fun j x => eI 2 j x (by decide))).1⟩, (e 237 26 (by omega) (by omega)).trans h9, (e 237 34 (by omega) (by omega)).trans h10⟩
  obtain ⟨lo, la, lb, a1, a2, a3⟩ := h3 k hk
  exact ⟨lo, la, lb, (pO_ag a1 (fun j x j1 j2 => e j x (by unfold nP at j1 j2; omega) (by unfold nP at j1 j2; omega))).1, a2, a3⟩
theorem kq_of {T : Int → Int} {n b0 b1 : Int} {N X : List (List Int)} {S0 : wS} {i : Nat} (h : rQ T n N X f0 b0 b1 S0 f0 0 i I F (pA F) S) (h9 : nK f0 I) (hI : I.length ≤ 20000) (hs : pz_s I ≤ 4000) : kQ f0 I F S := by
  obtain ⟨h1, h2, ⟨v1, v2, v3, v4⟩, h5, pm, ⟨c1, c2, c3, c4, c5, c6⟩, ⟨b1', b2, b3, b4, ⟨b5, b6⟩, b7, b8, b9⟩, hR⟩ := h
  refine ⟨⟨h1.2.2.2.1, v1, ⟨hI, hs⟩, fun x hx => (h9 x hx).2, fun k hk => ?_⟩, fun k hk => ?_, ⟨fun k hk => b5 k (by omega), b6⟩, ⟨b7, b8, b9⟩, c3, c5⟩
  · obtain ⟨w1, w2, w3, w4⟩ := v4 k hk
    exact ⟨w1, w2, w3⟩
  · obtain ⟨la, l1, l2, l3⟩ := b1' k hk
    obtain ⟨o1, o2⟩ := rl_on f0 (f0 + (k : Int)) I hI
    have hu : ru f0 (f0 + (k : Int)) I = 0 := (ru_rg f0 (f0 + (k : Int)) I).2.1 hI
    rw [hu] at l3
    refine ⟨_, la, _, l3, ⟨by rw [List.length_map]; exact o1, l1.trans o1, by rw [List.length_map]; exact o1⟩, fun r hr => ?_⟩
    obtain ⟨s, s1, s2⟩ := o2 r hr
    have hrl : r < (rl f0 (f0 + (k : Int)) I).length := by omega
    have hz := h9 _ (on_get hr)
    have hm1 : ((rl f0 (f0 + (k : Int)) I).map (fun z => z.1)).getD r 0 = ((rl f0 (f0 + (k : Int)) I).getD r (0, 0, 0)).1 := getD_map1 (fun z : Int × Int × Int => z.1) (0, 0, 0) hrl
    have hm3 : ((rl f0 (f0 + (k : Int)) I).map (fun z => z.2.2)).getD r 0 = ((rl f0 (f0 + (k : Int)) I).getD r (0, 0, 0)).2.2 := getD_map1 (fun z : Int × Int × Int => z.2.2) (0, 0, 0) hrl
    have hne : ((rl f0 (f0 + (k : Int)) I).getD r (0, 0, 0)).2.1 ≠ -9 := by
      rw [s1]
      show (if ((on (f0 + (k : Int)) I).getD r (0, 0, 0, 0)).1 = 27 then s else if ((on (f0 + (k : Int)) I).getD r (0, 0, 0, 0)).1 = 24 then ((on (f0 + (k : Int)) I).getD r (0, 0, 0, 0)).2.1 - f0 else ((on (f0 + (k : Int)) I).getD r (0, 0, 0, 0)).2.1) ≠ -9
      by_cases e1 : ((on (f0 + (k : Int)) I).getD r (0, 0, 0, 0)).1 = 27
      · rw [if_pos e1]; have := (s2 e1).1; omega
      · rw [if_neg e1]
        by_cases e2 : ((on (f0 + (k : Int)) I).getD r (0, 0, 0, 0)).1 = 24
        · rw [if_pos e2]; have := hz.2.2.1 e2; omega
        · rw [if_neg e2]; exact hz.1
    have hla : la.getD r 0 = ((rl f0 (f0 + (k : Int)) I).getD r (0, 0, 0)).2.1 := (l2 r (by omega) (Or.inr (lo_no hI))).trans (gA_n hne)
    refine ⟨s, ?_, s2⟩
    rw [hm1, hm3, hla]
    exact s1
/-- find -/
theorem fdq {q : Nat} (hQ : kQ f0 I F S) (hq : q < F.length) (ha : -2147483648 ≤ a ∧ a ≤ 2147483647) : wJ (pe_GA xs) wY0 M d t_MP_find ((pe_at t_MP_find.bl 0).getD (0, [])).2 [(0, (2, (nP q : Int))), (1, (0, a))] [] S (fun o Z => S = Z ∧ o = .inl (some (0, vix (F.getD q (-1, 0, [])).2.2 a))) := by
  obtain ⟨lo, la, lb, a1, a2, a3⟩ := hQ.2.1 q hq
  have hv := hQ.1.2.1
  refine wJ_mono (fd_r (f := q) (by omega) a1 ha) (fun o Z hz => ⟨hz.1, hz.2.trans (congrArg (fun z => Sum.inl (some (0, z))) (vix_ix (hQ.1.2.2.2.2 q hq).2.1))⟩)
/-- the loop that goes outward -/
theorem kp_n {R : Option (Int × Int)} (hQ : kQ f0 I F S) (hPk : w_pr wY0 S (nP k)) (hkk : k < 400) (ha : -2147483648 ≤ a ∧ a ≤ 2147483647) (hend : ∀ (q : Nat) (up : Int), q < F.length → (0 ≤ up ∧ up ≤ 400) → ((q = 0 ∧ R = none) ∨ (0 < q ∧ R = some (up, vix (F.getD q (-1, 0, [])).2.2 a) ∧ 0 ≤ vix (F.getD q (-1, 0, [])).2.2 a)) → wJ (pe_GA xs) wY0 M (d + 1) t_M_keepsPart ((pe_at t_M_keepsPart.bl 5).getD (0, [])).2 [(0, (2, 237)), (1, (0, (k : Int))), (2, (2, (nP k : Int))), (3, (0, f0 + (k : Int))), (4, (0, (r : Int))), (5, (0, op)), (6, (0, a)), (7, (0, b)), (8, (0, up)), (9, (0, (q : Int)))] [] S Q) : ∀ (m q fu : Nat) (up : Int), q < m → q < F.length → q < fu → (0 ≤ up ∧ up + (q : Int) < 400) → rvf f0 F a fu (f0 + (q : Int)) up = R → wJ (pe_GA xs) wY0 M (d + 1) t_M_keepsPart ((pe_at t_M_keepsPart.bl 4).getD (0, [])).2 [(0, (2, 237)), (1, (0, (k : Int))), (2, (2, (nP k : Int))), (3, (0, f0 + (k : Int))), (4, (0, (r : Int))), (5, (0, op)), (6, (0, a)), (7, (0, b)), (8, (0, up)), (9, (0, (q : Int)))] [] S Q := by
  intro m
  induction m with
  | zero => intro q fu up hm; exact absurd hm (Nat.not_lt_zero _)
  | succ m ih =>
    intro q fu up hm hqF hfu hup hR
    have hv := hQ.1.2.1
    obtain ⟨w1, w2, w3⟩ := hQ.1.2.2.2.2 q hqF
    obtain ⟨lo, la, lb, a1, a2, a3⟩ := hQ.2.1 q hqF
    have h286 := hQ.2.2.1.1 q hqF
    have hl286 := hQ.2.2.1.2
    have hfg : pz_f f0 F (f0 + (q : Int)) = F.getD q (-1, 0, []) := by unfold pz_f; rw [show (f0 + (q : Int) - f0).toNat = q by omega]
    obtain ⟨fu, rfl⟩ : ∃ g : Nat, fu = g + 1 := ⟨fu - 1, by omega⟩
    have hrg := vix_rg (F.getD q (-1, 0, [])).2.2 a
    have hq0 : q = 0 → R = none := fun e => by
      rcases w1 with ⟨e1, e2, e3⟩ | ⟨e1, e2⟩
      · rw [← hR, rvf_1 (by omega) (by rw [hfg, e3]; rfl), hfg, e2, rvf_n]
      · omega
    obtain ⟨q2, hq2⟩ : ∃ q2 : Nat, 0 < q → q2 < q ∧ (F.getD q (-1, 0, [])).1 = f0 + (q2 : Int) ∧ S (nP q) 0 = (q2 : Int) := by
      refine ⟨((F.getD q (-1, 0, [])).1 - f0).toNat, fun e => ?_⟩
      rcases w1 with ⟨e1, e2, e3⟩ | ⟨e1, e2⟩
      · omega
      · refine ⟨by omega, by omega, a1.1.1.trans ?_⟩
        unfold aro
        rw [if_neg (by omega)]
        omega
    have hpk : w_pr wY0 S (nP k) := hPk
    refine wa_iload (n := 9) rfl ?_
    refine wa_ifle (w_rg0 (by omega) (by omega)) ⟨_, rfl⟩ (fun c101 => ?_) (fun c101 => ?_)
    · skip
      refine wJ_S (hend q up hqF ⟨by omega, by omega⟩ ?_) ⟨rfl, rfl, rfl, rfl, rfl, rfl, rfl, rfl, rfl, rfl, trivial⟩
      by_cases e : q = 0
      · exact Or.inl ⟨e, hq0 e⟩
      · refine Or.inr ⟨by omega, ?_, by omega⟩
        rw [← hR, rvf_2 (by omega) (by rw [hfg]; omega), hfg]
    · skip
      refine wa_aload_n (n := 0) rfl ?_
      refine wb_gf4 237 rfl (wy_pr rfl) wt_237 wf_15_24 (v := 286) wl_237_24 ?_
      refine wa_iload (n := 9) rfl ?_
      refine wb_aaldO 286 rfl (wy_pr rfl) wt_286 (by omega) (n := 400) (hl286) (by omega) (v := (nP q : Int)) (h286) ?_
      refine wa_iload (n := 6) rfl ?_
      refine wa_cv (nP q) rfl a1.2.1.1 (wt_P0 (by omega)) (M2 := fun _ => False) rfl at_MP_find ⟨_, rfl⟩ rfl rfl ⟨(Or.inr ⟨wy_pr rfl, fun q => q⟩), trivial, (Or.inr ⟨hpk, fun q => q⟩), trivial, trivial, trivial, trivial, trivial, trivial, trivial, trivial⟩ trivial (fun _ _ q => False.elim q) (fdq hQ hqF ha) (fun oq102 Sq102 hp103 q102 => ?_)
      rcases q102 with ⟨rfl, rfl⟩
      show wJ _ _ _ _ _ _ _ _ _ _
      refine wa_ifge (w_rg0 (by omega) (by omega)) ⟨_, rfl⟩ (fun c104 => ?_) (fun c104 => ?_)
      · skip
        refine wJ_S (hend q up hqF ⟨by omega, by omega⟩ ?_) ⟨rfl, rfl, rfl, rfl, rfl, rfl, rfl, rfl, rfl, rfl, trivial⟩
        by_cases e : q = 0
        · exact Or.inl ⟨e, hq0 e⟩
        · refine Or.inr ⟨by omega, ?_, by omega⟩
          rw [← hR, rvf_2 (by omega) (by rw [hfg]; omega), hfg]
      · skip
        refine wa_aload_n (n := 0) rfl ?_
        refine wb_gf4 237 rfl (wy_pr rfl) wt_237 wf_15_24 (v := 286) wl_237_24 ?_
        refine wa_iload (n := 9) rfl ?_
        refine wb_aaldO 286 rfl (wy_pr rfl) wt_286 (by omega) (n := 400) (hl286) (by omega) (v := (nP q : Int)) (h286) ?_
        refine wb_gfi (nP q) rfl a1.2.1.1 (wt_P0 (by omega)) wf_14_0 (v := (q2 : Int)) ((hq2 (by omega)).2.2) (fun r105 => ?_)
        refine wa_istore (n := 9) rfl ?_
        refine wa_iinc rfl rfl ?_
        refine wa_goto ⟨_, rfl⟩ ?_
        have hq3 := hq2 (by omega)
        exact wJ_S (ih q2 fu (up + 1) (by omega) (by omega) (by omega) (by omega) (by rw [← hR, rvf_1 (by omega) (by rw [hfg]; omega), hfg, hq3.2.1])) ⟨rfl, rfl, rfl, rfl, rfl, rfl, rfl, rfl, rfl, rfl, trivial⟩
end Wcu
