/-! PART ke: a step of a task, on both sides: variables and globals set, funs, lists and objects made. -/
section Wke
variable {Sb : wS} {xs : List (Nat × List Int32)} {d : Nat} {S0 S Z : wS} {p w m : Nat} {HT : Int → Int} {cs : List hCR} {ms : List hMR} {os : Int → List Int} {X : List (List Int)} {mo t n B B2 oq : Int} {fa : Int → Int} {WE : aA → Prop} {A A2 : aA} {K2 : aK} {ml : List Nat} {T2 : List aO} {L2 : List aC} {G2 : Int → aV} {H2 : List aH} {c2 : Int → Int} {mk rk : Nat → Int → Prop} {k : Int} {o : aO} {T : List aO} {L : List aC} {H : List aH} {cf : Int → Int} {c : Int → Int}
theorem cR_u (h : cRel S0 p HT cs ms os X mo A S) : S 150 0 = a_c A 0 ∧ S 150 1 = a_c A 1 ∧ S 150 2 = a_c A 2 ∧ S 150 3 = a_c A 3 ∧ S 150 4 = a_c A 4 ∧ S 72 11 = a_c A 11 := by
  obtain ⟨u, ⟨h11, -⟩, -⟩ := h.2.2.2.2.2.2.2.1
  exact ⟨u 0 (by first | decide | omega), u 1 (by first | decide | omega), u 2 (by first | decide | omega), u 3 (by first | decide | omega), u 4 (by first | decide | omega), h11⟩
theorem rR_u (h : rRun S0 Sb HT cs ms os X mo t A S) : S 237 62 = a_c A 0 ∧ S 237 63 = a_c A 1 ∧ S 237 64 = a_c A 2 ∧ S 237 65 = a_c A 3 ∧ S 237 66 = a_c A 4 ∧ S 237 81 = a_c A 11 ∧ 0 ≤ S 237 82 ∧ 0 ≤ S 237 94 ∧ S 237 82 + S 237 94 ≤ S 237 63 := by
  obtain ⟨u, h11, -, -, -, h8⟩ := h.1.2.2.2.2.2.2.2.1
  exact ⟨u 0 (by first | decide | omega), u 1 (by first | decide | omega), u 2 (by first | decide | omega), u 3 (by first | decide | omega), u 4 (by first | decide | omega), h11, h8⟩
theorem cCw_of (z0 : Z 150 0 = c 0) (z1 : Z 150 1 = c 1) (z2 : Z 150 2 = c 2) (z3 : Z 150 3 = c 3) (z4 : Z 150 4 = c 4) (z11 : Z 72 11 = c 11) : cCw c Z := ⟨fun i hi => match i, hi with
  | 0, _ => z0
  | 1, _ => z1
  | 2, _ => z2
  | 3, _ => z3
  | 4, _ => z4, z11⟩
theorem rCw_of (z0 : Z 237 62 = c 0) (z1 : Z 237 63 = c 1) (z2 : Z 237 64 = c 2) (z3 : Z 237 65 = c 3) (z4 : Z 237 66 = c 4) (z11 : Z 237 81 = c 11) (z8 : 0 ≤ Z 237 82 ∧ 0 ≤ Z 237 94 ∧ Z 237 82 + Z 237 94 ≤ Z 237 63) : rCw c Z := ⟨⟨fun i hi => match i, hi with
  | 0, _ => z0
  | 1, _ => z1
  | 2, _ => z2
  | 3, _ => z3
  | 4, _ => z4, z11⟩, z8⟩
theorem cCw_kp (h : cRel S0 p HT cs ms os X mo A S) (hw : isWt w t) (hF : cFm w mk S Z) (hd : ∀ (j : Nat) (x : Int), j = 150 ∨ (j = 72 ∧ x = 11) → ¬ mk j x) : cCw (a_c A) Z := by
  obtain ⟨u0, u1, u2, u3, u4, u5⟩ := cR_u h
  have f := fun (j : Nat) (x : Int) (hj : j = 150 ∨ (j = 72 ∧ x = 11)) => fmG hF hw j x (by omega) (hd j x hj)
  exact cCw_of ((f _ _ (by omega)).trans u0) ((f _ _ (by omega)).trans u1) ((f _ _ (by omega)).trans u2) ((f _ _ (by omega)).trans u3) ((f _ _ (by omega)).trans u4) ((f _ _ (by omega)).trans u5)
theorem rCw_kp (h : rRun S0 Sb HT cs ms os X mo t A S) (hF : rTm t rk S Z) (hd : ∀ x : Int, x = 62 ∨ x = 63 ∨ x = 64 ∨ x = 65 ∨ x = 66 ∨ x = 81 ∨ x = 82 ∨ x = 94 → ¬ rk 237 x) : rCw (a_c A) Z := by
  obtain ⟨u0, u1, u2, u3, u4, u5, u6⟩ := rR_u h
  have f := fun (x : Int) (hx : x = 62 ∨ x = 63 ∨ x = 64 ∨ x = 65 ∨ x = 66 ∨ x = 81 ∨ x = 82 ∨ x = 94) => tmG hF 237 x (by unfold rKp; omega) (hd x hx)
  refine rCw_of ((f _ (by omega)).trans u0) ((f _ (by omega)).trans u1) ((f _ (by omega)).trans u2) ((f _ (by omega)).trans u3) ((f _ (by omega)).trans u4) ((f _ (by omega)).trans u5) ?_
  rw [f 82 (by omega), f 94 (by omega), f 63 (by omega)]
  exact u6
theorem wc_B (h : wCt S0 B A) (hB : B ≤ B2 ∧ B2 ≤ 600000) (hl : L2.length = (a_L A).length) : wCt S0 B2 (u_W A t K2 (a_T A) L2 G2 (a_H A) (a_c A)) := by
  obtain ⟨⟨b1, b2⟩, b3⟩ := wCt_B h hB
  refine ⟨⟨?_, b2⟩, b3⟩
  show ((a_T A).length : Int) + (L2.length : Int) ≤ _
  rw [hl]
  exact b1
theorem gDc_s {i k : Nat} {x : aC} (hi : i < L.length) : (L.set i x).getD k (0, []) = if k = i then x else L.getD k (0, []) := by
  by_cases q : k = i
  · rw [if_pos q, q, List.getD_eq_getElem?_getD, List.getElem?_set_self hi]
    rfl
  · rw [if_neg q, List.getD_eq_getElem?_getD, List.getElem?_set_ne (fun z => q z.symm), ← List.getD_eq_getElem?_getD]
theorem wCl_ls {i : Nat} {l : List aV} (h : wCl S0 fa T L cf) (hi : i < L.length) (hl : l.length = (L.getD i (0, [])).2.length) : wCl S0 fa T (L.set i ((L.getD i (0, [])).1, l)) cf := by
  refine ⟨fun k hk => ?_, fun k k0 k1 k5 => ?_⟩
  · rw [List.length_set] at hk
    have z := h.1 k hk
    rw [gDc_s hi]
    by_cases q : k = i
    · subst q
      rw [if_pos rfl]
      refine ⟨z.1, ?_, z.2.2⟩
      show (l.length : Int) = _
      rw [hl]
      exact z.2.1
    · rw [if_neg q]
      exact z
  · rw [List.length_set]
    exact h.2 k k0 k1 k5
theorem lsc_v {i j : Nat} {v : aV} (h : ∀ c ∈ L, ∀ v ∈ c.2, vG T n v) (hi : i < L.length) (hv : vG T n v) : ∀ c ∈ L.set i ((L.getD i (0, [])).1, (L.getD i (0, [])).2.set j v), ∀ v ∈ c.2, vG T n v := fun c hc u hu => by
  rcases List.mem_or_eq_of_mem_set hc with z | z
  · exact h c z u hu
  · rw [z] at hu
    rcases List.mem_or_eq_of_mem_set hu with y | y
    · refine h (L.getD i (0, [])) ?_ u y
      rw [List.getD_eq_getElem?_getD, List.getElem?_eq_getElem hi]
      exact List.getElem_mem _
    · rw [y]
      exact hv
theorem kc_ls {K : aK} (h : wKc T L cf K) (hl : L2.length = L.length) : wKc T L2 cf K := fun f hf => by
  have z := h f hf
  rw [hl]
  exact z
theorem tO_x : tO (T ++ [o]) (T.length : Int) = o := by
  unfold tO
  rw [show ((T.length : Int)).toNat = T.length by omega, List.getD_eq_getElem?_getD, List.getElem?_append_right (Nat.le_refl _)]
  simp
theorem tKp_n : tKp T (T ++ [o]) := ⟨by rw [List.length_append]; omega, fun k k0 k1 => by rw [tO_l k0 k1]; exact ⟨rfl, rfl, rfl⟩⟩
theorem wCl_n (h : wCl S0 fa T L cf) (h5 : o.1 = 5 → (0 ≤ o.2.2.1 ∧ o.2.2.1 < S0 237 34) ∧ (fa o.2.2.1 = -1 ∨ ((0 ≤ o.2.2.2.1 ∧ o.2.2.2.1 < (L.length : Int)) ∧ cf o.2.2.2.1 = fa o.2.2.1))) : wCl S0 fa (T ++ [o]) L cf := by
  refine ⟨h.1, fun k k0 k1 k5 => ?_⟩
  rw [List.length_append] at k1
  simp only [List.length_cons, List.length_nil] at k1
  by_cases q : k < (T.length : Int)
  · rw [tO_l k0 q] at k5 ⊢
    exact h.2 k k0 q k5
  · rw [show k = (T.length : Int) by omega, tO_x] at k5 ⊢
    exact h5 k5
theorem wCt_n (h : wCt S0 B A) (hB : B ≤ B2 ∧ B2 ≤ 600000) (hc : c2 0 = a_c A 0 + 1 ∧ c2 0 ≤ 8000 ∧ a_c A 1 ≤ c2 1 ∧ c2 1 ≤ 60000 ∧ ∀ i : Int, i ≠ 0 → i ≠ 1 → c2 i = a_c A i) (ho : (o.2.2.2.2.2.2.length : Int) ≤ c2 1 ∧ o.2.2.2.2.1 = -1 ∧ o.2.2.2.2.2.1 = 0) : wCt S0 B2 (u_W A t K2 (a_T A ++ [o]) (a_L A) G2 (a_H A) c2) := by
  obtain ⟨b1, b2, b3, b4, b5, b6, b7, b8, b9⟩ := wCt_B h hB
  obtain ⟨d0, d1, d2, d3, d4⟩ := hc
  have l : ((a_T A ++ [o]).length : Int) = ((a_T A).length : Int) + 1 := by simp
  refine ⟨⟨?_, d1⟩, ⟨?_, d3, fun x hm => ?_⟩, ?_, ?_, ?_, ⟨?_, ?_, fun i i0 i1 => ?_⟩, b7, fun k k0 k1 => ?_, b9⟩
  · show ((a_T A ++ [o]).length : Int) + ((a_L A).length : Int) ≤ c2 0
    omega
  · show 0 ≤ c2 1
    omega
  · rcases List.mem_append.mp hm with z | z
    · have := b2.2.2 x z
      show (x.2.2.2.2.2.2.length : Int) ≤ c2 1
      omega
    · rw [List.mem_singleton.mp z]
      exact ho.1
  · show 0 ≤ c2 2 ∧ c2 2 ≤ 12000
    rw [d4 2 (by first | decide | omega) (by first | decide | omega)]
    exact b3
  · show 0 ≤ c2 3 ∧ c2 3 ≤ 200000
    rw [d4 3 (by first | decide | omega) (by first | decide | omega)]
    exact b4
  · show 0 ≤ c2 4 ∧ c2 4 ≤ 4000 ∧ ((a_H A).length : Int) ≤ c2 4 + 1
    rw [d4 4 (by first | decide | omega) (by first | decide | omega)]
    exact b5
  · show 0 ≤ c2 11 ∧ c2 11 ≤ B2
    rw [d4 11 (by first | decide | omega) (by first | decide | omega)]
    exact b6.1
  · show 0 ≤ c2 19 ∧ c2 19 ≤ B2
    rw [d4 19 (by first | decide | omega) (by first | decide | omega)]
    exact b6.2.1
  · show 0 ≤ c2 i ∧ c2 i ≤ B2
    rw [d4 i (by omega) (by omega)]
    exact b6.2.2 i i0 i1
  · show (-1 ≤ (tO (a_T A ++ [o]) k).2.2.2.2.1 ∧ (tO (a_T A ++ [o]) k).2.2.2.2.1 ≤ c2 11) ∧ 0 ≤ (tO (a_T A ++ [o]) k).2.2.2.2.2.1 ∧ (tO (a_T A ++ [o]) k).2.2.2.2.2.1 ≤ c2 11
    replace k1 : k < ((a_T A ++ [o]).length : Int) := k1
    rw [d4 11 (by first | decide | omega) (by first | decide | omega)]
    by_cases q : k < ((a_T A).length : Int)
    · rw [tO_l k0 q]
      exact b8 k k0 q
    · rw [show k = ((a_T A).length : Int) by omega, tO_x, ho.2.1, ho.2.2]
      have := b9.1
      have := b6.1.1
      omega
theorem ob_n (h : ∀ x ∈ T, ∀ y ∈ x.2.2.2.2.2.2, vG T n y.2) (ho : ∀ y ∈ o.2.2.2.2.2.2, vG (T ++ [o]) n y.2) : ∀ x ∈ T ++ [o], ∀ y ∈ x.2.2.2.2.2.2, vG (T ++ [o]) n y.2 := fun x hx y hy => by
  rcases List.mem_append.mp hx with z | z
  · exact vG_mo (h x z y hy) tKp_n
  · rw [List.mem_singleton.mp z] at hy
    exact ho y hy
theorem kv_mo {K : aK} (h : wKv T n K) (e : tKp T T2) : wKv T2 n K := ⟨fun v hv => vG_mo (h.1 v hv) e, fun f hf => vG_mo (h.2.1 f hf) e, fun hs => vG_mo (h.2.2 hs) e⟩
/-- shapes stay as they are when a thing is made -/
theorem cSw_nw (h : cSw S T H) (hw : wSh T H) (f : ∀ (j : Nat) (x : Int), (144 ≤ j ∧ j ≤ 149) ∨ (j = 72 ∧ x = 8) → Z j x = S j x) (f1 : ∀ x : Int, 0 ≤ x → x < (T.length : Int) → Z 132 x = S 132 x) (f2 : Z 132 (T.length : Int) = -1) : cSw Z (T ++ [o]) H := by
  have g : cSw Z T H := cSw_ag h (fun j x hj => by
    rcases hj with z | ⟨rfl, z1, z2⟩ | z
    · exact f j x (Or.inl z)
    · exact f1 x z1 z2
    · exact f j x (Or.inr z))
  refine ⟨g.1, g.2.1, g.2.2.1, fun k k0 k1 => ?_⟩
  rw [List.length_append] at k1
  simp only [List.length_cons, List.length_nil] at k1
  by_cases q : k < (T.length : Int)
  · exact g.2.2.2 k k0 q
  · rw [show k = (T.length : Int) by omega, f2]
    rcases aFs_r (be := -1) (pr := (T.length : Int)) (nm := -1) H 0 with z | ⟨i, i1, i2, -⟩
    · exact z.1.symm
    · exfalso
      have y := hw.2.2.2.2.2.1 (i : Int) (by omega) (by omega)
      have e : qPr H (i : Int) = (T.length : Int) := i2.1
      rw [e] at y
      rcases y with y | y
      · omega
      · have := y.1.2
        omega

theorem sq_2 (h : hyS S0 p X fa ms n WE B B2 w t A) (hWw : WEw WE) (ho : opI S0 (a_K A t) = 2)  : stO xs d S0 p HT cs ms os X mo fa n WE B2 w t A := by
  obtain ⟨hp, hw, hx, hA, hE, hB, hr⟩ := h
  have hk := wT_of hA hw
  have hv := wV_of hA hw
  have hab := hab_x hx hk hr
  have hc := fun (S : wS) (hS : cRel S0 p HT cs ms os X mo A S) => hco_c hx hk hr hw ho hS
  have hq := fun {Sb : wS} (S : wS) (hS : rRun S0 Sb HT cs ms os X mo t A S) => hqo_r hx hk hr hw ho hS
  have hh := tyt_h hx hk hr
  rw [ho] at hh
  have hz := opS hx hk hr
  rw [ho] at hz
  have hu := hA.2.2.2.2.1
  replace hh : 1 ≤ (a_K A t).1.length := by have z : (1 : Int) ≤ ((a_K A t).1.length : Int) := hh; omega
  obtain ⟨cf, c1, c2⟩ := wC_of hA hw
  obtain ⟨v1, v2, v3, v4⟩ := op_v hx hk hr (Or.inr ho) c1 c2
  have hi2 : (cO (aAr (a_L A)) (opA S0 (a_K A t)).toNat ((a_K A t).2.1.getD ((a_K A t).2.1.length - 1) (0, 0, 0, (0, 0, []), 0, 0, 0)).2.2.1).toNat < (a_L A).length := by have := v3 (opA S0 (a_K A t)).toNat (Nat.le_refl _); omega
  have hw0 := hw
  rcases hw with ⟨rfl, rfl⟩ | ⟨rfl, rfl⟩
  · refine stO_W (ml := [217, 218]) (mk := fun j _ => j = 141 ∨ j = 142) (rk := fun j _ => j = 335 ∨ j = 336) (T2 := a_T A) (L2 := ((a_L A).set (cO (aAr (a_L A)) (opA S0 (a_K A 0)).toNat ((a_K A 0).2.1.getD ((a_K A 0).2.1.length - 1) (0, 0, 0, (0, 0, []), 0, 0, 0)).2.2.1).toNat (((a_L A).getD (cO (aAr (a_L A)) (opA S0 (a_K A 0)).toNat ((a_K A 0).2.1.getD ((a_K A 0).2.1.length - 1) (0, 0, 0, (0, 0, []), 0, 0, 0)).2.2.1).toNat (0, [])).1, ((a_L A).getD (cO (aAr (a_L A)) (opA S0 (a_K A 0)).toNat ((a_K A 0).2.1.getD ((a_K A 0).2.1.length - 1) (0, 0, 0, (0, 0, []), 0, 0, 0)).2.2.1).toNat (0, [])).2.set (opB S0 (a_K A 0)).toNat ((a_K A 0).1.getD ((a_K A 0).1.length - 1) (0, 0, []))))) (G2 := a_G A) (H2 := a_H A) (c2 := a_c A) hp hw0 (by first | decide | omega) hA (wf_W (k := -1) hA hWw hw0 (tyt_g (lp := (a_K A 0).1) hk hr (by rw [ho]; decide) hk.1.1 (by rw [ho, show mde 2 (opA S0 (a_K A 0)) (mes (S0 304 (opA S0 (a_K A 0))) (S0 306 (opA S0 (a_K A 0)))) = 0 from rfl]; omega)) tKp_r hA.2.1 (kv_N hv) hA.2.2.1.2.1 (lsc_v hA.2.2.1.2.2.1 hi2 (hv.1 _ (tp_m (by omega)))) hA.2.2.1.2.2.2.1 (fun cf c1 c2 => ⟨cf, wCl_ls c1 hi2 (List.length_set), kc_ls (kc_le c2 fLe_n) (List.length_set), Nat.le_of_eq (List.length_set).symm, fun _ _ => rfl⟩) (wc_B hu hB (List.length_set)) hA.2.2.2.2.2.1.2.1 (eCh_rfl hA.2.1) (Int.le_refl _)) (fun j x hm => mw_2 hm) (fun j x hm => by unfold rWd9; omega) (fun _ _ _ => rfl) (fun S hS => ?_) (fun S hS => ?_)
    · refine wJ_mono (z2_215 (hc S hS).1 (hc S hS).2 hab hS.2.2.1.1 v1 v2 v3 v4 hh) (fun o Z z => ⟨z.1, z.2.1, z.2.2.1, z.2.2.2, ?_, ?_, ?_⟩)
      · exact cR_Sw (A := A) hS z.2.2.1 hw0 (fun j x hj hm => by unfold shD at hj; omega)
      · exact cR_Po (A := A) hS z.2.2.1 hw0 (fun j x hj hm => by unfold poD at hj; omega)
      · exact cCw_kp hS hw0 z.2.2.1 (fun j x hj hm => by omega)
    · obtain ⟨sl, hW⟩ := hS.1.2.2.1.1
      refine rtu_mo (rn2 (hq S hS).1 (hq S hS).2.2 (hq S hS).2.1 hab hW v1 v2 v3 v4 hh) (fun Z dn z => ⟨z.1, z.2.1, z.2.2.1, ⟨sl, z.2.2.2⟩, ?_, ?_⟩)
      · exact rR_H (A := A) hS.1 z.2.2.1 (fun j x hj hm => by omega)
      · exact rCw_kp hS z.2.2.1 (fun x hj hm => by omega)
  · refine stO_W (ml := [228, 229]) (mk := fun j _ => j = 141 ∨ j = 142) (rk := fun j _ => j = 335 ∨ j = 336) (T2 := a_T A) (L2 := ((a_L A).set (cO (aAr (a_L A)) (opA S0 (a_K A 1)).toNat ((a_K A 1).2.1.getD ((a_K A 1).2.1.length - 1) (0, 0, 0, (0, 0, []), 0, 0, 0)).2.2.1).toNat (((a_L A).getD (cO (aAr (a_L A)) (opA S0 (a_K A 1)).toNat ((a_K A 1).2.1.getD ((a_K A 1).2.1.length - 1) (0, 0, 0, (0, 0, []), 0, 0, 0)).2.2.1).toNat (0, [])).1, ((a_L A).getD (cO (aAr (a_L A)) (opA S0 (a_K A 1)).toNat ((a_K A 1).2.1.getD ((a_K A 1).2.1.length - 1) (0, 0, 0, (0, 0, []), 0, 0, 0)).2.2.1).toNat (0, [])).2.set (opB S0 (a_K A 1)).toNat ((a_K A 1).1.getD ((a_K A 1).1.length - 1) (0, 0, []))))) (G2 := a_G A) (H2 := a_H A) (c2 := a_c A) hp hw0 (by first | decide | omega) hA (wf_W (k := -1) hA hWw hw0 (tyt_g (lp := (a_K A 1).1) hk hr (by rw [ho]; decide) hk.1.1 (by rw [ho, show mde 2 (opA S0 (a_K A 1)) (mes (S0 304 (opA S0 (a_K A 1))) (S0 306 (opA S0 (a_K A 1)))) = 0 from rfl]; omega)) tKp_r hA.2.1 (kv_N hv) hA.2.2.1.2.1 (lsc_v hA.2.2.1.2.2.1 hi2 (hv.1 _ (tp_m (by omega)))) hA.2.2.1.2.2.2.1 (fun cf c1 c2 => ⟨cf, wCl_ls c1 hi2 (List.length_set), kc_ls (kc_le c2 fLe_n) (List.length_set), Nat.le_of_eq (List.length_set).symm, fun _ _ => rfl⟩) (wc_B hu hB (List.length_set)) hA.2.2.2.2.2.1.2.1 (eCh_rfl hA.2.1) (Int.le_refl _)) (fun j x hm => mw_2 hm) (fun j x hm => by unfold rWd9; omega) (fun _ _ _ => rfl) (fun S hS => ?_) (fun S hS => ?_)
    · refine wJ_mono (z2_226 (hc S hS).1 (hc S hS).2 hab hS.2.2.1.1 v1 v2 v3 v4 hh) (fun o Z z => ⟨z.1, z.2.1, z.2.2.1, z.2.2.2, ?_, ?_, ?_⟩)
      · exact cR_Sw (A := A) hS z.2.2.1 hw0 (fun j x hj hm => by unfold shD at hj; omega)
      · exact cR_Po (A := A) hS z.2.2.1 hw0 (fun j x hj hm => by unfold poD at hj; omega)
      · exact cCw_kp hS hw0 z.2.2.1 (fun j x hj hm => by omega)
    · obtain ⟨sl, hW⟩ := hS.1.2.2.1.1
      refine rtu_mo (rn2 (hq S hS).1 (hq S hS).2.2 (hq S hS).2.1 hab hW v1 v2 v3 v4 hh) (fun Z dn z => ⟨z.1, z.2.1, z.2.2.1, ⟨sl, z.2.2.2⟩, ?_, ?_⟩)
      · exact rR_H (A := A) hS.1 z.2.2.1 (fun j x hj hm => by omega)
      · exact rCw_kp hS z.2.2.1 (fun x hj hm => by omega)

theorem sq_4 (h : hyS S0 p X fa ms n WE B B2 w t A) (hWw : WEw WE) (ho : opI S0 (a_K A t) = 4)  : stO xs d S0 p HT cs ms os X mo fa n WE B2 w t A := by
  obtain ⟨hp, hw, hx, hA, hE, hB, hr⟩ := h
  have hk := wT_of hA hw
  have hv := wV_of hA hw
  have hab := hab_x hx hk hr
  have hc := fun (S : wS) (hS : cRel S0 p HT cs ms os X mo A S) => hco_c hx hk hr hw ho hS
  have hq := fun {Sb : wS} (S : wS) (hS : rRun S0 Sb HT cs ms os X mo t A S) => hqo_r hx hk hr hw ho hS
  have hh := tyt_h hx hk hr
  rw [ho] at hh
  have hz := opS hx hk hr
  rw [ho] at hz
  have hu := hA.2.2.2.2.1
  replace hh : 1 ≤ (a_K A t).1.length := by have z : (1 : Int) ≤ ((a_K A t).1.length : Int) := hh; omega
  have ha : 0 ≤ (opA S0 (a_K A t)) ∧ (opA S0 (a_K A t)) < 4000 := by have := hz.2.2.2.1 (Or.inr rfl); have := hx.2.2.2.2.2.2; omega
  have ht := hv.1 ((a_K A t).1.getD ((a_K A t).1.length - 1) (0, 0, [])) (tp_m (by omega))
  have hn1 : ((a_K A t).1.getD ((a_K A t).1.length - 1) (0, 0, [])).1 ≠ -1 := by have := ht.1.1.1; omega
  have hGn : ∀ x : Int, ((a_N A).length : Int) ≤ x → (aGs (a_G A) (opA S0 (a_K A t)) ((a_K A t).1.getD ((a_K A t).1.length - 1) (0, 0, [])) x).1 = -1 := fun x hx1 => by
    have q1 := hz.2.2.2.1 (Or.inr rfl)
    have q2 := hA.2.2.2.2.2.1.1.2.1
    rw [aGs_n (by omega)]
    exact hA.2.2.2.2.2.1.1.2.2 x hx1
  have hG : ∀ x : Int, (aGs (a_G A) (opA S0 (a_K A t)) ((a_K A t).1.getD ((a_K A t).1.length - 1) (0, 0, [])) x).1 ≠ -1 → vG (a_T A) n (aGs (a_G A) (opA S0 (a_K A t)) ((a_K A t).1.getD ((a_K A t).1.length - 1) (0, 0, [])) x) := fun x hx1 => by
    by_cases q : x = (opA S0 (a_K A t))
    · rw [aGs_e q]
      exact ht
    · rw [aGs_n q] at hx1 ⊢
      exact hA.2.2.1.2.2.2.1 x hx1
  have hw0 := hw
  rcases hw with ⟨rfl, rfl⟩ | ⟨rfl, rfl⟩
  · refine stO_W (ml := [217, 218, 154, 155]) (mk := fun j x => (j = 153 ∧ x = 2) ∨ j = 154 ∨ j = 155) (rk := fun j _ => 337 ≤ j ∧ j ≤ 339) (T2 := a_T A) (L2 := a_L A) (G2 := (aGs (a_G A) (opA S0 (a_K A 0)) ((a_K A 0).1.getD ((a_K A 0).1.length - 1) (0, 0, [])))) (H2 := a_H A) (c2 := a_c A) hp hw0 (by first | decide | omega) hA (wf_W (k := -1) hA hWw hw0 (tyt_g (lp := (a_K A 0).1) hk hr (by rw [ho]; decide) hk.1.1 (by rw [ho, show mde 4 (opA S0 (a_K A 0)) (mes (S0 304 (opA S0 (a_K A 0))) (S0 306 (opA S0 (a_K A 0)))) = 0 from rfl]; omega)) tKp_r hA.2.1 (kv_N hv) hA.2.2.1.2.1 hA.2.2.1.2.2.1 hG (fun cf c1 c2 => ⟨cf, c1, kc_le c2 fLe_n, Nat.le_refl _, fun _ _ => rfl⟩) (wc_B hu hB rfl) hA.2.2.2.2.2.1.2.1 (eCh_rfl hA.2.1) (Int.le_refl _) (hG2 := Or.inr hGn)) (fun j x hm => mw_g hm) (fun j x hm => by unfold rWd9; omega) (fun _ _ _ => rfl) (fun S hS => ?_) (fun S hS => ?_)
    · refine wJ_mono (z4_215 (hc S hS).1 (hc S hS).2 hab hS.2.2.1.1 ha hh) (fun o Z z => ⟨z.1, z.2.1, z.2.2.1, z.2.2.2, ?_, ?_, ?_⟩)
      · exact cR_Sw (A := A) hS z.2.2.1 hw0 (fun j x hj hm => by unfold shD at hj; omega)
      · exact cR_Po (A := A) hS z.2.2.1 hw0 (fun j x hj hm => by unfold poD at hj; omega)
      · exact cCw_kp hS hw0 z.2.2.1 (fun j x hj hm => by omega)
    · obtain ⟨sl, hW⟩ := hS.1.2.2.1.1
      refine rtu_mo (rn4 (hq S hS).1 (hq S hS).2.2 (hq S hS).2.1 hab hW ha hh hn1) (fun Z dn z => ⟨z.1, z.2.1, z.2.2.1, ⟨sl, z.2.2.2⟩, ?_, ?_⟩)
      · exact rR_H (A := A) hS.1 z.2.2.1 (fun j x hj hm => by omega)
      · exact rCw_kp hS z.2.2.1 (fun x hj hm => by omega)
  · refine stO_W (ml := [228, 229, 154, 155]) (mk := fun j x => (j = 153 ∧ x = 2) ∨ j = 154 ∨ j = 155) (rk := fun j _ => 337 ≤ j ∧ j ≤ 339) (T2 := a_T A) (L2 := a_L A) (G2 := (aGs (a_G A) (opA S0 (a_K A 1)) ((a_K A 1).1.getD ((a_K A 1).1.length - 1) (0, 0, [])))) (H2 := a_H A) (c2 := a_c A) hp hw0 (by first | decide | omega) hA (wf_W (k := -1) hA hWw hw0 (tyt_g (lp := (a_K A 1).1) hk hr (by rw [ho]; decide) hk.1.1 (by rw [ho, show mde 4 (opA S0 (a_K A 1)) (mes (S0 304 (opA S0 (a_K A 1))) (S0 306 (opA S0 (a_K A 1)))) = 0 from rfl]; omega)) tKp_r hA.2.1 (kv_N hv) hA.2.2.1.2.1 hA.2.2.1.2.2.1 hG (fun cf c1 c2 => ⟨cf, c1, kc_le c2 fLe_n, Nat.le_refl _, fun _ _ => rfl⟩) (wc_B hu hB rfl) hA.2.2.2.2.2.1.2.1 (eCh_rfl hA.2.1) (Int.le_refl _) (hG2 := Or.inr hGn)) (fun j x hm => mw_g hm) (fun j x hm => by unfold rWd9; omega) (fun _ _ _ => rfl) (fun S hS => ?_) (fun S hS => ?_)
    · refine wJ_mono (z4_226 (hc S hS).1 (hc S hS).2 hab hS.2.2.1.1 ha hh) (fun o Z z => ⟨z.1, z.2.1, z.2.2.1, z.2.2.2, ?_, ?_, ?_⟩)
      · exact cR_Sw (A := A) hS z.2.2.1 hw0 (fun j x hj hm => by unfold shD at hj; omega)
      · exact cR_Po (A := A) hS z.2.2.1 hw0 (fun j x hj hm => by unfold poD at hj; omega)
      · exact cCw_kp hS hw0 z.2.2.1 (fun j x hj hm => by omega)
    · obtain ⟨sl, hW⟩ := hS.1.2.2.1.1
      refine rtu_mo (rn4 (hq S hS).1 (hq S hS).2.2 (hq S hS).2.1 hab hW ha hh hn1) (fun Z dn z => ⟨z.1, z.2.1, z.2.2.1, ⟨sl, z.2.2.2⟩, ?_, ?_⟩)
      · exact rR_H (A := A) hS.1 z.2.2.1 (fun j x hj hm => by omega)
      · exact rCw_kp hS z.2.2.1 (fun x hj hm => by omega)

end Wke
