/-! PART 9p: the class's readParameters, whole. -/
section W9p
variable {xs : List (Nat × List Int32)} {M : Nat → Prop} {d : Nat} {A B C S Z : wS} {Q : wO → wS → Prop} {T : Int → Int} {n : Int} {c i : Nat}
/-- the head of a member, as it stands in the class's rows -/
def mr_hd (m0 w : Nat) (T : Int → Int) (Z : wS) (k c so st ty f e : Int) : Prop := (Z m0 k = c ∧ Z (m0 + 1) k = so ∧ Z (m0 + 2) k = st ∧ Z (m0 + 3) k = ty) ∧ (0 ≤ so ∧ so ≤ 2) ∧ (so = 2 → Z (m0 + 14) k = 12 ∧ f = e) ∧ (so ≠ 2 → (13 ≤ Z (m0 + 14) k ∧ Z (m0 + 14) k < Z w 7) ∧ wq (Z (w + 1)) (Z (w + 2)) (Z (w + 3)) T f (e - f) (Z (m0 + 14) k))
theorem mr_of {m0 w : Nat} {k c so st ty f e v : Int} {l : List Int} (h : mr_hd m0 w T Z k c so st ty f e) (hp : pm_I m0 Z k l v) : mr_at m0 w T Z k (c, so, st, ty, l, v, f, e) := ⟨h.1, hp, h.2.1, h.2.2.1, h.2.2.2⟩
theorem mr_at_ag {m0 w : Nat} {k : Int} {r : hMR} (h : mr_at m0 w T S k r) (e : ∀ x : Nat, x ≤ 14 → Z (m0 + x) k = S (m0 + x) k) (ew : ∀ x : Nat, x ≤ 3 → Z (w + x) = S (w + x)) : mr_at m0 w T Z k r := by
  have e0 := e 0 (by omega)
  have w0 := ew 0 (by omega)
  rw [Nat.add_zero] at e0 w0
  obtain ⟨h1, ⟨h2, h3, h4, h5⟩, h6, h7, h8⟩ := h
  refine ⟨?_, ⟨(e 4 (by omega)).trans h2, (e 5 (by omega)).trans h3, h4, fun q hq => ?_⟩, h6, ?_, ?_⟩
  · rw [e0, e 1 (by omega), e 2 (by omega), e 3 (by omega)]; exact h1
  · have := e (6 + q) (by omega)
    rw [← Nat.add_assoc] at this
    rw [this]; exact h5 q hq
  · rw [e 14 (by omega)]; exact h7
  · rw [e 14 (by omega), w0, ew 1 (by omega), ew 2 (by omega), ew 3 (by omega)]; exact h8
theorem mr_hd_ag {m0 w : Nat} {k c so st ty f e : Int} (h : mr_hd m0 w T S k c so st ty f e) (ee : ∀ x : Nat, (x ≤ 3 ∨ x = 14) → Z (m0 + x) k = S (m0 + x) k) (ew : ∀ x : Nat, x ≤ 3 → Z (w + x) = S (w + x)) : mr_hd m0 w T Z k c so st ty f e := by
  have e0 := ee 0 (by omega)
  have w0 := ew 0 (by omega)
  rw [Nat.add_zero] at e0 w0
  unfold mr_hd
  rw [e0, ee 1 (by omega), ee 2 (by omega), ee 3 (by omega), ee 14 (by omega), w0, ew 1 (by omega), ew 2 (by omega), ew 3 (by omega)]
  exact h
theorem mr_all_pp {m0 w : Nat} {ms : List hMR} (h : mr_all m0 w T S ms) (g : pp_ag m0 (ms.length : Int) S Z) (hw : 18 < w ∧ w + 3 < m0) : mr_all m0 w T Z ms := by
  refine ⟨h.1, fun k r hk => mr_at_ag (h.2 k r hk) (fun x hx => ?_) (fun x hx => funext fun y => ?_)⟩
  · have : k < ms.length := (List.getElem?_eq_some_iff.mp hk).1
    exact g _ _ (by omega) (by omega)
  · exact g _ _ (by omega) (by omega)
theorem pm_up {m0 j : Nat} {m k x v : Int} {l : List Int} (h : pm_I m0 S m l v) (hj : j < m0 + 4 ∨ m0 + 13 < j) : pm_I m0 (w_up S j k x) m l v := ⟨(w_up_slot (by omega)).trans h.1, (w_up_slot (by omega)).trans h.2.1, h.2.2.1, fun q hq => (w_up_slot (by have := h.2.2.1; omega)).trans (h.2.2.2 q hq)⟩
theorem pk_L_r (B : wS) (so f e q v : Int) (rs : List hMR) (l : List Int) : pk_L B so f e rs (.inr (q, l, v)) = if lx_is (zq B q) 41 = true then (if dp_L (B 239) so f e l rs = true then .inl (7, q) else .inr (lx_ne (zq B q) q, l, v)) else .inl (1, q) := rfl
/-- what readParameters has done -/
def rp_P (m0 : Nat) (m : Int) (T : Int → Int) (n : Int) (c : Nat) (r : (Int × Int) ⊕ (Int × List Int × Int)) (S : wS) (o : wO) (Z : wS) : Prop := match r with
  | .inl (e, q) => ∃ (v : Nat) (Z0 : wS), o = .inr v ∧ pp_ag m0 m S Z0 ∧ rz_ag Z0 Z v (e + 16 * q)
  | .inr (q, l, v) => o = .inl none ∧ pp_ag m0 m S Z ∧ (∃ i : Nat, cx_P T n c i Z ∧ tp T n 1 i = q) ∧ pm_I m0 Z m l v
theorem rp_P_tr {m0 : Nat} {m : Int} {r : (Int × Int) ⊕ (Int × List Int × Int)} {o : wO} (h : pp_ag m0 m A B) (k : rp_P m0 m T n c r B o Z) : rp_P m0 m T n c r A o Z := by
  unfold rp_P at k ⊢
  match r with
  | .inl (e, q) =>
    obtain ⟨v, Z0, k1, k2, k3⟩ := k
    exact ⟨v, Z0, k1, pp_tr h k2, k3⟩
  | .inr (q, l, v) =>
    obtain ⟨k1, k2, k3⟩ := k
    exact ⟨k1, pp_tr h k2, k3⟩
theorem rp_10_73 {ms : List hMR} {kc so st ty f0 e0 : Int} {fi : Nat} (hx : hx_I 241 73 87 92 74 T n c B S) (hP : cx_P T n c i S) (hms : mr_all 97 74 T S ms) (hm : ms.length < 400) (hhd : mr_hd 97 74 T S (ms.length : Int) kc so st ty f0 e0) (hso : so ≠ 0) (hkc : B 241 1 = kc + 1 ∧ 0 ≤ kc ∧ kc < 60) (hfi : S 91 kc = (fi : Int) ∧ fi ≤ ms.length) {l : List Int} {vr : Int} (hpm : pm_I 97 S (ms.length : Int) l vr) : wJ (pe_GA xs) wY0 M (d + 9) t_XT_readParameters ((pe_at t_XT_readParameters.bl 10).getD (0, [])).2 [(0, (2, 61)), (1, (0, (ms.length : Int)))] [] S (rp_P 97 (ms.length : Int) T n c (if lx_is (zq B (tp T n 1 i)) 41 = true then (if dp_L T so f0 e0 l (ms.drop fi) = true then .inl (7, tp T n 1 i) else .inr (tp T n 1 (i + 1), l, vr)) else .inl (1, tp T n 1 i)) S) := by
  have hB : zT B T n := hx.1
  have hT : cx_T 74 T n c S := hx.2.1
  have hI : gI S := hx.2.2.1
  have hW : wd_at S 74 64 := hx.2.2.2.1
  have hrw : rw_I S 74 := hx.2.2.2.2.1
  have hwc : 13 ≤ S 74 7 ∧ S 74 7 ≤ 400000 := hx.2.2.2.2.2.1
  have hR : cn_R 241 73 87 92 74 T B S := hx.2.2.2.2.2.2.1
  have hH : S 61 1 = 73 := hx.2.2.2.2.2.2.2
  have hC : w_CL S := hR.2.2.1
  have hN : S 73 2 = B 241 1 := hR.1
  have hN6 : 0 ≤ B 241 1 ∧ B 241 1 ≤ 60 := hR.2.1
  have hpos4 : S 14 4 = (i : Int) := hP.1
  have hg0 : pg T n c i := hP.2
  have hA0 := pg_at hT hg0
  have h16_0 := hA0.1
  have h15_0 := hA0.2.1
  have hpr0 := hA0.2.2
  have hkr0 := kg_rg T n (tp T n 1 i)
  have hcn : (c : Int) ≤ n ∧ n ≤ 65536 := ⟨hT.2.2.2.2.1, hT.2.2.2.2.2.1⟩
  have hRL := hT.2.2.2.2.2.2
  have hl15 : S 14 3 ≤ S 15 (-1) := hRL.1.2
  have hl16 : S 16 (-1) = S 15 (-1) := hRL.2.1
  have hl17 : S 17 (-1) = S 15 (-1) := hRL.2.2.1
  have hc3 : S 14 3 = (c : Int) + 1 := hT.1
  have hic0 : i ≤ c := hg0.1
  have hcu := mr_of hhd hpm
  have h41 := lx_is_kg (i := i) hB (k := 11) (ch := 41) (by decide) sk_11
  refine wa_aload_n (n := 0) rfl ?_
  refine wb_gf4 61 rfl (wy_pr rfl) wt_61 wf_4_0 (v := 14) wl_61_0 ?_
  refine wa_cv 14 rfl (wy_pr rfl) wt_14 (M2 := fun _ => False) rfl at_XR_kind ⟨_, rfl⟩ rfl rfl ⟨(Or.inr ⟨wy_pr rfl, fun q => q⟩), trivial, trivial⟩ trivial (fun _ _ q => False.elim q) ?_ (fun _ _ _ q => q)
  refine wa_aload_n (n := 0) rfl ?_
  refine wb_gf4 14 rfl (wy_pr rfl) wt_14 wf_6_0 (v := 15) wl_14_0 ?_
  refine wa_aload_n (n := 0) rfl ?_
  refine wb_gfi 14 rfl (wy_pr rfl) wt_14 wf_6_4 (v := (i : Int)) (hpos4) (fun r1 => ?_)
  refine wb_bald 15 rfl (wy_pr rfl) wt_15 (n := (S 15 (-1))) rfl (by omega) (by omega) (v := (kg T n (tp T n 1 i))) (h15_0) (fun r2 => ?_)
  refine wa_ireturn rfl ?_
  show wJ _ _ _ _ _ _ _ _ _ _
  refine wa_bipush (w_rg2 (by omega) (by omega)) ?_
  refine wa_icmpne (w_rg0 (by omega) (by omega)) (w_rg0 (by omega) (by omega)) ⟨_, rfl⟩ (fun c3 => ?_) (fun c3 => ?_)
  · skip
    refine wa_aload_n (n := 0) rfl ?_
    refine wa_bipush (w_rg2 (by omega) (by omega)) ?_
    refine wa_cv 61 rfl (wy_pr rfl) wt_61 (M2 := fun _ => False) rfl at_XT_take ⟨_, rfl⟩ rfl rfl ⟨(Or.inr ⟨wy_pr rfl, fun q => q⟩), trivial, trivial⟩ trivial (fun _ _ q => False.elim q) (ta_c (S := S) (hx_T hx) (show cx_P T n c (i) S from ⟨(hpos4), hg0⟩) rfl hI (k := 11) ⟨by omega, by omega⟩) (fun oq5 Sq5 hp6 q5 => ?_)
    rcases q5 with ⟨ht4, rfl, rfl⟩ | ⟨ht4, v, rfl, hrz⟩
    · skip
      show wJ _ _ _ _ _ _ _ _ _ _
      have hg1 : pg T n c (i + 1) := pg_next hT hg0 (by omega) (by omega)
      have hA1 := pg_at hT hg1
      have h16_1 := hA1.1
      have h15_1 := hA1.2.1
      have hpr1 := hA1.2.2
      have hkr1 := kg_rg T n (tp T n 1 (i + 1))
      have hic1 := hg1.1
      have hlt1 := tp_lt hT hg0 (by omega) (by omega)
      refine wa_return rfl ?_
      first | (exfalso; omega) | (rw [if_pos (h41.2 (by omega)), if_neg (by rw [hdp]; decide)]; exact ⟨rfl, (fun j x a1 a2 => (w_up_no (by omega)).trans (rfl)), ⟨_, (show cx_P T n c (i + 1) (w_up S 14 4 ((i + 1 : Nat) : Int)) from ⟨(w_up_same _ _ _ _), hg1⟩), rfl⟩, pm_up hpm (by omega)⟩)
    · skip
      have hkg := ht4
      refine ⟨rfl, ?_⟩
      rw [if_neg (fun z => hkg (h41.1 z))]
      exact ⟨v, _, rfl, (fun j x a1 a2 => rfl), hrz⟩
  · skip
    refine wa_aload_n (n := 0) rfl ?_
    refine wb_gf5 61 rfl (wy_pr rfl) wt_61 wf_4_1 (v := 73) (hH) (fun r7 => ?_)
    refine wa_iload_n (n := 1) rfl ?_
    refine wa_cv 73 rfl (wy_pr rfl) wt_73 (M2 := fun _ => False) rfl at_XO_isToldAlready ⟨_, rfl⟩ rfl rfl ⟨(Or.inr ⟨wy_pr rfl, fun q => q⟩), trivial, trivial⟩ trivial (fun _ _ q => False.elim q) (ta_73 (S := S) hC hW hms hm hcu hso ⟨by rw [hN]; exact hkc.1, hkc.2⟩ hfi) (fun oq9 Sq9 hp10 q9 => ?_)
    rcases q9 with ⟨rfl, ⟨rfl, hd8⟩ | ⟨rfl, hd8⟩⟩
    · skip
      show wJ _ _ _ _ _ _ _ _ _ _
      have hdp : dp_L T so f0 e0 l (ms.drop fi) = true := hd8
      refine wa_ifeq (w_rg0 (by omega) (by omega)) ⟨_, rfl⟩ (fun c11 => ?_) (fun c11 => ?_)
      · skip
        exact absurd c11 (by omega)
      · skip
        refine wa_aload_n (n := 0) rfl ?_
        refine wa_bipush (w_rg2 (by omega) (by omega)) ?_
        refine wa_cv 61 rfl (wy_pr rfl) wt_61 (M2 := fun _ => False) rfl at_XT_refuse ⟨_, rfl⟩ rfl rfl ⟨(Or.inr ⟨wy_pr rfl, fun q => q⟩), trivial, trivial⟩ trivial (fun _ _ q => False.elim q) (rf_c (S := S) (k := 7) (p := (tp T n 1 i)) (i := (i : Int)) hI (hpos4) (h16_0) ⟨by omega, by have e : S 16 (-1) = S 16 (-1) := rfl; omega⟩ ⟨by omega, by omega⟩ ⟨by omega, by omega⟩) (fun oq13 Sq13 hp14 q13 => ?_)
        rcases q13 with ⟨v, rfl, rz12⟩
        have hrz := rz12
        have hkind : (7 : Int) = 7 := rfl
        refine ⟨rfl, ?_⟩
        rw [if_pos (h41.2 (by omega)), if_pos hdp]
        exact ⟨v, _, rfl, (fun j x a1 a2 => rfl), hrz⟩
    · skip
      show wJ _ _ _ _ _ _ _ _ _ _
      have hdp : dp_L T so f0 e0 l (ms.drop fi) = false := hd8
      refine wa_ifeq (w_rg0 (by omega) (by omega)) ⟨_, rfl⟩ (fun c15 => ?_) (fun c15 => ?_)
      · skip
        refine wa_aload_n (n := 0) rfl ?_
        refine wa_bipush (w_rg2 (by omega) (by omega)) ?_
        refine wa_cv 61 rfl (wy_pr rfl) wt_61 (M2 := fun _ => False) rfl at_XT_take ⟨_, rfl⟩ rfl rfl ⟨(Or.inr ⟨wy_pr rfl, fun q => q⟩), trivial, trivial⟩ trivial (fun _ _ q => False.elim q) (ta_c (S := S) (hx_T hx) (show cx_P T n c (i) S from ⟨(hpos4), hg0⟩) rfl hI (k := 11) ⟨by omega, by omega⟩) (fun oq17 Sq17 hp18 q17 => ?_)
        rcases q17 with ⟨ht16, rfl, rfl⟩ | ⟨ht16, v, rfl, hrz⟩
        · skip
          show wJ _ _ _ _ _ _ _ _ _ _
          have hg1 : pg T n c (i + 1) := pg_next hT hg0 (by omega) (by omega)
          have hA1 := pg_at hT hg1
          have h16_1 := hA1.1
          have h15_1 := hA1.2.1
          have hpr1 := hA1.2.2
          have hkr1 := kg_rg T n (tp T n 1 (i + 1))
          have hic1 := hg1.1
          have hlt1 := tp_lt hT hg0 (by omega) (by omega)
          refine wa_return rfl ?_
          first | (exfalso; omega) | (rw [if_pos (h41.2 (by omega)), if_neg (by rw [hdp]; decide)]; exact ⟨rfl, (fun j x a1 a2 => (w_up_no (by omega)).trans (rfl)), ⟨_, (show cx_P T n c (i + 1) (w_up S 14 4 ((i + 1 : Nat) : Int)) from ⟨(w_up_same _ _ _ _), hg1⟩), rfl⟩, pm_up hpm (by omega)⟩)
        · skip
          have hkg := ht16
          refine ⟨rfl, ?_⟩
          rw [if_neg (fun z => hkg (h41.1 z))]
          exact ⟨v, _, rfl, (fun j x a1 a2 => rfl), hrz⟩
      · skip
        exact absurd c15 (by omega)
theorem rp_73 {ms : List hMR} {kc so st ty f0 e0 : Int} {fi : Nat} (hx : hx_I 241 73 87 92 74 T n c B S) (hP : cx_P T n c i S) (hms : mr_all 97 74 T S ms) (hm : ms.length < 400) (hhd : mr_hd 97 74 T S (ms.length : Int) kc so st ty f0 e0) (hso : so ≠ 0) (hkc : B 241 1 = kc + 1 ∧ 0 ≤ kc ∧ kc < 60) (hfi : S 91 kc = (fi : Int) ∧ fi ≤ ms.length) (hpm : pm_I 97 S (ms.length : Int) [] 0) : wJ (pe_GA xs) wY0 M (d + 9) t_XT_readParameters ((pe_at t_XT_readParameters.bl 0).getD (0, [])).2 [(0, (2, 61)), (1, (0, (ms.length : Int)))] [] S (rp_P 97 (ms.length : Int) T n c (if kg T n (tp T n 1 i) = 10 then pk_L B so f0 e0 (ms.drop fi) (pq_r B 241 (tp T n 1 (i + 1))) else .inl (1, tp T n 1 i)) S) := by
  have hB : zT B T n := hx.1
  have hT : cx_T 74 T n c S := hx.2.1
  have hI : gI S := hx.2.2.1
  have hW : wd_at S 74 64 := hx.2.2.2.1
  have hrw : rw_I S 74 := hx.2.2.2.2.1
  have hwc : 13 ≤ S 74 7 ∧ S 74 7 ≤ 400000 := hx.2.2.2.2.2.1
  have hR : cn_R 241 73 87 92 74 T B S := hx.2.2.2.2.2.2.1
  have hH : S 61 1 = 73 := hx.2.2.2.2.2.2.2
  have hC : w_CL S := hR.2.2.1
  have hN : S 73 2 = B 241 1 := hR.1
  have hN6 : 0 ≤ B 241 1 ∧ B 241 1 ≤ 60 := hR.2.1
  have hpos4 : S 14 4 = (i : Int) := hP.1
  have hg0 : pg T n c i := hP.2
  have hA0 := pg_at hT hg0
  have h16_0 := hA0.1
  have h15_0 := hA0.2.1
  have hpr0 := hA0.2.2
  have hkr0 := kg_rg T n (tp T n 1 i)
  have hcn : (c : Int) ≤ n ∧ n ≤ 65536 := ⟨hT.2.2.2.2.1, hT.2.2.2.2.2.1⟩
  have hRL := hT.2.2.2.2.2.2
  have hl15 : S 14 3 ≤ S 15 (-1) := hRL.1.2
  have hl16 : S 16 (-1) = S 15 (-1) := hRL.2.1
  have hl17 : S 17 (-1) = S 15 (-1) := hRL.2.2.1
  have hc3 : S 14 3 = (c : Int) + 1 := hT.1
  have hic0 : i ≤ c := hg0.1
  refine wa_aload_n (n := 0) rfl ?_
  refine wb_gf5 61 rfl (wy_pr rfl) wt_61 wf_4_1 (v := 73) (hH) (fun r1 => ?_)
  refine wb_gf4 73 rfl (wy_pr rfl) wt_73 wf_3_3 (v := 96) wl_73_3 ?_
  refine wa_astore_n (n := 2) rfl ?_
  refine wa_aload_n (n := 0) rfl ?_
  refine wa_bipush (w_rg2 (by omega) (by omega)) ?_
  refine wa_cv 61 rfl (wy_pr rfl) wt_61 (M2 := fun _ => False) rfl at_XT_take ⟨_, rfl⟩ rfl rfl ⟨(Or.inr ⟨wy_pr rfl, fun q => q⟩), (Or.inr ⟨wy_pr rfl, fun q => q⟩), trivial, trivial⟩ trivial (fun _ _ q => False.elim q) (ta_c (S := S) (hx_T hx) (show cx_P T n c (i) S from ⟨(hpos4), hg0⟩) rfl hI (k := 10) ⟨by omega, by omega⟩) (fun oq3 Sq3 hp4 q3 => ?_)
  rcases q3 with ⟨ht2, rfl, rfl⟩ | ⟨ht2, v, rfl, hrz⟩
  · skip
    show wJ _ _ _ _ _ _ _ _ _ _
    have hg1 : pg T n c (i + 1) := pg_next hT hg0 (by omega) (by omega)
    have hA1 := pg_at hT hg1
    have h16_1 := hA1.1
    have h15_1 := hA1.2.1
    have hpr1 := hA1.2.2
    have hkr1 := kg_rg T n (tp T n 1 (i + 1))
    have hic1 := hg1.1
    have hlt1 := tp_lt hT hg0 (by omega) (by omega)
    refine wa_aload_n (n := 0) rfl ?_
    refine wb_gf4 61 rfl (wy_pr rfl) wt_61 wf_4_0 (v := 14) wl_61_0 ?_
    refine wa_cv 14 rfl (wy_pr rfl) wt_14 (M2 := fun _ => False) rfl at_XR_kind ⟨_, rfl⟩ rfl rfl ⟨(Or.inr ⟨wy_pr rfl, fun q => q⟩), (Or.inr ⟨wy_pr rfl, fun q => q⟩), trivial, trivial⟩ trivial (fun _ _ q => False.elim q) ?_ (fun _ _ _ q => q)
    refine wa_aload_n (n := 0) rfl ?_
    refine wb_gf4 14 rfl (wy_pr rfl) wt_14 wf_6_0 (v := 15) wl_14_0 ?_
    refine wa_aload_n (n := 0) rfl ?_
    refine wb_gfi 14 rfl (wy_pr rfl) wt_14 wf_6_4 (v := ((i + 1 : Nat) : Int)) (w_up_same _ _ _ _) (fun r5 => ?_)
    refine wb_bald 15 rfl (wy_pr rfl) wt_15 (n := (S 15 (-1))) (w_up_slot (by decide)) (by omega) (by omega) (v := (kg T n (tp T n 1 (i + 1)))) ((w_up_slot (by decide)).trans (h15_1)) (fun r6 => ?_)
    refine wa_ireturn rfl ?_
    show wJ _ _ _ _ _ _ _ _ _ _
    refine wa_bipush (w_rg2 (by omega) (by omega)) ?_
    refine wa_icmpeq (w_rg0 (by omega) (by omega)) (w_rg0 (by omega) (by omega)) ⟨_, rfl⟩ (fun c7 => ?_) (fun c7 => ?_)
    · skip
      refine wa_iconst ?_
      refine wa_fall ⟨_, rfl⟩ ?_
      refine wa_istore_n (n := 3) rfl ?_
      refine wa_iconst ?_
      refine wa_istore (n := 4) rfl ?_
      refine wa_fall ⟨_, rfl⟩ ?_
      have hk10 : kg T n (tp T n 1 i) = 10 := by omega
      rw [if_pos hk10]
      have h41 := lx_is_kg (i := i + 1) hB (k := 11) (ch := 41) (by decide) sk_11
      have hhx : hx_I 241 73 87 92 74 T n c B (w_up S 14 4 ((i + 1 : Nat) : Int)) := (hx_up hx (by unfold hx_o; omega))
      have hBT : B 239 = T := hB.1
      refine wa_iload_n (n := 3) rfl ?_
      refine wa_ifeq (w_rg0 (by omega) (by omega)) ⟨_, rfl⟩ (fun cz => ?_) (fun cz => absurd rfl cz)
      have hr : pk_L B so f0 e0 (ms.drop fi) (pq_r B 241 (tp T n 1 (i + 1))) = (if lx_is (zq B (tp T n 1 (i + 1))) 41 = true then (if dp_L T so f0 e0 [] (ms.drop fi) = true then .inl (7, (tp T n 1 (i + 1))) else .inr ((tp T n 1 (i + 1 + 1)), [], 0)) else .inl (1, (tp T n 1 (i + 1)))) := by
        unfold pq_r; rw [if_pos (h41.2 (by omega)), pk_L_r, hBT, tp_ne (i := i + 1) hB]
      rw [hr]
      exact wJ_mono (wJ_S (rp_10_73 (S := (w_up S 14 4 ((i + 1 : Nat) : Int))) (i := i + 1) hhx (show cx_P T n c (i + 1) (w_up S 14 4 ((i + 1 : Nat) : Int)) from ⟨(w_up_same _ _ _ _), hg1⟩) (mr_all_pp hms (fun j x a1 a2 => (w_up_no (by omega)).trans (rfl)) (by decide)) hm (show mr_hd 97 74 T (w_up S 14 4 ((i + 1 : Nat) : Int)) (ms.length : Int) kc so st ty f0 e0 from hhd) hso hkc (show (w_up S 14 4 ((i + 1 : Nat) : Int)) 91 kc = (fi : Int) ∧ fi ≤ ms.length from hfi) (pm_up hpm (by omega))) ⟨rfl, rfl, trivial⟩) (fun o Z hz => rp_P_tr (fun j x a1 a2 => (w_up_no (by omega)).trans (rfl)) hz)
    · skip
      refine wa_iconst ?_
      refine wa_goto ⟨_, rfl⟩ ?_
      refine wa_istore_n (n := 3) rfl ?_
      refine wa_iconst ?_
      refine wa_istore (n := 4) rfl ?_
      refine wa_fall ⟨_, rfl⟩ ?_
      have hk10 : kg T n (tp T n 1 i) = 10 := by omega
      rw [if_pos hk10]
      have h41 := lx_is_kg (i := i + 1) hB (k := 11) (ch := 41) (by decide) sk_11
      have hhx : hx_I 241 73 87 92 74 T n c B (w_up S 14 4 ((i + 1 : Nat) : Int)) := (hx_up hx (by unfold hx_o; omega))
      have hBT : B 239 = T := hB.1
      have hB4 : B 237 4 = n := hB.2.1
      have hr0 : pq_r B 241 (tp T n 1 (i + 1)) = pr_f B 241 ((n - (tp T n 1 (i + 1))).toNat + 1) (tp T n 1 (i + 1)) [] := by unfold pq_r; rw [if_neg (fun z => absurd (h41.1 z) (by omega)), hB4]
      rw [hr0]
      refine wJ_S (rp_l_73 (m := (ms.length : Int)) ⟨by omega, by omega⟩ ((n - (tp T n 1 (i + 1))).toNat + 1) (i + 1) [] 0 (w_up S 14 4 ((i + 1 : Nat) : Int)) (by omega) hhx (show cx_P T n c (i + 1) (w_up S 14 4 ((i + 1 : Nat) : Int)) from ⟨(w_up_same _ _ _ _), hg1⟩) (pm_up hpm (by omega)) ⟨by omega, by omega⟩ (fun i2 l2 v2 u2 Z2 e2 g2 x2 p2 m2 => ?_) (fun e3 q3 v3 Z3 Z4 e2 g2 z2 => ?_)) ⟨rfl, rfl, rfl, rfl, rfl, trivial⟩
      · rw [e2]
        have hg : pp_ag 97 (ms.length : Int) S Z2 := pp_tr (fun j x a1 a2 => (w_up_no (by omega)).trans (rfl)) g2
        have hr : pk_L B so f0 e0 (ms.drop fi) (.inr (tp T n 1 i2, l2, v2)) = (if lx_is (zq B (tp T n 1 i2)) 41 = true then (if dp_L T so f0 e0 l2 (ms.drop fi) = true then .inl (7, tp T n 1 i2) else .inr (tp T n 1 (i2 + 1), l2, v2)) else .inl (1, tp T n 1 i2)) := by
          rw [pk_L_r, hBT, tp_ne (i := i2) hB]
        rw [hr]
        exact wJ_mono (rp_10_73 (S := Z2) (i := i2) x2 p2 (mr_all_pp hms hg (by decide)) hm (mr_hd_ag hhd (fun x hx => hg _ _ (by omega) (by omega)) (fun x hx => funext fun y => hg _ _ (by omega) (by omega))) hso hkc ⟨(hg 91 kc (by omega) (by omega)).trans hfi.1, hfi.2⟩ m2) (fun o Z hz => rp_P_tr hg hz)
      · rw [e2]
        exact ⟨v3, Z3, rfl, pp_tr (fun j x a1 a2 => (w_up_no (by omega)).trans (rfl)) g2, z2⟩
  · skip
    have hkg := ht2
    refine ⟨rfl, ?_⟩
    rw [if_neg hkg]
    exact ⟨v, _, rfl, (fun j x a1 a2 => rfl), hrz⟩
theorem rp_10_162 {ms : List hMR} {kc so st ty f0 e0 : Int} {fi : Nat} (hx : hx_I 261 162 176 181 163 T n c B S) (hP : cx_P T n c i S) (hms : mr_all 186 163 T S ms) (hm : ms.length < 400) (hhd : mr_hd 186 163 T S (ms.length : Int) kc so st ty f0 e0) (hso : so ≠ 0) (hkc : B 261 1 = kc + 1 ∧ 0 ≤ kc ∧ kc < 60) (hfi : S 180 kc = (fi : Int) ∧ fi ≤ ms.length) {l : List Int} {vr : Int} (hpm : pm_I 186 S (ms.length : Int) l vr) : wJ (pe_GA xs) wY0 M (d + 9) t_XT_readParameters ((pe_at t_XT_readParameters.bl 10).getD (0, [])).2 [(0, (2, 61)), (1, (0, (ms.length : Int)))] [] S (rp_P 186 (ms.length : Int) T n c (if lx_is (zq B (tp T n 1 i)) 41 = true then (if dp_L T so f0 e0 l (ms.drop fi) = true then .inl (7, tp T n 1 i) else .inr (tp T n 1 (i + 1), l, vr)) else .inl (1, tp T n 1 i)) S) := by
  have hB : zT B T n := hx.1
  have hT : cx_T 163 T n c S := hx.2.1
  have hI : gI S := hx.2.2.1
  have hW : wd_at S 163 64 := hx.2.2.2.1
  have hrw : rw_I S 163 := hx.2.2.2.2.1
  have hwc : 13 ≤ S 163 7 ∧ S 163 7 ≤ 400000 := hx.2.2.2.2.2.1
  have hR : cn_R 261 162 176 181 163 T B S := hx.2.2.2.2.2.2.1
  have hH : S 61 1 = 162 := hx.2.2.2.2.2.2.2
  have hC : w_CL S := hR.2.2.1
  have hN : S 162 2 = B 261 1 := hR.1
  have hN6 : 0 ≤ B 261 1 ∧ B 261 1 ≤ 60 := hR.2.1
  have hpos4 : S 14 4 = (i : Int) := hP.1
  have hg0 : pg T n c i := hP.2
  have hA0 := pg_at hT hg0
  have h16_0 := hA0.1
  have h15_0 := hA0.2.1
  have hpr0 := hA0.2.2
  have hkr0 := kg_rg T n (tp T n 1 i)
  have hcn : (c : Int) ≤ n ∧ n ≤ 65536 := ⟨hT.2.2.2.2.1, hT.2.2.2.2.2.1⟩
  have hRL := hT.2.2.2.2.2.2
  have hl15 : S 14 3 ≤ S 15 (-1) := hRL.1.2
  have hl16 : S 16 (-1) = S 15 (-1) := hRL.2.1
  have hl17 : S 17 (-1) = S 15 (-1) := hRL.2.2.1
  have hc3 : S 14 3 = (c : Int) + 1 := hT.1
  have hic0 : i ≤ c := hg0.1
  have hcu := mr_of hhd hpm
  have h41 := lx_is_kg (i := i) hB (k := 11) (ch := 41) (by decide) sk_11
  refine wa_aload_n (n := 0) rfl ?_
  refine wb_gf4 61 rfl (wy_pr rfl) wt_61 wf_4_0 (v := 14) wl_61_0 ?_
  refine wa_cv 14 rfl (wy_pr rfl) wt_14 (M2 := fun _ => False) rfl at_XR_kind ⟨_, rfl⟩ rfl rfl ⟨(Or.inr ⟨wy_pr rfl, fun q => q⟩), trivial, trivial⟩ trivial (fun _ _ q => False.elim q) ?_ (fun _ _ _ q => q)
  refine wa_aload_n (n := 0) rfl ?_
  refine wb_gf4 14 rfl (wy_pr rfl) wt_14 wf_6_0 (v := 15) wl_14_0 ?_
  refine wa_aload_n (n := 0) rfl ?_
  refine wb_gfi 14 rfl (wy_pr rfl) wt_14 wf_6_4 (v := (i : Int)) (hpos4) (fun r1 => ?_)
  refine wb_bald 15 rfl (wy_pr rfl) wt_15 (n := (S 15 (-1))) rfl (by omega) (by omega) (v := (kg T n (tp T n 1 i))) (h15_0) (fun r2 => ?_)
  refine wa_ireturn rfl ?_
  show wJ _ _ _ _ _ _ _ _ _ _
  refine wa_bipush (w_rg2 (by omega) (by omega)) ?_
  refine wa_icmpne (w_rg0 (by omega) (by omega)) (w_rg0 (by omega) (by omega)) ⟨_, rfl⟩ (fun c3 => ?_) (fun c3 => ?_)
  · skip
    refine wa_aload_n (n := 0) rfl ?_
    refine wa_bipush (w_rg2 (by omega) (by omega)) ?_
    refine wa_cv 61 rfl (wy_pr rfl) wt_61 (M2 := fun _ => False) rfl at_XT_take ⟨_, rfl⟩ rfl rfl ⟨(Or.inr ⟨wy_pr rfl, fun q => q⟩), trivial, trivial⟩ trivial (fun _ _ q => False.elim q) (ta_c (S := S) (hx_T hx) (show cx_P T n c (i) S from ⟨(hpos4), hg0⟩) rfl hI (k := 11) ⟨by omega, by omega⟩) (fun oq5 Sq5 hp6 q5 => ?_)
    rcases q5 with ⟨ht4, rfl, rfl⟩ | ⟨ht4, v, rfl, hrz⟩
    · skip
      show wJ _ _ _ _ _ _ _ _ _ _
      have hg1 : pg T n c (i + 1) := pg_next hT hg0 (by omega) (by omega)
      have hA1 := pg_at hT hg1
      have h16_1 := hA1.1
      have h15_1 := hA1.2.1
      have hpr1 := hA1.2.2
      have hkr1 := kg_rg T n (tp T n 1 (i + 1))
      have hic1 := hg1.1
      have hlt1 := tp_lt hT hg0 (by omega) (by omega)
      refine wa_return rfl ?_
      first | (exfalso; omega) | (rw [if_pos (h41.2 (by omega)), if_neg (by rw [hdp]; decide)]; exact ⟨rfl, (fun j x a1 a2 => (w_up_no (by omega)).trans (rfl)), ⟨_, (show cx_P T n c (i + 1) (w_up S 14 4 ((i + 1 : Nat) : Int)) from ⟨(w_up_same _ _ _ _), hg1⟩), rfl⟩, pm_up hpm (by omega)⟩)
    · skip
      have hkg := ht4
      refine ⟨rfl, ?_⟩
      rw [if_neg (fun z => hkg (h41.1 z))]
      exact ⟨v, _, rfl, (fun j x a1 a2 => rfl), hrz⟩
  · skip
    refine wa_aload_n (n := 0) rfl ?_
    refine wb_gf5 61 rfl (wy_pr rfl) wt_61 wf_4_1 (v := 162) (hH) (fun r7 => ?_)
    refine wa_iload_n (n := 1) rfl ?_
    refine wa_cv 162 rfl (wy_pr rfl) wt_162 (M2 := fun _ => False) rfl at_XO_isToldAlready ⟨_, rfl⟩ rfl rfl ⟨(Or.inr ⟨wy_pr rfl, fun q => q⟩), trivial, trivial⟩ trivial (fun _ _ q => False.elim q) (ta_162 (S := S) hC hW hms hm hcu hso ⟨by rw [hN]; exact hkc.1, hkc.2⟩ hfi) (fun oq9 Sq9 hp10 q9 => ?_)
    rcases q9 with ⟨rfl, ⟨rfl, hd8⟩ | ⟨rfl, hd8⟩⟩
    · skip
      show wJ _ _ _ _ _ _ _ _ _ _
      have hdp : dp_L T so f0 e0 l (ms.drop fi) = true := hd8
      refine wa_ifeq (w_rg0 (by omega) (by omega)) ⟨_, rfl⟩ (fun c11 => ?_) (fun c11 => ?_)
      · skip
        exact absurd c11 (by omega)
      · skip
        refine wa_aload_n (n := 0) rfl ?_
        refine wa_bipush (w_rg2 (by omega) (by omega)) ?_
        refine wa_cv 61 rfl (wy_pr rfl) wt_61 (M2 := fun _ => False) rfl at_XT_refuse ⟨_, rfl⟩ rfl rfl ⟨(Or.inr ⟨wy_pr rfl, fun q => q⟩), trivial, trivial⟩ trivial (fun _ _ q => False.elim q) (rf_c (S := S) (k := 7) (p := (tp T n 1 i)) (i := (i : Int)) hI (hpos4) (h16_0) ⟨by omega, by have e : S 16 (-1) = S 16 (-1) := rfl; omega⟩ ⟨by omega, by omega⟩ ⟨by omega, by omega⟩) (fun oq13 Sq13 hp14 q13 => ?_)
        rcases q13 with ⟨v, rfl, rz12⟩
        have hrz := rz12
        have hkind : (7 : Int) = 7 := rfl
        refine ⟨rfl, ?_⟩
        rw [if_pos (h41.2 (by omega)), if_pos hdp]
        exact ⟨v, _, rfl, (fun j x a1 a2 => rfl), hrz⟩
    · skip
      show wJ _ _ _ _ _ _ _ _ _ _
      have hdp : dp_L T so f0 e0 l (ms.drop fi) = false := hd8
      refine wa_ifeq (w_rg0 (by omega) (by omega)) ⟨_, rfl⟩ (fun c15 => ?_) (fun c15 => ?_)
      · skip
        refine wa_aload_n (n := 0) rfl ?_
        refine wa_bipush (w_rg2 (by omega) (by omega)) ?_
        refine wa_cv 61 rfl (wy_pr rfl) wt_61 (M2 := fun _ => False) rfl at_XT_take ⟨_, rfl⟩ rfl rfl ⟨(Or.inr ⟨wy_pr rfl, fun q => q⟩), trivial, trivial⟩ trivial (fun _ _ q => False.elim q) (ta_c (S := S) (hx_T hx) (show cx_P T n c (i) S from ⟨(hpos4), hg0⟩) rfl hI (k := 11) ⟨by omega, by omega⟩) (fun oq17 Sq17 hp18 q17 => ?_)
        rcases q17 with ⟨ht16, rfl, rfl⟩ | ⟨ht16, v, rfl, hrz⟩
        · skip
          show wJ _ _ _ _ _ _ _ _ _ _
          have hg1 : pg T n c (i + 1) := pg_next hT hg0 (by omega) (by omega)
          have hA1 := pg_at hT hg1
          have h16_1 := hA1.1
          have h15_1 := hA1.2.1
          have hpr1 := hA1.2.2
          have hkr1 := kg_rg T n (tp T n 1 (i + 1))
          have hic1 := hg1.1
          have hlt1 := tp_lt hT hg0 (by omega) (by omega)
          refine wa_return rfl ?_
          first | (exfalso; omega) | (rw [if_pos (h41.2 (by omega)), if_neg (by rw [hdp]; decide)]; exact ⟨rfl, (fun j x a1 a2 => (w_up_no (by omega)).trans (rfl)), ⟨_, (show cx_P T n c (i + 1) (w_up S 14 4 ((i + 1 : Nat) : Int)) from ⟨(w_up_same _ _ _ _), hg1⟩), rfl⟩, pm_up hpm (by omega)⟩)
        · skip
          have hkg := ht16
          refine ⟨rfl, ?_⟩
          rw [if_neg (fun z => hkg (h41.1 z))]
          exact ⟨v, _, rfl, (fun j x a1 a2 => rfl), hrz⟩
      · skip
        exact absurd c15 (by omega)
theorem rp_162 {ms : List hMR} {kc so st ty f0 e0 : Int} {fi : Nat} (hx : hx_I 261 162 176 181 163 T n c B S) (hP : cx_P T n c i S) (hms : mr_all 186 163 T S ms) (hm : ms.length < 400) (hhd : mr_hd 186 163 T S (ms.length : Int) kc so st ty f0 e0) (hso : so ≠ 0) (hkc : B 261 1 = kc + 1 ∧ 0 ≤ kc ∧ kc < 60) (hfi : S 180 kc = (fi : Int) ∧ fi ≤ ms.length) (hpm : pm_I 186 S (ms.length : Int) [] 0) : wJ (pe_GA xs) wY0 M (d + 9) t_XT_readParameters ((pe_at t_XT_readParameters.bl 0).getD (0, [])).2 [(0, (2, 61)), (1, (0, (ms.length : Int)))] [] S (rp_P 186 (ms.length : Int) T n c (if kg T n (tp T n 1 i) = 10 then pk_L B so f0 e0 (ms.drop fi) (pq_r B 261 (tp T n 1 (i + 1))) else .inl (1, tp T n 1 i)) S) := by
  have hB : zT B T n := hx.1
  have hT : cx_T 163 T n c S := hx.2.1
  have hI : gI S := hx.2.2.1
  have hW : wd_at S 163 64 := hx.2.2.2.1
  have hrw : rw_I S 163 := hx.2.2.2.2.1
  have hwc : 13 ≤ S 163 7 ∧ S 163 7 ≤ 400000 := hx.2.2.2.2.2.1
  have hR : cn_R 261 162 176 181 163 T B S := hx.2.2.2.2.2.2.1
  have hH : S 61 1 = 162 := hx.2.2.2.2.2.2.2
  have hC : w_CL S := hR.2.2.1
  have hN : S 162 2 = B 261 1 := hR.1
  have hN6 : 0 ≤ B 261 1 ∧ B 261 1 ≤ 60 := hR.2.1
  have hpos4 : S 14 4 = (i : Int) := hP.1
  have hg0 : pg T n c i := hP.2
  have hA0 := pg_at hT hg0
  have h16_0 := hA0.1
  have h15_0 := hA0.2.1
  have hpr0 := hA0.2.2
  have hkr0 := kg_rg T n (tp T n 1 i)
  have hcn : (c : Int) ≤ n ∧ n ≤ 65536 := ⟨hT.2.2.2.2.1, hT.2.2.2.2.2.1⟩
  have hRL := hT.2.2.2.2.2.2
  have hl15 : S 14 3 ≤ S 15 (-1) := hRL.1.2
  have hl16 : S 16 (-1) = S 15 (-1) := hRL.2.1
  have hl17 : S 17 (-1) = S 15 (-1) := hRL.2.2.1
  have hc3 : S 14 3 = (c : Int) + 1 := hT.1
  have hic0 : i ≤ c := hg0.1
  refine wa_aload_n (n := 0) rfl ?_
  refine wb_gf5 61 rfl (wy_pr rfl) wt_61 wf_4_1 (v := 162) (hH) (fun r1 => ?_)
  refine wb_gf4 162 rfl (wy_pr rfl) wt_162 wf_3_3 (v := 185) wl_162_3 ?_
  refine wa_astore_n (n := 2) rfl ?_
  refine wa_aload_n (n := 0) rfl ?_
  refine wa_bipush (w_rg2 (by omega) (by omega)) ?_
  refine wa_cv 61 rfl (wy_pr rfl) wt_61 (M2 := fun _ => False) rfl at_XT_take ⟨_, rfl⟩ rfl rfl ⟨(Or.inr ⟨wy_pr rfl, fun q => q⟩), (Or.inr ⟨wy_pr rfl, fun q => q⟩), trivial, trivial⟩ trivial (fun _ _ q => False.elim q) (ta_c (S := S) (hx_T hx) (show cx_P T n c (i) S from ⟨(hpos4), hg0⟩) rfl hI (k := 10) ⟨by omega, by omega⟩) (fun oq3 Sq3 hp4 q3 => ?_)
  rcases q3 with ⟨ht2, rfl, rfl⟩ | ⟨ht2, v, rfl, hrz⟩
  · skip
    show wJ _ _ _ _ _ _ _ _ _ _
    have hg1 : pg T n c (i + 1) := pg_next hT hg0 (by omega) (by omega)
    have hA1 := pg_at hT hg1
    have h16_1 := hA1.1
    have h15_1 := hA1.2.1
    have hpr1 := hA1.2.2
    have hkr1 := kg_rg T n (tp T n 1 (i + 1))
    have hic1 := hg1.1
    have hlt1 := tp_lt hT hg0 (by omega) (by omega)
    refine wa_aload_n (n := 0) rfl ?_
    refine wb_gf4 61 rfl (wy_pr rfl) wt_61 wf_4_0 (v := 14) wl_61_0 ?_
    refine wa_cv 14 rfl (wy_pr rfl) wt_14 (M2 := fun _ => False) rfl at_XR_kind ⟨_, rfl⟩ rfl rfl ⟨(Or.inr ⟨wy_pr rfl, fun q => q⟩), (Or.inr ⟨wy_pr rfl, fun q => q⟩), trivial, trivial⟩ trivial (fun _ _ q => False.elim q) ?_ (fun _ _ _ q => q)
    refine wa_aload_n (n := 0) rfl ?_
    refine wb_gf4 14 rfl (wy_pr rfl) wt_14 wf_6_0 (v := 15) wl_14_0 ?_
    refine wa_aload_n (n := 0) rfl ?_
    refine wb_gfi 14 rfl (wy_pr rfl) wt_14 wf_6_4 (v := ((i + 1 : Nat) : Int)) (w_up_same _ _ _ _) (fun r5 => ?_)
    refine wb_bald 15 rfl (wy_pr rfl) wt_15 (n := (S 15 (-1))) (w_up_slot (by decide)) (by omega) (by omega) (v := (kg T n (tp T n 1 (i + 1)))) ((w_up_slot (by decide)).trans (h15_1)) (fun r6 => ?_)
    refine wa_ireturn rfl ?_
    show wJ _ _ _ _ _ _ _ _ _ _
    refine wa_bipush (w_rg2 (by omega) (by omega)) ?_
    refine wa_icmpeq (w_rg0 (by omega) (by omega)) (w_rg0 (by omega) (by omega)) ⟨_, rfl⟩ (fun c7 => ?_) (fun c7 => ?_)
    · skip
      refine wa_iconst ?_
      refine wa_fall ⟨_, rfl⟩ ?_
      refine wa_istore_n (n := 3) rfl ?_
      refine wa_iconst ?_
      refine wa_istore (n := 4) rfl ?_
      refine wa_fall ⟨_, rfl⟩ ?_
      have hk10 : kg T n (tp T n 1 i) = 10 := by omega
      rw [if_pos hk10]
      have h41 := lx_is_kg (i := i + 1) hB (k := 11) (ch := 41) (by decide) sk_11
      have hhx : hx_I 261 162 176 181 163 T n c B (w_up S 14 4 ((i + 1 : Nat) : Int)) := (hx_up hx (by unfold hx_o; omega))
      have hBT : B 239 = T := hB.1
      refine wa_iload_n (n := 3) rfl ?_
      refine wa_ifeq (w_rg0 (by omega) (by omega)) ⟨_, rfl⟩ (fun cz => ?_) (fun cz => absurd rfl cz)
      have hr : pk_L B so f0 e0 (ms.drop fi) (pq_r B 261 (tp T n 1 (i + 1))) = (if lx_is (zq B (tp T n 1 (i + 1))) 41 = true then (if dp_L T so f0 e0 [] (ms.drop fi) = true then .inl (7, (tp T n 1 (i + 1))) else .inr ((tp T n 1 (i + 1 + 1)), [], 0)) else .inl (1, (tp T n 1 (i + 1)))) := by
        unfold pq_r; rw [if_pos (h41.2 (by omega)), pk_L_r, hBT, tp_ne (i := i + 1) hB]
      rw [hr]
      exact wJ_mono (wJ_S (rp_10_162 (S := (w_up S 14 4 ((i + 1 : Nat) : Int))) (i := i + 1) hhx (show cx_P T n c (i + 1) (w_up S 14 4 ((i + 1 : Nat) : Int)) from ⟨(w_up_same _ _ _ _), hg1⟩) (mr_all_pp hms (fun j x a1 a2 => (w_up_no (by omega)).trans (rfl)) (by decide)) hm (show mr_hd 186 163 T (w_up S 14 4 ((i + 1 : Nat) : Int)) (ms.length : Int) kc so st ty f0 e0 from hhd) hso hkc (show (w_up S 14 4 ((i + 1 : Nat) : Int)) 180 kc = (fi : Int) ∧ fi ≤ ms.length from hfi) (pm_up hpm (by omega))) ⟨rfl, rfl, trivial⟩) (fun o Z hz => rp_P_tr (fun j x a1 a2 => (w_up_no (by omega)).trans (rfl)) hz)
    · skip
      refine wa_iconst ?_
      refine wa_goto ⟨_, rfl⟩ ?_
      refine wa_istore_n (n := 3) rfl ?_
      refine wa_iconst ?_
      refine wa_istore (n := 4) rfl ?_
      refine wa_fall ⟨_, rfl⟩ ?_
      have hk10 : kg T n (tp T n 1 i) = 10 := by omega
      rw [if_pos hk10]
      have h41 := lx_is_kg (i := i + 1) hB (k := 11) (ch := 41) (by decide) sk_11
      have hhx : hx_I 261 162 176 181 163 T n c B (w_up S 14 4 ((i + 1 : Nat) : Int)) := (hx_up hx (by unfold hx_o; omega))
      have hBT : B 239 = T := hB.1
      have hB4 : B 237 4 = n := hB.2.1
      have hr0 : pq_r B 261 (tp T n 1 (i + 1)) = pr_f B 261 ((n - (tp T n 1 (i + 1))).toNat + 1) (tp T n 1 (i + 1)) [] := by unfold pq_r; rw [if_neg (fun z => absurd (h41.1 z) (by omega)), hB4]
      rw [hr0]
      refine wJ_S (rp_l_162 (m := (ms.length : Int)) ⟨by omega, by omega⟩ ((n - (tp T n 1 (i + 1))).toNat + 1) (i + 1) [] 0 (w_up S 14 4 ((i + 1 : Nat) : Int)) (by omega) hhx (show cx_P T n c (i + 1) (w_up S 14 4 ((i + 1 : Nat) : Int)) from ⟨(w_up_same _ _ _ _), hg1⟩) (pm_up hpm (by omega)) ⟨by omega, by omega⟩ (fun i2 l2 v2 u2 Z2 e2 g2 x2 p2 m2 => ?_) (fun e3 q3 v3 Z3 Z4 e2 g2 z2 => ?_)) ⟨rfl, rfl, rfl, rfl, rfl, trivial⟩
      · rw [e2]
        have hg : pp_ag 186 (ms.length : Int) S Z2 := pp_tr (fun j x a1 a2 => (w_up_no (by omega)).trans (rfl)) g2
        have hr : pk_L B so f0 e0 (ms.drop fi) (.inr (tp T n 1 i2, l2, v2)) = (if lx_is (zq B (tp T n 1 i2)) 41 = true then (if dp_L T so f0 e0 l2 (ms.drop fi) = true then .inl (7, tp T n 1 i2) else .inr (tp T n 1 (i2 + 1), l2, v2)) else .inl (1, tp T n 1 i2)) := by
          rw [pk_L_r, hBT, tp_ne (i := i2) hB]
        rw [hr]
        exact wJ_mono (rp_10_162 (S := Z2) (i := i2) x2 p2 (mr_all_pp hms hg (by decide)) hm (mr_hd_ag hhd (fun x hx => hg _ _ (by omega) (by omega)) (fun x hx => funext fun y => hg _ _ (by omega) (by omega))) hso hkc ⟨(hg 180 kc (by omega) (by omega)).trans hfi.1, hfi.2⟩ m2) (fun o Z hz => rp_P_tr hg hz)
      · rw [e2]
        exact ⟨v3, Z3, rfl, pp_tr (fun j x a1 a2 => (w_up_no (by omega)).trans (rfl)) g2, z2⟩
  · skip
    have hkg := ht2
    refine ⟨rfl, ?_⟩
    rw [if_neg hkg]
    exact ⟨v, _, rfl, (fun j x a1 a2 => rfl), hrz⟩
end W9p
