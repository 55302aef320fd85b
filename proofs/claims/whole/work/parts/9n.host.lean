/-! PART 9n: a host's members in the class: haveSameTypes, isToldAlready, hasOwnField. -/
section W9n
variable {xs : List (Nat × List Int32)} {M : Nat → Prop} {d : Nat} {A B C S Z : wS} {Q : wO → wS → Prop} {T : Int → Int} {n : Int} {c i : Nat}
theorem wy_p2 {S : wS} {j : Nat} (h : j < 388) : w_pr wY0 S j := ⟨Or.inl h, by unfold wG; omega⟩
/-- a member stands in the class's rows -/
def mr_at (m0 w : Nat) (T : Int → Int) (Z : wS) (k : Int) (r : hMR) : Prop := (Z m0 k = r.1 ∧ Z (m0 + 1) k = r.2.1 ∧ Z (m0 + 2) k = r.2.2.1 ∧ Z (m0 + 3) k = r.2.2.2.1) ∧ (Z (m0 + 4) k = (r.2.2.2.2.1.length : Int) ∧ Z (m0 + 5) k = r.2.2.2.2.2.1 ∧ r.2.2.2.2.1.length ≤ 8 ∧ ∀ q : Nat, q < r.2.2.2.2.1.length → Z (m0 + 6 + q) k = r.2.2.2.2.1.getD q 0) ∧ (0 ≤ r.2.1 ∧ r.2.1 ≤ 2) ∧ (r.2.1 = 2 → Z (m0 + 14) k = 12 ∧ r.2.2.2.2.2.2.1 = r.2.2.2.2.2.2.2) ∧ (r.2.1 ≠ 2 → (13 ≤ Z (m0 + 14) k ∧ Z (m0 + 14) k < Z w 7) ∧ wq (Z (w + 1)) (Z (w + 2)) (Z (w + 3)) T r.2.2.2.2.2.2.1 (r.2.2.2.2.2.2.2 - r.2.2.2.2.2.2.1) (Z (m0 + 14) k))
def mr_all (m0 w : Nat) (T : Int → Int) (Z : wS) (ms : List hMR) : Prop := ms.length ≤ 400 ∧ ∀ (k : Nat) (r : hMR), ms[k]? = some r → mr_at m0 w T Z (k : Int) r
theorem ls_eq {l l2 : List Int} : l = l2 ↔ (l.length = l2.length ∧ ∀ q : Nat, q < l.length → l.getD q 0 = l2.getD q 0) := by
  constructor
  · rintro rfl; exact ⟨rfl, fun _ _ => rfl⟩
  · rintro ⟨h1, h2⟩
    apply List.ext_getElem h1
    intro q h3 h4
    have := h2 q h3
    rw [List.getD_eq_getElem?_getD, List.getD_eq_getElem?_getD, List.getElem?_eq_getElem h3, List.getElem?_eq_getElem h4] at this
    exact this
/-- the words of two members are the same, by their names -/
theorem mr_nm {m0 w : Nat} {k v f e : Int} {r : hMR} (hI : wd_at Z w 64) (h : mr_at m0 w T Z k r) (hso : r.2.1 ≠ 2) (hv : 0 ≤ v ∧ v < Z w 7) (hq : wq (Z (w + 1)) (Z (w + 2)) (Z (w + 3)) T f (e - f) v) : Z (m0 + 14) k = v ↔ tp_q T r.2.2.2.2.2.2.1 r.2.2.2.2.2.2.2 f e = true := by
  obtain ⟨a1, a2⟩ := h.2.2.2.2 hso
  rw [wq_2 hI ⟨by omega, a1.2⟩ hv a2 hq]
  unfold tp_q
  exact decide_eq_true_iff.symm
theorem mr_ln_73 {q : Nat} (hq : q < 8) : wY0.ln 96 (6 + q) = ((103 + q : Nat) : Int) := by
  have : q = 0 ∨ q = 1 ∨ q = 2 ∨ q = 3 ∨ q = 4 ∨ q = 5 ∨ q = 6 ∨ q = 7 := by omega
  rcases this with rfl | rfl | rfl | rfl | rfl | rfl | rfl | rfl <;> decide +kernel
theorem mr_ty_73 {q : Nat} (hq : q < 8) : wY0.ty (103 + q) = 0 := by
  have : q = 0 ∨ q = 1 ∨ q = 2 ∨ q = 3 ∨ q = 4 ∨ q = 5 ∨ q = 6 ∨ q = 7 := by omega
  rcases this with rfl | rfl | rfl | rfl | rfl | rfl | rfl | rfl <;> decide +kernel
theorem cl_mr_73 {q : Nat} (h : w_CL S) (hq : q < 8) : S (103 + q) (-1) = 400 := by
  have : q = 0 ∨ q = 1 ∨ q = 2 ∨ q = 3 ∨ q = 4 ∨ q = 5 ∨ q = 6 ∨ q = 7 := by omega
  rcases this with rfl | rfl | rfl | rfl | rfl | rfl | rfl | rfl
  · exact cl_103 h
  · exact cl_104 h
  · exact cl_105 h
  · exact cl_106 h
  · exact cl_107 h
  · exact cl_108 h
  · exact cl_109 h
  · exact cl_110 h
theorem st_l_73 {x y : Int} {N : Nat} (hC : w_CL S) (hx : 0 ≤ x ∧ x < 400) (hy : 0 ≤ y ∧ y < 400) (hN : S 101 x = (N : Int) ∧ N ≤ 8) (he : S 101 x = S 101 y) : ∀ (f q : Nat), N - q < f → q ≤ N → (∀ k : Nat, k < q → S (103 + k) x = S (103 + k) y) → wJ (pe_GA xs) wY0 M d t_XO_haveSameTypes ((pe_at t_XO_haveSameTypes.bl 2).getD (0, [])).2 [(0, (2, 73)), (1, (0, x)), (2, (0, y)), (3, (0, (q : Int)))] [] S (fun o Z => S = Z ∧ ((o = .inl (some (0, 1)) ∧ S 101 x = S 101 y ∧ ∀ q : Nat, q < N → S (103 + q) x = S (103 + q) y) ∨ (o = .inl (some (0, 0)) ∧ ¬ (S 101 x = S 101 y ∧ ∀ q : Nat, q < N → S (103 + q) x = S (103 + q) y)))) := by
  have hN1 := hN.1
  have hN2 := hN.2
  intro f
  induction f with
  | zero => intro q h; exact absurd h (Nat.not_lt_zero _)
  | succ f ih =>
    intro q hf hq ha
    refine wa_iload_n (n := 3) rfl ?_
    refine wa_aload_n (n := 0) rfl ?_
    refine wb_gf4 73 rfl (wy_pr rfl) wt_73 wf_3_3 (v := 96) wl_73_3 ?_
    refine wa_iconst ?_
    refine wb_aald5 96 4 rfl rfl (wy_pr rfl) wt_96 (by rw [show _ = _ from ((cl_96 hC))]; omega) wl_96_4 ?_
    refine wa_iload_n (n := 1) rfl ?_
    refine wb_iald 101 rfl (wy_pr rfl) wt_101 (n := 400) ((cl_101 hC)) (by omega) (by omega) (v := (N : Int)) (hN1) (fun r1 => ?_)
    refine wa_icmpge (w_rg0 (by omega) (by omega)) (w_rg0 (by omega) (by omega)) ⟨_, rfl⟩ (fun c2 => ?_) (fun c2 => ?_)
    · skip
      refine wa_iconst ?_
      refine wa_zreturn rfl (Or.inr rfl) ?_
      exact ⟨rfl, Or.inl ⟨rfl, he, fun k hk => ha k (by omega)⟩⟩
    · skip
      refine wa_aload_n (n := 0) rfl ?_
      refine wb_gf4 73 rfl (wy_pr rfl) wt_73 wf_3_3 (v := 96) wl_73_3 ?_
      refine wa_bipush (w_rg2 (by omega) (by omega)) ?_
      refine wa_iload_n (n := 3) rfl ?_
      refine wa_iadd ?_
      refine wb_aald5 96 (6 + q) rfl (by omega) (wy_pr rfl) wt_96 (by rw [show _ = _ from ((cl_96 hC))]; omega) (mr_ln_73 (by omega)) ?_
      refine wa_iload_n (n := 1) rfl ?_
      refine wb_iald (103 + q) rfl (wy_p2 (by omega)) (mr_ty_73 (by omega)) (n := 400) ((cl_mr_73 hC (by omega))) (by omega) (by omega) (v := (S (103 + q) x)) rfl (fun r3 => ?_)
      refine wa_aload_n (n := 0) rfl ?_
      refine wb_gf4 73 rfl (wy_pr rfl) wt_73 wf_3_3 (v := 96) wl_73_3 ?_
      refine wa_bipush (w_rg2 (by omega) (by omega)) ?_
      refine wa_iload_n (n := 3) rfl ?_
      refine wa_iadd ?_
      refine wb_aald5 96 (6 + q) rfl (by omega) (wy_pr rfl) wt_96 (by rw [show _ = _ from ((cl_96 hC))]; omega) (mr_ln_73 (by omega)) ?_
      refine wa_iload_n (n := 2) rfl ?_
      refine wb_iald (103 + q) rfl (wy_p2 (by omega)) (mr_ty_73 (by omega)) (n := 400) ((cl_mr_73 hC (by omega))) (by omega) (by omega) (v := (S (103 + q) y)) rfl (fun r4 => ?_)
      refine wa_icmpeq (w_rg0 (by omega) (by omega)) (w_rg0 (by omega) (by omega)) ⟨_, rfl⟩ (fun c5 => ?_) (fun c5 => ?_)
      · skip
        refine wa_iinc rfl rfl ?_
        refine wa_goto ⟨_, rfl⟩ ?_
        refine wJ_S (ih (q + 1) (by omega) (by omega) (fun k hk => ?_)) ⟨rfl, rfl, rfl, rfl, trivial⟩
        by_cases hkq : k = q
        · rw [hkq]; assumption
        · exact ha k (by omega)
      · skip
        refine wa_iconst ?_
        refine wa_zreturn rfl (Or.inl rfl) ?_
        refine ⟨rfl, Or.inr ⟨rfl, fun z => ?_⟩⟩
        have := z.2 q (by omega)
        contradiction
theorem st_73 {x y : Int} {N : Nat} (hC : w_CL S) (hx : 0 ≤ x ∧ x < 400) (hy : 0 ≤ y ∧ y < 400) (hN : S 101 x = (N : Int) ∧ N ≤ 8) : wJ (pe_GA xs) wY0 M d t_XO_haveSameTypes ((pe_at t_XO_haveSameTypes.bl 0).getD (0, [])).2 [(0, (2, 73)), (1, (0, x)), (2, (0, y))] [] S (fun o Z => S = Z ∧ ((o = .inl (some (0, 1)) ∧ S 101 x = S 101 y ∧ ∀ q : Nat, q < N → S (103 + q) x = S (103 + q) y) ∨ (o = .inl (some (0, 0)) ∧ ¬ (S 101 x = S 101 y ∧ ∀ q : Nat, q < N → S (103 + q) x = S (103 + q) y)))) := by
  have hN1 := hN.1
  have hN2 := hN.2
  refine wa_aload_n (n := 0) rfl ?_
  refine wb_gf4 73 rfl (wy_pr rfl) wt_73 wf_3_3 (v := 96) wl_73_3 ?_
  refine wa_iconst ?_
  refine wb_aald5 96 4 rfl rfl (wy_pr rfl) wt_96 (by rw [show _ = _ from ((cl_96 hC))]; omega) wl_96_4 ?_
  refine wa_iload_n (n := 1) rfl ?_
  refine wb_iald 101 rfl (wy_pr rfl) wt_101 (n := 400) ((cl_101 hC)) (by omega) (by omega) (v := (N : Int)) (hN1) (fun r1 => ?_)
  refine wa_aload_n (n := 0) rfl ?_
  refine wb_gf4 73 rfl (wy_pr rfl) wt_73 wf_3_3 (v := 96) wl_73_3 ?_
  refine wa_iconst ?_
  refine wb_aald5 96 4 rfl rfl (wy_pr rfl) wt_96 (by rw [show _ = _ from ((cl_96 hC))]; omega) wl_96_4 ?_
  refine wa_iload_n (n := 2) rfl ?_
  refine wb_iald 101 rfl (wy_pr rfl) wt_101 (n := 400) ((cl_101 hC)) (by omega) (by omega) (v := (S 101 y)) rfl (fun r2 => ?_)
  refine wa_icmpeq (w_rg0 (by omega) (by omega)) (w_rg0 (by omega) (by omega)) ⟨_, rfl⟩ (fun c3 => ?_) (fun c3 => ?_)
  · skip
    refine wa_iconst ?_
    refine wa_istore_n (n := 3) rfl ?_
    refine wa_fall ⟨_, rfl⟩ ?_
    exact wJ_S (st_l_73 hC hx hy hN (by omega) (N + 1) 0 (by omega) (by omega) (fun k hk => absurd hk (Nat.not_lt_zero _))) ⟨rfl, rfl, rfl, rfl, trivial⟩
  · skip
    refine wa_iconst ?_
    refine wa_zreturn rfl (Or.inl rfl) ?_
    exact ⟨rfl, Or.inr ⟨rfl, fun z => by have := z.1; omega⟩⟩
theorem mr_sm_73 {k : Nat} {ms : List hMR} {r g : hMR} (hI : wd_at S 74 64) (hg : mr_at 97 74 T S (k : Int) g) (hr : mr_at 97 74 T S (ms.length : Int) r) (hso : r.2.1 ≠ 0) : (decide (g.2.1 = r.2.1 ∧ r.2.1 ≠ 0) && (tp_q T g.2.2.2.2.2.2.1 g.2.2.2.2.2.2.2 r.2.2.2.2.2.2.1 r.2.2.2.2.2.2.2 && decide (g.2.2.2.2.1 = r.2.2.2.2.1))) = true ↔ (S 98 (k : Int) = S 98 (ms.length : Int) ∧ S 111 (k : Int) = S 111 (ms.length : Int) ∧ S 101 (k : Int) = S 101 (ms.length : Int) ∧ ∀ q : Nat, q < g.2.2.2.2.1.length → S (103 + q) (k : Int) = S (103 + q) (ms.length : Int)) := by
  have g1 : S 98 (k : Int) = g.2.1 := hg.1.2.1
  have r1 : S 98 (ms.length : Int) = r.2.1 := hr.1.2.1
  have g4 : S 101 (k : Int) = (g.2.2.2.2.1.length : Int) := hg.2.1.1
  have r4 : S 101 (ms.length : Int) = (r.2.2.2.2.1.length : Int) := hr.2.1.1
  rw [Bool.and_eq_true, Bool.and_eq_true, decide_eq_true_iff, decide_eq_true_iff, g1, r1, g4, r4, ls_eq]
  have hnm : g.2.1 = r.2.1 → (tp_q T g.2.2.2.2.2.2.1 g.2.2.2.2.2.2.2 r.2.2.2.2.2.2.1 r.2.2.2.2.2.2.2 = true ↔ S 111 (k : Int) = S 111 (ms.length : Int)) := by
    intro e
    by_cases h2 : r.2.1 = 2
    · have a1 := hg.2.2.2.1 (e.trans h2)
      have a2 := hr.2.2.2.1 h2
      have b1 : S 111 (k : Int) = 12 := a1.1
      have b2 : S 111 (ms.length : Int) = 12 := a2.1
      rw [b1, b2]
      refine ⟨fun _ => rfl, fun _ => ?_⟩
      unfold tp_q
      rw [decide_eq_true_iff, a1.2, a2.2]
      exact ⟨by omega, fun i hi => absurd hi (by omega)⟩
    · have a2 := hr.2.2.2.2 h2
      have := mr_nm hI hg (by rw [e]; exact h2) ⟨by omega, a2.1.2⟩ a2.2
      exact this.symm
  constructor
  · rintro ⟨⟨e1, -⟩, e2, e3, e4⟩
    refine ⟨e1, (hnm e1).1 e2, by omega, fun q hq => ?_⟩
    rw [show S (103 + q) (k : Int) = _ from hg.2.1.2.2.2 q hq, show S (103 + q) (ms.length : Int) = _ from hr.2.1.2.2.2 q (by omega)]
    exact e4 q hq
  · rintro ⟨e1, e2, e3, e4⟩
    refine ⟨⟨e1, hso⟩, (hnm e1).2 e2, by omega, fun q hq => ?_⟩
    have := e4 q hq
    rw [show S (103 + q) (k : Int) = _ from hg.2.1.2.2.2 q hq, show S (103 + q) (ms.length : Int) = _ from hr.2.1.2.2.2 q (by omega)] at this
    exact this
theorem ta_l_73 {ms : List hMR} {r : hMR} (hC : w_CL S) (hI : wd_at S 74 64) (hms : mr_all 97 74 T S ms) (hm : ms.length < 400) (hcu : mr_at 97 74 T S (ms.length : Int) r) (hso : r.2.1 ≠ 0) : ∀ (f k : Nat), ms.length - k < f → k ≤ ms.length → wJ (pe_GA xs) wY0 M (d + 1) t_XO_isToldAlready ((pe_at t_XO_isToldAlready.bl 1).getD (0, [])).2 [(0, (2, 73)), (1, (0, (ms.length : Int))), (2, (0, (k : Int)))] [] S (fun o Z => S = Z ∧ ((o = .inl (some (0, 1)) ∧ dp_L T r.2.1 r.2.2.2.2.2.2.1 r.2.2.2.2.2.2.2 r.2.2.2.2.1 (ms.drop k) = true) ∨ (o = .inl (some (0, 0)) ∧ dp_L T r.2.1 r.2.2.2.2.2.2.1 r.2.2.2.2.2.2.2 r.2.2.2.2.1 (ms.drop k) = false))) := by
  intro f
  induction f with
  | zero => intro k h; exact absurd h (Nat.not_lt_zero _)
  | succ f ih =>
    intro k hf hk
    refine wa_iload_n (n := 2) rfl ?_
    refine wa_iload_n (n := 1) rfl ?_
    refine wa_icmpge (w_rg0 (by omega) (by omega)) (w_rg0 (by omega) (by omega)) ⟨_, rfl⟩ (fun c1 => ?_) (fun c1 => ?_)
    · skip
      refine wa_iconst ?_
      refine wa_zreturn rfl (Or.inl rfl) ?_
      refine ⟨rfl, Or.inr ⟨rfl, ?_⟩⟩
      rw [List.drop_eq_nil_of_le (by omega)]; rfl
    · skip
      have hkl : k < ms.length := by omega
      obtain ⟨g, hgk⟩ : ∃ g, ms[k]? = some g := ⟨_, List.getElem?_eq_getElem hkl⟩
      have hg := hms.2 k g hgk
      have hsm := mr_sm_73 (k := k) hI hg hcu hso
      have hdr : ms.drop k = g :: ms.drop (k + 1) := by rw [List.drop_eq_getElem_cons hkl]; rw [List.getElem?_eq_getElem hkl] at hgk; rw [Option.some.inj hgk]
      have g4 : S 101 (k : Int) = (g.2.2.2.2.1.length : Int) := hg.2.1.1
      have g8 := hg.2.1.2.2.1
      unfold dp_L
      rw [hdr, List.any_cons]
      have ih2 := ih (k + 1)
      unfold dp_L at ih2
      refine wa_aload_n (n := 0) rfl ?_
      refine wb_gf4 73 rfl (wy_pr rfl) wt_73 wf_3_3 (v := 96) wl_73_3 ?_
      refine wa_iconst ?_
      refine wb_aald5 96 1 rfl rfl (wy_pr rfl) wt_96 (by rw [show _ = _ from ((cl_96 hC))]; omega) wl_96_1 ?_
      refine wa_iload_n (n := 2) rfl ?_
      refine wb_iald 98 rfl (wy_pr rfl) wt_98 (n := 400) ((cl_98 hC)) (by omega) (by omega) (v := (S 98 (k : Int))) rfl (fun r2 => ?_)
      refine wa_aload_n (n := 0) rfl ?_
      refine wb_gf4 73 rfl (wy_pr rfl) wt_73 wf_3_3 (v := 96) wl_73_3 ?_
      refine wa_iconst ?_
      refine wb_aald5 96 1 rfl rfl (wy_pr rfl) wt_96 (by rw [show _ = _ from ((cl_96 hC))]; omega) wl_96_1 ?_
      refine wa_iload_n (n := 1) rfl ?_
      refine wb_iald 98 rfl (wy_pr rfl) wt_98 (n := 400) ((cl_98 hC)) (by omega) (by omega) (v := (S 98 (ms.length : Int))) rfl (fun r3 => ?_)
      refine wa_icmpne (w_rg0 (by omega) (by omega)) (w_rg0 (by omega) (by omega)) ⟨_, rfl⟩ (fun c4 => ?_) (fun c4 => ?_)
      · skip
        refine wa_iinc rfl rfl ?_
        refine wa_goto ⟨_, rfl⟩ ?_
        have hno := mt hsm.1 (fun z => by first | (have := z.1; omega) | (have := z.2.1; omega) | exact hst z.2.2)
        rw [Bool.not_eq_true] at hno
        rw [hno, Bool.false_or]
        exact wJ_S (ih2 (by omega) (by omega)) ⟨rfl, rfl, rfl, trivial⟩
      · skip
        refine wa_aload_n (n := 0) rfl ?_
        refine wb_gf4 73 rfl (wy_pr rfl) wt_73 wf_3_3 (v := 96) wl_73_3 ?_
        refine wa_bipush (w_rg2 (by omega) (by omega)) ?_
        refine wb_aald5 96 14 rfl rfl (wy_pr rfl) wt_96 (by rw [show _ = _ from ((cl_96 hC))]; omega) wl_96_14 ?_
        refine wa_iload_n (n := 2) rfl ?_
        refine wb_iald 111 rfl (wy_pr rfl) wt_111 (n := 400) ((cl_111 hC)) (by omega) (by omega) (v := (S 111 (k : Int))) rfl (fun r5 => ?_)
        refine wa_aload_n (n := 0) rfl ?_
        refine wb_gf4 73 rfl (wy_pr rfl) wt_73 wf_3_3 (v := 96) wl_73_3 ?_
        refine wa_bipush (w_rg2 (by omega) (by omega)) ?_
        refine wb_aald5 96 14 rfl rfl (wy_pr rfl) wt_96 (by rw [show _ = _ from ((cl_96 hC))]; omega) wl_96_14 ?_
        refine wa_iload_n (n := 1) rfl ?_
        refine wb_iald 111 rfl (wy_pr rfl) wt_111 (n := 400) ((cl_111 hC)) (by omega) (by omega) (v := (S 111 (ms.length : Int))) rfl (fun r6 => ?_)
        refine wa_icmpne (w_rg0 (by omega) (by omega)) (w_rg0 (by omega) (by omega)) ⟨_, rfl⟩ (fun c7 => ?_) (fun c7 => ?_)
        · skip
          refine wa_iinc rfl rfl ?_
          refine wa_goto ⟨_, rfl⟩ ?_
          have hno := mt hsm.1 (fun z => by first | (have := z.1; omega) | (have := z.2.1; omega) | exact hst z.2.2)
          rw [Bool.not_eq_true] at hno
          rw [hno, Bool.false_or]
          exact wJ_S (ih2 (by omega) (by omega)) ⟨rfl, rfl, rfl, trivial⟩
        · skip
          refine wa_aload_n (n := 0) rfl ?_
          refine wa_iload_n (n := 2) rfl ?_
          refine wa_iload_n (n := 1) rfl ?_
          refine wa_cv 73 rfl (wy_pr rfl) wt_73 (M2 := fun _ => False) rfl at_XO_haveSameTypes ⟨_, rfl⟩ rfl rfl ⟨(Or.inr ⟨wy_pr rfl, fun q => q⟩), trivial, trivial, trivial⟩ trivial (fun _ _ q => False.elim q) (st_73 (N := g.2.2.2.2.1.length) hC ⟨by omega, by omega⟩ ⟨by omega, by omega⟩ ⟨g4, g8⟩) (fun oq9 Sq9 hp10 q9 => ?_)
          rcases q9 with ⟨rfl, ⟨rfl, hs8⟩ | ⟨rfl, hs8⟩⟩
          · skip
            show wJ _ _ _ _ _ _ _ _ _ _
            have hst := hs8
            refine wa_ifeq (w_rg0 (by omega) (by omega)) ⟨_, rfl⟩ (fun c11 => ?_) (fun c11 => ?_)
            · skip
              exact absurd c11 (by omega)
            · skip
              refine wa_iconst ?_
              refine wa_zreturn rfl (Or.inr rfl) ?_
              have hye := hsm.2 ⟨by omega, by omega, hst⟩
              exact ⟨rfl, Or.inl ⟨rfl, by rw [hye, Bool.true_or]⟩⟩
          · skip
            show wJ _ _ _ _ _ _ _ _ _ _
            have hst := hs8
            refine wa_ifeq (w_rg0 (by omega) (by omega)) ⟨_, rfl⟩ (fun c12 => ?_) (fun c12 => ?_)
            · skip
              refine wa_iinc rfl rfl ?_
              refine wa_goto ⟨_, rfl⟩ ?_
              have hno := mt hsm.1 (fun z => by first | (have := z.1; omega) | (have := z.2.1; omega) | exact hst z.2.2)
              rw [Bool.not_eq_true] at hno
              rw [hno, Bool.false_or]
              exact wJ_S (ih2 (by omega) (by omega)) ⟨rfl, rfl, rfl, trivial⟩
            · skip
              exact absurd c12 (by omega)
theorem ta_73 {ms : List hMR} {r : hMR} {kc : Int} {fi : Nat} (hC : w_CL S) (hI : wd_at S 74 64) (hms : mr_all 97 74 T S ms) (hm : ms.length < 400) (hcu : mr_at 97 74 T S (ms.length : Int) r) (hso : r.2.1 ≠ 0) (hkc : S 73 2 = kc + 1 ∧ 0 ≤ kc ∧ kc < 60) (hfi : S 91 kc = (fi : Int) ∧ fi ≤ ms.length) : wJ (pe_GA xs) wY0 M (d + 1) t_XO_isToldAlready ((pe_at t_XO_isToldAlready.bl 0).getD (0, [])).2 [(0, (2, 73)), (1, (0, (ms.length : Int)))] [] S (fun o Z => S = Z ∧ ((o = .inl (some (0, 1)) ∧ dp_L T r.2.1 r.2.2.2.2.2.2.1 r.2.2.2.2.2.2.2 r.2.2.2.2.1 (ms.drop fi) = true) ∨ (o = .inl (some (0, 0)) ∧ dp_L T r.2.1 r.2.2.2.2.2.2.1 r.2.2.2.2.2.2.2 r.2.2.2.2.1 (ms.drop fi) = false))) := by
  have hk1 := hkc.1
  have hf1 := hfi.1
  refine wa_aload_n (n := 0) rfl ?_
  refine wb_gf4 73 rfl (wy_pr rfl) wt_73 wf_3_1 (v := 86) wl_73_1 ?_
  refine wa_iconst ?_
  refine wb_aald5 86 4 rfl rfl (wy_pr rfl) wt_86 (by rw [show _ = _ from ((cl_86 hC))]; omega) wl_86_4 ?_
  refine wa_aload_n (n := 0) rfl ?_
  refine wb_gfi 73 rfl (wy_pr rfl) wt_73 wf_3_2 (v := (kc + 1)) (hk1) (fun r1 => ?_)
  refine wa_iconst ?_
  refine wa_isub ?_
  refine wb_iald 91 rfl (wy_pr rfl) wt_91 (n := 60) ((cl_91 hC)) (by omega) (by omega) (v := (fi : Int)) ((by rw [show kc + 1 - 1 = kc by omega]; exact hf1)) (fun r2 => ?_)
  refine wa_istore_n (n := 2) rfl ?_
  refine wa_fall ⟨_, rfl⟩ ?_
  exact wJ_S (ta_l_73 hC hI hms hm hcu hso (ms.length + 1) fi (by omega) hfi.2) ⟨rfl, rfl, rfl, trivial⟩
theorem of_l_73 {ms : List hMR} {v f0 e0 : Int} (hC : w_CL S) (hI : wd_at S 74 64) (hms : mr_all 97 74 T S ms) (hmc : S 73 4 = (ms.length : Int)) (hv : 0 ≤ v ∧ v < S 74 7 ∧ v ≤ 2147483647) (hq : wq (S 75) (S 76) (S 77) T f0 (e0 - f0) v) : ∀ (f k : Nat), ms.length - k < f → k ≤ ms.length → wJ (pe_GA xs) wY0 M d t_XO_hasOwnField ((pe_at t_XO_hasOwnField.bl 1).getD (0, [])).2 [(0, (2, 73)), (1, (0, v)), (2, (0, (k : Int)))] [] S (fun o Z => S = Z ∧ ((o = .inl (some (0, 1)) ∧ df_L T f0 e0 (ms.drop k) = true) ∨ (o = .inl (some (0, 0)) ∧ df_L T f0 e0 (ms.drop k) = false))) := by
  have h400 := hms.1
  intro f
  induction f with
  | zero => intro k h; exact absurd h (Nat.not_lt_zero _)
  | succ f ih =>
    intro k hf hk
    refine wa_iload_n (n := 2) rfl ?_
    refine wa_aload_n (n := 0) rfl ?_
    refine wb_gfi 73 rfl (wy_pr rfl) wt_73 wf_3_4 (v := (ms.length : Int)) (hmc) (fun r1 => ?_)
    refine wa_icmpge (w_rg0 (by omega) (by omega)) (w_rg0 (by omega) (by omega)) ⟨_, rfl⟩ (fun c2 => ?_) (fun c2 => ?_)
    · skip
      refine wa_iconst ?_
      refine wa_zreturn rfl (Or.inl rfl) ?_
      refine ⟨rfl, Or.inr ⟨rfl, ?_⟩⟩
      rw [List.drop_eq_nil_of_le (by omega)]; rfl
    · skip
      have hkl : k < ms.length := by omega
      obtain ⟨g, hgk⟩ : ∃ g, ms[k]? = some g := ⟨_, List.getElem?_eq_getElem hkl⟩
      have hg := hms.2 k g hgk
      have g1 : S 98 (k : Int) = g.2.1 := hg.1.2.1
      have hnm := fun z : g.2.1 ≠ 2 => mr_nm hI hg z ⟨hv.1, hv.2.1⟩ hq
      have hnm : g.2.1 ≠ 2 → (S 111 (k : Int) = v ↔ tp_q T g.2.2.2.2.2.2.1 g.2.2.2.2.2.2.2 f0 e0 = true) := hnm
      have hdr : ms.drop k = g :: ms.drop (k + 1) := by rw [List.drop_eq_getElem_cons hkl]; rw [List.getElem?_eq_getElem hkl] at hgk; rw [Option.some.inj hgk]
      unfold df_L
      rw [hdr, List.any_cons]
      have ih2 := ih (k + 1)
      unfold df_L at ih2
      refine wa_aload_n (n := 0) rfl ?_
      refine wb_gf4 73 rfl (wy_pr rfl) wt_73 wf_3_3 (v := 96) wl_73_3 ?_
      refine wa_iconst ?_
      refine wb_aald5 96 1 rfl rfl (wy_pr rfl) wt_96 (by rw [show _ = _ from ((cl_96 hC))]; omega) wl_96_1 ?_
      refine wa_iload_n (n := 2) rfl ?_
      refine wb_iald 98 rfl (wy_pr rfl) wt_98 (n := 400) ((cl_98 hC)) (by omega) (by omega) (v := (g.2.1)) (g1) (fun r3 => ?_)
      refine wa_ifne (w_rg0 (by omega) (by omega)) ⟨_, rfl⟩ (fun c4 => ?_) (fun c4 => ?_)
      · skip
        refine wa_iinc rfl rfl ?_
        refine wa_goto ⟨_, rfl⟩ ?_
        have hno : ¬ (decide (g.2.1 = 0) && tp_q T g.2.2.2.2.2.2.1 g.2.2.2.2.2.2.2 f0 e0) = true := by
          rw [Bool.and_eq_true, decide_eq_true_iff]; rintro ⟨z1, z2⟩; first | omega | (have := (hnm (by omega)).2 z2; omega)
        rw [Bool.not_eq_true] at hno
        rw [hno, Bool.false_or]
        exact wJ_S (ih2 (by omega) (by omega)) ⟨rfl, rfl, rfl, trivial⟩
      · skip
        refine wa_aload_n (n := 0) rfl ?_
        refine wb_gf4 73 rfl (wy_pr rfl) wt_73 wf_3_3 (v := 96) wl_73_3 ?_
        refine wa_bipush (w_rg2 (by omega) (by omega)) ?_
        refine wb_aald5 96 14 rfl rfl (wy_pr rfl) wt_96 (by rw [show _ = _ from ((cl_96 hC))]; omega) wl_96_14 ?_
        refine wa_iload_n (n := 2) rfl ?_
        refine wb_iald 111 rfl (wy_pr rfl) wt_111 (n := 400) ((cl_111 hC)) (by omega) (by omega) (v := (S 111 (k : Int))) rfl (fun r5 => ?_)
        refine wa_iload_n (n := 1) rfl ?_
        refine wa_icmpne (w_rg0 (by omega) (by omega)) (w_rg0 (by omega) (by omega)) ⟨_, rfl⟩ (fun c6 => ?_) (fun c6 => ?_)
        · skip
          refine wa_iinc rfl rfl ?_
          refine wa_goto ⟨_, rfl⟩ ?_
          have hno : ¬ (decide (g.2.1 = 0) && tp_q T g.2.2.2.2.2.2.1 g.2.2.2.2.2.2.2 f0 e0) = true := by
            rw [Bool.and_eq_true, decide_eq_true_iff]; rintro ⟨z1, z2⟩; first | omega | (have := (hnm (by omega)).2 z2; omega)
          rw [Bool.not_eq_true] at hno
          rw [hno, Bool.false_or]
          exact wJ_S (ih2 (by omega) (by omega)) ⟨rfl, rfl, rfl, trivial⟩
        · skip
          refine wa_iconst ?_
          refine wa_zreturn rfl (Or.inr rfl) ?_
          have hye : (decide (g.2.1 = 0) && tp_q T g.2.2.2.2.2.2.1 g.2.2.2.2.2.2.2 f0 e0) = true := by
            rw [Bool.and_eq_true, decide_eq_true_iff]; exact ⟨by omega, (hnm (by omega)).1 (by omega)⟩
          exact ⟨rfl, Or.inl ⟨rfl, by rw [hye, Bool.true_or]⟩⟩
theorem of_73 {ms : List hMR} {v f0 e0 kc : Int} {fi : Nat} (hC : w_CL S) (hI : wd_at S 74 64) (hms : mr_all 97 74 T S ms) (hmc : S 73 4 = (ms.length : Int)) (hv : 0 ≤ v ∧ v < S 74 7 ∧ v ≤ 2147483647) (hq : wq (S 75) (S 76) (S 77) T f0 (e0 - f0) v) (hkc : S 73 2 = kc + 1 ∧ 0 ≤ kc ∧ kc < 60) (hfi : S 91 kc = (fi : Int) ∧ fi ≤ ms.length) : wJ (pe_GA xs) wY0 M d t_XO_hasOwnField ((pe_at t_XO_hasOwnField.bl 0).getD (0, [])).2 [(0, (2, 73)), (1, (0, v))] [] S (fun o Z => S = Z ∧ ((o = .inl (some (0, 1)) ∧ df_L T f0 e0 (ms.drop fi) = true) ∨ (o = .inl (some (0, 0)) ∧ df_L T f0 e0 (ms.drop fi) = false))) := by
  have hk1 := hkc.1
  have hf1 := hfi.1
  refine wa_aload_n (n := 0) rfl ?_
  refine wb_gf4 73 rfl (wy_pr rfl) wt_73 wf_3_1 (v := 86) wl_73_1 ?_
  refine wa_iconst ?_
  refine wb_aald5 86 4 rfl rfl (wy_pr rfl) wt_86 (by rw [show _ = _ from ((cl_86 hC))]; omega) wl_86_4 ?_
  refine wa_aload_n (n := 0) rfl ?_
  refine wb_gfi 73 rfl (wy_pr rfl) wt_73 wf_3_2 (v := (kc + 1)) (hk1) (fun r1 => ?_)
  refine wa_iconst ?_
  refine wa_isub ?_
  refine wb_iald 91 rfl (wy_pr rfl) wt_91 (n := 60) ((cl_91 hC)) (by omega) (by omega) (v := (fi : Int)) ((by rw [show kc + 1 - 1 = kc by omega]; exact hf1)) (fun r2 => ?_)
  refine wa_istore_n (n := 2) rfl ?_
  refine wa_fall ⟨_, rfl⟩ ?_
  exact wJ_S (of_l_73 hC hI hms hmc hv hq (ms.length + 1) fi (by omega) hfi.2) ⟨rfl, rfl, rfl, trivial⟩
theorem mr_ln_162 {q : Nat} (hq : q < 8) : wY0.ln 185 (6 + q) = ((192 + q : Nat) : Int) := by
  have : q = 0 ∨ q = 1 ∨ q = 2 ∨ q = 3 ∨ q = 4 ∨ q = 5 ∨ q = 6 ∨ q = 7 := by omega
  rcases this with rfl | rfl | rfl | rfl | rfl | rfl | rfl | rfl <;> decide +kernel
theorem mr_ty_162 {q : Nat} (hq : q < 8) : wY0.ty (192 + q) = 0 := by
  have : q = 0 ∨ q = 1 ∨ q = 2 ∨ q = 3 ∨ q = 4 ∨ q = 5 ∨ q = 6 ∨ q = 7 := by omega
  rcases this with rfl | rfl | rfl | rfl | rfl | rfl | rfl | rfl <;> decide +kernel
theorem cl_mr_162 {q : Nat} (h : w_CL S) (hq : q < 8) : S (192 + q) (-1) = 400 := by
  have : q = 0 ∨ q = 1 ∨ q = 2 ∨ q = 3 ∨ q = 4 ∨ q = 5 ∨ q = 6 ∨ q = 7 := by omega
  rcases this with rfl | rfl | rfl | rfl | rfl | rfl | rfl | rfl
  · exact cl_192 h
  · exact cl_193 h
  · exact cl_194 h
  · exact cl_195 h
  · exact cl_196 h
  · exact cl_197 h
  · exact cl_198 h
  · exact cl_199 h
theorem st_l_162 {x y : Int} {N : Nat} (hC : w_CL S) (hx : 0 ≤ x ∧ x < 400) (hy : 0 ≤ y ∧ y < 400) (hN : S 190 x = (N : Int) ∧ N ≤ 8) (he : S 190 x = S 190 y) : ∀ (f q : Nat), N - q < f → q ≤ N → (∀ k : Nat, k < q → S (192 + k) x = S (192 + k) y) → wJ (pe_GA xs) wY0 M d t_XO_haveSameTypes ((pe_at t_XO_haveSameTypes.bl 2).getD (0, [])).2 [(0, (2, 162)), (1, (0, x)), (2, (0, y)), (3, (0, (q : Int)))] [] S (fun o Z => S = Z ∧ ((o = .inl (some (0, 1)) ∧ S 190 x = S 190 y ∧ ∀ q : Nat, q < N → S (192 + q) x = S (192 + q) y) ∨ (o = .inl (some (0, 0)) ∧ ¬ (S 190 x = S 190 y ∧ ∀ q : Nat, q < N → S (192 + q) x = S (192 + q) y)))) := by
  have hN1 := hN.1
  have hN2 := hN.2
  intro f
  induction f with
  | zero => intro q h; exact absurd h (Nat.not_lt_zero _)
  | succ f ih =>
    intro q hf hq ha
    refine wa_iload_n (n := 3) rfl ?_
    refine wa_aload_n (n := 0) rfl ?_
    refine wb_gf4 162 rfl (wy_pr rfl) wt_162 wf_3_3 (v := 185) wl_162_3 ?_
    refine wa_iconst ?_
    refine wb_aald5 185 4 rfl rfl (wy_pr rfl) wt_185 (by rw [show _ = _ from ((cl_185 hC))]; omega) wl_185_4 ?_
    refine wa_iload_n (n := 1) rfl ?_
    refine wb_iald 190 rfl (wy_pr rfl) wt_190 (n := 400) ((cl_190 hC)) (by omega) (by omega) (v := (N : Int)) (hN1) (fun r1 => ?_)
    refine wa_icmpge (w_rg0 (by omega) (by omega)) (w_rg0 (by omega) (by omega)) ⟨_, rfl⟩ (fun c2 => ?_) (fun c2 => ?_)
    · skip
      refine wa_iconst ?_
      refine wa_zreturn rfl (Or.inr rfl) ?_
      exact ⟨rfl, Or.inl ⟨rfl, he, fun k hk => ha k (by omega)⟩⟩
    · skip
      refine wa_aload_n (n := 0) rfl ?_
      refine wb_gf4 162 rfl (wy_pr rfl) wt_162 wf_3_3 (v := 185) wl_162_3 ?_
      refine wa_bipush (w_rg2 (by omega) (by omega)) ?_
      refine wa_iload_n (n := 3) rfl ?_
      refine wa_iadd ?_
      refine wb_aald5 185 (6 + q) rfl (by omega) (wy_pr rfl) wt_185 (by rw [show _ = _ from ((cl_185 hC))]; omega) (mr_ln_162 (by omega)) ?_
      refine wa_iload_n (n := 1) rfl ?_
      refine wb_iald (192 + q) rfl (wy_p2 (by omega)) (mr_ty_162 (by omega)) (n := 400) ((cl_mr_162 hC (by omega))) (by omega) (by omega) (v := (S (192 + q) x)) rfl (fun r3 => ?_)
      refine wa_aload_n (n := 0) rfl ?_
      refine wb_gf4 162 rfl (wy_pr rfl) wt_162 wf_3_3 (v := 185) wl_162_3 ?_
      refine wa_bipush (w_rg2 (by omega) (by omega)) ?_
      refine wa_iload_n (n := 3) rfl ?_
      refine wa_iadd ?_
      refine wb_aald5 185 (6 + q) rfl (by omega) (wy_pr rfl) wt_185 (by rw [show _ = _ from ((cl_185 hC))]; omega) (mr_ln_162 (by omega)) ?_
      refine wa_iload_n (n := 2) rfl ?_
      refine wb_iald (192 + q) rfl (wy_p2 (by omega)) (mr_ty_162 (by omega)) (n := 400) ((cl_mr_162 hC (by omega))) (by omega) (by omega) (v := (S (192 + q) y)) rfl (fun r4 => ?_)
      refine wa_icmpeq (w_rg0 (by omega) (by omega)) (w_rg0 (by omega) (by omega)) ⟨_, rfl⟩ (fun c5 => ?_) (fun c5 => ?_)
      · skip
        refine wa_iinc rfl rfl ?_
        refine wa_goto ⟨_, rfl⟩ ?_
        refine wJ_S (ih (q + 1) (by omega) (by omega) (fun k hk => ?_)) ⟨rfl, rfl, rfl, rfl, trivial⟩
        by_cases hkq : k = q
        · rw [hkq]; assumption
        · exact ha k (by omega)
      · skip
        refine wa_iconst ?_
        refine wa_zreturn rfl (Or.inl rfl) ?_
        refine ⟨rfl, Or.inr ⟨rfl, fun z => ?_⟩⟩
        have := z.2 q (by omega)
        contradiction
theorem st_162 {x y : Int} {N : Nat} (hC : w_CL S) (hx : 0 ≤ x ∧ x < 400) (hy : 0 ≤ y ∧ y < 400) (hN : S 190 x = (N : Int) ∧ N ≤ 8) : wJ (pe_GA xs) wY0 M d t_XO_haveSameTypes ((pe_at t_XO_haveSameTypes.bl 0).getD (0, [])).2 [(0, (2, 162)), (1, (0, x)), (2, (0, y))] [] S (fun o Z => S = Z ∧ ((o = .inl (some (0, 1)) ∧ S 190 x = S 190 y ∧ ∀ q : Nat, q < N → S (192 + q) x = S (192 + q) y) ∨ (o = .inl (some (0, 0)) ∧ ¬ (S 190 x = S 190 y ∧ ∀ q : Nat, q < N → S (192 + q) x = S (192 + q) y)))) := by
  have hN1 := hN.1
  have hN2 := hN.2
  refine wa_aload_n (n := 0) rfl ?_
  refine wb_gf4 162 rfl (wy_pr rfl) wt_162 wf_3_3 (v := 185) wl_162_3 ?_
  refine wa_iconst ?_
  refine wb_aald5 185 4 rfl rfl (wy_pr rfl) wt_185 (by rw [show _ = _ from ((cl_185 hC))]; omega) wl_185_4 ?_
  refine wa_iload_n (n := 1) rfl ?_
  refine wb_iald 190 rfl (wy_pr rfl) wt_190 (n := 400) ((cl_190 hC)) (by omega) (by omega) (v := (N : Int)) (hN1) (fun r1 => ?_)
  refine wa_aload_n (n := 0) rfl ?_
  refine wb_gf4 162 rfl (wy_pr rfl) wt_162 wf_3_3 (v := 185) wl_162_3 ?_
  refine wa_iconst ?_
  refine wb_aald5 185 4 rfl rfl (wy_pr rfl) wt_185 (by rw [show _ = _ from ((cl_185 hC))]; omega) wl_185_4 ?_
  refine wa_iload_n (n := 2) rfl ?_
  refine wb_iald 190 rfl (wy_pr rfl) wt_190 (n := 400) ((cl_190 hC)) (by omega) (by omega) (v := (S 190 y)) rfl (fun r2 => ?_)
  refine wa_icmpeq (w_rg0 (by omega) (by omega)) (w_rg0 (by omega) (by omega)) ⟨_, rfl⟩ (fun c3 => ?_) (fun c3 => ?_)
  · skip
    refine wa_iconst ?_
    refine wa_istore_n (n := 3) rfl ?_
    refine wa_fall ⟨_, rfl⟩ ?_
    exact wJ_S (st_l_162 hC hx hy hN (by omega) (N + 1) 0 (by omega) (by omega) (fun k hk => absurd hk (Nat.not_lt_zero _))) ⟨rfl, rfl, rfl, rfl, trivial⟩
  · skip
    refine wa_iconst ?_
    refine wa_zreturn rfl (Or.inl rfl) ?_
    exact ⟨rfl, Or.inr ⟨rfl, fun z => by have := z.1; omega⟩⟩
theorem mr_sm_162 {k : Nat} {ms : List hMR} {r g : hMR} (hI : wd_at S 163 64) (hg : mr_at 186 163 T S (k : Int) g) (hr : mr_at 186 163 T S (ms.length : Int) r) (hso : r.2.1 ≠ 0) : (decide (g.2.1 = r.2.1 ∧ r.2.1 ≠ 0) && (tp_q T g.2.2.2.2.2.2.1 g.2.2.2.2.2.2.2 r.2.2.2.2.2.2.1 r.2.2.2.2.2.2.2 && decide (g.2.2.2.2.1 = r.2.2.2.2.1))) = true ↔ (S 187 (k : Int) = S 187 (ms.length : Int) ∧ S 200 (k : Int) = S 200 (ms.length : Int) ∧ S 190 (k : Int) = S 190 (ms.length : Int) ∧ ∀ q : Nat, q < g.2.2.2.2.1.length → S (192 + q) (k : Int) = S (192 + q) (ms.length : Int)) := by
  have g1 : S 187 (k : Int) = g.2.1 := hg.1.2.1
  have r1 : S 187 (ms.length : Int) = r.2.1 := hr.1.2.1
  have g4 : S 190 (k : Int) = (g.2.2.2.2.1.length : Int) := hg.2.1.1
  have r4 : S 190 (ms.length : Int) = (r.2.2.2.2.1.length : Int) := hr.2.1.1
  rw [Bool.and_eq_true, Bool.and_eq_true, decide_eq_true_iff, decide_eq_true_iff, g1, r1, g4, r4, ls_eq]
  have hnm : g.2.1 = r.2.1 → (tp_q T g.2.2.2.2.2.2.1 g.2.2.2.2.2.2.2 r.2.2.2.2.2.2.1 r.2.2.2.2.2.2.2 = true ↔ S 200 (k : Int) = S 200 (ms.length : Int)) := by
    intro e
    by_cases h2 : r.2.1 = 2
    · have a1 := hg.2.2.2.1 (e.trans h2)
      have a2 := hr.2.2.2.1 h2
      have b1 : S 200 (k : Int) = 12 := a1.1
      have b2 : S 200 (ms.length : Int) = 12 := a2.1
      rw [b1, b2]
      refine ⟨fun _ => rfl, fun _ => ?_⟩
      unfold tp_q
      rw [decide_eq_true_iff, a1.2, a2.2]
      exact ⟨by omega, fun i hi => absurd hi (by omega)⟩
    · have a2 := hr.2.2.2.2 h2
      have := mr_nm hI hg (by rw [e]; exact h2) ⟨by omega, a2.1.2⟩ a2.2
      exact this.symm
  constructor
  · rintro ⟨⟨e1, -⟩, e2, e3, e4⟩
    refine ⟨e1, (hnm e1).1 e2, by omega, fun q hq => ?_⟩
    rw [show S (192 + q) (k : Int) = _ from hg.2.1.2.2.2 q hq, show S (192 + q) (ms.length : Int) = _ from hr.2.1.2.2.2 q (by omega)]
    exact e4 q hq
  · rintro ⟨e1, e2, e3, e4⟩
    refine ⟨⟨e1, hso⟩, (hnm e1).2 e2, by omega, fun q hq => ?_⟩
    have := e4 q hq
    rw [show S (192 + q) (k : Int) = _ from hg.2.1.2.2.2 q hq, show S (192 + q) (ms.length : Int) = _ from hr.2.1.2.2.2 q (by omega)] at this
    exact this
theorem ta_l_162 {ms : List hMR} {r : hMR} (hC : w_CL S) (hI : wd_at S 163 64) (hms : mr_all 186 163 T S ms) (hm : ms.length < 400) (hcu : mr_at 186 163 T S (ms.length : Int) r) (hso : r.2.1 ≠ 0) : ∀ (f k : Nat), ms.length - k < f → k ≤ ms.length → wJ (pe_GA xs) wY0 M (d + 1) t_XO_isToldAlready ((pe_at t_XO_isToldAlready.bl 1).getD (0, [])).2 [(0, (2, 162)), (1, (0, (ms.length : Int))), (2, (0, (k : Int)))] [] S (fun o Z => S = Z ∧ ((o = .inl (some (0, 1)) ∧ dp_L T r.2.1 r.2.2.2.2.2.2.1 r.2.2.2.2.2.2.2 r.2.2.2.2.1 (ms.drop k) = true) ∨ (o = .inl (some (0, 0)) ∧ dp_L T r.2.1 r.2.2.2.2.2.2.1 r.2.2.2.2.2.2.2 r.2.2.2.2.1 (ms.drop k) = false))) := by
  intro f
  induction f with
  | zero => intro k h; exact absurd h (Nat.not_lt_zero _)
  | succ f ih =>
    intro k hf hk
    refine wa_iload_n (n := 2) rfl ?_
    refine wa_iload_n (n := 1) rfl ?_
    refine wa_icmpge (w_rg0 (by omega) (by omega)) (w_rg0 (by omega) (by omega)) ⟨_, rfl⟩ (fun c1 => ?_) (fun c1 => ?_)
    · skip
      refine wa_iconst ?_
      refine wa_zreturn rfl (Or.inl rfl) ?_
      refine ⟨rfl, Or.inr ⟨rfl, ?_⟩⟩
      rw [List.drop_eq_nil_of_le (by omega)]; rfl
    · skip
      have hkl : k < ms.length := by omega
      obtain ⟨g, hgk⟩ : ∃ g, ms[k]? = some g := ⟨_, List.getElem?_eq_getElem hkl⟩
      have hg := hms.2 k g hgk
      have hsm := mr_sm_162 (k := k) hI hg hcu hso
      have hdr : ms.drop k = g :: ms.drop (k + 1) := by rw [List.drop_eq_getElem_cons hkl]; rw [List.getElem?_eq_getElem hkl] at hgk; rw [Option.some.inj hgk]
      have g4 : S 190 (k : Int) = (g.2.2.2.2.1.length : Int) := hg.2.1.1
      have g8 := hg.2.1.2.2.1
      unfold dp_L
      rw [hdr, List.any_cons]
      have ih2 := ih (k + 1)
      unfold dp_L at ih2
      refine wa_aload_n (n := 0) rfl ?_
      refine wb_gf4 162 rfl (wy_pr rfl) wt_162 wf_3_3 (v := 185) wl_162_3 ?_
      refine wa_iconst ?_
      refine wb_aald5 185 1 rfl rfl (wy_pr rfl) wt_185 (by rw [show _ = _ from ((cl_185 hC))]; omega) wl_185_1 ?_
      refine wa_iload_n (n := 2) rfl ?_
      refine wb_iald 187 rfl (wy_pr rfl) wt_187 (n := 400) ((cl_187 hC)) (by omega) (by omega) (v := (S 187 (k : Int))) rfl (fun r2 => ?_)
      refine wa_aload_n (n := 0) rfl ?_
      refine wb_gf4 162 rfl (wy_pr rfl) wt_162 wf_3_3 (v := 185) wl_162_3 ?_
      refine wa_iconst ?_
      refine wb_aald5 185 1 rfl rfl (wy_pr rfl) wt_185 (by rw [show _ = _ from ((cl_185 hC))]; omega) wl_185_1 ?_
      refine wa_iload_n (n := 1) rfl ?_
      refine wb_iald 187 rfl (wy_pr rfl) wt_187 (n := 400) ((cl_187 hC)) (by omega) (by omega) (v := (S 187 (ms.length : Int))) rfl (fun r3 => ?_)
      refine wa_icmpne (w_rg0 (by omega) (by omega)) (w_rg0 (by omega) (by omega)) ⟨_, rfl⟩ (fun c4 => ?_) (fun c4 => ?_)
      · skip
        refine wa_iinc rfl rfl ?_
        refine wa_goto ⟨_, rfl⟩ ?_
        have hno := mt hsm.1 (fun z => by first | (have := z.1; omega) | (have := z.2.1; omega) | exact hst z.2.2)
        rw [Bool.not_eq_true] at hno
        rw [hno, Bool.false_or]
        exact wJ_S (ih2 (by omega) (by omega)) ⟨rfl, rfl, rfl, trivial⟩
      · skip
        refine wa_aload_n (n := 0) rfl ?_
        refine wb_gf4 162 rfl (wy_pr rfl) wt_162 wf_3_3 (v := 185) wl_162_3 ?_
        refine wa_bipush (w_rg2 (by omega) (by omega)) ?_
        refine wb_aald5 185 14 rfl rfl (wy_pr rfl) wt_185 (by rw [show _ = _ from ((cl_185 hC))]; omega) wl_185_14 ?_
        refine wa_iload_n (n := 2) rfl ?_
        refine wb_iald 200 rfl (wy_pr rfl) wt_200 (n := 400) ((cl_200 hC)) (by omega) (by omega) (v := (S 200 (k : Int))) rfl (fun r5 => ?_)
        refine wa_aload_n (n := 0) rfl ?_
        refine wb_gf4 162 rfl (wy_pr rfl) wt_162 wf_3_3 (v := 185) wl_162_3 ?_
        refine wa_bipush (w_rg2 (by omega) (by omega)) ?_
        refine wb_aald5 185 14 rfl rfl (wy_pr rfl) wt_185 (by rw [show _ = _ from ((cl_185 hC))]; omega) wl_185_14 ?_
        refine wa_iload_n (n := 1) rfl ?_
        refine wb_iald 200 rfl (wy_pr rfl) wt_200 (n := 400) ((cl_200 hC)) (by omega) (by omega) (v := (S 200 (ms.length : Int))) rfl (fun r6 => ?_)
        refine wa_icmpne (w_rg0 (by omega) (by omega)) (w_rg0 (by omega) (by omega)) ⟨_, rfl⟩ (fun c7 => ?_) (fun c7 => ?_)
        · skip
          refine wa_iinc rfl rfl ?_
          refine wa_goto ⟨_, rfl⟩ ?_
          have hno := mt hsm.1 (fun z => by first | (have := z.1; omega) | (have := z.2.1; omega) | exact hst z.2.2)
          rw [Bool.not_eq_true] at hno
          rw [hno, Bool.false_or]
          exact wJ_S (ih2 (by omega) (by omega)) ⟨rfl, rfl, rfl, trivial⟩
        · skip
          refine wa_aload_n (n := 0) rfl ?_
          refine wa_iload_n (n := 2) rfl ?_
          refine wa_iload_n (n := 1) rfl ?_
          refine wa_cv 162 rfl (wy_pr rfl) wt_162 (M2 := fun _ => False) rfl at_XO_haveSameTypes ⟨_, rfl⟩ rfl rfl ⟨(Or.inr ⟨wy_pr rfl, fun q => q⟩), trivial, trivial, trivial⟩ trivial (fun _ _ q => False.elim q) (st_162 (N := g.2.2.2.2.1.length) hC ⟨by omega, by omega⟩ ⟨by omega, by omega⟩ ⟨g4, g8⟩) (fun oq9 Sq9 hp10 q9 => ?_)
          rcases q9 with ⟨rfl, ⟨rfl, hs8⟩ | ⟨rfl, hs8⟩⟩
          · skip
            show wJ _ _ _ _ _ _ _ _ _ _
            have hst := hs8
            refine wa_ifeq (w_rg0 (by omega) (by omega)) ⟨_, rfl⟩ (fun c11 => ?_) (fun c11 => ?_)
            · skip
              exact absurd c11 (by omega)
            · skip
              refine wa_iconst ?_
              refine wa_zreturn rfl (Or.inr rfl) ?_
              have hye := hsm.2 ⟨by omega, by omega, hst⟩
              exact ⟨rfl, Or.inl ⟨rfl, by rw [hye, Bool.true_or]⟩⟩
          · skip
            show wJ _ _ _ _ _ _ _ _ _ _
            have hst := hs8
            refine wa_ifeq (w_rg0 (by omega) (by omega)) ⟨_, rfl⟩ (fun c12 => ?_) (fun c12 => ?_)
            · skip
              refine wa_iinc rfl rfl ?_
              refine wa_goto ⟨_, rfl⟩ ?_
              have hno := mt hsm.1 (fun z => by first | (have := z.1; omega) | (have := z.2.1; omega) | exact hst z.2.2)
              rw [Bool.not_eq_true] at hno
              rw [hno, Bool.false_or]
              exact wJ_S (ih2 (by omega) (by omega)) ⟨rfl, rfl, rfl, trivial⟩
            · skip
              exact absurd c12 (by omega)
theorem ta_162 {ms : List hMR} {r : hMR} {kc : Int} {fi : Nat} (hC : w_CL S) (hI : wd_at S 163 64) (hms : mr_all 186 163 T S ms) (hm : ms.length < 400) (hcu : mr_at 186 163 T S (ms.length : Int) r) (hso : r.2.1 ≠ 0) (hkc : S 162 2 = kc + 1 ∧ 0 ≤ kc ∧ kc < 60) (hfi : S 180 kc = (fi : Int) ∧ fi ≤ ms.length) : wJ (pe_GA xs) wY0 M (d + 1) t_XO_isToldAlready ((pe_at t_XO_isToldAlready.bl 0).getD (0, [])).2 [(0, (2, 162)), (1, (0, (ms.length : Int)))] [] S (fun o Z => S = Z ∧ ((o = .inl (some (0, 1)) ∧ dp_L T r.2.1 r.2.2.2.2.2.2.1 r.2.2.2.2.2.2.2 r.2.2.2.2.1 (ms.drop fi) = true) ∨ (o = .inl (some (0, 0)) ∧ dp_L T r.2.1 r.2.2.2.2.2.2.1 r.2.2.2.2.2.2.2 r.2.2.2.2.1 (ms.drop fi) = false))) := by
  have hk1 := hkc.1
  have hf1 := hfi.1
  refine wa_aload_n (n := 0) rfl ?_
  refine wb_gf4 162 rfl (wy_pr rfl) wt_162 wf_3_1 (v := 175) wl_162_1 ?_
  refine wa_iconst ?_
  refine wb_aald5 175 4 rfl rfl (wy_pr rfl) wt_175 (by rw [show _ = _ from ((cl_175 hC))]; omega) wl_175_4 ?_
  refine wa_aload_n (n := 0) rfl ?_
  refine wb_gfi 162 rfl (wy_pr rfl) wt_162 wf_3_2 (v := (kc + 1)) (hk1) (fun r1 => ?_)
  refine wa_iconst ?_
  refine wa_isub ?_
  refine wb_iald 180 rfl (wy_pr rfl) wt_180 (n := 60) ((cl_180 hC)) (by omega) (by omega) (v := (fi : Int)) ((by rw [show kc + 1 - 1 = kc by omega]; exact hf1)) (fun r2 => ?_)
  refine wa_istore_n (n := 2) rfl ?_
  refine wa_fall ⟨_, rfl⟩ ?_
  exact wJ_S (ta_l_162 hC hI hms hm hcu hso (ms.length + 1) fi (by omega) hfi.2) ⟨rfl, rfl, rfl, trivial⟩
theorem of_l_162 {ms : List hMR} {v f0 e0 : Int} (hC : w_CL S) (hI : wd_at S 163 64) (hms : mr_all 186 163 T S ms) (hmc : S 162 4 = (ms.length : Int)) (hv : 0 ≤ v ∧ v < S 163 7 ∧ v ≤ 2147483647) (hq : wq (S 164) (S 165) (S 166) T f0 (e0 - f0) v) : ∀ (f k : Nat), ms.length - k < f → k ≤ ms.length → wJ (pe_GA xs) wY0 M d t_XO_hasOwnField ((pe_at t_XO_hasOwnField.bl 1).getD (0, [])).2 [(0, (2, 162)), (1, (0, v)), (2, (0, (k : Int)))] [] S (fun o Z => S = Z ∧ ((o = .inl (some (0, 1)) ∧ df_L T f0 e0 (ms.drop k) = true) ∨ (o = .inl (some (0, 0)) ∧ df_L T f0 e0 (ms.drop k) = false))) := by
  have h400 := hms.1
  intro f
  induction f with
  | zero => intro k h; exact absurd h (Nat.not_lt_zero _)
  | succ f ih =>
    intro k hf hk
    refine wa_iload_n (n := 2) rfl ?_
    refine wa_aload_n (n := 0) rfl ?_
    refine wb_gfi 162 rfl (wy_pr rfl) wt_162 wf_3_4 (v := (ms.length : Int)) (hmc) (fun r1 => ?_)
    refine wa_icmpge (w_rg0 (by omega) (by omega)) (w_rg0 (by omega) (by omega)) ⟨_, rfl⟩ (fun c2 => ?_) (fun c2 => ?_)
    · skip
      refine wa_iconst ?_
      refine wa_zreturn rfl (Or.inl rfl) ?_
      refine ⟨rfl, Or.inr ⟨rfl, ?_⟩⟩
      rw [List.drop_eq_nil_of_le (by omega)]; rfl
    · skip
      have hkl : k < ms.length := by omega
      obtain ⟨g, hgk⟩ : ∃ g, ms[k]? = some g := ⟨_, List.getElem?_eq_getElem hkl⟩
      have hg := hms.2 k g hgk
      have g1 : S 187 (k : Int) = g.2.1 := hg.1.2.1
      have hnm := fun z : g.2.1 ≠ 2 => mr_nm hI hg z ⟨hv.1, hv.2.1⟩ hq
      have hnm : g.2.1 ≠ 2 → (S 200 (k : Int) = v ↔ tp_q T g.2.2.2.2.2.2.1 g.2.2.2.2.2.2.2 f0 e0 = true) := hnm
      have hdr : ms.drop k = g :: ms.drop (k + 1) := by rw [List.drop_eq_getElem_cons hkl]; rw [List.getElem?_eq_getElem hkl] at hgk; rw [Option.some.inj hgk]
      unfold df_L
      rw [hdr, List.any_cons]
      have ih2 := ih (k + 1)
      unfold df_L at ih2
      refine wa_aload_n (n := 0) rfl ?_
      refine wb_gf4 162 rfl (wy_pr rfl) wt_162 wf_3_3 (v := 185) wl_162_3 ?_
      refine wa_iconst ?_
      refine wb_aald5 185 1 rfl rfl (wy_pr rfl) wt_185 (by rw [show _ = _ from ((cl_185 hC))]; omega) wl_185_1 ?_
      refine wa_iload_n (n := 2) rfl ?_
      refine wb_iald 187 rfl (wy_pr rfl) wt_187 (n := 400) ((cl_187 hC)) (by omega) (by omega) (v := (g.2.1)) (g1) (fun r3 => ?_)
      refine wa_ifne (w_rg0 (by omega) (by omega)) ⟨_, rfl⟩ (fun c4 => ?_) (fun c4 => ?_)
      · skip
        refine wa_iinc rfl rfl ?_
        refine wa_goto ⟨_, rfl⟩ ?_
        have hno : ¬ (decide (g.2.1 = 0) && tp_q T g.2.2.2.2.2.2.1 g.2.2.2.2.2.2.2 f0 e0) = true := by
          rw [Bool.and_eq_true, decide_eq_true_iff]; rintro ⟨z1, z2⟩; first | omega | (have := (hnm (by omega)).2 z2; omega)
        rw [Bool.not_eq_true] at hno
        rw [hno, Bool.false_or]
        exact wJ_S (ih2 (by omega) (by omega)) ⟨rfl, rfl, rfl, trivial⟩
      · skip
        refine wa_aload_n (n := 0) rfl ?_
        refine wb_gf4 162 rfl (wy_pr rfl) wt_162 wf_3_3 (v := 185) wl_162_3 ?_
        refine wa_bipush (w_rg2 (by omega) (by omega)) ?_
        refine wb_aald5 185 14 rfl rfl (wy_pr rfl) wt_185 (by rw [show _ = _ from ((cl_185 hC))]; omega) wl_185_14 ?_
        refine wa_iload_n (n := 2) rfl ?_
        refine wb_iald 200 rfl (wy_pr rfl) wt_200 (n := 400) ((cl_200 hC)) (by omega) (by omega) (v := (S 200 (k : Int))) rfl (fun r5 => ?_)
        refine wa_iload_n (n := 1) rfl ?_
        refine wa_icmpne (w_rg0 (by omega) (by omega)) (w_rg0 (by omega) (by omega)) ⟨_, rfl⟩ (fun c6 => ?_) (fun c6 => ?_)
        · skip
          refine wa_iinc rfl rfl ?_
          refine wa_goto ⟨_, rfl⟩ ?_
          have hno : ¬ (decide (g.2.1 = 0) && tp_q T g.2.2.2.2.2.2.1 g.2.2.2.2.2.2.2 f0 e0) = true := by
            rw [Bool.and_eq_true, decide_eq_true_iff]; rintro ⟨z1, z2⟩; first | omega | (have := (hnm (by omega)).2 z2; omega)
          rw [Bool.not_eq_true] at hno
          rw [hno, Bool.false_or]
          exact wJ_S (ih2 (by omega) (by omega)) ⟨rfl, rfl, rfl, trivial⟩
        · skip
          refine wa_iconst ?_
          refine wa_zreturn rfl (Or.inr rfl) ?_
          have hye : (decide (g.2.1 = 0) && tp_q T g.2.2.2.2.2.2.1 g.2.2.2.2.2.2.2 f0 e0) = true := by
            rw [Bool.and_eq_true, decide_eq_true_iff]; exact ⟨by omega, (hnm (by omega)).1 (by omega)⟩
          exact ⟨rfl, Or.inl ⟨rfl, by rw [hye, Bool.true_or]⟩⟩
theorem of_162 {ms : List hMR} {v f0 e0 kc : Int} {fi : Nat} (hC : w_CL S) (hI : wd_at S 163 64) (hms : mr_all 186 163 T S ms) (hmc : S 162 4 = (ms.length : Int)) (hv : 0 ≤ v ∧ v < S 163 7 ∧ v ≤ 2147483647) (hq : wq (S 164) (S 165) (S 166) T f0 (e0 - f0) v) (hkc : S 162 2 = kc + 1 ∧ 0 ≤ kc ∧ kc < 60) (hfi : S 180 kc = (fi : Int) ∧ fi ≤ ms.length) : wJ (pe_GA xs) wY0 M d t_XO_hasOwnField ((pe_at t_XO_hasOwnField.bl 0).getD (0, [])).2 [(0, (2, 162)), (1, (0, v))] [] S (fun o Z => S = Z ∧ ((o = .inl (some (0, 1)) ∧ df_L T f0 e0 (ms.drop fi) = true) ∨ (o = .inl (some (0, 0)) ∧ df_L T f0 e0 (ms.drop fi) = false))) := by
  have hk1 := hkc.1
  have hf1 := hfi.1
  refine wa_aload_n (n := 0) rfl ?_
  refine wb_gf4 162 rfl (wy_pr rfl) wt_162 wf_3_1 (v := 175) wl_162_1 ?_
  refine wa_iconst ?_
  refine wb_aald5 175 4 rfl rfl (wy_pr rfl) wt_175 (by rw [show _ = _ from ((cl_175 hC))]; omega) wl_175_4 ?_
  refine wa_aload_n (n := 0) rfl ?_
  refine wb_gfi 162 rfl (wy_pr rfl) wt_162 wf_3_2 (v := (kc + 1)) (hk1) (fun r1 => ?_)
  refine wa_iconst ?_
  refine wa_isub ?_
  refine wb_iald 180 rfl (wy_pr rfl) wt_180 (n := 60) ((cl_180 hC)) (by omega) (by omega) (v := (fi : Int)) ((by rw [show kc + 1 - 1 = kc by omega]; exact hf1)) (fun r2 => ?_)
  refine wa_istore_n (n := 2) rfl ?_
  refine wa_fall ⟨_, rfl⟩ ?_
  exact wJ_S (of_l_162 hC hI hms hmc hv hq (ms.length + 1) fi (by omega) hfi.2) ⟨rfl, rfl, rfl, trivial⟩
end W9n
