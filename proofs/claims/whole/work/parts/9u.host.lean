/-! PART 9u: setOrder. -/
section W9u
variable {xs : List (Nat × List Int32)} {M : Nat → Prop} {d : Nat} {A B C S Z : wS} {Q : wO → wS → Prop} {T : Int → Int} {n : Int} {c i : Nat}
/-- the classes from up on, above each other -/
def ch_l (A : Int → Int) : Nat → Int → List Int
  | 0, _ => []
  | f + 1, up => if up = -1 then [] else up :: ch_l A f (A up)
theorem ch_l_s (A : Int → Int) (f : Nat) (up : Int) : ch_l A (f + 1) up = if up = -1 then [] else up :: ch_l A f (A up) := rfl
/-- the interfaces told, with what stands in their orders -/
def so_2 (I : Int → Int) (os : Int → List Int) (l : List Int) (sl : List Int) : List Int := sl.foldl (fun l s => if I s = 1 then (os s).foldl ad_l l else l) l
/-- the order of a class -/
def so_L (I A : Int → Int) (os : Int → List Int) (k : Int) (sl : List Int) : List Int := if A k = -1 then so_2 I os ((ch_l A (k.toNat + 1) k).foldl ad_l []) sl else (os (A k)).foldl ad_l (so_2 I os ((ch_l A (k.toNat + 1) k).foldl ad_l []) sl)
theorem so1_73 {k : Int} {sl : List Int} (hC : w_CL S) (hk : S 73 2 = k + 1 ∧ 0 ≤ k ∧ k < 60) (hA : ∀ q : Int, 0 ≤ q → q ≤ k → -1 ≤ S 88 q ∧ S 88 q < q) : ∀ (f : Nat) (up u : Int) (l : List Int) (Z : wS), (up + 1).toNat < f + 1 → -1 ≤ up → up ≤ k → (0 ≤ u ∧ u + up ≤ k) → oz_ag 93 114 115 k S Z → od_1 93 114 115 Z k l → (hc : ∀ Z, oz_ag 93 114 115 k S Z → od_1 93 114 115 Z k ((ch_l (S 88) f up).foldl ad_l l) → wJ (pe_GA xs) wY0 M (d + 2) t_XO_setOrder ((pe_at t_XO_setOrder.bl 2).getD (0, [])).2 [(0, (2, 73)), (1, (2, 62)), (2, (0, (sl.length : Int))), (3, (0, k))] [] Z Q) → wJ (pe_GA xs) wY0 M (d + 2) t_XO_setOrder ((pe_at t_XO_setOrder.bl 1).getD (0, [])).2 [(0, (2, 73)), (1, (2, 62)), (2, (0, (sl.length : Int))), (3, (0, k)), (4, (0, up)), (5, (0, u))] [] Z Q := by
  intro f
  induction f with
  | zero =>
    intro up u l Z hf h0 h1 hu hz hd hc
    have hup : up = -1 := by omega
    have zk : Z 73 2 = k + 1 := (hz 73 2 (by omega) (by omega) (by omega)).trans hk.1
    refine wa_iload (n := 5) rfl ?_
    refine wa_aload_n (n := 0) rfl ?_
    refine wb_gfi 73 rfl (wy_pr rfl) wt_73 wf_3_2 (v := (k + 1)) (zk) (fun r1 => ?_)
    refine wa_icmpge (w_rg0 (by omega) (by omega)) (w_rg0 (by omega) (by omega)) ⟨_, rfl⟩ (fun c2 => ?_) (fun c2 => ?_)
    · skip
      exact wJ_S (hc Z hz hd) ⟨rfl, rfl, rfl, rfl, trivial⟩
    · skip
      refine wa_iload (n := 4) rfl ?_
      refine wa_iconst ?_
      refine wa_icmpeq (w_rg0 (by omega) (by omega)) (w_rg0 (by omega) (by omega)) ⟨_, rfl⟩ (fun c3 => ?_) (fun c3 => ?_)
      · skip
        exact wJ_S (hc Z hz hd) ⟨rfl, rfl, rfl, rfl, trivial⟩
      · skip
        exfalso; omega
  | succ f ih =>
    intro up u l Z hf h0 h1 hu hz hd hc
    have zk : Z 73 2 = k + 1 := (hz 73 2 (by omega) (by omega) (by omega)).trans hk.1
    have hCz : w_CL Z := fun y hy => (hz y.1 (-1) (by omega) (by omega) (by omega)).trans (hC y hy)
    refine wa_iload (n := 5) rfl ?_
    refine wa_aload_n (n := 0) rfl ?_
    refine wb_gfi 73 rfl (wy_pr rfl) wt_73 wf_3_2 (v := (k + 1)) (zk) (fun r301 => ?_)
    refine wa_icmpge (w_rg0 (by omega) (by omega)) (w_rg0 (by omega) (by omega)) ⟨_, rfl⟩ (fun c302 => ?_) (fun c302 => ?_)
    · skip
      have hup : up = -1 := by omega
      rw [ch_l_s, if_pos hup] at hc
      exact wJ_S (hc Z hz hd) ⟨rfl, rfl, rfl, rfl, trivial⟩
    · skip
      refine wa_iload (n := 4) rfl ?_
      refine wa_iconst ?_
      refine wa_icmpeq (w_rg0 (by omega) (by omega)) (w_rg0 (by omega) (by omega)) ⟨_, rfl⟩ (fun c303 => ?_) (fun c303 => ?_)
      · skip
        have hup : up = -1 := by omega
        rw [ch_l_s, if_pos hup] at hc
        exact wJ_S (hc Z hz hd) ⟨rfl, rfl, rfl, rfl, trivial⟩
      · skip
        refine wa_aload_n (n := 0) rfl ?_
        refine wa_iload_n (n := 3) rfl ?_
        refine wa_iload (n := 4) rfl ?_
        refine wa_cv 73 rfl (wy_pr rfl) wt_73 (M2 := fun _ => False) rfl at_XO_addToOrder ⟨_, rfl⟩ rfl rfl ⟨(Or.inr ⟨wy_pr rfl, fun q => q⟩), (Or.inr ⟨wy_pr rfl, fun q => q⟩), trivial, trivial, trivial, trivial, trivial⟩ trivial (fun _ _ q => False.elim q) (ato_73 (S := Z) (l := l) hCz hd hk.2 ⟨by omega, by omega⟩) (fun oq304 Sq304 hp305 q304 => ?_)
        rcases q304 with ⟨rfl, g1, g2⟩
        show wJ _ _ _ _ _ _ _ _ _ _
        generalize Sq304 = Zn at g1 g2 ⊢
        have hCn : w_CL Zn := fun y hy => (g1 y.1 (-1) (by omega) (by omega) (by omega)).trans (hCz y hy)
        have hAu := hA up (by omega) (by omega)
        refine wa_aload_n (n := 0) rfl ?_
        refine wb_gf4 73 rfl (wy_pr rfl) wt_73 wf_3_1 (v := 86) wl_73_1 ?_
        refine wa_iconst ?_
        refine wb_aald5 86 1 rfl rfl (wy_pr rfl) wt_86 (by rw [show _ = _ from ((cl_86 hCn))]; omega) wl_86_1 ?_
        refine wa_iload (n := 4) rfl ?_
        refine wb_iald 88 rfl (wy_pr rfl) wt_88 (n := 60) ((cl_88 hCn)) (by omega) (by omega) (v := (S 88 up)) (((oz_tr hz g1) 88 up (by omega) (by omega) (by omega))) (fun r306 => ?_)
        refine wa_istore (n := 4) rfl ?_
        refine wa_iinc rfl rfl ?_
        refine wa_goto ⟨_, rfl⟩ ?_
        rw [ch_l_s, if_neg (by omega)] at hc
        exact wJ_S (ih (S 88 up) (u + 1) (ad_l l up) Zn (by omega) (by omega) (by omega) ⟨by omega, by omega⟩ (oz_tr hz g1) g2 hc) ⟨rfl, rfl, rfl, rfl, rfl, rfl, trivial⟩
theorem so3_73 {k : Int} {sl : List Int} {os : Int → List Int} (hC : w_CL S) (hk : S 73 2 = k + 1 ∧ 0 ≤ k ∧ k < 60) (hA : ∀ q : Int, 0 ≤ q → q ≤ k → -1 ≤ S 88 q ∧ S 88 q < q) (hs : ∀ q : Nat, q < sl.length → S 62 (q : Int) = sl.getD q 0) (hsr : sl.length ≤ 60 ∧ ∀ x ∈ sl, 0 ≤ x ∧ x < k) (hos : ∀ q : Int, 0 ≤ q → q < k → od_1 93 114 115 S q (os q)) : ∀ (f q : Nat) (l : List Int) (Z : wS), sl.length - q < f → q ≤ sl.length → oz_ag 93 114 115 k S Z → od_1 93 114 115 Z k l → (hc : ∀ Z, oz_ag 93 114 115 k S Z → od_1 93 114 115 Z k (so_2 (S 87) os l (sl.drop q)) → wJ (pe_GA xs) wY0 M (d + 2) t_XO_setOrder ((pe_at t_XO_setOrder.bl 5).getD (0, [])).2 [(0, (2, 73)), (1, (2, 62)), (2, (0, (sl.length : Int))), (3, (0, k))] [] Z Q) → wJ (pe_GA xs) wY0 M (d + 2) t_XO_setOrder ((pe_at t_XO_setOrder.bl 3).getD (0, [])).2 [(0, (2, 73)), (1, (2, 62)), (2, (0, (sl.length : Int))), (3, (0, k)), (5, (0, (q : Int)))] [] Z Q := by
  intro f
  induction f with
  | zero => intro q l Z h; exact absurd h (Nat.not_lt_zero _)
  | succ f ih =>
    intro q l Z hf hq hz hd hc
    have hs60 := hsr.1
    have hCz : w_CL Z := fun y hy => (hz y.1 (-1) (by omega) (by omega) (by omega)).trans (hC y hy)
    refine wa_iload (n := 5) rfl ?_
    refine wa_iload_n (n := 2) rfl ?_
    refine wa_icmpge (w_rg0 (by omega) (by omega)) (w_rg0 (by omega) (by omega)) ⟨_, rfl⟩ (fun c1 => ?_) (fun c1 => ?_)
    · skip
      rw [List.drop_eq_nil_of_le (by omega)] at hc
      exact wJ_S (hc Z hz hd) ⟨rfl, rfl, rfl, rfl, trivial⟩
    · skip
      have hql : q < sl.length := by omega
      have z62 : Z 62 (q : Int) = sl.getD q 0 := (hz 62 q (by omega) (by omega) (by omega)).trans (hs q hql)
      have hsm := hsr.2 _ (su_mem (k := q) hql rfl)
      have zt0 : Z 87 (sl.getD q 0) = S 87 (sl.getD q 0) := hz 87 _ (by omega) (by omega) (by omega)
      have hdr : sl.drop q = sl.getD q 0 :: sl.drop (q + 1) := by rw [List.drop_eq_getElem_cons hql, List.getD_eq_getElem?_getD, List.getElem?_eq_getElem hql]; rfl
      rw [hdr] at hc
      refine wa_aload_n (n := 0) rfl ?_
      refine wb_gf4 73 rfl (wy_pr rfl) wt_73 wf_3_1 (v := 86) wl_73_1 ?_
      refine wa_iconst ?_
      refine wb_aald5 86 0 rfl rfl (wy_pr rfl) wt_86 (by rw [show _ = _ from ((cl_86 hCz))]; omega) wl_86_0 ?_
      refine wa_aload_n (n := 1) rfl ?_
      refine wa_iload (n := 5) rfl ?_
      refine wb_iald 62 rfl (wy_pr rfl) wt_62 (n := 60) ((cl_62 hCz)) (by omega) (by omega) (v := (sl.getD q 0)) (z62) (fun r2 => ?_)
      refine wb_iald 87 rfl (wy_pr rfl) wt_87 (n := 60) ((cl_87 hCz)) (by omega) (by omega) (v := (S 87 (sl.getD q 0))) (zt0) (fun r3 => ?_)
      refine wa_iconst ?_
      refine wa_icmpne (w_rg0 (by omega) (by omega)) (w_rg0 (by omega) (by omega)) ⟨_, rfl⟩ (fun c4 => ?_) (fun c4 => ?_)
      · skip
        refine wa_iinc rfl rfl ?_
        refine wa_goto ⟨_, rfl⟩ ?_
        refine wJ_S (ih (q + 1) l Z (by omega) (by omega) hz hd (fun Z2 e1 e2 => hc Z2 e1 ?_)) ⟨rfl, rfl, rfl, rfl, rfl, trivial⟩
        unfold so_2 at e2 ⊢; rw [List.foldl_cons, if_neg (by omega)]; exact e2
      · skip
        refine wa_aload_n (n := 0) rfl ?_
        refine wa_iload_n (n := 3) rfl ?_
        refine wa_aload_n (n := 1) rfl ?_
        refine wa_iload (n := 5) rfl ?_
        refine wb_iald 62 rfl (wy_pr rfl) wt_62 (n := 60) ((cl_62 hCz)) (by omega) (by omega) (v := (sl.getD q 0)) (z62) (fun r5 => ?_)
        refine wa_cv 73 rfl (wy_pr rfl) wt_73 (M2 := fun _ => False) rfl at_XO_addOrder ⟨_, rfl⟩ rfl rfl ⟨(Or.inr ⟨wy_pr rfl, fun q => q⟩), (Or.inr ⟨wy_pr rfl, fun q => q⟩), trivial, trivial, trivial, trivial⟩ trivial (fun _ _ q => False.elim q) (ao_73 (S := Z) (l := l) (lo := os (sl.getD q 0)) hCz (od_oz (hos _ hsm.1 hsm.2) hz (by omega) (by decide)) hd hk.2 ⟨by omega, by omega, by omega⟩) (fun oq6 Sq6 hp7 q6 => ?_)
        rcases q6 with ⟨rfl, g1, g2⟩
        show wJ _ _ _ _ _ _ _ _ _ _
        generalize Sq6 = Zn at g1 g2 ⊢
        refine wa_fall ⟨_, rfl⟩ ?_
        refine wa_iinc rfl rfl ?_
        refine wa_goto ⟨_, rfl⟩ ?_
        refine wJ_S (ih (q + 1) ((os (sl.getD q 0)).foldl ad_l l) Zn (by omega) (by omega) (oz_tr hz g1) g2 (fun Z2 e1 e2 => hc Z2 e1 ?_)) ⟨rfl, rfl, rfl, rfl, rfl, trivial⟩
        unfold so_2 at e2 ⊢; rw [List.foldl_cons, if_pos (by omega)]; exact e2
theorem so_73 {k : Int} {sl : List Int} {os : Int → List Int} (hC : w_CL S) (hk : S 73 2 = k + 1 ∧ 0 ≤ k ∧ k < 60) (hA : ∀ q : Int, 0 ≤ q → q ≤ k → -1 ≤ S 88 q ∧ S 88 q < q) (hs : ∀ q : Nat, q < sl.length → S 62 (q : Int) = sl.getD q 0) (hsr : sl.length ≤ 60 ∧ ∀ x ∈ sl, 0 ≤ x ∧ x < k) (hos : ∀ q : Int, 0 ≤ q → q < k → od_1 93 114 115 S q (os q)) : wJ (pe_GA xs) wY0 M (d + 2) t_XO_setOrder ((pe_at t_XO_setOrder.bl 0).getD (0, [])).2 [(0, (2, 73)), (1, (2, 62)), (2, (0, (sl.length : Int)))] [] S (fun o Z => o = .inl none ∧ oz_ag 93 114 115 k (w_up S 89 k (sl.length : Int)) Z ∧ od_1 93 114 115 Z k (so_L (S 87) (S 88) os k sl)) := by
  have hk1 := hk.1
  have hs60 := hsr.1
  have hC3 : w_CL (w_up (w_up (w_up S 89 k (sl.length : Int)) 93 k 0) 115 k 0) := w_CL_up (w_CL_up (w_CL_up hC (by omega)) (by omega)) (by omega)
  have e3 : oz_ag 93 114 115 k (w_up S 89 k (sl.length : Int)) (w_up (w_up (w_up S 89 k (sl.length : Int)) 93 k 0) 115 k 0) := fun j i a1 a2 a3 => (w_up_no (by omega)).trans ((w_up_no (by omega)).trans rfl)
  have hd3 : od_1 93 114 115 (w_up (w_up (w_up S 89 k (sl.length : Int)) 93 k 0) 115 k 0) k [] := by
    refine ⟨?_, ⟨List.nodup_nil, fun x hx => absurd hx List.not_mem_nil⟩, fun q hq => absurd hq (Nat.not_lt_zero _), fun x hx => ?_⟩
    · rw [w_up_slot (by decide), w_up_same]; rfl
    · rw [w_up_same, bb_0]; exact (decide_eq_false List.not_mem_nil).symm
  have rr0 : (w_up (w_up (w_up S 89 k (sl.length : Int)) 93 k 0) 115 k 0) 87 = S 87 := by rw [w_up_row (by decide), w_up_row (by decide), w_up_row (by decide)]
  have rr1 : (w_up (w_up (w_up S 89 k (sl.length : Int)) 93 k 0) 115 k 0) 88 = S 88 := by rw [w_up_row (by decide), w_up_row (by decide), w_up_row (by decide)]
  have hA3 : ∀ q : Int, 0 ≤ q → q ≤ k → -1 ≤ (w_up (w_up (w_up S 89 k (sl.length : Int)) 93 k 0) 115 k 0) 88 q ∧ (w_up (w_up (w_up S 89 k (sl.length : Int)) 93 k 0) 115 k 0) 88 q < q := by rw [rr1]; exact hA
  have hos3 : ∀ q : Int, 0 ≤ q → q < k → od_1 93 114 115 (w_up (w_up (w_up S 89 k (sl.length : Int)) 93 k 0) 115 k 0) q (os q) := fun q q0 q1 => od_oz (S := w_up S 89 k (sl.length : Int)) (show od_1 93 114 115 (w_up S 89 k (sl.length : Int)) q (os q) from hos q q0 q1) e3 (by omega) (by decide)
  refine wa_aload_n (n := 0) rfl ?_
  refine wb_gfi 73 rfl (wy_pr rfl) wt_73 wf_3_2 (v := (k + 1)) (hk1) (fun r1 => ?_)
  refine wa_iconst ?_
  refine wa_isub ?_
  rw [show (((k + 1) - 1) : Int) = k by omega]
  refine wa_istore_n (n := 3) rfl ?_
  refine wa_aload_n (n := 0) rfl ?_
  refine wb_gf4 73 rfl (wy_pr rfl) wt_73 wf_3_1 (v := 86) wl_73_1 ?_
  refine wa_iconst ?_
  refine wb_aald5 86 2 rfl rfl (wy_pr rfl) wt_86 (by rw [show _ = _ from ((cl_86 hC))]; omega) wl_86_2 ?_
  refine wa_iload_n (n := 3) rfl ?_
  refine wa_iload_n (n := 2) rfl ?_
  refine wb_iast 89 rfl (wy_pr rfl) wt_89 (n := 60) ((cl_89 hC)) (by omega) (by omega) ⟨(by omega), (by omega)⟩ ?_
  refine wa_aload_n (n := 0) rfl ?_
  refine wb_gf4 73 rfl (wy_pr rfl) wt_73 wf_3_1 (v := 86) wl_73_1 ?_
  refine wa_bipush (w_rg2 (by omega) (by omega)) ?_
  refine wb_aald5 86 6 rfl rfl (wy_pr rfl) wt_86 (by rw [show _ = _ from ((w_up_slot (by decide)).trans ((cl_86 hC)))]; omega) wl_86_6 ?_
  refine wa_iload_n (n := 3) rfl ?_
  refine wa_iconst ?_
  refine wb_iast 93 rfl (wy_pr rfl) wt_93 (n := 60) ((w_up_slot (by decide)).trans ((cl_93 hC))) (by omega) (by omega) ⟨(by omega), (by omega)⟩ ?_
  refine wa_aload_n (n := 0) rfl ?_
  refine wb_gf4 73 rfl (wy_pr rfl) wt_73 wf_3_6 (v := 115) wl_73_6 ?_
  refine wa_iload_n (n := 3) rfl ?_
  refine wb_lconst (m := 0) rfl ?_
  refine wb_last 115 rfl (wy_pr rfl) wt_115 (n := 60) ((w_up_slot (by decide)).trans ((w_up_slot (by decide)).trans ((cl_115 hC)))) (by omega) (by omega) ⟨(by omega), (by omega)⟩ ?_
  refine wa_iload_n (n := 3) rfl ?_
  refine wa_istore (n := 4) rfl ?_
  refine wa_iconst ?_
  refine wa_istore (n := 5) rfl ?_
  refine wa_fall ⟨_, rfl⟩ ?_
  refine wJ_S (so1_73 (S := (w_up (w_up (w_up S 89 k (sl.length : Int)) 93 k 0) 115 k 0)) (k := k) (sl := sl) hC3 hk hA3 (k.toNat + 1) k 0 [] (w_up (w_up (w_up S 89 k (sl.length : Int)) 93 k 0) 115 k 0) (by omega) (by omega) (by omega) ⟨by omega, by omega⟩ (fun _ _ _ _ _ => rfl) hd3 (fun Z1 z1 d1 => ?_)) ⟨rfl, rfl, rfl, rfl, rfl, rfl, trivial⟩
  rw [rr1] at d1
  refine wa_iconst ?_
  refine wa_istore (n := 5) rfl ?_
  refine wa_fall ⟨_, rfl⟩ ?_
  refine wJ_S (so3_73 (S := (w_up (w_up (w_up S 89 k (sl.length : Int)) 93 k 0) 115 k 0)) (k := k) (sl := sl) (os := os) hC3 hk hA3 (show ∀ q : Nat, q < sl.length → (w_up (w_up (w_up S 89 k (sl.length : Int)) 93 k 0) 115 k 0) 62 (q : Int) = sl.getD q 0 from hs) hsr hos3 (sl.length + 1) 0 _ Z1 (by omega) (by omega) z1 d1 (fun Z2 z2 d2 => ?_)) ⟨rfl, rfl, rfl, rfl, rfl, trivial⟩
  rw [rr0, List.drop_zero] at d2
  have hCz : w_CL Z2 := fun y hy => (z2 y.1 (-1) (by omega) (by omega) (by omega)).trans (hC3 y hy)
  have zA : Z2 88 k = S 88 k := (z2 88 k (by omega) (by omega) (by omega)).trans (congrFun rr1 k)
  have hAk := hA k (by omega) (by omega)
  refine wa_aload_n (n := 0) rfl ?_
  refine wb_gf4 73 rfl (wy_pr rfl) wt_73 wf_3_1 (v := 86) wl_73_1 ?_
  refine wa_iconst ?_
  refine wb_aald5 86 1 rfl rfl (wy_pr rfl) wt_86 (by rw [show _ = _ from ((cl_86 hCz))]; omega) wl_86_1 ?_
  refine wa_iload_n (n := 3) rfl ?_
  refine wb_iald 88 rfl (wy_pr rfl) wt_88 (n := 60) ((cl_88 hCz)) (by omega) (by omega) (v := (S 88 k)) (zA) (fun r62 => ?_)
  refine wa_istore (n := 4) rfl ?_
  refine wa_iload (n := 4) rfl ?_
  refine wa_iconst ?_
  refine wa_icmpeq (w_rg0 (by omega) (by omega)) (w_rg0 (by omega) (by omega)) ⟨_, rfl⟩ (fun c63 => ?_) (fun c63 => ?_)
  · skip
    refine wa_return rfl ?_
    exact ⟨rfl, oz_tr e3 z2, by unfold so_L; rw [if_pos (by omega)]; exact d2⟩
  · skip
    refine wa_aload_n (n := 0) rfl ?_
    refine wa_iload_n (n := 3) rfl ?_
    refine wa_iload (n := 4) rfl ?_
    refine wa_cv 73 rfl (wy_pr rfl) wt_73 (M2 := fun _ => False) rfl at_XO_addOrder ⟨_, rfl⟩ rfl rfl ⟨trivial, (Or.inr ⟨wy_pr rfl, fun q => q⟩), (Or.inr ⟨wy_pr rfl, fun q => q⟩), trivial, trivial, trivial⟩ trivial (fun _ _ q => False.elim q) (ao_73 (S := Z2) (lo := os (S 88 k)) hCz (od_oz (hos3 _ (by omega) (by omega)) z2 (by omega) (by decide)) d2 hk.2 ⟨by omega, by omega, by omega⟩) (fun oq64 Sq64 hp65 q64 => ?_)
    rcases q64 with ⟨rfl, g1, g2⟩
    show wJ _ _ _ _ _ _ _ _ _ _
    generalize Sq64 = Zn at g1 g2 ⊢
    refine wa_fall ⟨_, rfl⟩ ?_
    refine wa_return rfl ?_
    exact ⟨rfl, oz_tr e3 (oz_tr z2 g1), by unfold so_L; rw [if_neg (by omega)]; exact g2⟩
theorem so1_162 {k : Int} {sl : List Int} (hC : w_CL S) (hk : S 162 2 = k + 1 ∧ 0 ≤ k ∧ k < 60) (hA : ∀ q : Int, 0 ≤ q → q ≤ k → -1 ≤ S 177 q ∧ S 177 q < q) : ∀ (f : Nat) (up u : Int) (l : List Int) (Z : wS), (up + 1).toNat < f + 1 → -1 ≤ up → up ≤ k → (0 ≤ u ∧ u + up ≤ k) → oz_ag 182 203 204 k S Z → od_1 182 203 204 Z k l → (hc : ∀ Z, oz_ag 182 203 204 k S Z → od_1 182 203 204 Z k ((ch_l (S 177) f up).foldl ad_l l) → wJ (pe_GA xs) wY0 M (d + 2) t_XO_setOrder ((pe_at t_XO_setOrder.bl 2).getD (0, [])).2 [(0, (2, 162)), (1, (2, 62)), (2, (0, (sl.length : Int))), (3, (0, k))] [] Z Q) → wJ (pe_GA xs) wY0 M (d + 2) t_XO_setOrder ((pe_at t_XO_setOrder.bl 1).getD (0, [])).2 [(0, (2, 162)), (1, (2, 62)), (2, (0, (sl.length : Int))), (3, (0, k)), (4, (0, up)), (5, (0, u))] [] Z Q := by
  intro f
  induction f with
  | zero =>
    intro up u l Z hf h0 h1 hu hz hd hc
    have hup : up = -1 := by omega
    have zk : Z 162 2 = k + 1 := (hz 162 2 (by omega) (by omega) (by omega)).trans hk.1
    refine wa_iload (n := 5) rfl ?_
    refine wa_aload_n (n := 0) rfl ?_
    refine wb_gfi 162 rfl (wy_pr rfl) wt_162 wf_3_2 (v := (k + 1)) (zk) (fun r1 => ?_)
    refine wa_icmpge (w_rg0 (by omega) (by omega)) (w_rg0 (by omega) (by omega)) ⟨_, rfl⟩ (fun c2 => ?_) (fun c2 => ?_)
    · skip
      exact wJ_S (hc Z hz hd) ⟨rfl, rfl, rfl, rfl, trivial⟩
    · skip
      refine wa_iload (n := 4) rfl ?_
      refine wa_iconst ?_
      refine wa_icmpeq (w_rg0 (by omega) (by omega)) (w_rg0 (by omega) (by omega)) ⟨_, rfl⟩ (fun c3 => ?_) (fun c3 => ?_)
      · skip
        exact wJ_S (hc Z hz hd) ⟨rfl, rfl, rfl, rfl, trivial⟩
      · skip
        exfalso; omega
  | succ f ih =>
    intro up u l Z hf h0 h1 hu hz hd hc
    have zk : Z 162 2 = k + 1 := (hz 162 2 (by omega) (by omega) (by omega)).trans hk.1
    have hCz : w_CL Z := fun y hy => (hz y.1 (-1) (by omega) (by omega) (by omega)).trans (hC y hy)
    refine wa_iload (n := 5) rfl ?_
    refine wa_aload_n (n := 0) rfl ?_
    refine wb_gfi 162 rfl (wy_pr rfl) wt_162 wf_3_2 (v := (k + 1)) (zk) (fun r301 => ?_)
    refine wa_icmpge (w_rg0 (by omega) (by omega)) (w_rg0 (by omega) (by omega)) ⟨_, rfl⟩ (fun c302 => ?_) (fun c302 => ?_)
    · skip
      have hup : up = -1 := by omega
      rw [ch_l_s, if_pos hup] at hc
      exact wJ_S (hc Z hz hd) ⟨rfl, rfl, rfl, rfl, trivial⟩
    · skip
      refine wa_iload (n := 4) rfl ?_
      refine wa_iconst ?_
      refine wa_icmpeq (w_rg0 (by omega) (by omega)) (w_rg0 (by omega) (by omega)) ⟨_, rfl⟩ (fun c303 => ?_) (fun c303 => ?_)
      · skip
        have hup : up = -1 := by omega
        rw [ch_l_s, if_pos hup] at hc
        exact wJ_S (hc Z hz hd) ⟨rfl, rfl, rfl, rfl, trivial⟩
      · skip
        refine wa_aload_n (n := 0) rfl ?_
        refine wa_iload_n (n := 3) rfl ?_
        refine wa_iload (n := 4) rfl ?_
        refine wa_cv 162 rfl (wy_pr rfl) wt_162 (M2 := fun _ => False) rfl at_XO_addToOrder ⟨_, rfl⟩ rfl rfl ⟨(Or.inr ⟨wy_pr rfl, fun q => q⟩), (Or.inr ⟨wy_pr rfl, fun q => q⟩), trivial, trivial, trivial, trivial, trivial⟩ trivial (fun _ _ q => False.elim q) (ato_162 (S := Z) (l := l) hCz hd hk.2 ⟨by omega, by omega⟩) (fun oq304 Sq304 hp305 q304 => ?_)
        rcases q304 with ⟨rfl, g1, g2⟩
        show wJ _ _ _ _ _ _ _ _ _ _
        generalize Sq304 = Zn at g1 g2 ⊢
        have hCn : w_CL Zn := fun y hy => (g1 y.1 (-1) (by omega) (by omega) (by omega)).trans (hCz y hy)
        have hAu := hA up (by omega) (by omega)
        refine wa_aload_n (n := 0) rfl ?_
        refine wb_gf4 162 rfl (wy_pr rfl) wt_162 wf_3_1 (v := 175) wl_162_1 ?_
        refine wa_iconst ?_
        refine wb_aald5 175 1 rfl rfl (wy_pr rfl) wt_175 (by rw [show _ = _ from ((cl_175 hCn))]; omega) wl_175_1 ?_
        refine wa_iload (n := 4) rfl ?_
        refine wb_iald 177 rfl (wy_pr rfl) wt_177 (n := 60) ((cl_177 hCn)) (by omega) (by omega) (v := (S 177 up)) (((oz_tr hz g1) 177 up (by omega) (by omega) (by omega))) (fun r306 => ?_)
        refine wa_istore (n := 4) rfl ?_
        refine wa_iinc rfl rfl ?_
        refine wa_goto ⟨_, rfl⟩ ?_
        rw [ch_l_s, if_neg (by omega)] at hc
        exact wJ_S (ih (S 177 up) (u + 1) (ad_l l up) Zn (by omega) (by omega) (by omega) ⟨by omega, by omega⟩ (oz_tr hz g1) g2 hc) ⟨rfl, rfl, rfl, rfl, rfl, rfl, trivial⟩
theorem so3_162 {k : Int} {sl : List Int} {os : Int → List Int} (hC : w_CL S) (hk : S 162 2 = k + 1 ∧ 0 ≤ k ∧ k < 60) (hA : ∀ q : Int, 0 ≤ q → q ≤ k → -1 ≤ S 177 q ∧ S 177 q < q) (hs : ∀ q : Nat, q < sl.length → S 62 (q : Int) = sl.getD q 0) (hsr : sl.length ≤ 60 ∧ ∀ x ∈ sl, 0 ≤ x ∧ x < k) (hos : ∀ q : Int, 0 ≤ q → q < k → od_1 182 203 204 S q (os q)) : ∀ (f q : Nat) (l : List Int) (Z : wS), sl.length - q < f → q ≤ sl.length → oz_ag 182 203 204 k S Z → od_1 182 203 204 Z k l → (hc : ∀ Z, oz_ag 182 203 204 k S Z → od_1 182 203 204 Z k (so_2 (S 176) os l (sl.drop q)) → wJ (pe_GA xs) wY0 M (d + 2) t_XO_setOrder ((pe_at t_XO_setOrder.bl 5).getD (0, [])).2 [(0, (2, 162)), (1, (2, 62)), (2, (0, (sl.length : Int))), (3, (0, k))] [] Z Q) → wJ (pe_GA xs) wY0 M (d + 2) t_XO_setOrder ((pe_at t_XO_setOrder.bl 3).getD (0, [])).2 [(0, (2, 162)), (1, (2, 62)), (2, (0, (sl.length : Int))), (3, (0, k)), (5, (0, (q : Int)))] [] Z Q := by
  intro f
  induction f with
  | zero => intro q l Z h; exact absurd h (Nat.not_lt_zero _)
  | succ f ih =>
    intro q l Z hf hq hz hd hc
    have hs60 := hsr.1
    have hCz : w_CL Z := fun y hy => (hz y.1 (-1) (by omega) (by omega) (by omega)).trans (hC y hy)
    refine wa_iload (n := 5) rfl ?_
    refine wa_iload_n (n := 2) rfl ?_
    refine wa_icmpge (w_rg0 (by omega) (by omega)) (w_rg0 (by omega) (by omega)) ⟨_, rfl⟩ (fun c1 => ?_) (fun c1 => ?_)
    · skip
      rw [List.drop_eq_nil_of_le (by omega)] at hc
      exact wJ_S (hc Z hz hd) ⟨rfl, rfl, rfl, rfl, trivial⟩
    · skip
      have hql : q < sl.length := by omega
      have z62 : Z 62 (q : Int) = sl.getD q 0 := (hz 62 q (by omega) (by omega) (by omega)).trans (hs q hql)
      have hsm := hsr.2 _ (su_mem (k := q) hql rfl)
      have zt0 : Z 176 (sl.getD q 0) = S 176 (sl.getD q 0) := hz 176 _ (by omega) (by omega) (by omega)
      have hdr : sl.drop q = sl.getD q 0 :: sl.drop (q + 1) := by rw [List.drop_eq_getElem_cons hql, List.getD_eq_getElem?_getD, List.getElem?_eq_getElem hql]; rfl
      rw [hdr] at hc
      refine wa_aload_n (n := 0) rfl ?_
      refine wb_gf4 162 rfl (wy_pr rfl) wt_162 wf_3_1 (v := 175) wl_162_1 ?_
      refine wa_iconst ?_
      refine wb_aald5 175 0 rfl rfl (wy_pr rfl) wt_175 (by rw [show _ = _ from ((cl_175 hCz))]; omega) wl_175_0 ?_
      refine wa_aload_n (n := 1) rfl ?_
      refine wa_iload (n := 5) rfl ?_
      refine wb_iald 62 rfl (wy_pr rfl) wt_62 (n := 60) ((cl_62 hCz)) (by omega) (by omega) (v := (sl.getD q 0)) (z62) (fun r2 => ?_)
      refine wb_iald 176 rfl (wy_pr rfl) wt_176 (n := 60) ((cl_176 hCz)) (by omega) (by omega) (v := (S 176 (sl.getD q 0))) (zt0) (fun r3 => ?_)
      refine wa_iconst ?_
      refine wa_icmpne (w_rg0 (by omega) (by omega)) (w_rg0 (by omega) (by omega)) ⟨_, rfl⟩ (fun c4 => ?_) (fun c4 => ?_)
      · skip
        refine wa_iinc rfl rfl ?_
        refine wa_goto ⟨_, rfl⟩ ?_
        refine wJ_S (ih (q + 1) l Z (by omega) (by omega) hz hd (fun Z2 e1 e2 => hc Z2 e1 ?_)) ⟨rfl, rfl, rfl, rfl, rfl, trivial⟩
        unfold so_2 at e2 ⊢; rw [List.foldl_cons, if_neg (by omega)]; exact e2
      · skip
        refine wa_aload_n (n := 0) rfl ?_
        refine wa_iload_n (n := 3) rfl ?_
        refine wa_aload_n (n := 1) rfl ?_
        refine wa_iload (n := 5) rfl ?_
        refine wb_iald 62 rfl (wy_pr rfl) wt_62 (n := 60) ((cl_62 hCz)) (by omega) (by omega) (v := (sl.getD q 0)) (z62) (fun r5 => ?_)
        refine wa_cv 162 rfl (wy_pr rfl) wt_162 (M2 := fun _ => False) rfl at_XO_addOrder ⟨_, rfl⟩ rfl rfl ⟨(Or.inr ⟨wy_pr rfl, fun q => q⟩), (Or.inr ⟨wy_pr rfl, fun q => q⟩), trivial, trivial, trivial, trivial⟩ trivial (fun _ _ q => False.elim q) (ao_162 (S := Z) (l := l) (lo := os (sl.getD q 0)) hCz (od_oz (hos _ hsm.1 hsm.2) hz (by omega) (by decide)) hd hk.2 ⟨by omega, by omega, by omega⟩) (fun oq6 Sq6 hp7 q6 => ?_)
        rcases q6 with ⟨rfl, g1, g2⟩
        show wJ _ _ _ _ _ _ _ _ _ _
        generalize Sq6 = Zn at g1 g2 ⊢
        refine wa_fall ⟨_, rfl⟩ ?_
        refine wa_iinc rfl rfl ?_
        refine wa_goto ⟨_, rfl⟩ ?_
        refine wJ_S (ih (q + 1) ((os (sl.getD q 0)).foldl ad_l l) Zn (by omega) (by omega) (oz_tr hz g1) g2 (fun Z2 e1 e2 => hc Z2 e1 ?_)) ⟨rfl, rfl, rfl, rfl, rfl, trivial⟩
        unfold so_2 at e2 ⊢; rw [List.foldl_cons, if_pos (by omega)]; exact e2
theorem so_162 {k : Int} {sl : List Int} {os : Int → List Int} (hC : w_CL S) (hk : S 162 2 = k + 1 ∧ 0 ≤ k ∧ k < 60) (hA : ∀ q : Int, 0 ≤ q → q ≤ k → -1 ≤ S 177 q ∧ S 177 q < q) (hs : ∀ q : Nat, q < sl.length → S 62 (q : Int) = sl.getD q 0) (hsr : sl.length ≤ 60 ∧ ∀ x ∈ sl, 0 ≤ x ∧ x < k) (hos : ∀ q : Int, 0 ≤ q → q < k → od_1 182 203 204 S q (os q)) : wJ (pe_GA xs) wY0 M (d + 2) t_XO_setOrder ((pe_at t_XO_setOrder.bl 0).getD (0, [])).2 [(0, (2, 162)), (1, (2, 62)), (2, (0, (sl.length : Int)))] [] S (fun o Z => o = .inl none ∧ oz_ag 182 203 204 k (w_up S 178 k (sl.length : Int)) Z ∧ od_1 182 203 204 Z k (so_L (S 176) (S 177) os k sl)) := by
  have hk1 := hk.1
  have hs60 := hsr.1
  have hC3 : w_CL (w_up (w_up (w_up S 178 k (sl.length : Int)) 182 k 0) 204 k 0) := w_CL_up (w_CL_up (w_CL_up hC (by omega)) (by omega)) (by omega)
  have e3 : oz_ag 182 203 204 k (w_up S 178 k (sl.length : Int)) (w_up (w_up (w_up S 178 k (sl.length : Int)) 182 k 0) 204 k 0) := fun j i a1 a2 a3 => (w_up_no (by omega)).trans ((w_up_no (by omega)).trans rfl)
  have hd3 : od_1 182 203 204 (w_up (w_up (w_up S 178 k (sl.length : Int)) 182 k 0) 204 k 0) k [] := by
    refine ⟨?_, ⟨List.nodup_nil, fun x hx => absurd hx List.not_mem_nil⟩, fun q hq => absurd hq (Nat.not_lt_zero _), fun x hx => ?_⟩
    · rw [w_up_slot (by decide), w_up_same]; rfl
    · rw [w_up_same, bb_0]; exact (decide_eq_false List.not_mem_nil).symm
  have rr0 : (w_up (w_up (w_up S 178 k (sl.length : Int)) 182 k 0) 204 k 0) 176 = S 176 := by rw [w_up_row (by decide), w_up_row (by decide), w_up_row (by decide)]
  have rr1 : (w_up (w_up (w_up S 178 k (sl.length : Int)) 182 k 0) 204 k 0) 177 = S 177 := by rw [w_up_row (by decide), w_up_row (by decide), w_up_row (by decide)]
  have hA3 : ∀ q : Int, 0 ≤ q → q ≤ k → -1 ≤ (w_up (w_up (w_up S 178 k (sl.length : Int)) 182 k 0) 204 k 0) 177 q ∧ (w_up (w_up (w_up S 178 k (sl.length : Int)) 182 k 0) 204 k 0) 177 q < q := by rw [rr1]; exact hA
  have hos3 : ∀ q : Int, 0 ≤ q → q < k → od_1 182 203 204 (w_up (w_up (w_up S 178 k (sl.length : Int)) 182 k 0) 204 k 0) q (os q) := fun q q0 q1 => od_oz (S := w_up S 178 k (sl.length : Int)) (show od_1 182 203 204 (w_up S 178 k (sl.length : Int)) q (os q) from hos q q0 q1) e3 (by omega) (by decide)
  refine wa_aload_n (n := 0) rfl ?_
  refine wb_gfi 162 rfl (wy_pr rfl) wt_162 wf_3_2 (v := (k + 1)) (hk1) (fun r1 => ?_)
  refine wa_iconst ?_
  refine wa_isub ?_
  rw [show (((k + 1) - 1) : Int) = k by omega]
  refine wa_istore_n (n := 3) rfl ?_
  refine wa_aload_n (n := 0) rfl ?_
  refine wb_gf4 162 rfl (wy_pr rfl) wt_162 wf_3_1 (v := 175) wl_162_1 ?_
  refine wa_iconst ?_
  refine wb_aald5 175 2 rfl rfl (wy_pr rfl) wt_175 (by rw [show _ = _ from ((cl_175 hC))]; omega) wl_175_2 ?_
  refine wa_iload_n (n := 3) rfl ?_
  refine wa_iload_n (n := 2) rfl ?_
  refine wb_iast 178 rfl (wy_pr rfl) wt_178 (n := 60) ((cl_178 hC)) (by omega) (by omega) ⟨(by omega), (by omega)⟩ ?_
  refine wa_aload_n (n := 0) rfl ?_
  refine wb_gf4 162 rfl (wy_pr rfl) wt_162 wf_3_1 (v := 175) wl_162_1 ?_
  refine wa_bipush (w_rg2 (by omega) (by omega)) ?_
  refine wb_aald5 175 6 rfl rfl (wy_pr rfl) wt_175 (by rw [show _ = _ from ((w_up_slot (by decide)).trans ((cl_175 hC)))]; omega) wl_175_6 ?_
  refine wa_iload_n (n := 3) rfl ?_
  refine wa_iconst ?_
  refine wb_iast 182 rfl (wy_pr rfl) wt_182 (n := 60) ((w_up_slot (by decide)).trans ((cl_182 hC))) (by omega) (by omega) ⟨(by omega), (by omega)⟩ ?_
  refine wa_aload_n (n := 0) rfl ?_
  refine wb_gf4 162 rfl (wy_pr rfl) wt_162 wf_3_6 (v := 204) wl_162_6 ?_
  refine wa_iload_n (n := 3) rfl ?_
  refine wb_lconst (m := 0) rfl ?_
  refine wb_last 204 rfl (wy_pr rfl) wt_204 (n := 60) ((w_up_slot (by decide)).trans ((w_up_slot (by decide)).trans ((cl_204 hC)))) (by omega) (by omega) ⟨(by omega), (by omega)⟩ ?_
  refine wa_iload_n (n := 3) rfl ?_
  refine wa_istore (n := 4) rfl ?_
  refine wa_iconst ?_
  refine wa_istore (n := 5) rfl ?_
  refine wa_fall ⟨_, rfl⟩ ?_
  refine wJ_S (so1_162 (S := (w_up (w_up (w_up S 178 k (sl.length : Int)) 182 k 0) 204 k 0)) (k := k) (sl := sl) hC3 hk hA3 (k.toNat + 1) k 0 [] (w_up (w_up (w_up S 178 k (sl.length : Int)) 182 k 0) 204 k 0) (by omega) (by omega) (by omega) ⟨by omega, by omega⟩ (fun _ _ _ _ _ => rfl) hd3 (fun Z1 z1 d1 => ?_)) ⟨rfl, rfl, rfl, rfl, rfl, rfl, trivial⟩
  rw [rr1] at d1
  refine wa_iconst ?_
  refine wa_istore (n := 5) rfl ?_
  refine wa_fall ⟨_, rfl⟩ ?_
  refine wJ_S (so3_162 (S := (w_up (w_up (w_up S 178 k (sl.length : Int)) 182 k 0) 204 k 0)) (k := k) (sl := sl) (os := os) hC3 hk hA3 (show ∀ q : Nat, q < sl.length → (w_up (w_up (w_up S 178 k (sl.length : Int)) 182 k 0) 204 k 0) 62 (q : Int) = sl.getD q 0 from hs) hsr hos3 (sl.length + 1) 0 _ Z1 (by omega) (by omega) z1 d1 (fun Z2 z2 d2 => ?_)) ⟨rfl, rfl, rfl, rfl, rfl, trivial⟩
  rw [rr0, List.drop_zero] at d2
  have hCz : w_CL Z2 := fun y hy => (z2 y.1 (-1) (by omega) (by omega) (by omega)).trans (hC3 y hy)
  have zA : Z2 177 k = S 177 k := (z2 177 k (by omega) (by omega) (by omega)).trans (congrFun rr1 k)
  have hAk := hA k (by omega) (by omega)
  refine wa_aload_n (n := 0) rfl ?_
  refine wb_gf4 162 rfl (wy_pr rfl) wt_162 wf_3_1 (v := 175) wl_162_1 ?_
  refine wa_iconst ?_
  refine wb_aald5 175 1 rfl rfl (wy_pr rfl) wt_175 (by rw [show _ = _ from ((cl_175 hCz))]; omega) wl_175_1 ?_
  refine wa_iload_n (n := 3) rfl ?_
  refine wb_iald 177 rfl (wy_pr rfl) wt_177 (n := 60) ((cl_177 hCz)) (by omega) (by omega) (v := (S 177 k)) (zA) (fun r62 => ?_)
  refine wa_istore (n := 4) rfl ?_
  refine wa_iload (n := 4) rfl ?_
  refine wa_iconst ?_
  refine wa_icmpeq (w_rg0 (by omega) (by omega)) (w_rg0 (by omega) (by omega)) ⟨_, rfl⟩ (fun c63 => ?_) (fun c63 => ?_)
  · skip
    refine wa_return rfl ?_
    exact ⟨rfl, oz_tr e3 z2, by unfold so_L; rw [if_pos (by omega)]; exact d2⟩
  · skip
    refine wa_aload_n (n := 0) rfl ?_
    refine wa_iload_n (n := 3) rfl ?_
    refine wa_iload (n := 4) rfl ?_
    refine wa_cv 162 rfl (wy_pr rfl) wt_162 (M2 := fun _ => False) rfl at_XO_addOrder ⟨_, rfl⟩ rfl rfl ⟨trivial, (Or.inr ⟨wy_pr rfl, fun q => q⟩), (Or.inr ⟨wy_pr rfl, fun q => q⟩), trivial, trivial, trivial⟩ trivial (fun _ _ q => False.elim q) (ao_162 (S := Z2) (lo := os (S 177 k)) hCz (od_oz (hos3 _ (by omega) (by omega)) z2 (by omega) (by decide)) d2 hk.2 ⟨by omega, by omega, by omega⟩) (fun oq64 Sq64 hp65 q64 => ?_)
    rcases q64 with ⟨rfl, g1, g2⟩
    show wJ _ _ _ _ _ _ _ _ _ _
    generalize Sq64 = Zn at g1 g2 ⊢
    refine wa_fall ⟨_, rfl⟩ ?_
    refine wa_return rfl ?_
    exact ⟨rfl, oz_tr e3 (oz_tr z2 g1), by unfold so_L; rw [if_neg (by omega)]; exact g2⟩
end W9u
