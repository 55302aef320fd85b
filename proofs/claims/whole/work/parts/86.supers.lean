/-! PART 86: the list of supers of a class, in the reference. -/
section W86
variable {xs : List (Nat × List Int32)} {M : Nat → Prop} {d : Nat} {S A B Z : wS} {Q : wO → wS → Prop} {p : Int} {b : Nat}
/-- behind a super, at p: more of them, or their end -/
def su_f (B : wS) (b : Nat) (c : Int) : Nat → Int → List Int → Int → Int → (Int × Int) ⊕ (Int × List Int × Int × Int)
  | 0, p, _, _, _ => .inl (0, p)
  | f + 1, p, l, a, al => if lx_is (zq B p) 44 = true then (match su_1 B b c (lx_ne (zq B p) p) a l with
    | .inl e => .inl e
    | .inr s => su_f B b c f (lx_ne (zq B (lx_ne (zq B p) p)) (lx_ne (zq B p) p)) (l ++ [s]) (if B (b + 2) s = 0 then s else a) (wb_lor al (B (b + 6) s))) else .inr (p, l, a, al)
theorem su_f_s (B : wS) (b : Nat) (c : Int) (f : Nat) (p : Int) (l : List Int) (a al : Int) : su_f B b c (f + 1) p l a al = if lx_is (zq B p) 44 = true then (match su_1 B b c (lx_ne (zq B p) p) a l with
    | .inl e => .inl e
    | .inr s => su_f B b c f (lx_ne (zq B (lx_ne (zq B p) p)) (lx_ne (zq B p) p)) (l ++ [s]) (if B (b + 2) s = 0 then s else a) (wb_lor al (B (b + 6) s))) else .inr (p, l, a, al) := rfl
theorem lx_E_gt (hE : lx_E Z B p) (h0 : zq B p 237 6 ≠ 0) (h5 : zq B p 237 6 ≠ 5) : p < lx_ne (zq B p) p ∧ lx_ne (zq B p) p ≤ B 237 4 := by
  have h := lx_ne_gt hE.1 (by rw [lx_E_6 hE]; exact h0) (by rw [lx_E_6 hE]; exact h5)
  rw [lx_E_ne hE, hE.2.2.1] at h
  exact h
/-- the whole list of supers that begins at p -/
def su_a (B : wS) (b : Nat) (c p : Int) : (Int × Int) ⊕ (Int × List Int × Int × Int) := match su_1 B b c p (B (b + 3) c) [] with
  | .inl e => .inl e
  | .inr s => su_f B b c ((B 237 4 - p).toNat + 1) (lx_ne (zq B p) p) ([] ++ [s]) (if B (b + 2) s = 0 then s else B (b + 3) c) (wb_lor (B (b + 6) c) (B (b + 6) s))
theorem cl_11_241 {c : Int} {r : (Int × Int) ⊕ (Int × List Int × Int × Int)} (hB15 : B 237 15 = 241) (hBn : ho_nm B 241) (hcc : 0 ≤ c ∧ c < 60) (hBc : B 241 1 = c) (hk : ∀ (Z : wS) (q a al : Int) (l : List Int), r = .inr (q, l, a, al) → su_ag 241 c B Z → lx_E Z B q → su_rows 241 c Z l a al → su_nd c l → wJ (pe_GA xs) wY0 M (d + 8) t_M_readsClass ((pe_at t_M_readsClass.bl 12).getD (0, [])).2 [(0, (2, 237)), (2, (0, c))] [] Z Q) (hf : ∀ (Z : wS) (e q : Int), r = .inl (e, q) → su_ag 241 c B Z → Z 238 5 = e → Z 238 6 = q → Q (.inr 238) Z) : ∀ (f : Nat) (p : Int) (l : List Int) (a al : Int) (Z : wS), (B 237 4 - p).toNat < f → su_f B 241 c f p l a al = r → su_ag 241 c B Z → lx_E Z B p → su_rows 241 c Z l a al → su_nd c l → wJ (pe_GA xs) wY0 M (d + 8) t_M_readsClass ((pe_at t_M_readsClass.bl 11).getD (0, [])).2 [(0, (2, 237)), (2, (0, c))] [] Z Q := by
  intro f
  induction f with
  | zero => intros; omega
  | succ f ih =>
    intro p l a al Z hfu he hag hE hr hnd
    rw [su_f_s] at he
    refine wa_aload_n (n := 0) rfl ?_
    refine wa_bipush (w_rg2 (by omega) (by omega)) ?_
    refine wa_cv 237 rfl (wy_pr rfl) wt_237 (M2 := fun _ => False) rfl at_M_accepts ⟨_, rfl⟩ rfl rfl ⟨(Or.inr ⟨wy_pr rfl, fun q => q⟩), trivial, trivial⟩ trivial (fun _ _ q => False.elim q) (accepts_ok hE.1 ⟨by omega, by omega⟩) (fun oq1 Sq1 hp2 q1 => ?_)
    rcases q1 with ⟨rfl, gk, y1, y2⟩ | ⟨rfl, gk, rfl⟩
    · skip
      rw [lx_E_is hE] at gk
      show wJ _ _ _ _ _ _ _ _ _ _
      rw [if_pos gk] at he
      rw [lx_E_ne hE] at y2
      have hE2 : lx_E Sq1 B (lx_ne (zq B p) p) := lx_E_ag hE y1 y2
      have hag2 : su_ag 241 c B Sq1 := su_ag_lx hag y1
      have hr2 := su_rows_ag (by decide) hr y1
      have gx := lx_is4 gk
      have hg1 := lx_E_gt hE (by rw [gx.1]; decide) (by rw [gx.1]; decide)
      refine wa_ifeq (w_rg0 (by omega) (by omega)) ⟨_, rfl⟩ (fun c23 => ?_) (fun c23 => ?_)
      · skip
        exact absurd c23 (by omega)
      · skip
        refine wa_aload_n (n := 0) rfl ?_
        refine wa_iload_n (n := 2) rfl ?_
        refine wa_cv 237 rfl (wy_pr rfl) wt_237 (M2 := fun _ => False) rfl at_M_readsSuper ⟨_, rfl⟩ rfl rfl ⟨(Or.inr ⟨wy_pr rfl, fun q => q⟩), trivial, trivial⟩ trivial (fun _ _ q => False.elim q) (su_one_241 hB15 hBn hcc hBc hag2 hE2 hr2 hnd) (fun oq24 Sq24 hp25 q24 => ?_)
        rcases q24 with ⟨s, q1, rfl, q3, q4, q5, q6, q7⟩ | ⟨e, q, q1, rfl, q3, q4, q5⟩
        · skip
          rw [q1] at he
          dsimp only at he
          show wJ _ _ _ _ _ _ _ _ _ _
          have hg2 := lx_E_gt hE2 (by rw [q7]; decide) (by rw [q7]; decide)
          refine wa_goto ⟨_, rfl⟩ ?_
          exact wJ_S (ih _ _ _ _ _ (by omega) he q3 q4 q5 q6) ⟨rfl, rfl, trivial⟩
        · skip
          rw [q1] at he
          dsimp only at he
          exact ⟨rfl, hf _ _ _ he.symm q3 q4 q5⟩
    · skip
      show wJ _ _ _ _ _ _ _ _ _ _
      rw [lx_E_is hE] at gk
      refine wa_ifeq (w_rg0 (by omega) (by omega)) ⟨_, rfl⟩ (fun c3 => ?_) (fun c3 => ?_)
      · skip
        rw [if_neg (by rw [gk]; decide)] at he
        exact wJ_S (hk _ _ _ _ _ he.symm hag hE hr hnd) ⟨rfl, rfl, trivial⟩
      · skip
        exact absurd c3 (by omega)
theorem cl_10_241 {c p : Int} {r : (Int × Int) ⊕ (Int × List Int × Int × Int)} {Z : wS} (hB15 : B 237 15 = 241) (hBn : ho_nm B 241) (hcc : 0 ≤ c ∧ c < 60) (hBc : B 241 1 = c) (hk : ∀ (Z : wS) (q a al : Int) (l : List Int), r = .inr (q, l, a, al) → su_ag 241 c B Z → lx_E Z B q → su_rows 241 c Z l a al → su_nd c l → wJ (pe_GA xs) wY0 M (d + 8) t_M_readsClass ((pe_at t_M_readsClass.bl 12).getD (0, [])).2 [(0, (2, 237)), (2, (0, c))] [] Z Q) (hf : ∀ (Z : wS) (e q : Int), r = .inl (e, q) → su_ag 241 c B Z → Z 238 5 = e → Z 238 6 = q → Q (.inr 238) Z) (he : su_a B 241 c p = r) (hag : su_ag 241 c B Z) (hE : lx_E Z B p) (hr : su_rows 241 c Z [] (B 244 c) (B 247 c)) : wJ (pe_GA xs) wY0 M (d + 8) t_M_readsClass (((pe_at t_M_readsClass.bl 10).getD (0, [])).2.drop 26) [(0, (2, 237)), (2, (0, c))] [] Z Q := by
  unfold su_a at he
  refine wa_aload_n (n := 0) rfl ?_
  refine wa_iload_n (n := 2) rfl ?_
  refine wa_cv 237 rfl (wy_pr rfl) wt_237 (M2 := fun _ => False) rfl at_M_readsSuper ⟨_, rfl⟩ rfl rfl ⟨(Or.inr ⟨wy_pr rfl, fun q => q⟩), trivial, trivial⟩ trivial (fun _ _ q => False.elim q) (su_one_241 hB15 hBn hcc hBc hag hE hr ⟨List.nodup_nil, fun x hx => by cases hx⟩) (fun oq1 Sq1 hp2 q1 => ?_)
  rcases q1 with ⟨s, q1, rfl, q3, q4, q5, q6, q7⟩ | ⟨e, q, q1, rfl, q3, q4, q5⟩
  · skip
    replace q1 : su_1 B 241 c p (B (241 + 3) c) [] = _ := q1
    rw [q1] at he
    dsimp only at he
    show wJ _ _ _ _ _ _ _ _ _ _
    have hg2 := lx_E_gt hE (by rw [q7]; decide) (by rw [q7]; decide)
    refine wa_fall ⟨_, rfl⟩ ?_
    exact wJ_S (cl_11_241 hB15 hBn hcc hBc hk hf _ _ _ _ _ _ (by omega) he q3 q4 q5 q6) ⟨rfl, rfl, trivial⟩
  · skip
    replace q1 : su_1 B 241 c p (B (241 + 3) c) [] = _ := q1
    rw [q1] at he
    dsimp only at he
    exact ⟨rfl, hf _ _ _ he.symm q3 q4 q5⟩
theorem cl_11_261 {c : Int} {r : (Int × Int) ⊕ (Int × List Int × Int × Int)} (hB15 : B 237 15 = 261) (hBn : ho_nm B 261) (hcc : 0 ≤ c ∧ c < 60) (hBc : B 261 1 = c) (hk : ∀ (Z : wS) (q a al : Int) (l : List Int), r = .inr (q, l, a, al) → su_ag 261 c B Z → lx_E Z B q → su_rows 261 c Z l a al → su_nd c l → wJ (pe_GA xs) wY0 M (d + 8) t_M_readsClass ((pe_at t_M_readsClass.bl 12).getD (0, [])).2 [(0, (2, 237)), (2, (0, c))] [] Z Q) (hf : ∀ (Z : wS) (e q : Int), r = .inl (e, q) → su_ag 261 c B Z → Z 238 5 = e → Z 238 6 = q → Q (.inr 238) Z) : ∀ (f : Nat) (p : Int) (l : List Int) (a al : Int) (Z : wS), (B 237 4 - p).toNat < f → su_f B 261 c f p l a al = r → su_ag 261 c B Z → lx_E Z B p → su_rows 261 c Z l a al → su_nd c l → wJ (pe_GA xs) wY0 M (d + 8) t_M_readsClass ((pe_at t_M_readsClass.bl 11).getD (0, [])).2 [(0, (2, 237)), (2, (0, c))] [] Z Q := by
  intro f
  induction f with
  | zero => intros; omega
  | succ f ih =>
    intro p l a al Z hfu he hag hE hr hnd
    rw [su_f_s] at he
    refine wa_aload_n (n := 0) rfl ?_
    refine wa_bipush (w_rg2 (by omega) (by omega)) ?_
    refine wa_cv 237 rfl (wy_pr rfl) wt_237 (M2 := fun _ => False) rfl at_M_accepts ⟨_, rfl⟩ rfl rfl ⟨(Or.inr ⟨wy_pr rfl, fun q => q⟩), trivial, trivial⟩ trivial (fun _ _ q => False.elim q) (accepts_ok hE.1 ⟨by omega, by omega⟩) (fun oq1 Sq1 hp2 q1 => ?_)
    rcases q1 with ⟨rfl, gk, y1, y2⟩ | ⟨rfl, gk, rfl⟩
    · skip
      rw [lx_E_is hE] at gk
      show wJ _ _ _ _ _ _ _ _ _ _
      rw [if_pos gk] at he
      rw [lx_E_ne hE] at y2
      have hE2 : lx_E Sq1 B (lx_ne (zq B p) p) := lx_E_ag hE y1 y2
      have hag2 : su_ag 261 c B Sq1 := su_ag_lx hag y1
      have hr2 := su_rows_ag (by decide) hr y1
      have gx := lx_is4 gk
      have hg1 := lx_E_gt hE (by rw [gx.1]; decide) (by rw [gx.1]; decide)
      refine wa_ifeq (w_rg0 (by omega) (by omega)) ⟨_, rfl⟩ (fun c23 => ?_) (fun c23 => ?_)
      · skip
        exact absurd c23 (by omega)
      · skip
        refine wa_aload_n (n := 0) rfl ?_
        refine wa_iload_n (n := 2) rfl ?_
        refine wa_cv 237 rfl (wy_pr rfl) wt_237 (M2 := fun _ => False) rfl at_M_readsSuper ⟨_, rfl⟩ rfl rfl ⟨(Or.inr ⟨wy_pr rfl, fun q => q⟩), trivial, trivial⟩ trivial (fun _ _ q => False.elim q) (su_one_261 hB15 hBn hcc hBc hag2 hE2 hr2 hnd) (fun oq24 Sq24 hp25 q24 => ?_)
        rcases q24 with ⟨s, q1, rfl, q3, q4, q5, q6, q7⟩ | ⟨e, q, q1, rfl, q3, q4, q5⟩
        · skip
          rw [q1] at he
          dsimp only at he
          show wJ _ _ _ _ _ _ _ _ _ _
          have hg2 := lx_E_gt hE2 (by rw [q7]; decide) (by rw [q7]; decide)
          refine wa_goto ⟨_, rfl⟩ ?_
          exact wJ_S (ih _ _ _ _ _ (by omega) he q3 q4 q5 q6) ⟨rfl, rfl, trivial⟩
        · skip
          rw [q1] at he
          dsimp only at he
          exact ⟨rfl, hf _ _ _ he.symm q3 q4 q5⟩
    · skip
      show wJ _ _ _ _ _ _ _ _ _ _
      rw [lx_E_is hE] at gk
      refine wa_ifeq (w_rg0 (by omega) (by omega)) ⟨_, rfl⟩ (fun c3 => ?_) (fun c3 => ?_)
      · skip
        rw [if_neg (by rw [gk]; decide)] at he
        exact wJ_S (hk _ _ _ _ _ he.symm hag hE hr hnd) ⟨rfl, rfl, trivial⟩
      · skip
        exact absurd c3 (by omega)
theorem cl_10_261 {c p : Int} {r : (Int × Int) ⊕ (Int × List Int × Int × Int)} {Z : wS} (hB15 : B 237 15 = 261) (hBn : ho_nm B 261) (hcc : 0 ≤ c ∧ c < 60) (hBc : B 261 1 = c) (hk : ∀ (Z : wS) (q a al : Int) (l : List Int), r = .inr (q, l, a, al) → su_ag 261 c B Z → lx_E Z B q → su_rows 261 c Z l a al → su_nd c l → wJ (pe_GA xs) wY0 M (d + 8) t_M_readsClass ((pe_at t_M_readsClass.bl 12).getD (0, [])).2 [(0, (2, 237)), (2, (0, c))] [] Z Q) (hf : ∀ (Z : wS) (e q : Int), r = .inl (e, q) → su_ag 261 c B Z → Z 238 5 = e → Z 238 6 = q → Q (.inr 238) Z) (he : su_a B 261 c p = r) (hag : su_ag 261 c B Z) (hE : lx_E Z B p) (hr : su_rows 261 c Z [] (B 264 c) (B 267 c)) : wJ (pe_GA xs) wY0 M (d + 8) t_M_readsClass (((pe_at t_M_readsClass.bl 10).getD (0, [])).2.drop 26) [(0, (2, 237)), (2, (0, c))] [] Z Q := by
  unfold su_a at he
  refine wa_aload_n (n := 0) rfl ?_
  refine wa_iload_n (n := 2) rfl ?_
  refine wa_cv 237 rfl (wy_pr rfl) wt_237 (M2 := fun _ => False) rfl at_M_readsSuper ⟨_, rfl⟩ rfl rfl ⟨(Or.inr ⟨wy_pr rfl, fun q => q⟩), trivial, trivial⟩ trivial (fun _ _ q => False.elim q) (su_one_261 hB15 hBn hcc hBc hag hE hr ⟨List.nodup_nil, fun x hx => by cases hx⟩) (fun oq1 Sq1 hp2 q1 => ?_)
  rcases q1 with ⟨s, q1, rfl, q3, q4, q5, q6, q7⟩ | ⟨e, q, q1, rfl, q3, q4, q5⟩
  · skip
    replace q1 : su_1 B 261 c p (B (261 + 3) c) [] = _ := q1
    rw [q1] at he
    dsimp only at he
    show wJ _ _ _ _ _ _ _ _ _ _
    have hg2 := lx_E_gt hE (by rw [q7]; decide) (by rw [q7]; decide)
    refine wa_fall ⟨_, rfl⟩ ?_
    exact wJ_S (cl_11_261 hB15 hBn hcc hBc hk hf _ _ _ _ _ _ (by omega) he q3 q4 q5 q6) ⟨rfl, rfl, trivial⟩
  · skip
    replace q1 : su_1 B 261 c p (B (261 + 3) c) [] = _ := q1
    rw [q1] at he
    dsimp only at he
    exact ⟨rfl, hf _ _ _ he.symm q3 q4 q5⟩
end W86
