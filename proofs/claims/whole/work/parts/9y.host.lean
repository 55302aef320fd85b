/-! PART 9y: endClass: the fields laid out. -/
section W9y
variable {xs : List (Nat × List Int32)} {M : Nat → Prop} {d : Nat} {A B C S Z : wS} {Q : wO → wS → Prop} {T : Int → Int} {n : Int} {c i : Nat}
/-- how many static fields there are -/
def cS : List hMR → Int
  | [] => 0
  | r :: l => (if r.2.1 = 0 ∧ r.2.2.1 = 1 then 1 else 0) + cS l
/-- how many other fields -/
def cI : List hMR → Int
  | [] => 0
  | r :: l => (if r.2.1 = 0 ∧ r.2.2.1 ≠ 1 then 1 else 0) + cI l
/-- the last one of these, the first member's number being m -/
def cla (x : Int) (m : Int) : List hMR → Int
  | [] => x
  | r :: l => cla (if r.2.1 = 0 ∧ r.2.2.1 ≠ 1 then m else x) (m + 1) l
theorem cS_app (l : List hMR) (r : hMR) : cS (l ++ [r]) = cS l + (if r.2.1 = 0 ∧ r.2.2.1 = 1 then 1 else 0) := by
  induction l with
  | nil => show (if r.2.1 = 0 ∧ r.2.2.1 = 1 then (1 : Int) else 0) + 0 = 0 + _; omega
  | cons g l ih => show (if g.2.1 = 0 ∧ g.2.2.1 = 1 then (1 : Int) else 0) + cS (l ++ [r]) = ((if g.2.1 = 0 ∧ g.2.2.1 = 1 then (1 : Int) else 0) + cS l) + _; rw [ih]; omega
theorem cI_app (l : List hMR) (r : hMR) : cI (l ++ [r]) = cI l + (if r.2.1 = 0 ∧ r.2.2.1 ≠ 1 then 1 else 0) := by
  induction l with
  | nil => show (if r.2.1 = 0 ∧ r.2.2.1 ≠ 1 then (1 : Int) else 0) + 0 = 0 + _; omega
  | cons g l ih => show (if g.2.1 = 0 ∧ g.2.2.1 ≠ 1 then (1 : Int) else 0) + cI (l ++ [r]) = ((if g.2.1 = 0 ∧ g.2.2.1 ≠ 1 then (1 : Int) else 0) + cI l) + _; rw [ih]; omega
theorem cla_app (r : hMR) : ∀ (l : List hMR) (x m : Int), cla x m (l ++ [r]) = if r.2.1 = 0 ∧ r.2.2.1 ≠ 1 then m + (l.length : Int) else cla x m l := by
  intro l
  induction l with
  | nil =>
    intro x m
    show (if r.2.1 = 0 ∧ r.2.2.1 ≠ 1 then m else x) = if r.2.1 = 0 ∧ r.2.2.1 ≠ 1 then m + ((0 : Nat) : Int) else x
    split <;> omega
  | cons g l ih =>
    intro x m
    show cla _ (m + 1) (l ++ [r]) = if r.2.1 = 0 ∧ r.2.2.1 ≠ 1 then m + ((l.length + 1 : Nat) : Int) else cla _ (m + 1) l
    rw [ih]
    split <;> omega
theorem cS_rg (l : List hMR) : 0 ≤ cS l ∧ cS l ≤ (l.length : Int) := by
  induction l with
  | nil => exact ⟨by decide, by decide⟩
  | cons g l ih => show 0 ≤ (if g.2.1 = 0 ∧ g.2.2.1 = 1 then (1 : Int) else 0) + cS l ∧ (if g.2.1 = 0 ∧ g.2.2.1 = 1 then (1 : Int) else 0) + cS l ≤ ((l.length + 1 : Nat) : Int); split <;> omega
theorem cI_rg (l : List hMR) : 0 ≤ cI l ∧ cI l ≤ (l.length : Int) := by
  induction l with
  | nil => exact ⟨by decide, by decide⟩
  | cons g l ih => show 0 ≤ (if g.2.1 = 0 ∧ g.2.2.1 ≠ 1 then (1 : Int) else 0) + cI l ∧ (if g.2.1 = 0 ∧ g.2.2.1 ≠ 1 then (1 : Int) else 0) + cI l ≤ ((l.length + 1 : Nat) : Int); split <;> omega
theorem cla_rg : ∀ (l : List hMR) (x m : Int), cla x m l = x ∨ (m ≤ cla x m l ∧ cla x m l < m + (l.length : Int)) := by
  intro l
  induction l with
  | nil => intro x m; exact Or.inl rfl
  | cons g l ih =>
    intro x m
    have := ih (if g.2.1 = 0 ∧ g.2.2.1 ≠ 1 then m else x) (m + 1)
    show cla (if g.2.1 = 0 ∧ g.2.2.1 ≠ 1 then m else x) (m + 1) l = x ∨ (m ≤ cla (if g.2.1 = 0 ∧ g.2.2.1 ≠ 1 then m else x) (m + 1) l ∧ cla (if g.2.1 = 0 ∧ g.2.2.1 ≠ 1 then m else x) (m + 1) l < m + ((l.length + 1 : Nat) : Int))
    revert this
    split <;> intro this <;> omega
/-- what endClass may change: rows of the statics st (a, b), the scratch, places of the fields from fi on, of the class kc the number of its fields -/
def ea_ag (m0 t0 st a b sc : Nat) (fi kc n0 : Int) (S Z : wS) : Prop := (∀ (j : Nat) (i : Int), j < 4000000 → j ≠ wG → j ≠ a → j ≠ b → (j ≠ st ∨ i ≠ 2) → ((j ≠ m0 + 15 ∧ j ≠ m0 + 16) ∨ i < fi) → ((j ≠ t0 + 7 ∧ j ≠ t0 + 8) ∨ i ≠ kc) → (j ≠ sc ∨ i < 0) → Z j i = S j i) ∧ ∀ i : Int, 0 ≤ i → i < n0 → Z a i = S a i ∧ Z b i = S b i
theorem ea_tr {m0 t0 st a b sc : Nat} {fi kc n0 : Int} (h : ea_ag m0 t0 st a b sc fi kc n0 A B) (k : ea_ag m0 t0 st a b sc fi kc n0 B C) : ea_ag m0 t0 st a b sc fi kc n0 A C := ⟨fun j i a1 a2 a3 a4 a5 a6 a7 a8 => (k.1 j i a1 a2 a3 a4 a5 a6 a7 a8).trans (h.1 j i a1 a2 a3 a4 a5 a6 a7 a8), fun i i0 i1 => ⟨(k.2 i i0 i1).1.trans (h.2 i i0 i1).1, (k.2 i i0 i1).2.trans (h.2 i i0 i1).2⟩⟩
/-- a field that is laid out -/
def lf_at (m0 a b : Nat) (fi n0 f0 x0 : Int) (rs : List hMR) (Z : wS) (q : Nat) (r : hMR) : Prop := (r.2.1 = 0 → r.2.2.1 = 1 → Z (m0 + 15) (fi + (q : Int)) = n0 + cS (rs.take q) ∧ Z a (n0 + cS (rs.take q)) = an_ft r.2.2.2.1 ∧ Z b (n0 + cS (rs.take q)) = 0) ∧ (r.2.1 = 0 → r.2.2.1 ≠ 1 → Z (m0 + 15) (fi + (q : Int)) = f0 + cI (rs.take q) ∧ Z (m0 + 16) (fi + (q : Int)) = cla x0 fi (rs.take q))
/-- k members have been gone through -/
def le_I (m0 t0 st a b sc : Nat) (fi kc n0 f0 x0 : Int) (rs : List hMR) (S Z : wS) (k : Nat) : Prop := ea_ag m0 t0 st a b sc fi kc n0 S Z ∧ (Z st 2 = n0 + cS (rs.take k) ∧ Z (t0 + 7) kc = f0 + cI (rs.take k) ∧ Z (t0 + 8) kc = cla x0 fi (rs.take k)) ∧ (∀ (q : Nat) (r : hMR), q < k → rs[q]? = some r → lf_at m0 a b fi n0 f0 x0 rs Z q r) ∧ rw_S st a b Z ∧ gI Z ∧ rmR S Z
theorem fk_c {t : Int} (ht : 0 ≤ t ∧ t ≤ 100) : wJ (pe_GA xs) wY0 M d t_XO_firstKind ((pe_at t_XO_firstKind.bl 0).getD (0, [])).2 [(0, (0, t))] [] S (fun o Z => S = Z ∧ o = .inl (some (0, an_ft t))) := by
  refine wa_iload_n (n := 0) rfl ?_
  refine wa_iconst ?_
  refine wa_icmpeq (w_rg0 (by omega) (by omega)) (w_rg0 (by omega) (by omega)) ⟨_, rfl⟩ (fun c1 => ?_) (fun c1 => ?_)
  · skip
    refine wa_iconst ?_
    refine wa_ireturn rfl ?_
    refine ⟨rfl, congrArg (fun z => Sum.inl (some (0, z))) ?_⟩
    unfold an_ft
    first | (rw [if_pos (by omega)]) | (rw [if_neg (by omega), if_pos (by omega)]) | (rw [if_neg (by omega), if_neg (by omega)])
  · skip
    refine wa_iload_n (n := 0) rfl ?_
    refine wa_iconst ?_
    refine wa_icmpne (w_rg0 (by omega) (by omega)) (w_rg0 (by omega) (by omega)) ⟨_, rfl⟩ (fun c2 => ?_) (fun c2 => ?_)
    · skip
      refine wa_iload_n (n := 0) rfl ?_
      refine wa_iconst ?_
      refine wa_icmpne (w_rg0 (by omega) (by omega)) (w_rg0 (by omega) (by omega)) ⟨_, rfl⟩ (fun c3 => ?_) (fun c3 => ?_)
      · skip
        refine wa_iconst ?_
        refine wa_fall ⟨_, rfl⟩ ?_
        refine wa_ireturn rfl ?_
        refine ⟨rfl, congrArg (fun z => Sum.inl (some (0, z))) ?_⟩
        unfold an_ft
        first | (rw [if_pos (by omega)]) | (rw [if_neg (by omega), if_pos (by omega)]) | (rw [if_neg (by omega), if_neg (by omega)])
      · skip
        refine wa_iconst ?_
        refine wa_goto ⟨_, rfl⟩ ?_
        refine wa_ireturn rfl ?_
        refine ⟨rfl, congrArg (fun z => Sum.inl (some (0, z))) ?_⟩
        unfold an_ft
        first | (rw [if_pos (by omega)]) | (rw [if_neg (by omega), if_pos (by omega)]) | (rw [if_neg (by omega), if_neg (by omega)])
    · skip
      refine wa_fall ⟨_, rfl⟩ ?_
      refine wa_iconst ?_
      refine wa_ireturn rfl ?_
      refine ⟨rfl, congrArg (fun z => Sum.inl (some (0, z))) ?_⟩
      unfold an_ft
      first | (rw [if_pos (by omega)]) | (rw [if_neg (by omega), if_pos (by omega)]) | (rw [if_neg (by omega), if_neg (by omega)])
theorem wz_no : ∀ q ∈ wz_n, q.1 ≠ 117 ∧ q.1 ≠ 118 ∧ q.1 ≠ 206 ∧ q.1 ≠ 207 := by decide
theorem cS_mono (rs : List hMR) : ∀ (q k : Nat), q ≤ k → cS (rs.take q) ≤ cS (rs.take k) := by
  intro q k h
  induction k with
  | zero => rw [show q = 0 by omega]; exact Int.le_refl _
  | succ k ih =>
    by_cases hq : q = k + 1
    · rw [hq]; exact Int.le_refl _
    · have := ih (by omega)
      rw [List.take_succ]
      cases hr : rs[k]? with
      | none => show cS (rs.take q) ≤ cS (rs.take k ++ []); rw [List.append_nil]; exact this
      | some g =>
        show cS (rs.take q) ≤ cS (rs.take k ++ [g])
        rw [cS_app]
        split <;> omega
theorem cS_lt (rs : List hMR) (q k : Nat) (r : hMR) (h : q < k) (hr : rs[q]? = some r) (e1 : r.2.1 = 0) (e2 : r.2.2.1 = 1) : cS (rs.take q) < cS (rs.take k) := by
  have h1 := cS_mono rs (q + 1) k (by omega)
  have h2 : rs.take (q + 1) = rs.take q ++ [r] := by rw [List.take_succ, hr]; rfl
  rw [h2, cS_app, if_pos ⟨e1, e2⟩] at h1
  omega
theorem ec5_73 {kc fi n0 f0 x0 : Int} {rs : List hMR} (hC : w_CL S) (hk : S 73 2 = kc + 1 ∧ 0 ≤ kc ∧ kc < 60) (hms : ∀ (q : Nat) (r : hMR), rs[q]? = some r → mr_at 97 74 T S (fi + (q : Int)) r ∧ (0 ≤ r.2.2.2.1 ∧ r.2.2.2.1 ≤ 68)) (hN : S 73 4 = fi + (rs.length : Int)) (hfi : S 91 kc = fi ∧ 0 ≤ fi ∧ fi + (rs.length : Int) ≤ 400) (hf0 : 0 ≤ f0 ∧ f0 ≤ 1000) (hn0 : 0 ≤ n0 ∧ n0 ≤ 400) (hx0 : -1 ≤ x0 ∧ x0 < 400) (hc : ∀ Z, le_I 97 87 116 117 118 119 fi kc n0 f0 x0 rs S Z rs.length → wJ (pe_GA xs) wY0 (mS [117, 118]) (d + 8) t_XO_endClass ((pe_at t_XO_endClass.bl 7).getD (0, [])).2 [(0, (2, 73)), (1, (0, kc))] [] Z Q) : ∀ (f k : Nat) (Z : wS), rs.length - k < f → k ≤ rs.length → le_I 97 87 116 117 118 119 fi kc n0 f0 x0 rs S Z k → wJ (pe_GA xs) wY0 (mS [117, 118]) (d + 8) t_XO_endClass ((pe_at t_XO_endClass.bl 5).getD (0, [])).2 [(0, (2, 73)), (1, (0, kc)), (3, (0, fi + (k : Int)))] [] Z Q := by
  intro f
  induction f with
  | zero => intro k Z h; exact absurd h (Nat.not_lt_zero _)
  | succ f ih =>
    intro k Z hf hkl hz
    obtain ⟨z1, ⟨z2, z3, z4⟩, z5, z6, z7, z8⟩ := hz
    have z2 : Z 116 2 = n0 + cS (rs.take k) := z2
    have z3 : Z 94 kc = f0 + cI (rs.take k) := z3
    have z4 : Z 95 kc = cla x0 fi (rs.take k) := z4
    have zr := z1.1
    have hCz : w_CL Z := fun y hy => (zr y.1 (-1) (by have := (wz_lt y hy).1; omega) (by have := (wz_lt y hy).1; unfold wG; omega) (by intro e; exact absurd (wz_no y hy) (by rw [e]; decide)) (by intro e; exact absurd (wz_no y hy) (by rw [e]; decide)) (by omega) (by omega) (by omega) (by omega)).trans (hC y hy)
    have zN : Z 73 4 = fi + (rs.length : Int) := (zr 73 4 (by decide) (by decide) (by decide) (by decide) (by omega) (by omega) (by omega) (by omega)).trans hN
    have hcs := cS_rg (rs.take k)
    have hci := cI_rg (rs.take k)
    have hcl := cla_rg (rs.take k) x0 fi
    have htk : (rs.take k).length = k := by rw [List.length_take]; omega
    refine wa_iload_n (n := 3) rfl ?_
    refine wa_aload_n (n := 0) rfl ?_
    refine wb_gfi 73 rfl (wy_pr rfl) wt_73 wf_3_4 (v := (fi + (rs.length : Int))) (zN) (fun r1 => ?_)
    refine wa_icmpge (w_rg0 (by omega) (by omega)) (w_rg0 (by omega) (by omega)) ⟨_, rfl⟩ (fun c2 => ?_) (fun c2 => ?_)
    · skip
      have hke : k = rs.length := by omega
      subst hke
      exact wJ_S (hc Z ⟨z1, ⟨z2, z3, z4⟩, z5, z6, z7, z8⟩) ⟨rfl, rfl, trivial⟩
    · skip
      have hkr : k < rs.length := by omega
      obtain ⟨g, hgk⟩ : ∃ g, rs[k]? = some g := ⟨_, List.getElem?_eq_getElem hkr⟩
      have hg := (hms k g hgk).1
      have hty := (hms k g hgk).2
      have zg : ∀ x : Nat, x ≤ 14 → Z (97 + x) (fi + (k : Int)) = S (97 + x) (fi + (k : Int)) := fun x hx => zr _ _ (by omega) (by unfold wG; omega) (by omega) (by omega) (by omega) (by omega) (by omega) (by omega)
      have g1 : Z 98 (fi + (k : Int)) = g.2.1 := (zg 1 (by omega)).trans hg.1.2.1
      have g2 : Z 99 (fi + (k : Int)) = g.2.2.1 := (zg 2 (by omega)).trans hg.1.2.2.1
      have g3 : Z 100 (fi + (k : Int)) = g.2.2.2.1 := (zg 3 (by omega)).trans hg.1.2.2.2
      have htk1 : rs.take (k + 1) = rs.take k ++ [g] := by rw [List.take_succ, hgk]; rfl
      have ecS := cS_app (rs.take k) g
      have ecI := cI_app (rs.take k) g
      have ecl := cla_app g (rs.take k) x0 fi
      rw [← htk1] at ecS ecI ecl
      rw [htk] at ecl
      refine wa_aload_n (n := 0) rfl ?_
      refine wb_gf4 73 rfl (wy_pr rfl) wt_73 wf_3_3 (v := 96) wl_73_3 ?_
      refine wa_iconst ?_
      refine wb_aald5 96 1 rfl rfl (wy_pr rfl) wt_96 (by rw [show _ = _ from ((cl_96 hCz))]; omega) wl_96_1 ?_
      refine wa_iload_n (n := 3) rfl ?_
      refine wb_iald 98 rfl (wy_pr rfl) wt_98 (n := 400) ((cl_98 hCz)) (by omega) (by omega) (v := (g.2.1)) (g1) (fun r3 => ?_)
      refine wa_ifne (w_rg0 (by omega) (by omega)) ⟨_, rfl⟩ (fun c4 => ?_) (fun c4 => ?_)
      · skip
        refine wa_iinc rfl rfl ?_
        refine wa_goto ⟨_, rfl⟩ ?_
        refine wJ_S (ih (k + 1) Z (by omega) (by omega) ⟨z1, ⟨?_, ?_, ?_⟩, fun q r hq hr => ?_, z6, z7, z8⟩) ⟨rfl, rfl, by rw [show fi + ((k + 1 : Nat) : Int) = fi + (k : Int) + 1 by omega]; rfl, trivial⟩
        · rw [ecS, if_neg (by omega)]; exact z2.trans (by omega)
        · rw [ecI, if_neg (by omega)]; exact z3.trans (by omega)
        · rw [ecl, if_neg (by omega)]; exact z4
        · by_cases hqk : q = k
          · subst hqk; rw [hgk] at hr; cases hr; exact ⟨fun e => absurd e (by omega), fun e => absurd e (by omega)⟩
          · exact z5 q r (by omega) hr
      · skip
        refine wa_aload_n (n := 0) rfl ?_
        refine wa_iload_n (n := 1) rfl ?_
        refine wa_iload_n (n := 3) rfl ?_
        refine wa_cv 73 rfl (wy_pr rfl) wt_73 (M2 := mS [117, 118]) rfl at_XO_layOut ⟨_, rfl⟩ rfl rfl ⟨(Or.inr ⟨wy_pr rfl, mS_no rfl⟩), trivial, trivial, trivial⟩ trivial (fun _ _ q => q) ?_ (fun _ _ _ q => q)
        refine wa_aload_n (n := 0) rfl ?_
        refine wb_gf4 73 rfl (wy_pr rfl) wt_73 wf_3_3 (v := 96) wl_73_3 ?_
        refine wa_iconst ?_
        refine wb_aald5 96 2 rfl rfl (wy_pr rfl) wt_96 (by rw [show _ = _ from ((cl_96 hCz))]; omega) wl_96_2 ?_
        refine wa_iload_n (n := 2) rfl ?_
        refine wb_iald 99 rfl (wy_pr rfl) wt_99 (n := 400) ((cl_99 hCz)) (by omega) (by omega) (v := (g.2.2.1)) (g2) (fun r5 => ?_)
        refine wa_iconst ?_
        refine wa_icmpne (w_rg0 (by omega) (by omega)) (w_rg0 (by omega) (by omega)) ⟨_, rfl⟩ (fun c6 => ?_) (fun c6 => ?_)
        · skip
          refine wa_aload_n (n := 0) rfl ?_
          refine wb_gf4 73 rfl (wy_pr rfl) wt_73 wf_3_3 (v := 96) wl_73_3 ?_
          refine wa_bipush (w_rg2 (by omega) (by omega)) ?_
          refine wb_aald5 96 15 rfl rfl (wy_pr rfl) wt_96 (by rw [show _ = _ from ((cl_96 hCz))]; omega) wl_96_15 ?_
          refine wa_iload_n (n := 2) rfl ?_
          refine wa_aload_n (n := 0) rfl ?_
          refine wb_gf4 73 rfl (wy_pr rfl) wt_73 wf_3_1 (v := 86) wl_73_1 ?_
          refine wa_bipush (w_rg2 (by omega) (by omega)) ?_
          refine wb_aald5 86 7 rfl rfl (wy_pr rfl) wt_86 (by rw [show _ = _ from ((cl_86 hCz))]; omega) wl_86_7 ?_
          refine wa_iload_n (n := 1) rfl ?_
          refine wb_iald 94 rfl (wy_pr rfl) wt_94 (n := 60) ((cl_94 hCz)) (by omega) (by omega) (v := (f0 + cI (rs.take k))) (z3) (fun r7 => ?_)
          refine wb_iast 112 rfl (wy_pr rfl) wt_112 (n := 400) ((cl_112 hCz)) (by omega) (by omega) ⟨(by omega), (by omega)⟩ ?_
          refine wa_aload_n (n := 0) rfl ?_
          refine wb_gf4 73 rfl (wy_pr rfl) wt_73 wf_3_3 (v := 96) wl_73_3 ?_
          refine wa_bipush (w_rg2 (by omega) (by omega)) ?_
          refine wb_aald5 96 16 rfl rfl (wy_pr rfl) wt_96 (by rw [show _ = _ from ((w_up_slot (by decide)).trans ((cl_96 hCz)))]; omega) wl_96_16 ?_
          refine wa_iload_n (n := 2) rfl ?_
          refine wa_aload_n (n := 0) rfl ?_
          refine wb_gf4 73 rfl (wy_pr rfl) wt_73 wf_3_1 (v := 86) wl_73_1 ?_
          refine wa_bipush (w_rg2 (by omega) (by omega)) ?_
          refine wb_aald5 86 8 rfl rfl (wy_pr rfl) wt_86 (by rw [show _ = _ from ((w_up_slot (by decide)).trans ((cl_86 hCz)))]; omega) wl_86_8 ?_
          refine wa_iload_n (n := 1) rfl ?_
          refine wb_iald 95 rfl (wy_pr rfl) wt_95 (n := 60) ((w_up_slot (by decide)).trans ((cl_95 hCz))) (by omega) (by omega) (v := (cla x0 fi (rs.take k))) ((w_up_slot (by decide)).trans (z4)) (fun r8 => ?_)
          refine wb_iast 113 rfl (wy_pr rfl) wt_113 (n := 400) ((w_up_slot (by decide)).trans ((cl_113 hCz))) (by omega) (by omega) ⟨(by omega), (by omega)⟩ ?_
          refine wa_aload_n (n := 0) rfl ?_
          refine wb_gf4 73 rfl (wy_pr rfl) wt_73 wf_3_1 (v := 86) wl_73_1 ?_
          refine wa_bipush (w_rg2 (by omega) (by omega)) ?_
          refine wb_aald5 86 8 rfl rfl (wy_pr rfl) wt_86 (by rw [show _ = _ from ((w_up_slot (by decide)).trans ((w_up_slot (by decide)).trans ((cl_86 hCz))))]; omega) wl_86_8 ?_
          refine wa_iload_n (n := 1) rfl ?_
          refine wa_iload_n (n := 2) rfl ?_
          refine wb_iast 95 rfl (wy_pr rfl) wt_95 (n := 60) ((w_up_slot (by decide)).trans ((w_up_slot (by decide)).trans ((cl_95 hCz)))) (by omega) (by omega) ⟨(by omega), (by omega)⟩ ?_
          refine wa_aload_n (n := 0) rfl ?_
          refine wb_gf4 73 rfl (wy_pr rfl) wt_73 wf_3_1 (v := 86) wl_73_1 ?_
          refine wa_bipush (w_rg2 (by omega) (by omega)) ?_
          refine wb_aald5 86 7 rfl rfl (wy_pr rfl) wt_86 (by rw [show _ = _ from ((w_up_slot (by decide)).trans ((w_up_slot (by decide)).trans ((w_up_slot (by decide)).trans ((cl_86 hCz)))))]; omega) wl_86_7 ?_
          refine wa_iload_n (n := 1) rfl ?_
          refine wa_dup2 (by decide) (by decide) ?_
          refine wb_iald 94 rfl (wy_pr rfl) wt_94 (n := 60) ((w_up_slot (by decide)).trans ((w_up_slot (by decide)).trans ((w_up_slot (by decide)).trans ((cl_94 hCz))))) (by omega) (by omega) (v := (f0 + cI (rs.take k))) ((w_up_slot (by decide)).trans ((w_up_slot (by decide)).trans ((w_up_slot (by decide)).trans (z3)))) (fun r9 => ?_)
          refine wa_iconst ?_
          refine wa_iadd ?_
          refine wb_iast 94 rfl (wy_pr rfl) wt_94 (n := 60) ((w_up_slot (by decide)).trans ((w_up_slot (by decide)).trans ((w_up_slot (by decide)).trans ((cl_94 hCz))))) (by omega) (by omega) ⟨(by omega), (by omega)⟩ ?_
          refine wa_fall ⟨_, rfl⟩ ?_
          refine wa_return rfl ?_
          show wJ _ _ _ _ _ _ _ _ _ _
          refine wa_fall ⟨_, rfl⟩ ?_
          refine wa_iinc rfl rfl ?_
          refine wa_goto ⟨_, rfl⟩ ?_
          have hst : g.2.1 = 0 ∧ g.2.2.1 ≠ 1 := ⟨by omega, by omega⟩
          have zn : ∀ (j : Nat) (i : Int), ((j ≠ 112 ∧ j ≠ 113) ∨ i ≠ (fi + (k : Int))) → ((j ≠ 94 ∧ j ≠ 95) ∨ i ≠ kc) → (w_up (w_up (w_up (w_up Z 112 (fi + (k : Int)) (f0 + cI (rs.take k))) 113 (fi + (k : Int)) (cla x0 fi (rs.take k))) 95 kc (fi + (k : Int))) 94 kc ((f0 + cI (rs.take k)) + 1)) j i = Z j i := fun j i a1 a2 => (w_up_no (by omega)).trans ((w_up_no (by omega)).trans ((w_up_no (by omega)).trans ((w_up_no (by omega)).trans (rfl))))
          have n15 : (w_up (w_up (w_up (w_up Z 112 (fi + (k : Int)) (f0 + cI (rs.take k))) 113 (fi + (k : Int)) (cla x0 fi (rs.take k))) 95 kc (fi + (k : Int))) 94 kc ((f0 + cI (rs.take k)) + 1)) 112 (fi + (k : Int)) = f0 + cI (rs.take k) := ((w_up_slot (by decide)).trans ((w_up_slot (by decide)).trans ((w_up_slot (by decide)).trans (w_up_same _ _ _ _))))
          have n16 : (w_up (w_up (w_up (w_up Z 112 (fi + (k : Int)) (f0 + cI (rs.take k))) 113 (fi + (k : Int)) (cla x0 fi (rs.take k))) 95 kc (fi + (k : Int))) 94 kc ((f0 + cI (rs.take k)) + 1)) 113 (fi + (k : Int)) = cla x0 fi (rs.take k) := ((w_up_slot (by decide)).trans ((w_up_slot (by decide)).trans (w_up_same _ _ _ _)))
          refine wJ_S (ih (k + 1) (w_up (w_up (w_up (w_up Z 112 (fi + (k : Int)) (f0 + cI (rs.take k))) 113 (fi + (k : Int)) (cla x0 fi (rs.take k))) 95 kc (fi + (k : Int))) 94 kc ((f0 + cI (rs.take k)) + 1)) (by omega) (by omega) ⟨ea_tr z1 ⟨fun j i a1 a2 a3 a4 a5 a6 a7 a8 => zn j i (by omega) (by omega), fun i i0 i1 => ⟨zn _ _ (by omega) (by omega), zn _ _ (by omega) (by omega)⟩⟩, ⟨?_, ?_, ?_⟩, fun q r hq hr => ?_, (show rw_S 116 117 118 (w_up (w_up (w_up (w_up Z 112 (fi + (k : Int)) (f0 + cI (rs.take k))) 113 (fi + (k : Int)) (cla x0 fi (rs.take k))) 95 kc (fi + (k : Int))) 94 kc ((f0 + cI (rs.take k)) + 1)) from z6), (gI_up (gI_up (gI_up (gI_up z7 (by omega) (by omega) (by omega)) (by omega) (by omega) (by omega)) (by omega) (by omega) (by omega)) (by omega) (by omega) (by omega)), rmR_tr z8 (rmR_up (rmR_up (rmR_up (rmR_up (rmR_rfl Z) (by omega) (by decide)) (by omega) (by decide)) (by omega) (by decide)) (by omega) (by decide))⟩) ⟨rfl, rfl, by rw [show fi + ((k + 1 : Nat) : Int) = fi + (k : Int) + 1 by omega]; rfl, trivial⟩
          · rw [ecS, if_neg (by omega)]; exact (zn 116 2 (by omega) (by omega)).trans (z2.trans (by omega))
          · rw [ecI, if_pos hst]; exact ((w_up_same _ _ _ _)).trans (by omega)
          · rw [ecl, if_pos hst]; exact ((w_up_slot (by decide)).trans (w_up_same _ _ _ _))
          · by_cases hqk : q = k
            · subst hqk; rw [hgk] at hr; cases hr; exact ⟨fun _ e => absurd e hst.2, fun _ _ => ⟨n15, n16⟩⟩
            · have hzq := z5 q r (by omega) hr
              refine ⟨fun e1 e2 => ?_, fun e1 e2 => ?_⟩
              · obtain ⟨b1, b2, b3⟩ := hzq.1 e1 e2
                exact ⟨(zn _ _ (by omega) (by omega)).trans b1, (zn _ _ (by omega) (by omega)).trans b2, (zn _ _ (by omega) (by omega)).trans b3⟩
              · obtain ⟨b1, b2⟩ := hzq.2 e1 e2
                exact ⟨(zn _ _ (by omega) (by omega)).trans b1, (zn _ _ (by omega) (by omega)).trans b2⟩
        · skip
          refine wa_aload_n (n := 0) rfl ?_
          refine wb_gf4 73 rfl (wy_pr rfl) wt_73 wf_3_3 (v := 96) wl_73_3 ?_
          refine wa_bipush (w_rg2 (by omega) (by omega)) ?_
          refine wb_aald5 96 15 rfl rfl (wy_pr rfl) wt_96 (by rw [show _ = _ from ((cl_96 hCz))]; omega) wl_96_15 ?_
          refine wa_iload_n (n := 2) rfl ?_
          refine wa_aload_n (n := 0) rfl ?_
          refine wb_gf4 73 rfl (wy_pr rfl) wt_73 wf_3_7 (v := 116) wl_73_7 ?_
          refine wb_gfi 116 rfl (wy_pr rfl) wt_116 wf_7_2 (v := (n0 + cS (rs.take k))) (z2) (fun r10 => ?_)
          refine wb_iast 112 rfl (wy_pr rfl) wt_112 (n := 400) ((cl_112 hCz)) (by omega) (by omega) ⟨(by omega), (by omega)⟩ ?_
          refine wa_aload_n (n := 0) rfl ?_
          refine wb_gf4 73 rfl (wy_pr rfl) wt_73 wf_3_7 (v := 116) wl_73_7 ?_
          refine wa_aload_n (n := 0) rfl ?_
          refine wb_gf4 73 rfl (wy_pr rfl) wt_73 wf_3_3 (v := 96) wl_73_3 ?_
          refine wa_iconst ?_
          refine wb_aald5 96 3 rfl rfl (wy_pr rfl) wt_96 (by rw [show _ = _ from ((w_up_slot (by decide)).trans ((cl_96 hCz)))]; omega) wl_96_3 ?_
          refine wa_iload_n (n := 2) rfl ?_
          refine wb_iald 100 rfl (wy_pr rfl) wt_100 (n := 400) ((w_up_slot (by decide)).trans ((cl_100 hCz))) (by omega) (by omega) (v := (g.2.2.2.1)) ((w_up_slot (by decide)).trans (g3)) (fun r11 => ?_)
          refine wa_cs (M2 := fun _ => False) rfl at_XO_firstKind ⟨_, rfl⟩ rfl rfl ⟨(Or.inr ⟨wy_pr rfl, fun q => q⟩), trivial, trivial, trivial⟩ ⟨(Or.inr ⟨wy_pr rfl, fun q => q⟩), trivial⟩ (fun _ _ q => False.elim q) (fk_c (S := (w_up Z 112 (fi + (k : Int)) (n0 + cS (rs.take k)))) ⟨by omega, by omega⟩) (fun oq12 Sq12 hp13 q12 => ?_)
          rcases q12 with ⟨rfl, rfl⟩
          show wJ _ _ _ _ _ _ _ _ _ _
          have hft : 0 ≤ an_ft g.2.2.2.1 ∧ an_ft g.2.2.2.1 ≤ 2 := by unfold an_ft; repeat' split <;> omega
          have hft : 0 ≤ an_ft g.2.2.2.1 ∧ an_ft g.2.2.2.1 ≤ 2 := hft
          refine wb_lconst (m := 0) rfl ?_
          refine wa_cv 116 rfl (wy_pr rfl) wt_116 (M2 := mS [117, 118]) rfl at_XV_add ⟨_, rfl⟩ rfl rfl ⟨(Or.inr ⟨wy_pr rfl, mS_no rfl⟩), trivial, trivial, trivial⟩ trivial (fun _ _ q => q) (ra_116 (S := (w_up Z 112 (fi + (k : Int)) (n0 + cS (rs.take k)))) (gI_up z7 (by omega) (by omega) (by omega)) ⟨by omega, by omega⟩ ⟨by omega, by omega⟩ (show rw_S 116 117 118 (w_up Z 112 (fi + (k : Int)) (n0 + cS (rs.take k))) from z6)) (fun oq14 Sq14 hp15 q14 => ?_)
          rcases q14 with ⟨rfl, ra⟩
          show wJ _ _ _ _ _ _ _ _ _ _
          generalize Sq14 = Zn at ra ⊢
          refine wa_goto ⟨_, rfl⟩ ?_
          refine wa_return rfl ?_
          show wJ _ _ _ _ _ _ _ _ _ _
          refine wa_fall ⟨_, rfl⟩ ?_
          refine wa_iinc rfl rfl ?_
          refine wa_goto ⟨_, rfl⟩ ?_
          obtain ⟨r1, ⟨r2, r3⟩, r4, r5, ⟨r6, r7, r8⟩, r9, r10⟩ := ra
          have e2 : (w_up Z 112 (fi + (k : Int)) (n0 + cS (rs.take k))) 116 2 = n0 + cS (rs.take k) := ((w_up_slot (by decide)).trans (z2))
          rw [e2] at r1 r2 r3 r4 r7 r8
          have hst : g.2.1 = 0 ∧ g.2.2.1 = 1 := ⟨by omega, by omega⟩
          have zn : ∀ (j : Nat) (i : Int), j < 4000000 → j ≠ wG → j ≠ 117 → j ≠ 118 → (j ≠ 116 ∨ i ≠ 2) → (j ≠ 112 ∨ i ≠ (fi + (k : Int))) → Zn j i = Z j i := fun j i a1 a2 a3 a4 a5 a6 => (r5 j i a1 a2 a3 a4 a5).trans (w_up_no (by omega))
          have n15 : Zn 112 (fi + (k : Int)) = n0 + cS (rs.take k) := (r5 112 (fi + (k : Int)) (by decide) (by decide) (by decide) (by decide) (by omega)).trans ((w_up_same _ _ _ _))
          have la : (w_up Z 112 (fi + (k : Int)) (n0 + cS (rs.take k))) 117 (-1) = Z 117 (-1) := (w_up_slot (by decide))
          rw [la] at r8
          obtain ⟨v1, v2, v3, v4⟩ := z6
          refine wJ_S (ih (k + 1) Zn (by omega) (by omega) ⟨ea_tr z1 ⟨fun j i a1 a2 a3 a4 a5 a6 a7 a8 => zn j i a1 a2 a3 a4 a5 (by omega), fun i i0 i1 => ⟨(r4 i i0 (by omega)).1, (r4 i i0 (by omega)).2⟩⟩, ⟨?_, ?_, ?_⟩, fun q r hq hr => ?_, ⟨⟨by omega, by omega⟩, r6, by omega, by omega⟩, r9, rmR_tr z8 (rmR_tr (rmR_up (rmR_rfl Z) (by omega) (by decide)) r10)⟩) ⟨rfl, rfl, by rw [show fi + ((k + 1 : Nat) : Int) = fi + (k : Int) + 1 by omega]; rfl, trivial⟩
          · rw [ecS, if_pos hst]; exact r1.trans (by omega)
          · rw [ecI, if_neg (by omega)]; exact (zn 94 kc (by decide) (by decide) (by decide) (by decide) (by omega) (by omega)).trans (z3.trans (by omega))
          · rw [ecl, if_neg (by omega)]; exact (zn 95 kc (by decide) (by decide) (by decide) (by decide) (by omega) (by omega)).trans z4
          · by_cases hqk : q = k
            · subst hqk; rw [hgk] at hr; cases hr; exact ⟨fun _ _ => ⟨n15, r2, r3⟩, fun _ e => absurd hst.2 e⟩
            · have hzq := z5 q r (by omega) hr
              have hmono := cS_mono rs q k (by omega)
              refine ⟨fun e1 e2 => ?_, fun e1 e2 => ?_⟩
              · obtain ⟨b1, b2, b3⟩ := hzq.1 e1 e2
                have hlt := cS_lt rs q k r (by omega) hr e1 e2
                have hc0 := cS_rg (rs.take q)
                exact ⟨(zn _ _ (by decide) (by decide) (by decide) (by decide) (by omega) (by omega)).trans b1, (r4 _ (by omega) (by omega)).1.trans b2, (r4 _ (by omega) (by omega)).2.trans b3⟩
              · obtain ⟨b1, b2⟩ := hzq.2 e1 e2
                exact ⟨(zn _ _ (by decide) (by decide) (by decide) (by decide) (by omega) (by omega)).trans b1, (zn _ _ (by decide) (by decide) (by decide) (by decide) (by omega) (by omega)).trans b2⟩
theorem ec5_162 {kc fi n0 f0 x0 : Int} {rs : List hMR} (hC : w_CL S) (hk : S 162 2 = kc + 1 ∧ 0 ≤ kc ∧ kc < 60) (hms : ∀ (q : Nat) (r : hMR), rs[q]? = some r → mr_at 186 163 T S (fi + (q : Int)) r ∧ (0 ≤ r.2.2.2.1 ∧ r.2.2.2.1 ≤ 68)) (hN : S 162 4 = fi + (rs.length : Int)) (hfi : S 180 kc = fi ∧ 0 ≤ fi ∧ fi + (rs.length : Int) ≤ 400) (hf0 : 0 ≤ f0 ∧ f0 ≤ 1000) (hn0 : 0 ≤ n0 ∧ n0 ≤ 400) (hx0 : -1 ≤ x0 ∧ x0 < 400) (hc : ∀ Z, le_I 186 176 205 206 207 208 fi kc n0 f0 x0 rs S Z rs.length → wJ (pe_GA xs) wY0 (mS [206, 207]) (d + 8) t_XO_endClass ((pe_at t_XO_endClass.bl 7).getD (0, [])).2 [(0, (2, 162)), (1, (0, kc))] [] Z Q) : ∀ (f k : Nat) (Z : wS), rs.length - k < f → k ≤ rs.length → le_I 186 176 205 206 207 208 fi kc n0 f0 x0 rs S Z k → wJ (pe_GA xs) wY0 (mS [206, 207]) (d + 8) t_XO_endClass ((pe_at t_XO_endClass.bl 5).getD (0, [])).2 [(0, (2, 162)), (1, (0, kc)), (3, (0, fi + (k : Int)))] [] Z Q := by
  intro f
  induction f with
  | zero => intro k Z h; exact absurd h (Nat.not_lt_zero _)
  | succ f ih =>
    intro k Z hf hkl hz
    obtain ⟨z1, ⟨z2, z3, z4⟩, z5, z6, z7, z8⟩ := hz
    have z2 : Z 205 2 = n0 + cS (rs.take k) := z2
    have z3 : Z 183 kc = f0 + cI (rs.take k) := z3
    have z4 : Z 184 kc = cla x0 fi (rs.take k) := z4
    have zr := z1.1
    have hCz : w_CL Z := fun y hy => (zr y.1 (-1) (by have := (wz_lt y hy).1; omega) (by have := (wz_lt y hy).1; unfold wG; omega) (by intro e; exact absurd (wz_no y hy) (by rw [e]; decide)) (by intro e; exact absurd (wz_no y hy) (by rw [e]; decide)) (by omega) (by omega) (by omega) (by omega)).trans (hC y hy)
    have zN : Z 162 4 = fi + (rs.length : Int) := (zr 162 4 (by decide) (by decide) (by decide) (by decide) (by omega) (by omega) (by omega) (by omega)).trans hN
    have hcs := cS_rg (rs.take k)
    have hci := cI_rg (rs.take k)
    have hcl := cla_rg (rs.take k) x0 fi
    have htk : (rs.take k).length = k := by rw [List.length_take]; omega
    refine wa_iload_n (n := 3) rfl ?_
    refine wa_aload_n (n := 0) rfl ?_
    refine wb_gfi 162 rfl (wy_pr rfl) wt_162 wf_3_4 (v := (fi + (rs.length : Int))) (zN) (fun r1 => ?_)
    refine wa_icmpge (w_rg0 (by omega) (by omega)) (w_rg0 (by omega) (by omega)) ⟨_, rfl⟩ (fun c2 => ?_) (fun c2 => ?_)
    · skip
      have hke : k = rs.length := by omega
      subst hke
      exact wJ_S (hc Z ⟨z1, ⟨z2, z3, z4⟩, z5, z6, z7, z8⟩) ⟨rfl, rfl, trivial⟩
    · skip
      have hkr : k < rs.length := by omega
      obtain ⟨g, hgk⟩ : ∃ g, rs[k]? = some g := ⟨_, List.getElem?_eq_getElem hkr⟩
      have hg := (hms k g hgk).1
      have hty := (hms k g hgk).2
      have zg : ∀ x : Nat, x ≤ 14 → Z (186 + x) (fi + (k : Int)) = S (186 + x) (fi + (k : Int)) := fun x hx => zr _ _ (by omega) (by unfold wG; omega) (by omega) (by omega) (by omega) (by omega) (by omega) (by omega)
      have g1 : Z 187 (fi + (k : Int)) = g.2.1 := (zg 1 (by omega)).trans hg.1.2.1
      have g2 : Z 188 (fi + (k : Int)) = g.2.2.1 := (zg 2 (by omega)).trans hg.1.2.2.1
      have g3 : Z 189 (fi + (k : Int)) = g.2.2.2.1 := (zg 3 (by omega)).trans hg.1.2.2.2
      have htk1 : rs.take (k + 1) = rs.take k ++ [g] := by rw [List.take_succ, hgk]; rfl
      have ecS := cS_app (rs.take k) g
      have ecI := cI_app (rs.take k) g
      have ecl := cla_app g (rs.take k) x0 fi
      rw [← htk1] at ecS ecI ecl
      rw [htk] at ecl
      refine wa_aload_n (n := 0) rfl ?_
      refine wb_gf4 162 rfl (wy_pr rfl) wt_162 wf_3_3 (v := 185) wl_162_3 ?_
      refine wa_iconst ?_
      refine wb_aald5 185 1 rfl rfl (wy_pr rfl) wt_185 (by rw [show _ = _ from ((cl_185 hCz))]; omega) wl_185_1 ?_
      refine wa_iload_n (n := 3) rfl ?_
      refine wb_iald 187 rfl (wy_pr rfl) wt_187 (n := 400) ((cl_187 hCz)) (by omega) (by omega) (v := (g.2.1)) (g1) (fun r3 => ?_)
      refine wa_ifne (w_rg0 (by omega) (by omega)) ⟨_, rfl⟩ (fun c4 => ?_) (fun c4 => ?_)
      · skip
        refine wa_iinc rfl rfl ?_
        refine wa_goto ⟨_, rfl⟩ ?_
        refine wJ_S (ih (k + 1) Z (by omega) (by omega) ⟨z1, ⟨?_, ?_, ?_⟩, fun q r hq hr => ?_, z6, z7, z8⟩) ⟨rfl, rfl, by rw [show fi + ((k + 1 : Nat) : Int) = fi + (k : Int) + 1 by omega]; rfl, trivial⟩
        · rw [ecS, if_neg (by omega)]; exact z2.trans (by omega)
        · rw [ecI, if_neg (by omega)]; exact z3.trans (by omega)
        · rw [ecl, if_neg (by omega)]; exact z4
        · by_cases hqk : q = k
          · subst hqk; rw [hgk] at hr; cases hr; exact ⟨fun e => absurd e (by omega), fun e => absurd e (by omega)⟩
          · exact z5 q r (by omega) hr
      · skip
        refine wa_aload_n (n := 0) rfl ?_
        refine wa_iload_n (n := 1) rfl ?_
        refine wa_iload_n (n := 3) rfl ?_
        refine wa_cv 162 rfl (wy_pr rfl) wt_162 (M2 := mS [206, 207]) rfl at_XO_layOut ⟨_, rfl⟩ rfl rfl ⟨(Or.inr ⟨wy_pr rfl, mS_no rfl⟩), trivial, trivial, trivial⟩ trivial (fun _ _ q => q) ?_ (fun _ _ _ q => q)
        refine wa_aload_n (n := 0) rfl ?_
        refine wb_gf4 162 rfl (wy_pr rfl) wt_162 wf_3_3 (v := 185) wl_162_3 ?_
        refine wa_iconst ?_
        refine wb_aald5 185 2 rfl rfl (wy_pr rfl) wt_185 (by rw [show _ = _ from ((cl_185 hCz))]; omega) wl_185_2 ?_
        refine wa_iload_n (n := 2) rfl ?_
        refine wb_iald 188 rfl (wy_pr rfl) wt_188 (n := 400) ((cl_188 hCz)) (by omega) (by omega) (v := (g.2.2.1)) (g2) (fun r5 => ?_)
        refine wa_iconst ?_
        refine wa_icmpne (w_rg0 (by omega) (by omega)) (w_rg0 (by omega) (by omega)) ⟨_, rfl⟩ (fun c6 => ?_) (fun c6 => ?_)
        · skip
          refine wa_aload_n (n := 0) rfl ?_
          refine wb_gf4 162 rfl (wy_pr rfl) wt_162 wf_3_3 (v := 185) wl_162_3 ?_
          refine wa_bipush (w_rg2 (by omega) (by omega)) ?_
          refine wb_aald5 185 15 rfl rfl (wy_pr rfl) wt_185 (by rw [show _ = _ from ((cl_185 hCz))]; omega) wl_185_15 ?_
          refine wa_iload_n (n := 2) rfl ?_
          refine wa_aload_n (n := 0) rfl ?_
          refine wb_gf4 162 rfl (wy_pr rfl) wt_162 wf_3_1 (v := 175) wl_162_1 ?_
          refine wa_bipush (w_rg2 (by omega) (by omega)) ?_
          refine wb_aald5 175 7 rfl rfl (wy_pr rfl) wt_175 (by rw [show _ = _ from ((cl_175 hCz))]; omega) wl_175_7 ?_
          refine wa_iload_n (n := 1) rfl ?_
          refine wb_iald 183 rfl (wy_pr rfl) wt_183 (n := 60) ((cl_183 hCz)) (by omega) (by omega) (v := (f0 + cI (rs.take k))) (z3) (fun r7 => ?_)
          refine wb_iast 201 rfl (wy_pr rfl) wt_201 (n := 400) ((cl_201 hCz)) (by omega) (by omega) ⟨(by omega), (by omega)⟩ ?_
          refine wa_aload_n (n := 0) rfl ?_
          refine wb_gf4 162 rfl (wy_pr rfl) wt_162 wf_3_3 (v := 185) wl_162_3 ?_
          refine wa_bipush (w_rg2 (by omega) (by omega)) ?_
          refine wb_aald5 185 16 rfl rfl (wy_pr rfl) wt_185 (by rw [show _ = _ from ((w_up_slot (by decide)).trans ((cl_185 hCz)))]; omega) wl_185_16 ?_
          refine wa_iload_n (n := 2) rfl ?_
          refine wa_aload_n (n := 0) rfl ?_
          refine wb_gf4 162 rfl (wy_pr rfl) wt_162 wf_3_1 (v := 175) wl_162_1 ?_
          refine wa_bipush (w_rg2 (by omega) (by omega)) ?_
          refine wb_aald5 175 8 rfl rfl (wy_pr rfl) wt_175 (by rw [show _ = _ from ((w_up_slot (by decide)).trans ((cl_175 hCz)))]; omega) wl_175_8 ?_
          refine wa_iload_n (n := 1) rfl ?_
          refine wb_iald 184 rfl (wy_pr rfl) wt_184 (n := 60) ((w_up_slot (by decide)).trans ((cl_184 hCz))) (by omega) (by omega) (v := (cla x0 fi (rs.take k))) ((w_up_slot (by decide)).trans (z4)) (fun r8 => ?_)
          refine wb_iast 202 rfl (wy_pr rfl) wt_202 (n := 400) ((w_up_slot (by decide)).trans ((cl_202 hCz))) (by omega) (by omega) ⟨(by omega), (by omega)⟩ ?_
          refine wa_aload_n (n := 0) rfl ?_
          refine wb_gf4 162 rfl (wy_pr rfl) wt_162 wf_3_1 (v := 175) wl_162_1 ?_
          refine wa_bipush (w_rg2 (by omega) (by omega)) ?_
          refine wb_aald5 175 8 rfl rfl (wy_pr rfl) wt_175 (by rw [show _ = _ from ((w_up_slot (by decide)).trans ((w_up_slot (by decide)).trans ((cl_175 hCz))))]; omega) wl_175_8 ?_
          refine wa_iload_n (n := 1) rfl ?_
          refine wa_iload_n (n := 2) rfl ?_
          refine wb_iast 184 rfl (wy_pr rfl) wt_184 (n := 60) ((w_up_slot (by decide)).trans ((w_up_slot (by decide)).trans ((cl_184 hCz)))) (by omega) (by omega) ⟨(by omega), (by omega)⟩ ?_
          refine wa_aload_n (n := 0) rfl ?_
          refine wb_gf4 162 rfl (wy_pr rfl) wt_162 wf_3_1 (v := 175) wl_162_1 ?_
          refine wa_bipush (w_rg2 (by omega) (by omega)) ?_
          refine wb_aald5 175 7 rfl rfl (wy_pr rfl) wt_175 (by rw [show _ = _ from ((w_up_slot (by decide)).trans ((w_up_slot (by decide)).trans ((w_up_slot (by decide)).trans ((cl_175 hCz)))))]; omega) wl_175_7 ?_
          refine wa_iload_n (n := 1) rfl ?_
          refine wa_dup2 (by decide) (by decide) ?_
          refine wb_iald 183 rfl (wy_pr rfl) wt_183 (n := 60) ((w_up_slot (by decide)).trans ((w_up_slot (by decide)).trans ((w_up_slot (by decide)).trans ((cl_183 hCz))))) (by omega) (by omega) (v := (f0 + cI (rs.take k))) ((w_up_slot (by decide)).trans ((w_up_slot (by decide)).trans ((w_up_slot (by decide)).trans (z3)))) (fun r9 => ?_)
          refine wa_iconst ?_
          refine wa_iadd ?_
          refine wb_iast 183 rfl (wy_pr rfl) wt_183 (n := 60) ((w_up_slot (by decide)).trans ((w_up_slot (by decide)).trans ((w_up_slot (by decide)).trans ((cl_183 hCz))))) (by omega) (by omega) ⟨(by omega), (by omega)⟩ ?_
          refine wa_fall ⟨_, rfl⟩ ?_
          refine wa_return rfl ?_
          show wJ _ _ _ _ _ _ _ _ _ _
          refine wa_fall ⟨_, rfl⟩ ?_
          refine wa_iinc rfl rfl ?_
          refine wa_goto ⟨_, rfl⟩ ?_
          have hst : g.2.1 = 0 ∧ g.2.2.1 ≠ 1 := ⟨by omega, by omega⟩
          have zn : ∀ (j : Nat) (i : Int), ((j ≠ 201 ∧ j ≠ 202) ∨ i ≠ (fi + (k : Int))) → ((j ≠ 183 ∧ j ≠ 184) ∨ i ≠ kc) → (w_up (w_up (w_up (w_up Z 201 (fi + (k : Int)) (f0 + cI (rs.take k))) 202 (fi + (k : Int)) (cla x0 fi (rs.take k))) 184 kc (fi + (k : Int))) 183 kc ((f0 + cI (rs.take k)) + 1)) j i = Z j i := fun j i a1 a2 => (w_up_no (by omega)).trans ((w_up_no (by omega)).trans ((w_up_no (by omega)).trans ((w_up_no (by omega)).trans (rfl))))
          have n15 : (w_up (w_up (w_up (w_up Z 201 (fi + (k : Int)) (f0 + cI (rs.take k))) 202 (fi + (k : Int)) (cla x0 fi (rs.take k))) 184 kc (fi + (k : Int))) 183 kc ((f0 + cI (rs.take k)) + 1)) 201 (fi + (k : Int)) = f0 + cI (rs.take k) := ((w_up_slot (by decide)).trans ((w_up_slot (by decide)).trans ((w_up_slot (by decide)).trans (w_up_same _ _ _ _))))
          have n16 : (w_up (w_up (w_up (w_up Z 201 (fi + (k : Int)) (f0 + cI (rs.take k))) 202 (fi + (k : Int)) (cla x0 fi (rs.take k))) 184 kc (fi + (k : Int))) 183 kc ((f0 + cI (rs.take k)) + 1)) 202 (fi + (k : Int)) = cla x0 fi (rs.take k) := ((w_up_slot (by decide)).trans ((w_up_slot (by decide)).trans (w_up_same _ _ _ _)))
          refine wJ_S (ih (k + 1) (w_up (w_up (w_up (w_up Z 201 (fi + (k : Int)) (f0 + cI (rs.take k))) 202 (fi + (k : Int)) (cla x0 fi (rs.take k))) 184 kc (fi + (k : Int))) 183 kc ((f0 + cI (rs.take k)) + 1)) (by omega) (by omega) ⟨ea_tr z1 ⟨fun j i a1 a2 a3 a4 a5 a6 a7 a8 => zn j i (by omega) (by omega), fun i i0 i1 => ⟨zn _ _ (by omega) (by omega), zn _ _ (by omega) (by omega)⟩⟩, ⟨?_, ?_, ?_⟩, fun q r hq hr => ?_, (show rw_S 205 206 207 (w_up (w_up (w_up (w_up Z 201 (fi + (k : Int)) (f0 + cI (rs.take k))) 202 (fi + (k : Int)) (cla x0 fi (rs.take k))) 184 kc (fi + (k : Int))) 183 kc ((f0 + cI (rs.take k)) + 1)) from z6), (gI_up (gI_up (gI_up (gI_up z7 (by omega) (by omega) (by omega)) (by omega) (by omega) (by omega)) (by omega) (by omega) (by omega)) (by omega) (by omega) (by omega)), rmR_tr z8 (rmR_up (rmR_up (rmR_up (rmR_up (rmR_rfl Z) (by omega) (by decide)) (by omega) (by decide)) (by omega) (by decide)) (by omega) (by decide))⟩) ⟨rfl, rfl, by rw [show fi + ((k + 1 : Nat) : Int) = fi + (k : Int) + 1 by omega]; rfl, trivial⟩
          · rw [ecS, if_neg (by omega)]; exact (zn 205 2 (by omega) (by omega)).trans (z2.trans (by omega))
          · rw [ecI, if_pos hst]; exact ((w_up_same _ _ _ _)).trans (by omega)
          · rw [ecl, if_pos hst]; exact ((w_up_slot (by decide)).trans (w_up_same _ _ _ _))
          · by_cases hqk : q = k
            · subst hqk; rw [hgk] at hr; cases hr; exact ⟨fun _ e => absurd e hst.2, fun _ _ => ⟨n15, n16⟩⟩
            · have hzq := z5 q r (by omega) hr
              refine ⟨fun e1 e2 => ?_, fun e1 e2 => ?_⟩
              · obtain ⟨b1, b2, b3⟩ := hzq.1 e1 e2
                exact ⟨(zn _ _ (by omega) (by omega)).trans b1, (zn _ _ (by omega) (by omega)).trans b2, (zn _ _ (by omega) (by omega)).trans b3⟩
              · obtain ⟨b1, b2⟩ := hzq.2 e1 e2
                exact ⟨(zn _ _ (by omega) (by omega)).trans b1, (zn _ _ (by omega) (by omega)).trans b2⟩
        · skip
          refine wa_aload_n (n := 0) rfl ?_
          refine wb_gf4 162 rfl (wy_pr rfl) wt_162 wf_3_3 (v := 185) wl_162_3 ?_
          refine wa_bipush (w_rg2 (by omega) (by omega)) ?_
          refine wb_aald5 185 15 rfl rfl (wy_pr rfl) wt_185 (by rw [show _ = _ from ((cl_185 hCz))]; omega) wl_185_15 ?_
          refine wa_iload_n (n := 2) rfl ?_
          refine wa_aload_n (n := 0) rfl ?_
          refine wb_gf4 162 rfl (wy_pr rfl) wt_162 wf_3_7 (v := 205) wl_162_7 ?_
          refine wb_gfi 205 rfl (wy_pr rfl) wt_205 wf_7_2 (v := (n0 + cS (rs.take k))) (z2) (fun r10 => ?_)
          refine wb_iast 201 rfl (wy_pr rfl) wt_201 (n := 400) ((cl_201 hCz)) (by omega) (by omega) ⟨(by omega), (by omega)⟩ ?_
          refine wa_aload_n (n := 0) rfl ?_
          refine wb_gf4 162 rfl (wy_pr rfl) wt_162 wf_3_7 (v := 205) wl_162_7 ?_
          refine wa_aload_n (n := 0) rfl ?_
          refine wb_gf4 162 rfl (wy_pr rfl) wt_162 wf_3_3 (v := 185) wl_162_3 ?_
          refine wa_iconst ?_
          refine wb_aald5 185 3 rfl rfl (wy_pr rfl) wt_185 (by rw [show _ = _ from ((w_up_slot (by decide)).trans ((cl_185 hCz)))]; omega) wl_185_3 ?_
          refine wa_iload_n (n := 2) rfl ?_
          refine wb_iald 189 rfl (wy_pr rfl) wt_189 (n := 400) ((w_up_slot (by decide)).trans ((cl_189 hCz))) (by omega) (by omega) (v := (g.2.2.2.1)) ((w_up_slot (by decide)).trans (g3)) (fun r11 => ?_)
          refine wa_cs (M2 := fun _ => False) rfl at_XO_firstKind ⟨_, rfl⟩ rfl rfl ⟨(Or.inr ⟨wy_pr rfl, fun q => q⟩), trivial, trivial, trivial⟩ ⟨(Or.inr ⟨wy_pr rfl, fun q => q⟩), trivial⟩ (fun _ _ q => False.elim q) (fk_c (S := (w_up Z 201 (fi + (k : Int)) (n0 + cS (rs.take k)))) ⟨by omega, by omega⟩) (fun oq12 Sq12 hp13 q12 => ?_)
          rcases q12 with ⟨rfl, rfl⟩
          show wJ _ _ _ _ _ _ _ _ _ _
          have hft : 0 ≤ an_ft g.2.2.2.1 ∧ an_ft g.2.2.2.1 ≤ 2 := by unfold an_ft; repeat' split <;> omega
          have hft : 0 ≤ an_ft g.2.2.2.1 ∧ an_ft g.2.2.2.1 ≤ 2 := hft
          refine wb_lconst (m := 0) rfl ?_
          refine wa_cv 205 rfl (wy_pr rfl) wt_205 (M2 := mS [206, 207]) rfl at_XV_add ⟨_, rfl⟩ rfl rfl ⟨(Or.inr ⟨wy_pr rfl, mS_no rfl⟩), trivial, trivial, trivial⟩ trivial (fun _ _ q => q) (ra_205 (S := (w_up Z 201 (fi + (k : Int)) (n0 + cS (rs.take k)))) (gI_up z7 (by omega) (by omega) (by omega)) ⟨by omega, by omega⟩ ⟨by omega, by omega⟩ (show rw_S 205 206 207 (w_up Z 201 (fi + (k : Int)) (n0 + cS (rs.take k))) from z6)) (fun oq14 Sq14 hp15 q14 => ?_)
          rcases q14 with ⟨rfl, ra⟩
          show wJ _ _ _ _ _ _ _ _ _ _
          generalize Sq14 = Zn at ra ⊢
          refine wa_goto ⟨_, rfl⟩ ?_
          refine wa_return rfl ?_
          show wJ _ _ _ _ _ _ _ _ _ _
          refine wa_fall ⟨_, rfl⟩ ?_
          refine wa_iinc rfl rfl ?_
          refine wa_goto ⟨_, rfl⟩ ?_
          obtain ⟨r1, ⟨r2, r3⟩, r4, r5, ⟨r6, r7, r8⟩, r9, r10⟩ := ra
          have e2 : (w_up Z 201 (fi + (k : Int)) (n0 + cS (rs.take k))) 205 2 = n0 + cS (rs.take k) := ((w_up_slot (by decide)).trans (z2))
          rw [e2] at r1 r2 r3 r4 r7 r8
          have hst : g.2.1 = 0 ∧ g.2.2.1 = 1 := ⟨by omega, by omega⟩
          have zn : ∀ (j : Nat) (i : Int), j < 4000000 → j ≠ wG → j ≠ 206 → j ≠ 207 → (j ≠ 205 ∨ i ≠ 2) → (j ≠ 201 ∨ i ≠ (fi + (k : Int))) → Zn j i = Z j i := fun j i a1 a2 a3 a4 a5 a6 => (r5 j i a1 a2 a3 a4 a5).trans (w_up_no (by omega))
          have n15 : Zn 201 (fi + (k : Int)) = n0 + cS (rs.take k) := (r5 201 (fi + (k : Int)) (by decide) (by decide) (by decide) (by decide) (by omega)).trans ((w_up_same _ _ _ _))
          have la : (w_up Z 201 (fi + (k : Int)) (n0 + cS (rs.take k))) 206 (-1) = Z 206 (-1) := (w_up_slot (by decide))
          rw [la] at r8
          obtain ⟨v1, v2, v3, v4⟩ := z6
          refine wJ_S (ih (k + 1) Zn (by omega) (by omega) ⟨ea_tr z1 ⟨fun j i a1 a2 a3 a4 a5 a6 a7 a8 => zn j i a1 a2 a3 a4 a5 (by omega), fun i i0 i1 => ⟨(r4 i i0 (by omega)).1, (r4 i i0 (by omega)).2⟩⟩, ⟨?_, ?_, ?_⟩, fun q r hq hr => ?_, ⟨⟨by omega, by omega⟩, r6, by omega, by omega⟩, r9, rmR_tr z8 (rmR_tr (rmR_up (rmR_rfl Z) (by omega) (by decide)) r10)⟩) ⟨rfl, rfl, by rw [show fi + ((k + 1 : Nat) : Int) = fi + (k : Int) + 1 by omega]; rfl, trivial⟩
          · rw [ecS, if_pos hst]; exact r1.trans (by omega)
          · rw [ecI, if_neg (by omega)]; exact (zn 183 kc (by decide) (by decide) (by decide) (by decide) (by omega) (by omega)).trans (z3.trans (by omega))
          · rw [ecl, if_neg (by omega)]; exact (zn 184 kc (by decide) (by decide) (by decide) (by decide) (by omega) (by omega)).trans z4
          · by_cases hqk : q = k
            · subst hqk; rw [hgk] at hr; cases hr; exact ⟨fun _ _ => ⟨n15, r2, r3⟩, fun _ e => absurd hst.2 e⟩
            · have hzq := z5 q r (by omega) hr
              have hmono := cS_mono rs q k (by omega)
              refine ⟨fun e1 e2 => ?_, fun e1 e2 => ?_⟩
              · obtain ⟨b1, b2, b3⟩ := hzq.1 e1 e2
                have hlt := cS_lt rs q k r (by omega) hr e1 e2
                have hc0 := cS_rg (rs.take q)
                exact ⟨(zn _ _ (by decide) (by decide) (by decide) (by decide) (by omega) (by omega)).trans b1, (r4 _ (by omega) (by omega)).1.trans b2, (r4 _ (by omega) (by omega)).2.trans b3⟩
              · obtain ⟨b1, b2⟩ := hzq.2 e1 e2
                exact ⟨(zn _ _ (by decide) (by decide) (by decide) (by decide) (by omega) (by omega)).trans b1, (zn _ _ (by decide) (by decide) (by decide) (by decide) (by omega) (by omega)).trans b2⟩
end W9y
