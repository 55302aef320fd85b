/-! PART hq: the class: construct's loop over its arguments. -/
section Whq
variable {xs : List (Nat × List Int32)} {M : Nat → Prop} {d : Nat} {S Z A : wS} {T : Int → Int} {cs : List hCR} {ms : List hMR} {os : Int → List Int} {Q : wO → wS → Prop}
theorem find_cg {α : Type} {p q : α → Bool} : ∀ l : List α, (∀ x ∈ l, p x = q x) → l.find? p = l.find? q := by
  intro l
  induction l with
  | nil => intro _; rfl
  | cons a l ih =>
    intro h
    rw [List.find?_cons, List.find?_cons, h a List.mem_cons_self, ih (fun x hx => h x (List.mem_cons_of_mem _ hx))]
theorem fuD_e {st : Int} {pr : Nat → Bool} : ∀ (n : Nat) (a : Int), fuD st pr n a = match (List.range n).find? pr with | some i => st + (i : Int) | none => a := by
  intro n
  induction n with
  | zero => intro a; rfl
  | succ n ih =>
    intro a
    show fuD st pr n (if pr n = true then st + (n : Int) else a) = _
    rw [ih, List.range_succ, List.find?_append]
    cases h : (List.range n).find? pr with
    | some i => rfl
    | none =>
      by_cases c : pr n = true
      · rw [if_pos c, List.find?_cons_of_pos c]; rfl
      · rw [if_neg c, List.find?_cons_of_neg c]; rfl
/-- the first field of a type that no argument has set -/
def fuN (nf : Nat) (ty : Nat → Int) (c : Nat → Int × Int) (pt : Int) : Option Nat := (List.range nf).find? (fun i => decide ((c i).1 = -1 ∧ ty i = pt))
/-- an argument comes to its field -/
def csS (nf : Nat) (ty : Nat → Int) (c : Nat → Int × Int) (pt : Int) (e : Int × Int) : Nat → Int × Int := match fuN nf ty c pt with | none => c | some q => fun i => if i = q then e else c i
def csF (nf : Nat) (ty pt : Nat → Int) : Nat → List (Int × Int) → (Nat → Int × Int) → (Nat → Int × Int)
  | _, [], c => c
  | i, e :: l, c => csF nf ty pt (i + 1) l (csS nf ty c (pt i) e)
/-- the cells of an instance, all else as it was -/
def cuR (st : Int) (nf : Nat) (c : Nat → Int × Int) (S Z : wS) : Prop := (∀ i : Nat, i < nf → Z 141 (st + (i : Int)) = (c i).1 ∧ Z 142 (st + (i : Int)) = (c i).2) ∧ (∀ (j : Nat) (i : Int), ((j ≠ 141 ∧ j ≠ 142) ∨ i < st ∨ st + (nf : Int) ≤ i) → Z j i = S j i)
theorem cu_up {st : Int} {nf q : Nat} {c : Nat → Int × Int} {e : Int × Int} (h : cuR st nf c A S) (hq : q < nf) : cuR st nf (fun i => if i = q then e else c i) A (w_up (w_up S 141 (st + (q : Int)) e.1) 142 (st + (q : Int)) e.2) := by
  refine ⟨fun i hi => ?_, fun j i y => (w_up_no (by omega)).trans ((w_up_no (by omega)).trans (h.2 j i y))⟩
  by_cases y : i = q
  · subst y
    show _ = (if i = i then e else c i).1 ∧ _ = (if i = i then e else c i).2
    rw [if_pos rfl]
    exact ⟨(w_up_no (by omega)).trans (w_up_same _ _ _ _), w_up_same _ _ _ _⟩
  · show _ = (if i = q then e else c i).1 ∧ _ = (if i = q then e else c i).2
    rw [if_neg y]
    exact ⟨(w_up_no (by omega)).trans ((w_up_no (by omega)).trans (h.1 i hi).1), (w_up_no (by omega)).trans ((w_up_no (by omega)).trans (h.1 i hi).2)⟩
theorem CL_cu {st : Int} {nf : Nat} {c : Nat → Int × Int} (hC : w_CL A) (h0 : 0 ≤ st) (h : cuR st nf c A S) : w_CL S := fun q hq => (h.2 q.1 (-1) (Or.inr (Or.inl (by omega)))).trans (hC q hq)
theorem fuN_lt {nf q : Nat} {ty : Nat → Int} {c : Nat → Int × Int} {pt : Int} (h : fuN nf ty c pt = some q) : q < nf := List.mem_range.1 (List.mem_of_find?_eq_some h)
theorem fu_cs {st : Int} {nf : Nat} {ty : Nat → Int} {c : Nat → Int × Int} {pt : Int} (h : cuR st nf c A S) : (fuN nf ty c pt = none ∧ fuD st (fun i : Nat => decide (S 141 (st + (i : Int)) = -1 ∧ ty i = pt)) nf (-1) = -1) ∨ ∃ q : Nat, q < nf ∧ fuN nf ty c pt = some q ∧ fuD st (fun i : Nat => decide (S 141 (st + (i : Int)) = -1 ∧ ty i = pt)) nf (-1) = st + (q : Int) := by
  have e : (List.range nf).find? (fun i : Nat => decide (S 141 (st + (i : Int)) = -1 ∧ ty i = pt)) = fuN nf ty c pt := find_cg _ (fun x hx => by show decide (S 141 (st + (x : Int)) = -1 ∧ ty x = pt) = decide ((c x).1 = -1 ∧ ty x = pt); rw [(h.1 x (List.mem_range.1 hx)).1])
  rw [fuD_e, e]
  cases h2 : fuN nf ty c pt with
  | none => exact Or.inl ⟨rfl, rfl⟩
  | some q => exact Or.inr ⟨q, fuN_lt h2, rfl, rfl⟩
set_option maxHeartbeats 4000000 in
theorem cml_73_215 {m k g st ba : Int} {nf : Nat} {fd ty : Nat → Int} {es : List (Int × Int)} (hC : w_CL A) (hK : KC 87 97 93 114 115 74 73 T cs ms os A) (hw : wHo cs ms os) (h72 : A 72 1 = 73) (l5 : A 158 5 = 216) (l8 : A 158 8 = ba) (l12 : A 158 12 = (es.length : Int)) (hm : 0 ≤ m ∧ m < (ms.length : Int)) (hpn : 0 < es.length → 1 ≤ (hmR ms m).2.2.2.2.1.length) (he8 : es.length ≤ 1000) (hpl : A 218 (-1) = A 217 (-1)) (hpb : 0 ≤ ba ∧ ba + 1 + (es.length : Int) ≤ A 217 (-1) ∧ A 217 (-1) ≤ 4095) (hes : ∀ i : Nat, i < es.length → A 217 (ba + 1 + (i : Int)) = (es.getD i (0, 0)).1 ∧ A 218 (ba + 1 + (i : Int)) = (es.getD i (0, 0)).2) (hev : ∀ i : Nat, i < es.length → (-128 ≤ (es.getD i (0, 0)).1 ∧ (es.getD i (0, 0)).1 ≤ 127) ∧ (-9223372036854775808 ≤ (es.getD i (0, 0)).2 ∧ (es.getD i (0, 0)).2 ≤ 9223372036854775807)) (hl14 : A 142 (-1) = A 141 (-1)) (hz14 : 16 ≤ A 141 (-1) ∧ A 141 (-1) ≤ 480400) (hst : 0 ≤ st ∧ st + (nf : Int) ≤ A 141 (-1)) (hfd : ∀ i : Nat, i < nf → 0 ≤ fd i ∧ fd i < 400) (hft : ∀ i : Nat, i < nf → A 100 (fd i) = ty i) (hfb : ∀ i : Nat, i + 1 < nf → A 113 (fd (i + 1)) = fd i) (hnf : nf ≤ 1000) (hth : ∀ x : Nat, x < 10 → A (127 + x) (-1) = A 127 (-1)) (hn2 : A 127 (-1) ≤ 16383) (hg : 0 ≤ g ∧ g < A 127 (-1)) (hk : A 129 g = k) (hk1 : 0 ≤ k ∧ k < 60) (h133 : A 133 g = st) (h134 : A 134 g = (nf : Int)) (hla : 0 < nf → A 95 k = fd (nf - 1)) : ∀ (f i : Nat), i + f = es.length → ∀ (S : wS) (c : Nat → Int × Int), cuR st nf c A S → (∀ Z : wS, cuR st nf (csF nf ty (fun i => prT (hmR ms m) i) i (es.drop i) c) A Z → wJ (pe_GA xs) wY0 M (d + 3) t_XL_construct ((pe_at t_XL_construct.bl 5).getD (0, [])).2 [(0, (2, 158)), (1, (0, m)), (2, (2, 73)), (3, (0, k)), (4, (0, (nf : Int))), (5, (0, g))] [] Z Q) → wJ (pe_GA xs) wY0 M (d + 3) t_XL_construct ((pe_at t_XL_construct.bl 3).getD (0, [])).2 [(0, (2, 158)), (1, (0, m)), (2, (2, 73)), (3, (0, k)), (4, (0, (nf : Int))), (5, (0, g)), (6, (0, (i : Int)))] [] S Q := by
  have hn := KC_n hK
  have hn3 := hn.2.2
  intro f
  induction f with
  | zero =>
    intro i hi S c hcu K
    rw [List.drop_of_length_le (by omega)] at K
    have fr := hcu.2
    have h72 : S 72 1 = 73 := (fr 72 1 (by omega)).trans h72
    have l12 : S 158 12 = (es.length : Int) := (fr 158 12 (by omega)).trans l12
    have hC : w_CL S := CL_cu hC hst.1 hcu
    refine wa_iload (n := 6) rfl ?_
    refine wa_aload_n (n := 0) rfl ?_
    refine wb_gfi 158 rfl (wy_pr rfl) wt_158 wf_5_12 (v := (es.length : Int)) (l12) (fun r1 => ?_)
    refine wa_icmpge (w_rg0 (by omega) (by omega)) (w_rg0 (by omega) (by omega)) ⟨_, rfl⟩ (fun c2 => ?_) (fun c2 => ?_)
    · skip
      exact wJ_S (K S hcu) ⟨rfl, rfl, rfl, rfl, rfl, rfl, trivial⟩
    · skip
      exfalso; omega
  | succ f ih =>
    intro i hi S c hcu K
    have hil : i < es.length := by omega
    have fr := hcu.2
    have f0 : ∀ j : Nat, S j (-1) = A j (-1) := fun j => fr j (-1) (by omega)
    have fj : ∀ (j : Nat) (i : Int), j ≠ 141 → j ≠ 142 → S j i = A j i := fun j i a b => fr j i (Or.inl ⟨a, b⟩)
    have h72 : S 72 1 = 73 := (fr 72 1 (by omega)).trans h72
    have l5 : S 158 5 = 216 := (fr 158 5 (by omega)).trans l5
    have l8 : S 158 8 = ba := (fr 158 8 (by omega)).trans l8
    have l12 : S 158 12 = (es.length : Int) := (fr 158 12 (by omega)).trans l12
    have hC : w_CL S := CL_cu hC hst.1 hcu
    have hK2 : KC 87 97 93 114 115 74 73 T cs ms os S := KC_ag hK (fj _ _ (by first | decide | omega) (by first | decide | omega)) (fj _ _ (by first | decide | omega) (by first | decide | omega)) (fun j hj => funext fun i => fj j i (by omega) (by omega))
    have hpl : S 218 (-1) = S 217 (-1) := by rw [f0, f0]; exact hpl
    have hl14 : S 142 (-1) = S 141 (-1) := by rw [f0, f0]; exact hl14
    have hpb2 : 0 ≤ ba ∧ ba + 1 + (es.length : Int) ≤ S 217 (-1) ∧ S 217 (-1) ≤ 4095 := by rw [f0]; exact hpb
    have hz14 : 16 ≤ S 141 (-1) ∧ S 141 (-1) ≤ 480400 := by rw [f0]; exact hz14
    have hst2 : 0 ≤ st ∧ st + (nf : Int) ≤ S 141 (-1) := by rw [f0]; exact hst
    have hn2 : S 127 (-1) ≤ 16383 := by rw [f0]; exact hn2
    have hg2 : 0 ≤ g ∧ g < S 127 (-1) := by rw [f0]; exact hg
    have he := hes i hil
    have hv := hev i hil
    have hv1 := hv.1
    have hv2 := hv.2
    have he1 : S 217 (ba + 1 + (i : Int)) = (es.getD i (0, 0)).1 := (fj _ _ (by first | decide | omega) (by first | decide | omega)).trans he.1
    have he2 : S 218 (ba + 1 + (i : Int)) = (es.getD i (0, 0)).2 := (fj _ _ (by first | decide | omega) (by first | decide | omega)).trans he.2
    have hdr : es.drop i = es.getD i (0, 0) :: es.drop (i + 1) := by rw [List.drop_eq_getElem_cons hil, List.getD_eq_getElem?_getD, List.getElem?_eq_getElem hil]; rfl
    rw [hdr] at K
    replace K : ∀ Z : wS, cuR st nf (csF nf ty (fun i => prT (hmR ms m) i) (i + 1) (es.drop (i + 1)) (csS nf ty c (prT (hmR ms m) i) (es.getD i (0, 0)))) A Z → wJ (pe_GA xs) wY0 M (d + 3) t_XL_construct ((pe_at t_XL_construct.bl 5).getD (0, [])).2 [(0, (2, 158)), (1, (0, m)), (2, (2, 73)), (3, (0, k)), (4, (0, (nf : Int))), (5, (0, g))] [] Z Q := K
    have hpx := hpn (by omega)
    have hpr := prT_rg (i := i) hw (m := m) (by omega) (by omega) (by omega)
    refine wa_iload (n := 6) rfl ?_
    refine wa_aload_n (n := 0) rfl ?_
    refine wb_gfi 158 rfl (wy_pr rfl) wt_158 wf_5_12 (v := (es.length : Int)) (l12) (fun r51 => ?_)
    refine wa_icmpge (w_rg0 (by omega) (by omega)) (w_rg0 (by omega) (by omega)) ⟨_, rfl⟩ (fun c52 => ?_) (fun c52 => ?_)
    · skip
      exfalso; omega
    · skip
      refine wa_aload_n (n := 0) rfl ?_
      refine wa_iload (n := 5) rfl ?_
      refine wa_aload_n (n := 2) rfl ?_
      refine wa_iload_n (n := 1) rfl ?_
      refine wa_iload (n := 6) rfl ?_
      refine wa_cv 73 rfl (wy_pr rfl) wt_73 (M2 := fun _ => False) rfl at_XO_parameterType ⟨_, rfl⟩ rfl rfl ⟨(Or.inr ⟨wy_pr rfl, fun q => q⟩), trivial, (Or.inr ⟨wy_pr rfl, fun q => q⟩), trivial, trivial, trivial, trivial, trivial⟩ ⟨trivial, (Or.inr ⟨wy_pr rfl, fun q => q⟩), trivial⟩ (fun _ _ q => False.elim q) (par_73 (S := S) (m := m) (i := i) hC hK2 hw ⟨by omega, by omega⟩ hpx (by omega)) (fun oq53 Sq53 hp54 q53 => ?_)
      rcases q53 with ⟨rfl, rfl⟩
      show wJ _ _ _ _ _ _ _ _ _ _
      refine wa_cv 158 rfl (wy_pr rfl) wt_158 (M2 := fun _ => False) rfl at_XL_firstUnset ⟨_, rfl⟩ rfl rfl ⟨(Or.inr ⟨wy_pr rfl, fun q => q⟩), trivial, (Or.inr ⟨wy_pr rfl, fun q => q⟩), trivial, trivial, trivial, trivial, trivial⟩ trivial (fun _ _ q => False.elim q) (wJ_mono (fun_73 (S := S) (g := g) (wt := prT (hmR ms m) i) (st := st) (k := k) (nf := nf) (fd := fd) (ty := ty) hC h72 hl14 hz14 hst2 hfd (fun i hi => (fj _ _ (by decide) (by decide)).trans (hft i hi)) (fun i hi => (fj _ _ (by decide) (by decide)).trans (hfb i hi)) ⟨by omega, by omega⟩ hnf (fun x hx => by rw [f0, f0]; exact hth x hx) hn2 hg2 ((fj _ _ (by decide) (by decide)).trans hk) hk1 ((fj _ _ (by decide) (by decide)).trans h133) ((fj _ _ (by decide) (by decide)).trans h134) (fun z => (fj _ _ (by decide) (by decide)).trans (hla z))) (fun o Z hz => (⟨hz.1, by rcases fu_cs (ty := ty) (pt := prT (hmR ms m) i) hcu with y | ⟨q, y0, y1, y2⟩; exact Or.inl ⟨y.1, by rw [← y.2]; exact hz.2⟩; exact Or.inr ⟨q, y0, y1, by rw [← y2]; exact hz.2⟩⟩ : S = Z ∧ ((fuN nf ty c (prT (hmR ms m) i) = none ∧ o = .inl (some (0, -1))) ∨ ∃ q : Nat, q < nf ∧ fuN nf ty c (prT (hmR ms m) i) = some q ∧ o = .inl (some (0, st + (q : Int))))))) (fun oq55 Sq55 hp56 q55 => ?_)
      rcases q55 with ⟨rfl, ⟨hN, rfl⟩ | ⟨q, hq, hN, rfl⟩⟩
      · skip
        show wJ _ _ _ _ _ _ _ _ _ _
        refine wa_istore (n := 7) rfl ?_
        refine wa_iload (n := 7) rfl ?_
        refine wa_iconst ?_
        refine wa_icmpeq (w_rg0 (by omega) (by omega)) (w_rg0 (by omega) (by omega)) ⟨_, rfl⟩ (fun c57 => ?_) (fun c57 => ?_)
        · skip
          refine wa_iinc rfl rfl ?_
          refine wa_goto ⟨_, rfl⟩ ?_
          rw [show csS nf ty c (prT (hmR ms m) i) (es.getD i (0, 0)) = c by unfold csS; rw [hN]] at K
          exact wJ_S (ih (i + 1) (by omega) S c hcu K) ⟨rfl, rfl, rfl, rfl, rfl, rfl, rfl, trivial⟩
        · skip
          exact absurd c57 (by omega)
      · skip
        show wJ _ _ _ _ _ _ _ _ _ _
        refine wa_istore (n := 7) rfl ?_
        refine wa_iload (n := 7) rfl ?_
        refine wa_iconst ?_
        refine wa_icmpeq (w_rg0 (by omega) (by omega)) (w_rg0 (by omega) (by omega)) ⟨_, rfl⟩ (fun c58 => ?_) (fun c58 => ?_)
        · skip
          refine wa_iinc rfl rfl ?_
          refine wa_goto ⟨_, rfl⟩ ?_
          exfalso; omega
        · skip
          refine wa_aload_n (n := 0) rfl ?_
          refine wb_gf4 158 rfl (wy_pr rfl) wt_158 wf_5_0 (v := 72) wl_158_0 ?_
          refine wb_gf4 72 rfl (wy_pr rfl) wt_72 wf_2_6 (v := 140) wl_72_6 ?_
          refine wa_iload (n := 7) rfl ?_
          refine wa_aload_n (n := 0) rfl ?_
          refine wb_gf5 158 rfl (wy_pr rfl) wt_158 wf_5_5 (v := 216) (l5) (fun r59 => ?_)
          refine wb_gf4 216 rfl (wy_pr rfl) wt_216 wf_7_0 (v := 217) wl_216_0 ?_
          refine wa_aload_n (n := 0) rfl ?_
          refine wb_gfi 158 rfl (wy_pr rfl) wt_158 wf_5_8 (v := ba) (l8) (fun r60 => ?_)
          refine wa_iconst ?_
          refine wa_iadd ?_
          refine wa_iload (n := 6) rfl ?_
          refine wa_iadd ?_
          refine wb_bald 217 rfl (wy_pr rfl) wt_217 (n := (S 217 (-1))) (rfl) (by omega) (by omega) (v := (es.getD i (0, 0)).1) (he1) (fun r61 => ?_)
          refine wa_aload_n (n := 0) rfl ?_
          refine wb_gf5 158 rfl (wy_pr rfl) wt_158 wf_5_5 (v := 216) (l5) (fun r62 => ?_)
          refine wb_gf4 216 rfl (wy_pr rfl) wt_216 wf_7_1 (v := 218) wl_216_1 ?_
          refine wa_aload_n (n := 0) rfl ?_
          refine wb_gfi 158 rfl (wy_pr rfl) wt_158 wf_5_8 (v := ba) (l8) (fun r63 => ?_)
          refine wa_iconst ?_
          refine wa_iadd ?_
          refine wa_iload (n := 6) rfl ?_
          refine wa_iadd ?_
          refine wb_lald 218 rfl (wy_pr rfl) wt_218 (n := (S 217 (-1))) (hpl) (by omega) (by omega) (v := (es.getD i (0, 0)).2) (he2) (fun r64 => ?_)
          refine wa_cv 140 rfl (wy_pr rfl) wt_140 (M2 := fun _ => False) rfl at_XV_put ⟨_, rfl⟩ rfl rfl ⟨trivial, (Or.inr ⟨wy_pr rfl, fun q => q⟩), trivial, (Or.inr ⟨wy_pr rfl, fun q => q⟩), trivial, trivial, trivial, trivial, trivial⟩ trivial (fun _ _ q => False.elim q) ?_ (fun _ _ _ q => q)
          refine wa_aload_n (n := 0) rfl ?_
          refine wb_gf4 140 rfl (wy_pr rfl) wt_140 wf_7_0 (v := 141) wl_140_0 ?_
          refine wa_iload_n (n := 1) rfl ?_
          refine wa_iload_n (n := 2) rfl ?_
          refine wb_i2b_r (wb_i2b_id ⟨(by omega), (by omega)⟩) ?_
          refine wb_bast 141 rfl (wy_pr rfl) wt_141 (n := (S 141 (-1))) (rfl) (by omega) (by omega) ⟨(by omega), (by omega)⟩ ?_
          refine wa_aload_n (n := 0) rfl ?_
          refine wb_gf4 140 rfl (wy_pr rfl) wt_140 wf_7_1 (v := 142) wl_140_1 ?_
          refine wa_iload_n (n := 1) rfl ?_
          refine wa_lload_n (n := 3) rfl ?_
          refine wb_last 142 rfl (wy_pr rfl) wt_142 (n := (S 141 (-1))) ((w_up_slot (by decide)).trans (hl14)) (by omega) (by omega) ⟨(by omega), (by omega)⟩ ?_
          refine wa_return rfl ?_
          show wJ _ _ _ _ _ _ _ _ _ _
          refine wa_fall ⟨_, rfl⟩ ?_
          refine wa_iinc rfl rfl ?_
          refine wa_goto ⟨_, rfl⟩ ?_
          rw [show csS nf ty c (prT (hmR ms m) i) (es.getD i (0, 0)) = (fun i2 => if i2 = q then es.getD i (0, 0) else c i2) by unfold csS; rw [hN]] at K
          exact wJ_S (ih (i + 1) (by omega) (w_up (w_up S 141 (st + (q : Int)) (es.getD i (0, 0)).1) 142 (st + (q : Int)) (es.getD i (0, 0)).2) _ (cu_up (e := es.getD i (0, 0)) hcu hq) K) ⟨rfl, rfl, rfl, rfl, rfl, rfl, rfl, trivial⟩
set_option maxHeartbeats 4000000 in
theorem cml_73_226 {m k g st ba : Int} {nf : Nat} {fd ty : Nat → Int} {es : List (Int × Int)} (hC : w_CL A) (hK : KC 87 97 93 114 115 74 73 T cs ms os A) (hw : wHo cs ms os) (h72 : A 72 1 = 73) (l5 : A 158 5 = 227) (l8 : A 158 8 = ba) (l12 : A 158 12 = (es.length : Int)) (hm : 0 ≤ m ∧ m < (ms.length : Int)) (hpn : 0 < es.length → 1 ≤ (hmR ms m).2.2.2.2.1.length) (he8 : es.length ≤ 1000) (hpl : A 229 (-1) = A 228 (-1)) (hpb : 0 ≤ ba ∧ ba + 1 + (es.length : Int) ≤ A 228 (-1) ∧ A 228 (-1) ≤ 4095) (hes : ∀ i : Nat, i < es.length → A 228 (ba + 1 + (i : Int)) = (es.getD i (0, 0)).1 ∧ A 229 (ba + 1 + (i : Int)) = (es.getD i (0, 0)).2) (hev : ∀ i : Nat, i < es.length → (-128 ≤ (es.getD i (0, 0)).1 ∧ (es.getD i (0, 0)).1 ≤ 127) ∧ (-9223372036854775808 ≤ (es.getD i (0, 0)).2 ∧ (es.getD i (0, 0)).2 ≤ 9223372036854775807)) (hl14 : A 142 (-1) = A 141 (-1)) (hz14 : 16 ≤ A 141 (-1) ∧ A 141 (-1) ≤ 480400) (hst : 0 ≤ st ∧ st + (nf : Int) ≤ A 141 (-1)) (hfd : ∀ i : Nat, i < nf → 0 ≤ fd i ∧ fd i < 400) (hft : ∀ i : Nat, i < nf → A 100 (fd i) = ty i) (hfb : ∀ i : Nat, i + 1 < nf → A 113 (fd (i + 1)) = fd i) (hnf : nf ≤ 1000) (hth : ∀ x : Nat, x < 10 → A (127 + x) (-1) = A 127 (-1)) (hn2 : A 127 (-1) ≤ 16383) (hg : 0 ≤ g ∧ g < A 127 (-1)) (hk : A 129 g = k) (hk1 : 0 ≤ k ∧ k < 60) (h133 : A 133 g = st) (h134 : A 134 g = (nf : Int)) (hla : 0 < nf → A 95 k = fd (nf - 1)) : ∀ (f i : Nat), i + f = es.length → ∀ (S : wS) (c : Nat → Int × Int), cuR st nf c A S → (∀ Z : wS, cuR st nf (csF nf ty (fun i => prT (hmR ms m) i) i (es.drop i) c) A Z → wJ (pe_GA xs) wY0 M (d + 3) t_XL_construct ((pe_at t_XL_construct.bl 5).getD (0, [])).2 [(0, (2, 158)), (1, (0, m)), (2, (2, 73)), (3, (0, k)), (4, (0, (nf : Int))), (5, (0, g))] [] Z Q) → wJ (pe_GA xs) wY0 M (d + 3) t_XL_construct ((pe_at t_XL_construct.bl 3).getD (0, [])).2 [(0, (2, 158)), (1, (0, m)), (2, (2, 73)), (3, (0, k)), (4, (0, (nf : Int))), (5, (0, g)), (6, (0, (i : Int)))] [] S Q := by
  have hn := KC_n hK
  have hn3 := hn.2.2
  intro f
  induction f with
  | zero =>
    intro i hi S c hcu K
    rw [List.drop_of_length_le (by omega)] at K
    have fr := hcu.2
    have h72 : S 72 1 = 73 := (fr 72 1 (by omega)).trans h72
    have l12 : S 158 12 = (es.length : Int) := (fr 158 12 (by omega)).trans l12
    have hC : w_CL S := CL_cu hC hst.1 hcu
    refine wa_iload (n := 6) rfl ?_
    refine wa_aload_n (n := 0) rfl ?_
    refine wb_gfi 158 rfl (wy_pr rfl) wt_158 wf_5_12 (v := (es.length : Int)) (l12) (fun r1 => ?_)
    refine wa_icmpge (w_rg0 (by omega) (by omega)) (w_rg0 (by omega) (by omega)) ⟨_, rfl⟩ (fun c2 => ?_) (fun c2 => ?_)
    · skip
      exact wJ_S (K S hcu) ⟨rfl, rfl, rfl, rfl, rfl, rfl, trivial⟩
    · skip
      exfalso; omega
  | succ f ih =>
    intro i hi S c hcu K
    have hil : i < es.length := by omega
    have fr := hcu.2
    have f0 : ∀ j : Nat, S j (-1) = A j (-1) := fun j => fr j (-1) (by omega)
    have fj : ∀ (j : Nat) (i : Int), j ≠ 141 → j ≠ 142 → S j i = A j i := fun j i a b => fr j i (Or.inl ⟨a, b⟩)
    have h72 : S 72 1 = 73 := (fr 72 1 (by omega)).trans h72
    have l5 : S 158 5 = 227 := (fr 158 5 (by omega)).trans l5
    have l8 : S 158 8 = ba := (fr 158 8 (by omega)).trans l8
    have l12 : S 158 12 = (es.length : Int) := (fr 158 12 (by omega)).trans l12
    have hC : w_CL S := CL_cu hC hst.1 hcu
    have hK2 : KC 87 97 93 114 115 74 73 T cs ms os S := KC_ag hK (fj _ _ (by first | decide | omega) (by first | decide | omega)) (fj _ _ (by first | decide | omega) (by first | decide | omega)) (fun j hj => funext fun i => fj j i (by omega) (by omega))
    have hpl : S 229 (-1) = S 228 (-1) := by rw [f0, f0]; exact hpl
    have hl14 : S 142 (-1) = S 141 (-1) := by rw [f0, f0]; exact hl14
    have hpb2 : 0 ≤ ba ∧ ba + 1 + (es.length : Int) ≤ S 228 (-1) ∧ S 228 (-1) ≤ 4095 := by rw [f0]; exact hpb
    have hz14 : 16 ≤ S 141 (-1) ∧ S 141 (-1) ≤ 480400 := by rw [f0]; exact hz14
    have hst2 : 0 ≤ st ∧ st + (nf : Int) ≤ S 141 (-1) := by rw [f0]; exact hst
    have hn2 : S 127 (-1) ≤ 16383 := by rw [f0]; exact hn2
    have hg2 : 0 ≤ g ∧ g < S 127 (-1) := by rw [f0]; exact hg
    have he := hes i hil
    have hv := hev i hil
    have hv1 := hv.1
    have hv2 := hv.2
    have he1 : S 228 (ba + 1 + (i : Int)) = (es.getD i (0, 0)).1 := (fj _ _ (by first | decide | omega) (by first | decide | omega)).trans he.1
    have he2 : S 229 (ba + 1 + (i : Int)) = (es.getD i (0, 0)).2 := (fj _ _ (by first | decide | omega) (by first | decide | omega)).trans he.2
    have hdr : es.drop i = es.getD i (0, 0) :: es.drop (i + 1) := by rw [List.drop_eq_getElem_cons hil, List.getD_eq_getElem?_getD, List.getElem?_eq_getElem hil]; rfl
    rw [hdr] at K
    replace K : ∀ Z : wS, cuR st nf (csF nf ty (fun i => prT (hmR ms m) i) (i + 1) (es.drop (i + 1)) (csS nf ty c (prT (hmR ms m) i) (es.getD i (0, 0)))) A Z → wJ (pe_GA xs) wY0 M (d + 3) t_XL_construct ((pe_at t_XL_construct.bl 5).getD (0, [])).2 [(0, (2, 158)), (1, (0, m)), (2, (2, 73)), (3, (0, k)), (4, (0, (nf : Int))), (5, (0, g))] [] Z Q := K
    have hpx := hpn (by omega)
    have hpr := prT_rg (i := i) hw (m := m) (by omega) (by omega) (by omega)
    refine wa_iload (n := 6) rfl ?_
    refine wa_aload_n (n := 0) rfl ?_
    refine wb_gfi 158 rfl (wy_pr rfl) wt_158 wf_5_12 (v := (es.length : Int)) (l12) (fun r51 => ?_)
    refine wa_icmpge (w_rg0 (by omega) (by omega)) (w_rg0 (by omega) (by omega)) ⟨_, rfl⟩ (fun c52 => ?_) (fun c52 => ?_)
    · skip
      exfalso; omega
    · skip
      refine wa_aload_n (n := 0) rfl ?_
      refine wa_iload (n := 5) rfl ?_
      refine wa_aload_n (n := 2) rfl ?_
      refine wa_iload_n (n := 1) rfl ?_
      refine wa_iload (n := 6) rfl ?_
      refine wa_cv 73 rfl (wy_pr rfl) wt_73 (M2 := fun _ => False) rfl at_XO_parameterType ⟨_, rfl⟩ rfl rfl ⟨(Or.inr ⟨wy_pr rfl, fun q => q⟩), trivial, (Or.inr ⟨wy_pr rfl, fun q => q⟩), trivial, trivial, trivial, trivial, trivial⟩ ⟨trivial, (Or.inr ⟨wy_pr rfl, fun q => q⟩), trivial⟩ (fun _ _ q => False.elim q) (par_73 (S := S) (m := m) (i := i) hC hK2 hw ⟨by omega, by omega⟩ hpx (by omega)) (fun oq53 Sq53 hp54 q53 => ?_)
      rcases q53 with ⟨rfl, rfl⟩
      show wJ _ _ _ _ _ _ _ _ _ _
      refine wa_cv 158 rfl (wy_pr rfl) wt_158 (M2 := fun _ => False) rfl at_XL_firstUnset ⟨_, rfl⟩ rfl rfl ⟨(Or.inr ⟨wy_pr rfl, fun q => q⟩), trivial, (Or.inr ⟨wy_pr rfl, fun q => q⟩), trivial, trivial, trivial, trivial, trivial⟩ trivial (fun _ _ q => False.elim q) (wJ_mono (fun_73 (S := S) (g := g) (wt := prT (hmR ms m) i) (st := st) (k := k) (nf := nf) (fd := fd) (ty := ty) hC h72 hl14 hz14 hst2 hfd (fun i hi => (fj _ _ (by decide) (by decide)).trans (hft i hi)) (fun i hi => (fj _ _ (by decide) (by decide)).trans (hfb i hi)) ⟨by omega, by omega⟩ hnf (fun x hx => by rw [f0, f0]; exact hth x hx) hn2 hg2 ((fj _ _ (by decide) (by decide)).trans hk) hk1 ((fj _ _ (by decide) (by decide)).trans h133) ((fj _ _ (by decide) (by decide)).trans h134) (fun z => (fj _ _ (by decide) (by decide)).trans (hla z))) (fun o Z hz => (⟨hz.1, by rcases fu_cs (ty := ty) (pt := prT (hmR ms m) i) hcu with y | ⟨q, y0, y1, y2⟩; exact Or.inl ⟨y.1, by rw [← y.2]; exact hz.2⟩; exact Or.inr ⟨q, y0, y1, by rw [← y2]; exact hz.2⟩⟩ : S = Z ∧ ((fuN nf ty c (prT (hmR ms m) i) = none ∧ o = .inl (some (0, -1))) ∨ ∃ q : Nat, q < nf ∧ fuN nf ty c (prT (hmR ms m) i) = some q ∧ o = .inl (some (0, st + (q : Int))))))) (fun oq55 Sq55 hp56 q55 => ?_)
      rcases q55 with ⟨rfl, ⟨hN, rfl⟩ | ⟨q, hq, hN, rfl⟩⟩
      · skip
        show wJ _ _ _ _ _ _ _ _ _ _
        refine wa_istore (n := 7) rfl ?_
        refine wa_iload (n := 7) rfl ?_
        refine wa_iconst ?_
        refine wa_icmpeq (w_rg0 (by omega) (by omega)) (w_rg0 (by omega) (by omega)) ⟨_, rfl⟩ (fun c57 => ?_) (fun c57 => ?_)
        · skip
          refine wa_iinc rfl rfl ?_
          refine wa_goto ⟨_, rfl⟩ ?_
          rw [show csS nf ty c (prT (hmR ms m) i) (es.getD i (0, 0)) = c by unfold csS; rw [hN]] at K
          exact wJ_S (ih (i + 1) (by omega) S c hcu K) ⟨rfl, rfl, rfl, rfl, rfl, rfl, rfl, trivial⟩
        · skip
          exact absurd c57 (by omega)
      · skip
        show wJ _ _ _ _ _ _ _ _ _ _
        refine wa_istore (n := 7) rfl ?_
        refine wa_iload (n := 7) rfl ?_
        refine wa_iconst ?_
        refine wa_icmpeq (w_rg0 (by omega) (by omega)) (w_rg0 (by omega) (by omega)) ⟨_, rfl⟩ (fun c58 => ?_) (fun c58 => ?_)
        · skip
          refine wa_iinc rfl rfl ?_
          refine wa_goto ⟨_, rfl⟩ ?_
          exfalso; omega
        · skip
          refine wa_aload_n (n := 0) rfl ?_
          refine wb_gf4 158 rfl (wy_pr rfl) wt_158 wf_5_0 (v := 72) wl_158_0 ?_
          refine wb_gf4 72 rfl (wy_pr rfl) wt_72 wf_2_6 (v := 140) wl_72_6 ?_
          refine wa_iload (n := 7) rfl ?_
          refine wa_aload_n (n := 0) rfl ?_
          refine wb_gf5 158 rfl (wy_pr rfl) wt_158 wf_5_5 (v := 227) (l5) (fun r59 => ?_)
          refine wb_gf4 227 rfl (wy_pr rfl) wt_227 wf_7_0 (v := 228) wl_227_0 ?_
          refine wa_aload_n (n := 0) rfl ?_
          refine wb_gfi 158 rfl (wy_pr rfl) wt_158 wf_5_8 (v := ba) (l8) (fun r60 => ?_)
          refine wa_iconst ?_
          refine wa_iadd ?_
          refine wa_iload (n := 6) rfl ?_
          refine wa_iadd ?_
          refine wb_bald 228 rfl (wy_pr rfl) wt_228 (n := (S 228 (-1))) (rfl) (by omega) (by omega) (v := (es.getD i (0, 0)).1) (he1) (fun r61 => ?_)
          refine wa_aload_n (n := 0) rfl ?_
          refine wb_gf5 158 rfl (wy_pr rfl) wt_158 wf_5_5 (v := 227) (l5) (fun r62 => ?_)
          refine wb_gf4 227 rfl (wy_pr rfl) wt_227 wf_7_1 (v := 229) wl_227_1 ?_
          refine wa_aload_n (n := 0) rfl ?_
          refine wb_gfi 158 rfl (wy_pr rfl) wt_158 wf_5_8 (v := ba) (l8) (fun r63 => ?_)
          refine wa_iconst ?_
          refine wa_iadd ?_
          refine wa_iload (n := 6) rfl ?_
          refine wa_iadd ?_
          refine wb_lald 229 rfl (wy_pr rfl) wt_229 (n := (S 228 (-1))) (hpl) (by omega) (by omega) (v := (es.getD i (0, 0)).2) (he2) (fun r64 => ?_)
          refine wa_cv 140 rfl (wy_pr rfl) wt_140 (M2 := fun _ => False) rfl at_XV_put ⟨_, rfl⟩ rfl rfl ⟨trivial, (Or.inr ⟨wy_pr rfl, fun q => q⟩), trivial, (Or.inr ⟨wy_pr rfl, fun q => q⟩), trivial, trivial, trivial, trivial, trivial⟩ trivial (fun _ _ q => False.elim q) ?_ (fun _ _ _ q => q)
          refine wa_aload_n (n := 0) rfl ?_
          refine wb_gf4 140 rfl (wy_pr rfl) wt_140 wf_7_0 (v := 141) wl_140_0 ?_
          refine wa_iload_n (n := 1) rfl ?_
          refine wa_iload_n (n := 2) rfl ?_
          refine wb_i2b_r (wb_i2b_id ⟨(by omega), (by omega)⟩) ?_
          refine wb_bast 141 rfl (wy_pr rfl) wt_141 (n := (S 141 (-1))) (rfl) (by omega) (by omega) ⟨(by omega), (by omega)⟩ ?_
          refine wa_aload_n (n := 0) rfl ?_
          refine wb_gf4 140 rfl (wy_pr rfl) wt_140 wf_7_1 (v := 142) wl_140_1 ?_
          refine wa_iload_n (n := 1) rfl ?_
          refine wa_lload_n (n := 3) rfl ?_
          refine wb_last 142 rfl (wy_pr rfl) wt_142 (n := (S 141 (-1))) ((w_up_slot (by decide)).trans (hl14)) (by omega) (by omega) ⟨(by omega), (by omega)⟩ ?_
          refine wa_return rfl ?_
          show wJ _ _ _ _ _ _ _ _ _ _
          refine wa_fall ⟨_, rfl⟩ ?_
          refine wa_iinc rfl rfl ?_
          refine wa_goto ⟨_, rfl⟩ ?_
          rw [show csS nf ty c (prT (hmR ms m) i) (es.getD i (0, 0)) = (fun i2 => if i2 = q then es.getD i (0, 0) else c i2) by unfold csS; rw [hN]] at K
          exact wJ_S (ih (i + 1) (by omega) (w_up (w_up S 141 (st + (q : Int)) (es.getD i (0, 0)).1) 142 (st + (q : Int)) (es.getD i (0, 0)).2) _ (cu_up (e := es.getD i (0, 0)) hcu hq) K) ⟨rfl, rfl, rfl, rfl, rfl, rfl, rfl, trivial⟩
set_option maxHeartbeats 4000000 in
theorem cml_162_215 {m k g st ba : Int} {nf : Nat} {fd ty : Nat → Int} {es : List (Int × Int)} (hC : w_CL A) (hK : KC 176 186 182 203 204 163 162 T cs ms os A) (hw : wHo cs ms os) (h72 : A 72 1 = 162) (l5 : A 158 5 = 216) (l8 : A 158 8 = ba) (l12 : A 158 12 = (es.length : Int)) (hm : 0 ≤ m ∧ m < (ms.length : Int)) (hpn : 0 < es.length → 1 ≤ (hmR ms m).2.2.2.2.1.length) (he8 : es.length ≤ 1000) (hpl : A 218 (-1) = A 217 (-1)) (hpb : 0 ≤ ba ∧ ba + 1 + (es.length : Int) ≤ A 217 (-1) ∧ A 217 (-1) ≤ 4095) (hes : ∀ i : Nat, i < es.length → A 217 (ba + 1 + (i : Int)) = (es.getD i (0, 0)).1 ∧ A 218 (ba + 1 + (i : Int)) = (es.getD i (0, 0)).2) (hev : ∀ i : Nat, i < es.length → (-128 ≤ (es.getD i (0, 0)).1 ∧ (es.getD i (0, 0)).1 ≤ 127) ∧ (-9223372036854775808 ≤ (es.getD i (0, 0)).2 ∧ (es.getD i (0, 0)).2 ≤ 9223372036854775807)) (hl14 : A 142 (-1) = A 141 (-1)) (hz14 : 16 ≤ A 141 (-1) ∧ A 141 (-1) ≤ 480400) (hst : 0 ≤ st ∧ st + (nf : Int) ≤ A 141 (-1)) (hfd : ∀ i : Nat, i < nf → 0 ≤ fd i ∧ fd i < 400) (hft : ∀ i : Nat, i < nf → A 189 (fd i) = ty i) (hfb : ∀ i : Nat, i + 1 < nf → A 202 (fd (i + 1)) = fd i) (hnf : nf ≤ 1000) (hth : ∀ x : Nat, x < 10 → A (127 + x) (-1) = A 127 (-1)) (hn2 : A 127 (-1) ≤ 16383) (hg : 0 ≤ g ∧ g < A 127 (-1)) (hk : A 129 g = k) (hk1 : 0 ≤ k ∧ k < 60) (h133 : A 133 g = st) (h134 : A 134 g = (nf : Int)) (hla : 0 < nf → A 184 k = fd (nf - 1)) : ∀ (f i : Nat), i + f = es.length → ∀ (S : wS) (c : Nat → Int × Int), cuR st nf c A S → (∀ Z : wS, cuR st nf (csF nf ty (fun i => prT (hmR ms m) i) i (es.drop i) c) A Z → wJ (pe_GA xs) wY0 M (d + 3) t_XL_construct ((pe_at t_XL_construct.bl 5).getD (0, [])).2 [(0, (2, 158)), (1, (0, m)), (2, (2, 162)), (3, (0, k)), (4, (0, (nf : Int))), (5, (0, g))] [] Z Q) → wJ (pe_GA xs) wY0 M (d + 3) t_XL_construct ((pe_at t_XL_construct.bl 3).getD (0, [])).2 [(0, (2, 158)), (1, (0, m)), (2, (2, 162)), (3, (0, k)), (4, (0, (nf : Int))), (5, (0, g)), (6, (0, (i : Int)))] [] S Q := by
  have hn := KC_n hK
  have hn3 := hn.2.2
  intro f
  induction f with
  | zero =>
    intro i hi S c hcu K
    rw [List.drop_of_length_le (by omega)] at K
    have fr := hcu.2
    have h72 : S 72 1 = 162 := (fr 72 1 (by omega)).trans h72
    have l12 : S 158 12 = (es.length : Int) := (fr 158 12 (by omega)).trans l12
    have hC : w_CL S := CL_cu hC hst.1 hcu
    refine wa_iload (n := 6) rfl ?_
    refine wa_aload_n (n := 0) rfl ?_
    refine wb_gfi 158 rfl (wy_pr rfl) wt_158 wf_5_12 (v := (es.length : Int)) (l12) (fun r1 => ?_)
    refine wa_icmpge (w_rg0 (by omega) (by omega)) (w_rg0 (by omega) (by omega)) ⟨_, rfl⟩ (fun c2 => ?_) (fun c2 => ?_)
    · skip
      exact wJ_S (K S hcu) ⟨rfl, rfl, rfl, rfl, rfl, rfl, trivial⟩
    · skip
      exfalso; omega
  | succ f ih =>
    intro i hi S c hcu K
    have hil : i < es.length := by omega
    have fr := hcu.2
    have f0 : ∀ j : Nat, S j (-1) = A j (-1) := fun j => fr j (-1) (by omega)
    have fj : ∀ (j : Nat) (i : Int), j ≠ 141 → j ≠ 142 → S j i = A j i := fun j i a b => fr j i (Or.inl ⟨a, b⟩)
    have h72 : S 72 1 = 162 := (fr 72 1 (by omega)).trans h72
    have l5 : S 158 5 = 216 := (fr 158 5 (by omega)).trans l5
    have l8 : S 158 8 = ba := (fr 158 8 (by omega)).trans l8
    have l12 : S 158 12 = (es.length : Int) := (fr 158 12 (by omega)).trans l12
    have hC : w_CL S := CL_cu hC hst.1 hcu
    have hK2 : KC 176 186 182 203 204 163 162 T cs ms os S := KC_ag hK (fj _ _ (by first | decide | omega) (by first | decide | omega)) (fj _ _ (by first | decide | omega) (by first | decide | omega)) (fun j hj => funext fun i => fj j i (by omega) (by omega))
    have hpl : S 218 (-1) = S 217 (-1) := by rw [f0, f0]; exact hpl
    have hl14 : S 142 (-1) = S 141 (-1) := by rw [f0, f0]; exact hl14
    have hpb2 : 0 ≤ ba ∧ ba + 1 + (es.length : Int) ≤ S 217 (-1) ∧ S 217 (-1) ≤ 4095 := by rw [f0]; exact hpb
    have hz14 : 16 ≤ S 141 (-1) ∧ S 141 (-1) ≤ 480400 := by rw [f0]; exact hz14
    have hst2 : 0 ≤ st ∧ st + (nf : Int) ≤ S 141 (-1) := by rw [f0]; exact hst
    have hn2 : S 127 (-1) ≤ 16383 := by rw [f0]; exact hn2
    have hg2 : 0 ≤ g ∧ g < S 127 (-1) := by rw [f0]; exact hg
    have he := hes i hil
    have hv := hev i hil
    have hv1 := hv.1
    have hv2 := hv.2
    have he1 : S 217 (ba + 1 + (i : Int)) = (es.getD i (0, 0)).1 := (fj _ _ (by first | decide | omega) (by first | decide | omega)).trans he.1
    have he2 : S 218 (ba + 1 + (i : Int)) = (es.getD i (0, 0)).2 := (fj _ _ (by first | decide | omega) (by first | decide | omega)).trans he.2
    have hdr : es.drop i = es.getD i (0, 0) :: es.drop (i + 1) := by rw [List.drop_eq_getElem_cons hil, List.getD_eq_getElem?_getD, List.getElem?_eq_getElem hil]; rfl
    rw [hdr] at K
    replace K : ∀ Z : wS, cuR st nf (csF nf ty (fun i => prT (hmR ms m) i) (i + 1) (es.drop (i + 1)) (csS nf ty c (prT (hmR ms m) i) (es.getD i (0, 0)))) A Z → wJ (pe_GA xs) wY0 M (d + 3) t_XL_construct ((pe_at t_XL_construct.bl 5).getD (0, [])).2 [(0, (2, 158)), (1, (0, m)), (2, (2, 162)), (3, (0, k)), (4, (0, (nf : Int))), (5, (0, g))] [] Z Q := K
    have hpx := hpn (by omega)
    have hpr := prT_rg (i := i) hw (m := m) (by omega) (by omega) (by omega)
    refine wa_iload (n := 6) rfl ?_
    refine wa_aload_n (n := 0) rfl ?_
    refine wb_gfi 158 rfl (wy_pr rfl) wt_158 wf_5_12 (v := (es.length : Int)) (l12) (fun r51 => ?_)
    refine wa_icmpge (w_rg0 (by omega) (by omega)) (w_rg0 (by omega) (by omega)) ⟨_, rfl⟩ (fun c52 => ?_) (fun c52 => ?_)
    · skip
      exfalso; omega
    · skip
      refine wa_aload_n (n := 0) rfl ?_
      refine wa_iload (n := 5) rfl ?_
      refine wa_aload_n (n := 2) rfl ?_
      refine wa_iload_n (n := 1) rfl ?_
      refine wa_iload (n := 6) rfl ?_
      refine wa_cv 162 rfl (wy_pr rfl) wt_162 (M2 := fun _ => False) rfl at_XO_parameterType ⟨_, rfl⟩ rfl rfl ⟨(Or.inr ⟨wy_pr rfl, fun q => q⟩), trivial, (Or.inr ⟨wy_pr rfl, fun q => q⟩), trivial, trivial, trivial, trivial, trivial⟩ ⟨trivial, (Or.inr ⟨wy_pr rfl, fun q => q⟩), trivial⟩ (fun _ _ q => False.elim q) (par_162 (S := S) (m := m) (i := i) hC hK2 hw ⟨by omega, by omega⟩ hpx (by omega)) (fun oq53 Sq53 hp54 q53 => ?_)
      rcases q53 with ⟨rfl, rfl⟩
      show wJ _ _ _ _ _ _ _ _ _ _
      refine wa_cv 158 rfl (wy_pr rfl) wt_158 (M2 := fun _ => False) rfl at_XL_firstUnset ⟨_, rfl⟩ rfl rfl ⟨(Or.inr ⟨wy_pr rfl, fun q => q⟩), trivial, (Or.inr ⟨wy_pr rfl, fun q => q⟩), trivial, trivial, trivial, trivial, trivial⟩ trivial (fun _ _ q => False.elim q) (wJ_mono (fun_162 (S := S) (g := g) (wt := prT (hmR ms m) i) (st := st) (k := k) (nf := nf) (fd := fd) (ty := ty) hC h72 hl14 hz14 hst2 hfd (fun i hi => (fj _ _ (by decide) (by decide)).trans (hft i hi)) (fun i hi => (fj _ _ (by decide) (by decide)).trans (hfb i hi)) ⟨by omega, by omega⟩ hnf (fun x hx => by rw [f0, f0]; exact hth x hx) hn2 hg2 ((fj _ _ (by decide) (by decide)).trans hk) hk1 ((fj _ _ (by decide) (by decide)).trans h133) ((fj _ _ (by decide) (by decide)).trans h134) (fun z => (fj _ _ (by decide) (by decide)).trans (hla z))) (fun o Z hz => (⟨hz.1, by rcases fu_cs (ty := ty) (pt := prT (hmR ms m) i) hcu with y | ⟨q, y0, y1, y2⟩; exact Or.inl ⟨y.1, by rw [← y.2]; exact hz.2⟩; exact Or.inr ⟨q, y0, y1, by rw [← y2]; exact hz.2⟩⟩ : S = Z ∧ ((fuN nf ty c (prT (hmR ms m) i) = none ∧ o = .inl (some (0, -1))) ∨ ∃ q : Nat, q < nf ∧ fuN nf ty c (prT (hmR ms m) i) = some q ∧ o = .inl (some (0, st + (q : Int))))))) (fun oq55 Sq55 hp56 q55 => ?_)
      rcases q55 with ⟨rfl, ⟨hN, rfl⟩ | ⟨q, hq, hN, rfl⟩⟩
      · skip
        show wJ _ _ _ _ _ _ _ _ _ _
        refine wa_istore (n := 7) rfl ?_
        refine wa_iload (n := 7) rfl ?_
        refine wa_iconst ?_
        refine wa_icmpeq (w_rg0 (by omega) (by omega)) (w_rg0 (by omega) (by omega)) ⟨_, rfl⟩ (fun c57 => ?_) (fun c57 => ?_)
        · skip
          refine wa_iinc rfl rfl ?_
          refine wa_goto ⟨_, rfl⟩ ?_
          rw [show csS nf ty c (prT (hmR ms m) i) (es.getD i (0, 0)) = c by unfold csS; rw [hN]] at K
          exact wJ_S (ih (i + 1) (by omega) S c hcu K) ⟨rfl, rfl, rfl, rfl, rfl, rfl, rfl, trivial⟩
        · skip
          exact absurd c57 (by omega)
      · skip
        show wJ _ _ _ _ _ _ _ _ _ _
        refine wa_istore (n := 7) rfl ?_
        refine wa_iload (n := 7) rfl ?_
        refine wa_iconst ?_
        refine wa_icmpeq (w_rg0 (by omega) (by omega)) (w_rg0 (by omega) (by omega)) ⟨_, rfl⟩ (fun c58 => ?_) (fun c58 => ?_)
        · skip
          refine wa_iinc rfl rfl ?_
          refine wa_goto ⟨_, rfl⟩ ?_
          exfalso; omega
        · skip
          refine wa_aload_n (n := 0) rfl ?_
          refine wb_gf4 158 rfl (wy_pr rfl) wt_158 wf_5_0 (v := 72) wl_158_0 ?_
          refine wb_gf4 72 rfl (wy_pr rfl) wt_72 wf_2_6 (v := 140) wl_72_6 ?_
          refine wa_iload (n := 7) rfl ?_
          refine wa_aload_n (n := 0) rfl ?_
          refine wb_gf5 158 rfl (wy_pr rfl) wt_158 wf_5_5 (v := 216) (l5) (fun r59 => ?_)
          refine wb_gf4 216 rfl (wy_pr rfl) wt_216 wf_7_0 (v := 217) wl_216_0 ?_
          refine wa_aload_n (n := 0) rfl ?_
          refine wb_gfi 158 rfl (wy_pr rfl) wt_158 wf_5_8 (v := ba) (l8) (fun r60 => ?_)
          refine wa_iconst ?_
          refine wa_iadd ?_
          refine wa_iload (n := 6) rfl ?_
          refine wa_iadd ?_
          refine wb_bald 217 rfl (wy_pr rfl) wt_217 (n := (S 217 (-1))) (rfl) (by omega) (by omega) (v := (es.getD i (0, 0)).1) (he1) (fun r61 => ?_)
          refine wa_aload_n (n := 0) rfl ?_
          refine wb_gf5 158 rfl (wy_pr rfl) wt_158 wf_5_5 (v := 216) (l5) (fun r62 => ?_)
          refine wb_gf4 216 rfl (wy_pr rfl) wt_216 wf_7_1 (v := 218) wl_216_1 ?_
          refine wa_aload_n (n := 0) rfl ?_
          refine wb_gfi 158 rfl (wy_pr rfl) wt_158 wf_5_8 (v := ba) (l8) (fun r63 => ?_)
          refine wa_iconst ?_
          refine wa_iadd ?_
          refine wa_iload (n := 6) rfl ?_
          refine wa_iadd ?_
          refine wb_lald 218 rfl (wy_pr rfl) wt_218 (n := (S 217 (-1))) (hpl) (by omega) (by omega) (v := (es.getD i (0, 0)).2) (he2) (fun r64 => ?_)
          refine wa_cv 140 rfl (wy_pr rfl) wt_140 (M2 := fun _ => False) rfl at_XV_put ⟨_, rfl⟩ rfl rfl ⟨trivial, (Or.inr ⟨wy_pr rfl, fun q => q⟩), trivial, (Or.inr ⟨wy_pr rfl, fun q => q⟩), trivial, trivial, trivial, trivial, trivial⟩ trivial (fun _ _ q => False.elim q) ?_ (fun _ _ _ q => q)
          refine wa_aload_n (n := 0) rfl ?_
          refine wb_gf4 140 rfl (wy_pr rfl) wt_140 wf_7_0 (v := 141) wl_140_0 ?_
          refine wa_iload_n (n := 1) rfl ?_
          refine wa_iload_n (n := 2) rfl ?_
          refine wb_i2b_r (wb_i2b_id ⟨(by omega), (by omega)⟩) ?_
          refine wb_bast 141 rfl (wy_pr rfl) wt_141 (n := (S 141 (-1))) (rfl) (by omega) (by omega) ⟨(by omega), (by omega)⟩ ?_
          refine wa_aload_n (n := 0) rfl ?_
          refine wb_gf4 140 rfl (wy_pr rfl) wt_140 wf_7_1 (v := 142) wl_140_1 ?_
          refine wa_iload_n (n := 1) rfl ?_
          refine wa_lload_n (n := 3) rfl ?_
          refine wb_last 142 rfl (wy_pr rfl) wt_142 (n := (S 141 (-1))) ((w_up_slot (by decide)).trans (hl14)) (by omega) (by omega) ⟨(by omega), (by omega)⟩ ?_
          refine wa_return rfl ?_
          show wJ _ _ _ _ _ _ _ _ _ _
          refine wa_fall ⟨_, rfl⟩ ?_
          refine wa_iinc rfl rfl ?_
          refine wa_goto ⟨_, rfl⟩ ?_
          rw [show csS nf ty c (prT (hmR ms m) i) (es.getD i (0, 0)) = (fun i2 => if i2 = q then es.getD i (0, 0) else c i2) by unfold csS; rw [hN]] at K
          exact wJ_S (ih (i + 1) (by omega) (w_up (w_up S 141 (st + (q : Int)) (es.getD i (0, 0)).1) 142 (st + (q : Int)) (es.getD i (0, 0)).2) _ (cu_up (e := es.getD i (0, 0)) hcu hq) K) ⟨rfl, rfl, rfl, rfl, rfl, rfl, rfl, trivial⟩
set_option maxHeartbeats 4000000 in
theorem cml_162_226 {m k g st ba : Int} {nf : Nat} {fd ty : Nat → Int} {es : List (Int × Int)} (hC : w_CL A) (hK : KC 176 186 182 203 204 163 162 T cs ms os A) (hw : wHo cs ms os) (h72 : A 72 1 = 162) (l5 : A 158 5 = 227) (l8 : A 158 8 = ba) (l12 : A 158 12 = (es.length : Int)) (hm : 0 ≤ m ∧ m < (ms.length : Int)) (hpn : 0 < es.length → 1 ≤ (hmR ms m).2.2.2.2.1.length) (he8 : es.length ≤ 1000) (hpl : A 229 (-1) = A 228 (-1)) (hpb : 0 ≤ ba ∧ ba + 1 + (es.length : Int) ≤ A 228 (-1) ∧ A 228 (-1) ≤ 4095) (hes : ∀ i : Nat, i < es.length → A 228 (ba + 1 + (i : Int)) = (es.getD i (0, 0)).1 ∧ A 229 (ba + 1 + (i : Int)) = (es.getD i (0, 0)).2) (hev : ∀ i : Nat, i < es.length → (-128 ≤ (es.getD i (0, 0)).1 ∧ (es.getD i (0, 0)).1 ≤ 127) ∧ (-9223372036854775808 ≤ (es.getD i (0, 0)).2 ∧ (es.getD i (0, 0)).2 ≤ 9223372036854775807)) (hl14 : A 142 (-1) = A 141 (-1)) (hz14 : 16 ≤ A 141 (-1) ∧ A 141 (-1) ≤ 480400) (hst : 0 ≤ st ∧ st + (nf : Int) ≤ A 141 (-1)) (hfd : ∀ i : Nat, i < nf → 0 ≤ fd i ∧ fd i < 400) (hft : ∀ i : Nat, i < nf → A 189 (fd i) = ty i) (hfb : ∀ i : Nat, i + 1 < nf → A 202 (fd (i + 1)) = fd i) (hnf : nf ≤ 1000) (hth : ∀ x : Nat, x < 10 → A (127 + x) (-1) = A 127 (-1)) (hn2 : A 127 (-1) ≤ 16383) (hg : 0 ≤ g ∧ g < A 127 (-1)) (hk : A 129 g = k) (hk1 : 0 ≤ k ∧ k < 60) (h133 : A 133 g = st) (h134 : A 134 g = (nf : Int)) (hla : 0 < nf → A 184 k = fd (nf - 1)) : ∀ (f i : Nat), i + f = es.length → ∀ (S : wS) (c : Nat → Int × Int), cuR st nf c A S → (∀ Z : wS, cuR st nf (csF nf ty (fun i => prT (hmR ms m) i) i (es.drop i) c) A Z → wJ (pe_GA xs) wY0 M (d + 3) t_XL_construct ((pe_at t_XL_construct.bl 5).getD (0, [])).2 [(0, (2, 158)), (1, (0, m)), (2, (2, 162)), (3, (0, k)), (4, (0, (nf : Int))), (5, (0, g))] [] Z Q) → wJ (pe_GA xs) wY0 M (d + 3) t_XL_construct ((pe_at t_XL_construct.bl 3).getD (0, [])).2 [(0, (2, 158)), (1, (0, m)), (2, (2, 162)), (3, (0, k)), (4, (0, (nf : Int))), (5, (0, g)), (6, (0, (i : Int)))] [] S Q := by
  have hn := KC_n hK
  have hn3 := hn.2.2
  intro f
  induction f with
  | zero =>
    intro i hi S c hcu K
    rw [List.drop_of_length_le (by omega)] at K
    have fr := hcu.2
    have h72 : S 72 1 = 162 := (fr 72 1 (by omega)).trans h72
    have l12 : S 158 12 = (es.length : Int) := (fr 158 12 (by omega)).trans l12
    have hC : w_CL S := CL_cu hC hst.1 hcu
    refine wa_iload (n := 6) rfl ?_
    refine wa_aload_n (n := 0) rfl ?_
    refine wb_gfi 158 rfl (wy_pr rfl) wt_158 wf_5_12 (v := (es.length : Int)) (l12) (fun r1 => ?_)
    refine wa_icmpge (w_rg0 (by omega) (by omega)) (w_rg0 (by omega) (by omega)) ⟨_, rfl⟩ (fun c2 => ?_) (fun c2 => ?_)
    · skip
      exact wJ_S (K S hcu) ⟨rfl, rfl, rfl, rfl, rfl, rfl, trivial⟩
    · skip
      exfalso; omega
  | succ f ih =>
    intro i hi S c hcu K
    have hil : i < es.length := by omega
    have fr := hcu.2
    have f0 : ∀ j : Nat, S j (-1) = A j (-1) := fun j => fr j (-1) (by omega)
    have fj : ∀ (j : Nat) (i : Int), j ≠ 141 → j ≠ 142 → S j i = A j i := fun j i a b => fr j i (Or.inl ⟨a, b⟩)
    have h72 : S 72 1 = 162 := (fr 72 1 (by omega)).trans h72
    have l5 : S 158 5 = 227 := (fr 158 5 (by omega)).trans l5
    have l8 : S 158 8 = ba := (fr 158 8 (by omega)).trans l8
    have l12 : S 158 12 = (es.length : Int) := (fr 158 12 (by omega)).trans l12
    have hC : w_CL S := CL_cu hC hst.1 hcu
    have hK2 : KC 176 186 182 203 204 163 162 T cs ms os S := KC_ag hK (fj _ _ (by first | decide | omega) (by first | decide | omega)) (fj _ _ (by first | decide | omega) (by first | decide | omega)) (fun j hj => funext fun i => fj j i (by omega) (by omega))
    have hpl : S 229 (-1) = S 228 (-1) := by rw [f0, f0]; exact hpl
    have hl14 : S 142 (-1) = S 141 (-1) := by rw [f0, f0]; exact hl14
    have hpb2 : 0 ≤ ba ∧ ba + 1 + (es.length : Int) ≤ S 228 (-1) ∧ S 228 (-1) ≤ 4095 := by rw [f0]; exact hpb
    have hz14 : 16 ≤ S 141 (-1) ∧ S 141 (-1) ≤ 480400 := by rw [f0]; exact hz14
    have hst2 : 0 ≤ st ∧ st + (nf : Int) ≤ S 141 (-1) := by rw [f0]; exact hst
    have hn2 : S 127 (-1) ≤ 16383 := by rw [f0]; exact hn2
    have hg2 : 0 ≤ g ∧ g < S 127 (-1) := by rw [f0]; exact hg
    have he := hes i hil
    have hv := hev i hil
    have hv1 := hv.1
    have hv2 := hv.2
    have he1 : S 228 (ba + 1 + (i : Int)) = (es.getD i (0, 0)).1 := (fj _ _ (by first | decide | omega) (by first | decide | omega)).trans he.1
    have he2 : S 229 (ba + 1 + (i : Int)) = (es.getD i (0, 0)).2 := (fj _ _ (by first | decide | omega) (by first | decide | omega)).trans he.2
    have hdr : es.drop i = es.getD i (0, 0) :: es.drop (i + 1) := by rw [List.drop_eq_getElem_cons hil, List.getD_eq_getElem?_getD, List.getElem?_eq_getElem hil]; rfl
    rw [hdr] at K
    replace K : ∀ Z : wS, cuR st nf (csF nf ty (fun i => prT (hmR ms m) i) (i + 1) (es.drop (i + 1)) (csS nf ty c (prT (hmR ms m) i) (es.getD i (0, 0)))) A Z → wJ (pe_GA xs) wY0 M (d + 3) t_XL_construct ((pe_at t_XL_construct.bl 5).getD (0, [])).2 [(0, (2, 158)), (1, (0, m)), (2, (2, 162)), (3, (0, k)), (4, (0, (nf : Int))), (5, (0, g))] [] Z Q := K
    have hpx := hpn (by omega)
    have hpr := prT_rg (i := i) hw (m := m) (by omega) (by omega) (by omega)
    refine wa_iload (n := 6) rfl ?_
    refine wa_aload_n (n := 0) rfl ?_
    refine wb_gfi 158 rfl (wy_pr rfl) wt_158 wf_5_12 (v := (es.length : Int)) (l12) (fun r51 => ?_)
    refine wa_icmpge (w_rg0 (by omega) (by omega)) (w_rg0 (by omega) (by omega)) ⟨_, rfl⟩ (fun c52 => ?_) (fun c52 => ?_)
    · skip
      exfalso; omega
    · skip
      refine wa_aload_n (n := 0) rfl ?_
      refine wa_iload (n := 5) rfl ?_
      refine wa_aload_n (n := 2) rfl ?_
      refine wa_iload_n (n := 1) rfl ?_
      refine wa_iload (n := 6) rfl ?_
      refine wa_cv 162 rfl (wy_pr rfl) wt_162 (M2 := fun _ => False) rfl at_XO_parameterType ⟨_, rfl⟩ rfl rfl ⟨(Or.inr ⟨wy_pr rfl, fun q => q⟩), trivial, (Or.inr ⟨wy_pr rfl, fun q => q⟩), trivial, trivial, trivial, trivial, trivial⟩ ⟨trivial, (Or.inr ⟨wy_pr rfl, fun q => q⟩), trivial⟩ (fun _ _ q => False.elim q) (par_162 (S := S) (m := m) (i := i) hC hK2 hw ⟨by omega, by omega⟩ hpx (by omega)) (fun oq53 Sq53 hp54 q53 => ?_)
      rcases q53 with ⟨rfl, rfl⟩
      show wJ _ _ _ _ _ _ _ _ _ _
      refine wa_cv 158 rfl (wy_pr rfl) wt_158 (M2 := fun _ => False) rfl at_XL_firstUnset ⟨_, rfl⟩ rfl rfl ⟨(Or.inr ⟨wy_pr rfl, fun q => q⟩), trivial, (Or.inr ⟨wy_pr rfl, fun q => q⟩), trivial, trivial, trivial, trivial, trivial⟩ trivial (fun _ _ q => False.elim q) (wJ_mono (fun_162 (S := S) (g := g) (wt := prT (hmR ms m) i) (st := st) (k := k) (nf := nf) (fd := fd) (ty := ty) hC h72 hl14 hz14 hst2 hfd (fun i hi => (fj _ _ (by decide) (by decide)).trans (hft i hi)) (fun i hi => (fj _ _ (by decide) (by decide)).trans (hfb i hi)) ⟨by omega, by omega⟩ hnf (fun x hx => by rw [f0, f0]; exact hth x hx) hn2 hg2 ((fj _ _ (by decide) (by decide)).trans hk) hk1 ((fj _ _ (by decide) (by decide)).trans h133) ((fj _ _ (by decide) (by decide)).trans h134) (fun z => (fj _ _ (by decide) (by decide)).trans (hla z))) (fun o Z hz => (⟨hz.1, by rcases fu_cs (ty := ty) (pt := prT (hmR ms m) i) hcu with y | ⟨q, y0, y1, y2⟩; exact Or.inl ⟨y.1, by rw [← y.2]; exact hz.2⟩; exact Or.inr ⟨q, y0, y1, by rw [← y2]; exact hz.2⟩⟩ : S = Z ∧ ((fuN nf ty c (prT (hmR ms m) i) = none ∧ o = .inl (some (0, -1))) ∨ ∃ q : Nat, q < nf ∧ fuN nf ty c (prT (hmR ms m) i) = some q ∧ o = .inl (some (0, st + (q : Int))))))) (fun oq55 Sq55 hp56 q55 => ?_)
      rcases q55 with ⟨rfl, ⟨hN, rfl⟩ | ⟨q, hq, hN, rfl⟩⟩
      · skip
        show wJ _ _ _ _ _ _ _ _ _ _
        refine wa_istore (n := 7) rfl ?_
        refine wa_iload (n := 7) rfl ?_
        refine wa_iconst ?_
        refine wa_icmpeq (w_rg0 (by omega) (by omega)) (w_rg0 (by omega) (by omega)) ⟨_, rfl⟩ (fun c57 => ?_) (fun c57 => ?_)
        · skip
          refine wa_iinc rfl rfl ?_
          refine wa_goto ⟨_, rfl⟩ ?_
          rw [show csS nf ty c (prT (hmR ms m) i) (es.getD i (0, 0)) = c by unfold csS; rw [hN]] at K
          exact wJ_S (ih (i + 1) (by omega) S c hcu K) ⟨rfl, rfl, rfl, rfl, rfl, rfl, rfl, trivial⟩
        · skip
          exact absurd c57 (by omega)
      · skip
        show wJ _ _ _ _ _ _ _ _ _ _
        refine wa_istore (n := 7) rfl ?_
        refine wa_iload (n := 7) rfl ?_
        refine wa_iconst ?_
        refine wa_icmpeq (w_rg0 (by omega) (by omega)) (w_rg0 (by omega) (by omega)) ⟨_, rfl⟩ (fun c58 => ?_) (fun c58 => ?_)
        · skip
          refine wa_iinc rfl rfl ?_
          refine wa_goto ⟨_, rfl⟩ ?_
          exfalso; omega
        · skip
          refine wa_aload_n (n := 0) rfl ?_
          refine wb_gf4 158 rfl (wy_pr rfl) wt_158 wf_5_0 (v := 72) wl_158_0 ?_
          refine wb_gf4 72 rfl (wy_pr rfl) wt_72 wf_2_6 (v := 140) wl_72_6 ?_
          refine wa_iload (n := 7) rfl ?_
          refine wa_aload_n (n := 0) rfl ?_
          refine wb_gf5 158 rfl (wy_pr rfl) wt_158 wf_5_5 (v := 227) (l5) (fun r59 => ?_)
          refine wb_gf4 227 rfl (wy_pr rfl) wt_227 wf_7_0 (v := 228) wl_227_0 ?_
          refine wa_aload_n (n := 0) rfl ?_
          refine wb_gfi 158 rfl (wy_pr rfl) wt_158 wf_5_8 (v := ba) (l8) (fun r60 => ?_)
          refine wa_iconst ?_
          refine wa_iadd ?_
          refine wa_iload (n := 6) rfl ?_
          refine wa_iadd ?_
          refine wb_bald 228 rfl (wy_pr rfl) wt_228 (n := (S 228 (-1))) (rfl) (by omega) (by omega) (v := (es.getD i (0, 0)).1) (he1) (fun r61 => ?_)
          refine wa_aload_n (n := 0) rfl ?_
          refine wb_gf5 158 rfl (wy_pr rfl) wt_158 wf_5_5 (v := 227) (l5) (fun r62 => ?_)
          refine wb_gf4 227 rfl (wy_pr rfl) wt_227 wf_7_1 (v := 229) wl_227_1 ?_
          refine wa_aload_n (n := 0) rfl ?_
          refine wb_gfi 158 rfl (wy_pr rfl) wt_158 wf_5_8 (v := ba) (l8) (fun r63 => ?_)
          refine wa_iconst ?_
          refine wa_iadd ?_
          refine wa_iload (n := 6) rfl ?_
          refine wa_iadd ?_
          refine wb_lald 229 rfl (wy_pr rfl) wt_229 (n := (S 228 (-1))) (hpl) (by omega) (by omega) (v := (es.getD i (0, 0)).2) (he2) (fun r64 => ?_)
          refine wa_cv 140 rfl (wy_pr rfl) wt_140 (M2 := fun _ => False) rfl at_XV_put ⟨_, rfl⟩ rfl rfl ⟨trivial, (Or.inr ⟨wy_pr rfl, fun q => q⟩), trivial, (Or.inr ⟨wy_pr rfl, fun q => q⟩), trivial, trivial, trivial, trivial, trivial⟩ trivial (fun _ _ q => False.elim q) ?_ (fun _ _ _ q => q)
          refine wa_aload_n (n := 0) rfl ?_
          refine wb_gf4 140 rfl (wy_pr rfl) wt_140 wf_7_0 (v := 141) wl_140_0 ?_
          refine wa_iload_n (n := 1) rfl ?_
          refine wa_iload_n (n := 2) rfl ?_
          refine wb_i2b_r (wb_i2b_id ⟨(by omega), (by omega)⟩) ?_
          refine wb_bast 141 rfl (wy_pr rfl) wt_141 (n := (S 141 (-1))) (rfl) (by omega) (by omega) ⟨(by omega), (by omega)⟩ ?_
          refine wa_aload_n (n := 0) rfl ?_
          refine wb_gf4 140 rfl (wy_pr rfl) wt_140 wf_7_1 (v := 142) wl_140_1 ?_
          refine wa_iload_n (n := 1) rfl ?_
          refine wa_lload_n (n := 3) rfl ?_
          refine wb_last 142 rfl (wy_pr rfl) wt_142 (n := (S 141 (-1))) ((w_up_slot (by decide)).trans (hl14)) (by omega) (by omega) ⟨(by omega), (by omega)⟩ ?_
          refine wa_return rfl ?_
          show wJ _ _ _ _ _ _ _ _ _ _
          refine wa_fall ⟨_, rfl⟩ ?_
          refine wa_iinc rfl rfl ?_
          refine wa_goto ⟨_, rfl⟩ ?_
          rw [show csS nf ty c (prT (hmR ms m) i) (es.getD i (0, 0)) = (fun i2 => if i2 = q then es.getD i (0, 0) else c i2) by unfold csS; rw [hN]] at K
          exact wJ_S (ih (i + 1) (by omega) (w_up (w_up S 141 (st + (q : Int)) (es.getD i (0, 0)).1) 142 (st + (q : Int)) (es.getD i (0, 0)).2) _ (cu_up (e := es.getD i (0, 0)) hcu hq) K) ⟨rfl, rfl, rfl, rfl, rfl, rfl, rfl, trivial⟩
end Whq
