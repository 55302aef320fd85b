/-! PART i2: the reference: makes: its loops. -/
section Wi2
variable {xs : List (Nat × List Int32)} {M : Nat → Prop} {d : Nat} {S Z A : wS} {T : Int → Int} {n : Int} {cs : List hCR} {ms : List hMR} {os : Int → List Int} {Q : wO → wS → Prop} {F : List Int} {es : List (Int × Int)} {ty pt : Nat → Int} {cF FF : Nat → Int × Int} {nf : Nat} {g s0 v0 c m r : Int}
theorem ivl_get : ∀ (n : Nat) (a : Int) (i : Nat), i < n → (ivl a n).getD i 0 = a + (i : Int) := by
  intro n
  induction n with
  | zero => intro a i h; omega
  | succ n ih =>
    intro a i h
    rw [ivl_s]
    cases i with
    | zero => rw [List.getD_cons_zero]; omega
    | succ i => rw [List.getD_cons_succ, ih (a + 1) i (by omega)]; omega
theorem fuN_q {q : Nat} {p : Int} (hq : q < nf) (h : (cF q).1 = -1 ∧ ty q = p) (hn : ∀ i : Nat, i < q → ¬ ((cF i).1 = -1 ∧ ty i = p)) : fuN nf ty cF p = some q := by
  unfold fuN
  rw [List.find?_range_eq_some]
  exact ⟨decide_eq_true h, List.mem_range.mpr hq, fun j hj => by rw [decide_eq_false (hn j hj)]; rfl⟩
theorem fuN_0 {p : Int} (hn : ∀ i : Nat, i < nf → ¬ ((cF i).1 = -1 ∧ ty i = p)) : fuN nf ty cF p = none := by
  unfold fuN
  rw [List.find?_range_eq_none]
  exact fun j hj => by rw [decide_eq_false (hn j hj)]; rfl
def mvM (g s0 : Int) (n : Nat) (j : Nat) (x : Int) : Prop := (j = 237 ∧ (x = 82 ∨ x = 63)) ∨ ((j = 316 ∨ j = 317 ∨ j = 318) ∧ x = g) ∨ (325 ≤ j ∧ j ≤ 328 ∧ s0 ≤ x ∧ x < s0 + (n : Int))
/-- n fields have come to a new instance -/
def mvR (g s0 v0 : Int) (ty : Nat → Int) (n : Nat) (A Z : wS) : Prop := (Z 237 82 = s0 + (n : Int) ∧ Z 237 63 = v0 + (n : Int) ∧ Z 317 g = (n : Int) ∧ (0 < n → Z 316 g = s0 ∧ Z 318 g = s0 + (n : Int) - 1)) ∧ (∀ i : Nat, i < n → Z 325 (s0 + (i : Int)) = fkI (ty i) ∧ Z 326 (s0 + (i : Int)) = 0 ∧ (i + 1 < n → Z 328 (s0 + (i : Int)) = s0 + (i : Int) + 1)) ∧ ∀ (j : Nat) (x : Int), ¬ mvM g s0 n j x → Z j x = A j x
theorem mvR_n {n : Nat} {la : Int} (h : mvR g s0 v0 ty n A S) (hla : 0 < n → la = s0 + (n : Int) - 1) (r : as_f g (-1) (fkI (ty n)) 0 (s0 + (n : Int)) (n : Int) la S Z) (h0 : 0 ≤ s0) : mvR g s0 v0 ty (n + 1) A Z := by
  obtain ⟨⟨a1, a2, a3, a4⟩, b1, fr⟩ := h
  obtain ⟨⟨r1, r2⟩, ⟨r3, r4, r5⟩, ⟨r6, r7, r8, r9⟩, rf⟩ := r
  refine ⟨⟨by omega, by omega, by omega, fun _ => ⟨?_, by omega⟩⟩, fun i hi => ?_, fun j x hj => ?_⟩
  · by_cases c : n = 0
    · rw [r8 (by omega)]; omega
    · rw [(r9 (by omega)).1]; exact (a4 (by omega)).1
  · by_cases c : i = n
    · subst c
      exact ⟨r3, r4, fun z => absurd z (by omega)⟩
    · have b2 := b1 i (by omega)
      refine ⟨(rf 325 _ (Or.inl (by first | decide | omega)) (Or.inr (by omega)) (Or.inl (by first | decide | omega)) (Or.inl (by first | decide | omega))).trans b2.1, (rf 326 _ (Or.inl (by first | decide | omega)) (Or.inr (by omega)) (Or.inl (by first | decide | omega)) (Or.inl (by first | decide | omega))).trans b2.2.1, fun z => ?_⟩
      by_cases c2 : i + 1 = n
      · have la1 := hla (by omega)
        have r10 := (r9 (by omega)).2
        rw [show s0 + (i : Int) = la by omega, r10]; omega
      · have la1 := hla (by omega)
        exact (rf 328 _ (Or.inl (by first | decide | omega)) (Or.inr (by omega)) (Or.inr (Or.inr (by omega))) (Or.inl (by first | decide | omega))).trans (b2.2.2 (by omega))
  · refine (rf j x (by unfold mvM at hj; omega) (by unfold mvM at hj; omega) ?_ (by unfold mvM at hj; omega)).trans (fr j x (by unfold mvM at hj ⊢; omega))
    by_cases c : n = 0
    · exact Or.inr (Or.inl (by omega))
    · have la1 := hla (by omega)
      unfold mvM at hj; omega
/-- fields come one behind the other -/
def afL (g : Int) (ty : Nat → Int) : Nat → Nat → wS → wS → Prop
  | 0, _, S, Z => S = Z
  | r + 1, i, S, Z => ∃ A : wS, as_f g (-1) (fkI (ty i)) 0 (S 237 82) (S 317 g) (S 318 g) S A ∧ afL g ty r (i + 1) A Z
theorem afL_n : ∀ (k i : Nat) (S : wS), afL g ty k i S A → as_f g (-1) (fkI (ty (i + k))) 0 (A 237 82) (A 317 g) (A 318 g) A Z → afL g ty (k + 1) i S Z
  | 0, i, S, h, r => by
    have e : S = A := h
    subst e
    exact ⟨Z, r, rfl⟩
  | k + 1, i, S, h, r => by
    obtain ⟨B, h1, h2⟩ := h
    exact ⟨B, h1, afL_n k (i + 1) B h2 (by rw [show i + 1 + k = i + (k + 1) by omega]; exact r)⟩
theorem mvR_ML (hM : w_ML A) (h : mvR g s0 v0 ty nf A Z) (h0 : 0 ≤ g) (h1 : 0 ≤ s0) : w_ML Z := ML_w hM h.2.2 (fun j z => by unfold mvM at z; omega)
def muM (s0 : Int) (nf : Nat) (j : Nat) (x : Int) : Prop := (j = 386 ∧ 0 ≤ x) ∨ ((j = 325 ∨ j = 326) ∧ s0 ≤ x ∧ x < s0 + (nf : Int))
/-- arguments have come to fields -/
def muR (s0 : Int) (nf : Nat) (ty : Nat → Int) (cF : Nat → Int × Int) (A Z : wS) : Prop := (∀ i : Nat, i < nf → Z 386 (i : Int) = (if (cF i).1 = -1 then 0 else 1) ∧ Z 325 (s0 + (i : Int)) = (if (cF i).1 = -1 then fkI (ty i) else (cF i).1) ∧ Z 326 (s0 + (i : Int)) = (if (cF i).1 = -1 then 0 else (cF i).2)) ∧ ∀ (j : Nat) (x : Int), ¬ muM s0 nf j x → Z j x = A j x
theorem mu_up {q : Nat} {e : Int × Int} (h : muR s0 nf ty cF A S) (hq : q < nf) (he : e.1 ≠ -1) : muR s0 nf ty (fun i => if i = q then e else cF i) A (w_up (w_up (w_up S 386 (q : Int) 1) 325 (s0 + (q : Int)) e.1) 326 (s0 + (q : Int)) e.2) := by
  refine ⟨fun i hi => ?_, fun j x hj => (w_up_no (by unfold muM at hj; omega)).trans ((w_up_no (by unfold muM at hj; omega)).trans ((w_up_no (by unfold muM at hj; omega)).trans (h.2 j x hj)))⟩
  have hi3 := h.1 i hi
  by_cases y : i = q
  · subst y
    show _ = (if (if i = i then e else cF i).1 = -1 then 0 else 1) ∧ _ = (if (if i = i then e else cF i).1 = -1 then fkI (ty i) else (if i = i then e else cF i).1) ∧ _ = (if (if i = i then e else cF i).1 = -1 then 0 else (if i = i then e else cF i).2)
    rw [if_pos rfl, if_neg he, if_neg he, if_neg he]
    exact ⟨(w_up_slot (by first | decide | omega)).trans ((w_up_slot (by first | decide | omega)).trans (w_up_same _ _ _ _)), (w_up_slot (by first | decide | omega)).trans (w_up_same _ _ _ _), w_up_same _ _ _ _⟩
  · show _ = (if (if i = q then e else cF i).1 = -1 then 0 else 1) ∧ _ = (if (if i = q then e else cF i).1 = -1 then fkI (ty i) else (if i = q then e else cF i).1) ∧ _ = (if (if i = q then e else cF i).1 = -1 then 0 else (if i = q then e else cF i).2)
    rw [if_neg y]
    exact ⟨(w_up_slot (by first | decide | omega)).trans ((w_up_slot (by first | decide | omega)).trans ((w_up_at (by omega)).trans hi3.1)), (w_up_slot (by first | decide | omega)).trans ((w_up_at (by omega)).trans ((w_up_slot (by first | decide | omega)).trans hi3.2.1)), (w_up_at (by omega)).trans ((w_up_slot (by first | decide | omega)).trans ((w_up_slot (by first | decide | omega)).trans hi3.2.2))⟩
theorem csF_c {i : Nat} {e : Int × Int} {l : List (Int × Int)} : csF nf ty pt i (e :: l) cF = csF nf ty pt (i + 1) l (csS nf ty cF (pt i) e) := rfl
theorem csS_n {p : Int} {e : Int × Int} (h : fuN nf ty cF p = none) : csS nf ty cF p e = cF := by unfold csS; rw [h]
theorem csS_q {p : Int} {q : Nat} {e : Int × Int} (h : fuN nf ty cF p = some q) : csS nf ty cF p e = fun i => if i = q then e else cF i := by unfold csS; rw [h]
theorem fkI_rg (t : Int) : 0 ≤ fkI t ∧ fkI t ≤ 2 := by unfold fkI; split <;> first | omega | (split <;> omega)
theorem mft {t : Int} (ht : 0 ≤ t ∧ t ≤ 100) : wJ (pe_GA xs) wY0 M d t_M_firstType ((pe_at t_M_firstType.bl 0).getD (0, [])).2 [(0, (0, t))] [] S (fun o Z => S = Z ∧ o = .inl (some (0, fkI t))) := by
  refine wa_iload_n (n := 0) rfl ?_
  refine wa_iconst ?_
  refine wa_icmpeq (w_rg0 (by omega) (by omega)) (w_rg0 (by omega) (by omega)) ⟨_, rfl⟩ (fun c1 => ?_) (fun c1 => ?_)
  · skip
    refine wa_iconst ?_
    refine wa_goto ⟨_, rfl⟩ ?_
    refine wa_ireturn rfl ?_
    exact ⟨rfl, congrArg (fun z => Sum.inl (some (0, z))) (by unfold fkI; first | exact (if_pos (by omega)).symm | (rw [if_neg (by omega)]; first | exact (if_pos (by omega)).symm | exact (if_neg (by omega)).symm))⟩
  · skip
    refine wa_iload_n (n := 0) rfl ?_
    refine wa_iconst ?_
    refine wa_icmpne (w_rg0 (by omega) (by omega)) (w_rg0 (by omega) (by omega)) ⟨_, rfl⟩ (fun c2 => ?_) (fun c2 => ?_)
    · skip
      refine wa_iload_n (n := 0) rfl ?_
      refine wa_iconst ?_
      refine wa_icmpne (w_rg0 (by omega) (by omega)) (w_rg0 (by omega) (by omega)) ⟨_, rfl⟩ (fun c3 => ?_) (fun c3 => ?_)
      · skip
        refine wa_iconst ?_
        refine wa_fall ⟨_, rfl⟩ ?_
        refine wa_ireturn rfl ?_
        exact ⟨rfl, congrArg (fun z => Sum.inl (some (0, z))) (by unfold fkI; first | exact (if_pos (by omega)).symm | (rw [if_neg (by omega)]; first | exact (if_pos (by omega)).symm | exact (if_neg (by omega)).symm))⟩
      · skip
        refine wa_iconst ?_
        refine wa_goto ⟨_, rfl⟩ ?_
        refine wa_ireturn rfl ?_
        exact ⟨rfl, congrArg (fun z => Sum.inl (some (0, z))) (by unfold fkI; first | exact (if_pos (by omega)).symm | (rw [if_neg (by omega)]; first | exact (if_pos (by omega)).symm | exact (if_neg (by omega)).symm))⟩
    · skip
      refine wa_fall ⟨_, rfl⟩ ?_
      refine wa_iconst ?_
      refine wa_goto ⟨_, rfl⟩ ?_
      refine wa_ireturn rfl ?_
      exact ⟨rfl, congrArg (fun z => Sum.inl (some (0, z))) (by unfold fkI; first | exact (if_pos (by omega)).symm | (rw [if_neg (by omega)]; first | exact (if_pos (by omega)).symm | exact (if_neg (by omega)).symm))⟩
theorem rma_241 (hMA : w_ML A) (hKA : KR 241 T n cs ms A) (hw : wHo cs ms os) (hFI : flI F A) (hFn : F.length = nf) (hF4 : nf ≤ 400) (hFr : ∀ x ∈ F, 0 ≤ x ∧ x < (ms.length : Int)) (hty : ∀ i : Nat, i < nf → (hmR ms (F.getD i 0)).2.2.2.1 = ty i) (hg : 0 ≤ g ∧ g < 8000) (hs0 : 0 ≤ s0 ∧ s0 ≤ v0 ∧ v0 + (nf : Int) ≤ 60000) (hk : ∀ Z : wS, mvR g s0 v0 ty nf A Z → afL g ty nf 0 A Z → wJ (pe_GA xs) wY0 M (d + 6) t_M_makes ((pe_at t_M_makes.bl 4).getD (0, [])).2 [(0, (2, 237)), (1, (0, m)), (2, (0, c)), (3, (0, (nf : Int))), (4, (0, g))] [] Z Q) : ∀ (f i : Nat) (S : wS), i + f = nf → mvR g s0 v0 ty i A S → afL g ty i 0 A S → wJ (pe_GA xs) wY0 M (d + 6) t_M_makes ((pe_at t_M_makes.bl 3).getD (0, [])).2 [(0, (2, 237)), (1, (0, m)), (2, (0, c)), (3, (0, (nf : Int))), (4, (0, g)), (5, (0, (i : Int)))] [] S Q := by
  have h400 := hw.1
  intro f
  induction f with
  | zero =>
    intro i S hi hv ha
    have hin : i = nf := by omega
    rw [hin] at hv ha
    refine wa_iload (n := 5) rfl ?_
    refine wa_iload_n (n := 3) rfl ?_
    refine wa_icmpge (w_rg0 (by omega) (by omega)) (w_rg0 (by omega) (by omega)) ⟨_, rfl⟩ (fun c1 => ?_) (fun c1 => ?_)
    · skip
      exact wJ_S (hk S hv ha) ⟨rfl, rfl, rfl, rfl, rfl, trivial⟩
    · skip
      exfalso; omega
  | succ f ih =>
    intro i S hi hv ha
    have hM : w_ML S := mvR_ML hMA hv hg.1 hs0.1
    have hfr := hv.2.2
    have hK : KR 241 T n cs ms S := KR_ag hKA (fun j x hj => hfr j x (by unfold mvM; omega))
    have h13 : S 237 13 = 241 := hK.1
    have hx := hFr _ (getD_mem (l := F) (i := i) (by omega))
    have h56 : S 356 (i : Int) = F.getD i 0 := (hfr 356 _ (by unfold mvM; omega)).trans (hFI.2.1 i (by omega))
    have hTy := hty i (by omega)
    have h55 : S 255 (F.getD i 0) = ty i := ((KR_m hK hx.1 hx.2).1.2.2.2.1).trans hTy
    have hyr := (hw.2.2.2 _ hx.1 hx.2).1.2.2.2
    rw [hTy] at hyr
    have e82 := hv.1.1
    have e63 := hv.1.2.1
    have e317 := hv.1.2.2.1
    have e318 := hv.1.2.2.2
    refine wa_iload (n := 5) rfl ?_
    refine wa_iload_n (n := 3) rfl ?_
    refine wa_icmpge (w_rg0 (by omega) (by omega)) (w_rg0 (by omega) (by omega)) ⟨_, rfl⟩ (fun c51 => ?_) (fun c51 => ?_)
    · skip
      exfalso; omega
    · skip
      refine wa_aload_n (n := 0) rfl ?_
      refine wa_iload (n := 4) rfl ?_
      refine wa_iconst ?_
      refine wa_aload_n (n := 0) rfl ?_
      refine wb_gf5 237 rfl (wy_pr rfl) wt_237 wf_15_13 (v := 241) (h13) (fun r52 => ?_)
      refine wb_gf4 241 rfl (wy_pr rfl) wt_241 wf_12_15 (v := 255) wl_241_15 ?_
      refine wa_aload_n (n := 0) rfl ?_
      refine wb_gf4 237 rfl (wy_pr rfl) wt_237 wf_15_131 (v := 356) wl_237_131 ?_
      refine wa_iload (n := 5) rfl ?_
      refine wb_iald 356 rfl (wy_pr rfl) wt_356 (n := 400) ((ml_356 hM)) (by omega) (by omega) (v := (F.getD i 0)) (h56) (fun r53 => ?_)
      refine wb_iald 255 rfl (wy_pr rfl) wt_255 (n := 400) ((ml_255 hM)) (by omega) (by omega) (v := (ty i)) (h55) (fun r54 => ?_)
      refine wa_cs (M2 := fun _ => False) rfl at_M_firstType ⟨_, rfl⟩ rfl rfl ⟨(Or.inr ⟨wy_pr rfl, fun q => q⟩), trivial, trivial, trivial, trivial, trivial, trivial⟩ ⟨trivial, trivial, (Or.inr ⟨wy_pr rfl, fun q => q⟩), trivial⟩ (fun _ _ q => False.elim q) (mft (S := S) (t := ty i) ⟨by omega, by omega⟩) (fun oq55 Sq55 hp56 q55 => ?_)
      rcases q55 with ⟨rfl, rfl⟩
      show wJ _ _ _ _ _ _ _ _ _ _
      have hfk := fkI_rg (ty i)
      refine wb_lconst (m := 0) rfl ?_
      refine wa_cv 237 rfl (wy_pr rfl) wt_237 (M2 := fun _ => False) rfl at_M_addSlot ⟨_, rfl⟩ rfl rfl ⟨(Or.inr ⟨wy_pr rfl, fun q => q⟩), trivial, trivial, trivial, trivial, trivial, trivial⟩ trivial (fun _ _ q => False.elim q) (adM_ok (th := g) (nm := -1) (ty := fkI (ty i)) (va := 0) (s := s0 + (i : Int)) (v0 := v0 + (i : Int)) (n := (i : Int)) (la := S 318 g) hM hg e82 ⟨by omega, by omega⟩ e63 ⟨by omega, by omega⟩ e317 ⟨by omega, by omega⟩ rfl (fun z => by have := e318 (by omega); omega) ⟨by omega, by omega⟩ ⟨by omega, by omega⟩ ⟨by omega, by omega⟩) (fun oq57 Sq57 hp58 q57 => ?_)
      rcases q57 with ⟨rfl, rfl⟩
      show wJ _ _ _ _ _ _ _ _ _ _
      refine wa_iinc rfl rfl ?_
      refine wa_goto ⟨_, rfl⟩ ?_
      have haf := as_fz (th := g) (nm := -1) (ty := fkI (ty i)) (va := 0) (s := s0 + (i : Int)) (nn := (i : Int)) (la := S 318 g) e63
      exact wJ_S (ih (i + 1) _ (by omega) (mvR_n hv (fun z => (e318 z).2) haf hs0.1) (afL_n i 0 A ha (by rw [e82, e317, Nat.zero_add]; exact haf))) ⟨rfl, rfl, rfl, rfl, rfl, rfl, trivial⟩
theorem rmu (hMA : w_ML A) (hF4 : nf ≤ 400) (hk : ∀ Z : wS, (∀ q : Nat, q < nf → Z 386 (q : Int) = 0) → (∀ (j : Nat) (x : Int), ¬ (j = 386 ∧ 0 ≤ x) → Z j x = A j x) → wJ (pe_GA xs) wY0 M (d + 6) t_M_makes ((pe_at t_M_makes.bl 6).getD (0, [])).2 [(0, (2, 237)), (1, (0, m)), (2, (0, c)), (3, (0, (nf : Int))), (4, (0, g)), (5, (2, 386))] [] Z Q) : ∀ (f i : Nat) (S : wS), i + f = nf → (∀ q : Nat, q < i → S 386 (q : Int) = 0) → (∀ (j : Nat) (x : Int), ¬ (j = 386 ∧ 0 ≤ x) → S j x = A j x) → wJ (pe_GA xs) wY0 M (d + 6) t_M_makes ((pe_at t_M_makes.bl 5).getD (0, [])).2 [(0, (2, 237)), (1, (0, m)), (2, (0, c)), (3, (0, (nf : Int))), (4, (0, g)), (5, (2, 386)), (6, (0, (i : Int)))] [] S Q := by
  intro f
  induction f with
  | zero =>
    intro i S hi hq hfr
    have hin : i = nf := by omega
    rw [hin] at hq
    refine wa_iload (n := 6) rfl ?_
    refine wa_iload_n (n := 3) rfl ?_
    refine wa_icmpge (w_rg0 (by omega) (by omega)) (w_rg0 (by omega) (by omega)) ⟨_, rfl⟩ (fun c1 => ?_) (fun c1 => ?_)
    · skip
      exact wJ_S (hk S hq hfr) ⟨rfl, rfl, rfl, rfl, rfl, rfl, trivial⟩
    · skip
      exfalso; omega
  | succ f ih =>
    intro i S hi hq hfr
    have hM : w_ML S := ML_w (P := fun j x => j = 386 ∧ 0 ≤ x) hMA hfr (fun j z => by omega)
    refine wa_iload (n := 6) rfl ?_
    refine wa_iload_n (n := 3) rfl ?_
    refine wa_icmpge (w_rg0 (by omega) (by omega)) (w_rg0 (by omega) (by omega)) ⟨_, rfl⟩ (fun c51 => ?_) (fun c51 => ?_)
    · skip
      exfalso; omega
    · skip
      refine wa_aload (n := 5) rfl ?_
      refine wa_iload (n := 6) rfl ?_
      refine wa_iconst ?_
      refine wb_zast 386 rfl (wy_pr rfl) wt_386 (n := 400) ((ml_386 hM)) (by omega) (by omega) ⟨(by omega), (by omega)⟩ ?_
      refine wa_iinc rfl rfl ?_
      refine wa_goto ⟨_, rfl⟩ ?_
      refine wJ_S (ih (i + 1) _ (by omega) (fun q hq1 => ?_) (fun j x hj => (w_up_no (fun z => hj ⟨z.1, by omega⟩)).trans (hfr j x hj))) ⟨rfl, rfl, rfl, rfl, rfl, rfl, rfl, trivial⟩
      by_cases ce : q = i
      · rw [ce]; exact w_up_same _ _ _ _
      · exact (w_up_at (by omega)).trans (hq q (by omega))
theorem rms_241 {x6 p : Int} (hM : w_ML S) (hK : KR 241 T n cs ms S) (hw : wHo cs ms os) (hFI : flI F S) (hFn : F.length = nf) (hF4 : nf ≤ 400) (hFr : ∀ x ∈ F, 0 ≤ x ∧ x < (ms.length : Int)) (hty : ∀ i : Nat, i < nf → (hmR ms (F.getD i 0)).2.2.2.1 = ty i) (h86 : ∀ i : Nat, i < nf → S 386 (i : Int) = (if (cF i).1 = -1 then 0 else 1)) (hp : 0 ≤ p ∧ p ≤ 100) (hk : ∀ q : Nat, (q < nf ∧ fuN nf ty cF p = some q) ∨ (q = nf ∧ fuN nf ty cF p = none) → wJ (pe_GA xs) wY0 M (d + 6) t_M_makes ((pe_at t_M_makes.bl 10).getD (0, [])).2 [(0, (2, 237)), (1, (0, m)), (2, (0, c)), (3, (0, (nf : Int))), (4, (0, g)), (5, (2, 386)), (6, (0, x6)), (7, (0, p)), (8, (0, (q : Int)))] [] S Q) : ∀ (f q : Nat), q + f = nf → (∀ i : Nat, i < q → ¬ ((cF i).1 = -1 ∧ ty i = p)) → wJ (pe_GA xs) wY0 M (d + 6) t_M_makes ((pe_at t_M_makes.bl 8).getD (0, [])).2 [(0, (2, 237)), (1, (0, m)), (2, (0, c)), (3, (0, (nf : Int))), (4, (0, g)), (5, (2, 386)), (6, (0, x6)), (7, (0, p)), (8, (0, (q : Int)))] [] S Q := by
  have h400 := hw.1
  have h13 : S 237 13 = 241 := hK.1
  intro f
  induction f with
  | zero =>
    intro q hq hno
    have hqn : q = nf := by omega
    rw [hqn] at hno
    refine wa_iload (n := 8) rfl ?_
    refine wa_iload_n (n := 3) rfl ?_
    refine wa_icmpge (w_rg0 (by omega) (by omega)) (w_rg0 (by omega) (by omega)) ⟨_, rfl⟩ (fun c1 => ?_) (fun c1 => ?_)
    · skip
      exact wJ_S (hk q (Or.inr ⟨hqn, fuN_0 hno⟩)) ⟨rfl, rfl, rfl, rfl, rfl, rfl, rfl, rfl, rfl, trivial⟩
    · skip
      exfalso; omega
  | succ f ih =>
    intro q hq hno
    have hx := hFr _ (getD_mem (l := F) (i := q) (by omega))
    have h56 : S 356 (q : Int) = F.getD q 0 := hFI.2.1 q (by omega)
    have hTy := hty q (by omega)
    have h55 : S 255 (F.getD q 0) = ty q := ((KR_m hK hx.1 hx.2).1.2.2.2.1).trans hTy
    have hyr := (hw.2.2.2 _ hx.1 hx.2).1.2.2.2
    rw [hTy] at hyr
    obtain ⟨bq, hbq⟩ : ∃ z : Int, z = (if (cF q).1 = -1 then 0 else 1) := ⟨_, rfl⟩
    have h86q : S 386 (q : Int) = bq := (h86 q (by omega)).trans hbq.symm
    have hb1 : (cF q).1 = -1 → bq = 0 := fun z => by rw [hbq, if_pos z]
    have hb2 : (cF q).1 ≠ -1 → bq = 1 := fun z => by rw [hbq, if_neg z]
    refine wa_iload (n := 8) rfl ?_
    refine wa_iload_n (n := 3) rfl ?_
    refine wa_icmpge (w_rg0 (by omega) (by omega)) (w_rg0 (by omega) (by omega)) ⟨_, rfl⟩ (fun c51 => ?_) (fun c51 => ?_)
    · skip
      exfalso; omega
    · skip
      refine wa_aload (n := 5) rfl ?_
      refine wa_iload (n := 8) rfl ?_
      refine wb_zald 386 rfl (wy_pr rfl) wt_386 (n := 400) ((ml_386 hM)) (by omega) (by omega) (v := bq) (h86q) (fun r52 => ?_)
      refine wa_ifne (w_rg0 (by omega) (by omega)) ⟨_, rfl⟩ (fun c53 => ?_) (fun c53 => ?_)
      · skip
        refine wa_iinc rfl rfl ?_
        refine wa_goto ⟨_, rfl⟩ ?_
        refine wJ_S (ih (q + 1) (by omega) (fun i hi => ?_)) ⟨rfl, rfl, rfl, rfl, rfl, rfl, rfl, rfl, rfl, trivial⟩
        by_cases ce : i = q
        · rw [ce]; intro z; have z1 := hb1 z.1; have z2 := z.2; omega
        · exact hno i (by omega)
      · skip
        refine wa_aload_n (n := 0) rfl ?_
        refine wb_gf5 237 rfl (wy_pr rfl) wt_237 wf_15_13 (v := 241) (h13) (fun r54 => ?_)
        refine wb_gf4 241 rfl (wy_pr rfl) wt_241 wf_12_15 (v := 255) wl_241_15 ?_
        refine wa_aload_n (n := 0) rfl ?_
        refine wb_gf4 237 rfl (wy_pr rfl) wt_237 wf_15_131 (v := 356) wl_237_131 ?_
        refine wa_iload (n := 8) rfl ?_
        refine wb_iald 356 rfl (wy_pr rfl) wt_356 (n := 400) ((ml_356 hM)) (by omega) (by omega) (v := (F.getD q 0)) (h56) (fun r55 => ?_)
        refine wb_iald 255 rfl (wy_pr rfl) wt_255 (n := 400) ((ml_255 hM)) (by omega) (by omega) (v := (ty q)) (h55) (fun r56 => ?_)
        refine wa_iload (n := 7) rfl ?_
        refine wa_icmpeq (w_rg0 (by omega) (by omega)) (w_rg0 (by omega) (by omega)) ⟨_, rfl⟩ (fun c57 => ?_) (fun c57 => ?_)
        · skip
          have hc1 : (cF q).1 = -1 := by
            by_cases ce : (cF q).1 = -1
            · exact ce
            · have z := hb2 ce; omega
          exact wJ_S (hk q (Or.inl ⟨by omega, fuN_q (by omega) ⟨hc1, by omega⟩ hno⟩)) ⟨rfl, rfl, rfl, rfl, rfl, rfl, rfl, rfl, rfl, trivial⟩
        · skip
          refine wa_fall ⟨_, rfl⟩ ?_
          refine wa_iinc rfl rfl ?_
          refine wa_goto ⟨_, rfl⟩ ?_
          refine wJ_S (ih (q + 1) (by omega) (fun i hi => ?_)) ⟨rfl, rfl, rfl, rfl, rfl, rfl, rfl, rfl, rfl, trivial⟩
          by_cases ce : i = q
          · rw [ce]; intro z; have z1 := hb1 z.1; have z2 := z.2; omega
          · exact hno i (by omega)
theorem rmg_241 (hMA : w_ML A) (hKA : KR 241 T n cs ms A) (hw : wHo cs ms os) (hFI : flI F A) (hFn : F.length = nf) (hF4 : nf ≤ 400) (hFr : ∀ x ∈ F, 0 ≤ x ∧ x < (ms.length : Int)) (hty : ∀ i : Nat, i < nf → (hmR ms (F.getD i 0)).2.2.2.1 = ty i) (hm : 0 ≤ m ∧ m < (ms.length : Int)) (hpn : 0 < es.length → 1 ≤ (hmR ms m).2.2.2.2.1.length) (he8 : es.length ≤ 1000) (h73 : A 237 173 = r) (h76 : A 237 176 = (es.length : Int)) (hr : 0 ≤ r ∧ r + 1 + (es.length : Int) ≤ 4200) (hes : ∀ i : Nat, i < es.length → A 363 (r + 1 + (i : Int)) = (es.getD i (0, 0)).1 ∧ A 364 (r + 1 + (i : Int)) = (es.getD i (0, 0)).2) (hev : ∀ i : Nat, i < es.length → (0 ≤ (es.getD i (0, 0)).1 ∧ (es.getD i (0, 0)).1 ≤ 8) ∧ (-9223372036854775808 ≤ (es.getD i (0, 0)).2 ∧ (es.getD i (0, 0)).2 ≤ 9223372036854775807)) (hsl : slC A g (ivl s0 nf)) (hs0 : 0 ≤ s0 ∧ s0 + (nf : Int) ≤ 60000) (hg : 0 ≤ g ∧ g < 8000) (hk : ∀ Z : wS, muR s0 nf ty FF A Z → wJ (pe_GA xs) wY0 M (d + 6) t_M_makes ((pe_at t_M_makes.bl 12).getD (0, [])).2 [(0, (2, 237)), (1, (0, m)), (2, (0, c)), (3, (0, (nf : Int))), (4, (0, g)), (5, (2, 386))] [] Z Q) : ∀ (f i : Nat) (cF : Nat → Int × Int) (S : wS), i + f = es.length → muR s0 nf ty cF A S → csF nf ty (fun i => prT (hmR ms m) i) i (es.drop i) cF = FF → wJ (pe_GA xs) wY0 M (d + 6) t_M_makes ((pe_at t_M_makes.bl 7).getD (0, [])).2 [(0, (2, 237)), (1, (0, m)), (2, (0, c)), (3, (0, (nf : Int))), (4, (0, g)), (5, (2, 386)), (6, (0, (i : Int)))] [] S Q := by
  have h400 := hw.1
  intro f
  induction f with
  | zero =>
    intro i cF S hi hmu hcs
    rw [List.drop_of_length_le (by omega)] at hcs
    replace hcs : cF = FF := hcs
    rw [hcs] at hmu
    have g76 : S 237 176 = (es.length : Int) := (hmu.2 237 176 (by unfold muM; omega)).trans h76
    refine wa_iload (n := 6) rfl ?_
    refine wa_aload_n (n := 0) rfl ?_
    refine wb_gfi 237 rfl (wy_pr rfl) wt_237 wf_15_176 (v := (es.length : Int)) (g76) (fun r1 => ?_)
    refine wa_icmpge (w_rg0 (by omega) (by omega)) (w_rg0 (by omega) (by omega)) ⟨_, rfl⟩ (fun c2 => ?_) (fun c2 => ?_)
    · skip
      exact wJ_S (hk S hmu) ⟨rfl, rfl, rfl, rfl, rfl, rfl, trivial⟩
    · skip
      exfalso; omega
  | succ f ih =>
    intro i cF S hi hmu hcs
    have hil : i < es.length := by omega
    have hfr := hmu.2
    have hM : w_ML S := ML_w hMA hfr (fun j z => by unfold muM at z; omega)
    have hK : KR 241 T n cs ms S := KR_ag hKA (fun j x hj => hfr j x (by unfold muM; omega))
    have h13 : S 237 13 = 241 := hK.1
    have hFS : flI F S := ⟨(hfr 237 130 (by unfold muM; omega)).trans hFI.1, fun q hq => (hfr 356 _ (by unfold muM; omega)).trans (hFI.2.1 q hq), hFI.2.2⟩
    have g73 : S 237 173 = r := (hfr 237 173 (by unfold muM; omega)).trans h73
    have g76 : S 237 176 = (es.length : Int) := (hfr 237 176 (by unfold muM; omega)).trans h76
    have he1 : S 363 (r + 1 + (i : Int)) = (es.getD i (0, 0)).1 := (hfr 363 _ (by unfold muM; omega)).trans (hes i hil).1
    have he2 : S 364 (r + 1 + (i : Int)) = (es.getD i (0, 0)).2 := (hfr 364 _ (by unfold muM; omega)).trans (hes i hil).2
    have hevi := hev i hil
    have hslS : slC S g (ivl s0 nf) := ⟨(hfr 317 _ (by unfold muM; omega)).trans hsl.1, fun z => (hfr 316 _ (by unfold muM; omega)).trans (hsl.2.1 z), fun q hq => ⟨(hsl.2.2 q hq).1, fun z => (hfr 328 _ (by unfold muM; omega)).trans ((hsl.2.2 q hq).2 z)⟩⟩
    have hpr := prT_rg (i := i) hw hm.1 hm.2 (hpn (by omega))
    have hdr : es.drop i = es.getD i (0, 0) :: es.drop (i + 1) := by rw [List.drop_eq_getElem_cons hil, List.getD_eq_getElem?_getD, List.getElem?_eq_getElem hil]; rfl
    rw [hdr, csF_c] at hcs
    replace hcs : csF nf ty (fun i => prT (hmR ms m) i) (i + 1) (es.drop (i + 1)) (csS nf ty cF (prT (hmR ms m) i) (es.getD i (0, 0))) = FF := hcs
    refine wa_iload (n := 6) rfl ?_
    refine wa_aload_n (n := 0) rfl ?_
    refine wb_gfi 237 rfl (wy_pr rfl) wt_237 wf_15_176 (v := (es.length : Int)) (g76) (fun r51 => ?_)
    refine wa_icmpge (w_rg0 (by omega) (by omega)) (w_rg0 (by omega) (by omega)) ⟨_, rfl⟩ (fun c52 => ?_) (fun c52 => ?_)
    · skip
      exfalso; omega
    · skip
      refine wa_aload_n (n := 0) rfl ?_
      refine wa_iload_n (n := 1) rfl ?_
      refine wa_iload (n := 6) rfl ?_
      refine wa_cv 237 rfl (wy_pr rfl) wt_237 (M2 := fun _ => False) rfl at_M_parameterAt ⟨_, rfl⟩ rfl rfl ⟨(Or.inr ⟨wy_pr rfl, fun q => q⟩), trivial, trivial, trivial, trivial, (Or.inr ⟨wy_pr rfl, fun q => q⟩), trivial, trivial⟩ trivial (fun _ _ q => False.elim q) (rpa_241 (S := S) (m := m) (i := i) hM hK hw hm (hpn (by omega)) (by omega)) (fun oq53 Sq53 hp54 q53 => ?_)
      rcases q53 with ⟨rfl, rfl⟩
      show wJ _ _ _ _ _ _ _ _ _ _
      refine wa_istore (n := 7) rfl ?_
      refine wa_iconst ?_
      refine wa_istore (n := 8) rfl ?_
      refine wa_fall ⟨_, rfl⟩ ?_
      refine wJ_S (rms_241 (cF := cF) (x6 := (i : Int)) (p := prT (hmR ms m) i) hM hK hw hFS hFn hF4 hFr hty (fun q hq => (hmu.1 q hq).1) ⟨by omega, by omega⟩ (fun q hq => ?_) nf 0 (by omega) (fun q hq => absurd hq (Nat.not_lt_zero _))) ⟨rfl, rfl, rfl, rfl, rfl, rfl, rfl, rfl, rfl, trivial⟩
      refine wa_iload (n := 8) rfl ?_
      refine wa_iload_n (n := 3) rfl ?_
      refine wa_icmpge (w_rg0 (by omega) (by omega)) (w_rg0 (by omega) (by omega)) ⟨_, rfl⟩ (fun c201 => ?_) (fun c201 => ?_)
      · skip
        refine wa_iinc rfl rfl ?_
        refine wa_goto ⟨_, rfl⟩ ?_
        have hq2 : q = nf ∧ fuN nf ty cF (prT (hmR ms m) i) = none := hq.resolve_left (fun z => by omega)
        rw [csS_n hq2.2] at hcs
        exact wJ_S (ih (i + 1) _ _ (by omega) hmu hcs) ⟨rfl, rfl, rfl, rfl, rfl, rfl, rfl, trivial⟩
      · skip
        have hq1 : q < nf ∧ fuN nf ty cF (prT (hmR ms m) i) = some q := hq.resolve_right (fun z => by omega)
        refine wa_aload (n := 5) rfl ?_
        refine wa_iload (n := 8) rfl ?_
        refine wa_iconst ?_
        refine wb_zast 386 rfl (wy_pr rfl) wt_386 (n := 400) ((ml_386 hM)) (by omega) (by omega) ⟨(by omega), (by omega)⟩ ?_
        refine wa_aload_n (n := 0) rfl ?_
        refine wa_iload (n := 4) rfl ?_
        refine wa_iload (n := 8) rfl ?_
        refine wa_cv 237 rfl (wy_pr rfl) wt_237 (M2 := fun _ => False) rfl at_M_slotAt ⟨_, rfl⟩ rfl rfl ⟨(Or.inr ⟨wy_pr rfl, fun q => q⟩), trivial, trivial, trivial, trivial, (Or.inr ⟨wy_pr rfl, fun q => q⟩), trivial, trivial, trivial, trivial⟩ trivial (fun _ _ q => False.elim q) (wJ_mono (saM_ok (S := (w_up S 386 (q : Int) 1)) (l := ivl s0 nf) (ML_w (P := fun j x => j = 386 ∧ 0 ≤ x) hM (fun j x hj => w_up_no (fun z => hj ⟨z.1, by omega⟩)) (fun j z => by omega)) hg ⟨(w_up_slot (by decide)).trans hslS.1, fun z => (w_up_slot (by decide)).trans (hslS.2.1 z), fun q hq => ⟨(hslS.2.2 q hq).1, fun z => (w_up_slot (by decide)).trans ((hslS.2.2 q hq).2 z)⟩⟩ (i := (q : Int)) ⟨by omega, by rw [ivl_len]; omega⟩ (by rw [ivl_len]; omega)) (fun o Z hz => (⟨hz.1, by rw [← ivl_get nf s0 q hq1.1]; exact hz.2⟩ : (w_up S 386 (q : Int) 1) = Z ∧ o = .inl (some (0, s0 + (q : Int)))))) (fun oq202 Sq202 hp203 q202 => ?_)
        rcases q202 with ⟨rfl, rfl⟩
        show wJ _ _ _ _ _ _ _ _ _ _
        refine wa_istore (n := 9) rfl ?_
        refine wa_aload_n (n := 0) rfl ?_
        refine wb_gf4 237 rfl (wy_pr rfl) wt_237 wf_15_83 (v := 325) wl_237_83 ?_
        refine wa_iload (n := 9) rfl ?_
        refine wa_aload_n (n := 0) rfl ?_
        refine wb_gf4 237 rfl (wy_pr rfl) wt_237 wf_15_138 (v := 363) wl_237_138 ?_
        refine wa_aload_n (n := 0) rfl ?_
        refine wb_gfi 237 rfl (wy_pr rfl) wt_237 wf_15_173 (v := r) ((w_up_slot (by decide)).trans (g73)) (fun r204 => ?_)
        refine wa_iconst ?_
        refine wa_iadd ?_
        refine wa_iload (n := 6) rfl ?_
        refine wa_iadd ?_
        refine wb_iald 363 rfl (wy_pr rfl) wt_363 (n := 4200) ((w_up_slot (by decide)).trans ((ml_363 hM))) (by omega) (by omega) (v := (es.getD i (0, 0)).1) ((w_up_slot (by decide)).trans (he1)) (fun r205 => ?_)
        refine wb_iast 325 rfl (wy_pr rfl) wt_325 (n := 60000) ((w_up_slot (by decide)).trans ((ml_325 hM))) (by omega) (by omega) ⟨(by omega), (by omega)⟩ ?_
        refine wa_aload_n (n := 0) rfl ?_
        refine wb_gf4 237 rfl (wy_pr rfl) wt_237 wf_15_84 (v := 326) wl_237_84 ?_
        refine wa_iload (n := 9) rfl ?_
        refine wa_aload_n (n := 0) rfl ?_
        refine wb_gf4 237 rfl (wy_pr rfl) wt_237 wf_15_139 (v := 364) wl_237_139 ?_
        refine wa_aload_n (n := 0) rfl ?_
        refine wb_gfi 237 rfl (wy_pr rfl) wt_237 wf_15_173 (v := r) ((w_up_slot (by decide)).trans ((w_up_slot (by decide)).trans (g73))) (fun r206 => ?_)
        refine wa_iconst ?_
        refine wa_iadd ?_
        refine wa_iload (n := 6) rfl ?_
        refine wa_iadd ?_
        refine wb_lald 364 rfl (wy_pr rfl) wt_364 (n := 4200) ((w_up_slot (by decide)).trans ((w_up_slot (by decide)).trans ((ml_364 hM)))) (by omega) (by omega) (v := (es.getD i (0, 0)).2) ((w_up_slot (by decide)).trans ((w_up_slot (by decide)).trans (he2))) (fun r207 => ?_)
        refine wb_last 326 rfl (wy_pr rfl) wt_326 (n := 60000) ((w_up_slot (by decide)).trans ((w_up_slot (by decide)).trans ((ml_326 hM)))) (by omega) (by omega) ⟨(by omega), (by omega)⟩ ?_
        refine wa_fall ⟨_, rfl⟩ ?_
        refine wa_iinc rfl rfl ?_
        refine wa_goto ⟨_, rfl⟩ ?_
        rw [csS_q hq1.2] at hcs
        exact wJ_S (ih (i + 1) _ _ (by omega) (mu_up hmu hq1.1 (by omega)) hcs) ⟨rfl, rfl, rfl, rfl, rfl, rfl, rfl, trivial⟩
theorem rma_261 (hMA : w_ML A) (hKA : KR 261 T n cs ms A) (hw : wHo cs ms os) (hFI : flI F A) (hFn : F.length = nf) (hF4 : nf ≤ 400) (hFr : ∀ x ∈ F, 0 ≤ x ∧ x < (ms.length : Int)) (hty : ∀ i : Nat, i < nf → (hmR ms (F.getD i 0)).2.2.2.1 = ty i) (hg : 0 ≤ g ∧ g < 8000) (hs0 : 0 ≤ s0 ∧ s0 ≤ v0 ∧ v0 + (nf : Int) ≤ 60000) (hk : ∀ Z : wS, mvR g s0 v0 ty nf A Z → afL g ty nf 0 A Z → wJ (pe_GA xs) wY0 M (d + 6) t_M_makes ((pe_at t_M_makes.bl 4).getD (0, [])).2 [(0, (2, 237)), (1, (0, m)), (2, (0, c)), (3, (0, (nf : Int))), (4, (0, g))] [] Z Q) : ∀ (f i : Nat) (S : wS), i + f = nf → mvR g s0 v0 ty i A S → afL g ty i 0 A S → wJ (pe_GA xs) wY0 M (d + 6) t_M_makes ((pe_at t_M_makes.bl 3).getD (0, [])).2 [(0, (2, 237)), (1, (0, m)), (2, (0, c)), (3, (0, (nf : Int))), (4, (0, g)), (5, (0, (i : Int)))] [] S Q := by
  have h400 := hw.1
  intro f
  induction f with
  | zero =>
    intro i S hi hv ha
    have hin : i = nf := by omega
    rw [hin] at hv ha
    refine wa_iload (n := 5) rfl ?_
    refine wa_iload_n (n := 3) rfl ?_
    refine wa_icmpge (w_rg0 (by omega) (by omega)) (w_rg0 (by omega) (by omega)) ⟨_, rfl⟩ (fun c1 => ?_) (fun c1 => ?_)
    · skip
      exact wJ_S (hk S hv ha) ⟨rfl, rfl, rfl, rfl, rfl, trivial⟩
    · skip
      exfalso; omega
  | succ f ih =>
    intro i S hi hv ha
    have hM : w_ML S := mvR_ML hMA hv hg.1 hs0.1
    have hfr := hv.2.2
    have hK : KR 261 T n cs ms S := KR_ag hKA (fun j x hj => hfr j x (by unfold mvM; omega))
    have h13 : S 237 13 = 261 := hK.1
    have hx := hFr _ (getD_mem (l := F) (i := i) (by omega))
    have h56 : S 356 (i : Int) = F.getD i 0 := (hfr 356 _ (by unfold mvM; omega)).trans (hFI.2.1 i (by omega))
    have hTy := hty i (by omega)
    have h55 : S 275 (F.getD i 0) = ty i := ((KR_m hK hx.1 hx.2).1.2.2.2.1).trans hTy
    have hyr := (hw.2.2.2 _ hx.1 hx.2).1.2.2.2
    rw [hTy] at hyr
    have e82 := hv.1.1
    have e63 := hv.1.2.1
    have e317 := hv.1.2.2.1
    have e318 := hv.1.2.2.2
    refine wa_iload (n := 5) rfl ?_
    refine wa_iload_n (n := 3) rfl ?_
    refine wa_icmpge (w_rg0 (by omega) (by omega)) (w_rg0 (by omega) (by omega)) ⟨_, rfl⟩ (fun c51 => ?_) (fun c51 => ?_)
    · skip
      exfalso; omega
    · skip
      refine wa_aload_n (n := 0) rfl ?_
      refine wa_iload (n := 4) rfl ?_
      refine wa_iconst ?_
      refine wa_aload_n (n := 0) rfl ?_
      refine wb_gf5 237 rfl (wy_pr rfl) wt_237 wf_15_13 (v := 261) (h13) (fun r52 => ?_)
      refine wb_gf4 261 rfl (wy_pr rfl) wt_261 wf_12_15 (v := 275) wl_261_15 ?_
      refine wa_aload_n (n := 0) rfl ?_
      refine wb_gf4 237 rfl (wy_pr rfl) wt_237 wf_15_131 (v := 356) wl_237_131 ?_
      refine wa_iload (n := 5) rfl ?_
      refine wb_iald 356 rfl (wy_pr rfl) wt_356 (n := 400) ((ml_356 hM)) (by omega) (by omega) (v := (F.getD i 0)) (h56) (fun r53 => ?_)
      refine wb_iald 275 rfl (wy_pr rfl) wt_275 (n := 400) ((ml_275 hM)) (by omega) (by omega) (v := (ty i)) (h55) (fun r54 => ?_)
      refine wa_cs (M2 := fun _ => False) rfl at_M_firstType ⟨_, rfl⟩ rfl rfl ⟨(Or.inr ⟨wy_pr rfl, fun q => q⟩), trivial, trivial, trivial, trivial, trivial, trivial⟩ ⟨trivial, trivial, (Or.inr ⟨wy_pr rfl, fun q => q⟩), trivial⟩ (fun _ _ q => False.elim q) (mft (S := S) (t := ty i) ⟨by omega, by omega⟩) (fun oq55 Sq55 hp56 q55 => ?_)
      rcases q55 with ⟨rfl, rfl⟩
      show wJ _ _ _ _ _ _ _ _ _ _
      have hfk := fkI_rg (ty i)
      refine wb_lconst (m := 0) rfl ?_
      refine wa_cv 237 rfl (wy_pr rfl) wt_237 (M2 := fun _ => False) rfl at_M_addSlot ⟨_, rfl⟩ rfl rfl ⟨(Or.inr ⟨wy_pr rfl, fun q => q⟩), trivial, trivial, trivial, trivial, trivial, trivial⟩ trivial (fun _ _ q => False.elim q) (adM_ok (th := g) (nm := -1) (ty := fkI (ty i)) (va := 0) (s := s0 + (i : Int)) (v0 := v0 + (i : Int)) (n := (i : Int)) (la := S 318 g) hM hg e82 ⟨by omega, by omega⟩ e63 ⟨by omega, by omega⟩ e317 ⟨by omega, by omega⟩ rfl (fun z => by have := e318 (by omega); omega) ⟨by omega, by omega⟩ ⟨by omega, by omega⟩ ⟨by omega, by omega⟩) (fun oq57 Sq57 hp58 q57 => ?_)
      rcases q57 with ⟨rfl, rfl⟩
      show wJ _ _ _ _ _ _ _ _ _ _
      refine wa_iinc rfl rfl ?_
      refine wa_goto ⟨_, rfl⟩ ?_
      have haf := as_fz (th := g) (nm := -1) (ty := fkI (ty i)) (va := 0) (s := s0 + (i : Int)) (nn := (i : Int)) (la := S 318 g) e63
      exact wJ_S (ih (i + 1) _ (by omega) (mvR_n hv (fun z => (e318 z).2) haf hs0.1) (afL_n i 0 A ha (by rw [e82, e317, Nat.zero_add]; exact haf))) ⟨rfl, rfl, rfl, rfl, rfl, rfl, trivial⟩
theorem rms_261 {x6 p : Int} (hM : w_ML S) (hK : KR 261 T n cs ms S) (hw : wHo cs ms os) (hFI : flI F S) (hFn : F.length = nf) (hF4 : nf ≤ 400) (hFr : ∀ x ∈ F, 0 ≤ x ∧ x < (ms.length : Int)) (hty : ∀ i : Nat, i < nf → (hmR ms (F.getD i 0)).2.2.2.1 = ty i) (h86 : ∀ i : Nat, i < nf → S 386 (i : Int) = (if (cF i).1 = -1 then 0 else 1)) (hp : 0 ≤ p ∧ p ≤ 100) (hk : ∀ q : Nat, (q < nf ∧ fuN nf ty cF p = some q) ∨ (q = nf ∧ fuN nf ty cF p = none) → wJ (pe_GA xs) wY0 M (d + 6) t_M_makes ((pe_at t_M_makes.bl 10).getD (0, [])).2 [(0, (2, 237)), (1, (0, m)), (2, (0, c)), (3, (0, (nf : Int))), (4, (0, g)), (5, (2, 386)), (6, (0, x6)), (7, (0, p)), (8, (0, (q : Int)))] [] S Q) : ∀ (f q : Nat), q + f = nf → (∀ i : Nat, i < q → ¬ ((cF i).1 = -1 ∧ ty i = p)) → wJ (pe_GA xs) wY0 M (d + 6) t_M_makes ((pe_at t_M_makes.bl 8).getD (0, [])).2 [(0, (2, 237)), (1, (0, m)), (2, (0, c)), (3, (0, (nf : Int))), (4, (0, g)), (5, (2, 386)), (6, (0, x6)), (7, (0, p)), (8, (0, (q : Int)))] [] S Q := by
  have h400 := hw.1
  have h13 : S 237 13 = 261 := hK.1
  intro f
  induction f with
  | zero =>
    intro q hq hno
    have hqn : q = nf := by omega
    rw [hqn] at hno
    refine wa_iload (n := 8) rfl ?_
    refine wa_iload_n (n := 3) rfl ?_
    refine wa_icmpge (w_rg0 (by omega) (by omega)) (w_rg0 (by omega) (by omega)) ⟨_, rfl⟩ (fun c1 => ?_) (fun c1 => ?_)
    · skip
      exact wJ_S (hk q (Or.inr ⟨hqn, fuN_0 hno⟩)) ⟨rfl, rfl, rfl, rfl, rfl, rfl, rfl, rfl, rfl, trivial⟩
    · skip
      exfalso; omega
  | succ f ih =>
    intro q hq hno
    have hx := hFr _ (getD_mem (l := F) (i := q) (by omega))
    have h56 : S 356 (q : Int) = F.getD q 0 := hFI.2.1 q (by omega)
    have hTy := hty q (by omega)
    have h55 : S 275 (F.getD q 0) = ty q := ((KR_m hK hx.1 hx.2).1.2.2.2.1).trans hTy
    have hyr := (hw.2.2.2 _ hx.1 hx.2).1.2.2.2
    rw [hTy] at hyr
    obtain ⟨bq, hbq⟩ : ∃ z : Int, z = (if (cF q).1 = -1 then 0 else 1) := ⟨_, rfl⟩
    have h86q : S 386 (q : Int) = bq := (h86 q (by omega)).trans hbq.symm
    have hb1 : (cF q).1 = -1 → bq = 0 := fun z => by rw [hbq, if_pos z]
    have hb2 : (cF q).1 ≠ -1 → bq = 1 := fun z => by rw [hbq, if_neg z]
    refine wa_iload (n := 8) rfl ?_
    refine wa_iload_n (n := 3) rfl ?_
    refine wa_icmpge (w_rg0 (by omega) (by omega)) (w_rg0 (by omega) (by omega)) ⟨_, rfl⟩ (fun c51 => ?_) (fun c51 => ?_)
    · skip
      exfalso; omega
    · skip
      refine wa_aload (n := 5) rfl ?_
      refine wa_iload (n := 8) rfl ?_
      refine wb_zald 386 rfl (wy_pr rfl) wt_386 (n := 400) ((ml_386 hM)) (by omega) (by omega) (v := bq) (h86q) (fun r52 => ?_)
      refine wa_ifne (w_rg0 (by omega) (by omega)) ⟨_, rfl⟩ (fun c53 => ?_) (fun c53 => ?_)
      · skip
        refine wa_iinc rfl rfl ?_
        refine wa_goto ⟨_, rfl⟩ ?_
        refine wJ_S (ih (q + 1) (by omega) (fun i hi => ?_)) ⟨rfl, rfl, rfl, rfl, rfl, rfl, rfl, rfl, rfl, trivial⟩
        by_cases ce : i = q
        · rw [ce]; intro z; have z1 := hb1 z.1; have z2 := z.2; omega
        · exact hno i (by omega)
      · skip
        refine wa_aload_n (n := 0) rfl ?_
        refine wb_gf5 237 rfl (wy_pr rfl) wt_237 wf_15_13 (v := 261) (h13) (fun r54 => ?_)
        refine wb_gf4 261 rfl (wy_pr rfl) wt_261 wf_12_15 (v := 275) wl_261_15 ?_
        refine wa_aload_n (n := 0) rfl ?_
        refine wb_gf4 237 rfl (wy_pr rfl) wt_237 wf_15_131 (v := 356) wl_237_131 ?_
        refine wa_iload (n := 8) rfl ?_
        refine wb_iald 356 rfl (wy_pr rfl) wt_356 (n := 400) ((ml_356 hM)) (by omega) (by omega) (v := (F.getD q 0)) (h56) (fun r55 => ?_)
        refine wb_iald 275 rfl (wy_pr rfl) wt_275 (n := 400) ((ml_275 hM)) (by omega) (by omega) (v := (ty q)) (h55) (fun r56 => ?_)
        refine wa_iload (n := 7) rfl ?_
        refine wa_icmpeq (w_rg0 (by omega) (by omega)) (w_rg0 (by omega) (by omega)) ⟨_, rfl⟩ (fun c57 => ?_) (fun c57 => ?_)
        · skip
          have hc1 : (cF q).1 = -1 := by
            by_cases ce : (cF q).1 = -1
            · exact ce
            · have z := hb2 ce; omega
          exact wJ_S (hk q (Or.inl ⟨by omega, fuN_q (by omega) ⟨hc1, by omega⟩ hno⟩)) ⟨rfl, rfl, rfl, rfl, rfl, rfl, rfl, rfl, rfl, trivial⟩
        · skip
          refine wa_fall ⟨_, rfl⟩ ?_
          refine wa_iinc rfl rfl ?_
          refine wa_goto ⟨_, rfl⟩ ?_
          refine wJ_S (ih (q + 1) (by omega) (fun i hi => ?_)) ⟨rfl, rfl, rfl, rfl, rfl, rfl, rfl, rfl, rfl, trivial⟩
          by_cases ce : i = q
          · rw [ce]; intro z; have z1 := hb1 z.1; have z2 := z.2; omega
          · exact hno i (by omega)
theorem rmg_261 (hMA : w_ML A) (hKA : KR 261 T n cs ms A) (hw : wHo cs ms os) (hFI : flI F A) (hFn : F.length = nf) (hF4 : nf ≤ 400) (hFr : ∀ x ∈ F, 0 ≤ x ∧ x < (ms.length : Int)) (hty : ∀ i : Nat, i < nf → (hmR ms (F.getD i 0)).2.2.2.1 = ty i) (hm : 0 ≤ m ∧ m < (ms.length : Int)) (hpn : 0 < es.length → 1 ≤ (hmR ms m).2.2.2.2.1.length) (he8 : es.length ≤ 1000) (h73 : A 237 173 = r) (h76 : A 237 176 = (es.length : Int)) (hr : 0 ≤ r ∧ r + 1 + (es.length : Int) ≤ 4200) (hes : ∀ i : Nat, i < es.length → A 363 (r + 1 + (i : Int)) = (es.getD i (0, 0)).1 ∧ A 364 (r + 1 + (i : Int)) = (es.getD i (0, 0)).2) (hev : ∀ i : Nat, i < es.length → (0 ≤ (es.getD i (0, 0)).1 ∧ (es.getD i (0, 0)).1 ≤ 8) ∧ (-9223372036854775808 ≤ (es.getD i (0, 0)).2 ∧ (es.getD i (0, 0)).2 ≤ 9223372036854775807)) (hsl : slC A g (ivl s0 nf)) (hs0 : 0 ≤ s0 ∧ s0 + (nf : Int) ≤ 60000) (hg : 0 ≤ g ∧ g < 8000) (hk : ∀ Z : wS, muR s0 nf ty FF A Z → wJ (pe_GA xs) wY0 M (d + 6) t_M_makes ((pe_at t_M_makes.bl 12).getD (0, [])).2 [(0, (2, 237)), (1, (0, m)), (2, (0, c)), (3, (0, (nf : Int))), (4, (0, g)), (5, (2, 386))] [] Z Q) : ∀ (f i : Nat) (cF : Nat → Int × Int) (S : wS), i + f = es.length → muR s0 nf ty cF A S → csF nf ty (fun i => prT (hmR ms m) i) i (es.drop i) cF = FF → wJ (pe_GA xs) wY0 M (d + 6) t_M_makes ((pe_at t_M_makes.bl 7).getD (0, [])).2 [(0, (2, 237)), (1, (0, m)), (2, (0, c)), (3, (0, (nf : Int))), (4, (0, g)), (5, (2, 386)), (6, (0, (i : Int)))] [] S Q := by
  have h400 := hw.1
  intro f
  induction f with
  | zero =>
    intro i cF S hi hmu hcs
    rw [List.drop_of_length_le (by omega)] at hcs
    replace hcs : cF = FF := hcs
    rw [hcs] at hmu
    have g76 : S 237 176 = (es.length : Int) := (hmu.2 237 176 (by unfold muM; omega)).trans h76
    refine wa_iload (n := 6) rfl ?_
    refine wa_aload_n (n := 0) rfl ?_
    refine wb_gfi 237 rfl (wy_pr rfl) wt_237 wf_15_176 (v := (es.length : Int)) (g76) (fun r1 => ?_)
    refine wa_icmpge (w_rg0 (by omega) (by omega)) (w_rg0 (by omega) (by omega)) ⟨_, rfl⟩ (fun c2 => ?_) (fun c2 => ?_)
    · skip
      exact wJ_S (hk S hmu) ⟨rfl, rfl, rfl, rfl, rfl, rfl, trivial⟩
    · skip
      exfalso; omega
  | succ f ih =>
    intro i cF S hi hmu hcs
    have hil : i < es.length := by omega
    have hfr := hmu.2
    have hM : w_ML S := ML_w hMA hfr (fun j z => by unfold muM at z; omega)
    have hK : KR 261 T n cs ms S := KR_ag hKA (fun j x hj => hfr j x (by unfold muM; omega))
    have h13 : S 237 13 = 261 := hK.1
    have hFS : flI F S := ⟨(hfr 237 130 (by unfold muM; omega)).trans hFI.1, fun q hq => (hfr 356 _ (by unfold muM; omega)).trans (hFI.2.1 q hq), hFI.2.2⟩
    have g73 : S 237 173 = r := (hfr 237 173 (by unfold muM; omega)).trans h73
    have g76 : S 237 176 = (es.length : Int) := (hfr 237 176 (by unfold muM; omega)).trans h76
    have he1 : S 363 (r + 1 + (i : Int)) = (es.getD i (0, 0)).1 := (hfr 363 _ (by unfold muM; omega)).trans (hes i hil).1
    have he2 : S 364 (r + 1 + (i : Int)) = (es.getD i (0, 0)).2 := (hfr 364 _ (by unfold muM; omega)).trans (hes i hil).2
    have hevi := hev i hil
    have hslS : slC S g (ivl s0 nf) := ⟨(hfr 317 _ (by unfold muM; omega)).trans hsl.1, fun z => (hfr 316 _ (by unfold muM; omega)).trans (hsl.2.1 z), fun q hq => ⟨(hsl.2.2 q hq).1, fun z => (hfr 328 _ (by unfold muM; omega)).trans ((hsl.2.2 q hq).2 z)⟩⟩
    have hpr := prT_rg (i := i) hw hm.1 hm.2 (hpn (by omega))
    have hdr : es.drop i = es.getD i (0, 0) :: es.drop (i + 1) := by rw [List.drop_eq_getElem_cons hil, List.getD_eq_getElem?_getD, List.getElem?_eq_getElem hil]; rfl
    rw [hdr, csF_c] at hcs
    replace hcs : csF nf ty (fun i => prT (hmR ms m) i) (i + 1) (es.drop (i + 1)) (csS nf ty cF (prT (hmR ms m) i) (es.getD i (0, 0))) = FF := hcs
    refine wa_iload (n := 6) rfl ?_
    refine wa_aload_n (n := 0) rfl ?_
    refine wb_gfi 237 rfl (wy_pr rfl) wt_237 wf_15_176 (v := (es.length : Int)) (g76) (fun r51 => ?_)
    refine wa_icmpge (w_rg0 (by omega) (by omega)) (w_rg0 (by omega) (by omega)) ⟨_, rfl⟩ (fun c52 => ?_) (fun c52 => ?_)
    · skip
      exfalso; omega
    · skip
      refine wa_aload_n (n := 0) rfl ?_
      refine wa_iload_n (n := 1) rfl ?_
      refine wa_iload (n := 6) rfl ?_
      refine wa_cv 237 rfl (wy_pr rfl) wt_237 (M2 := fun _ => False) rfl at_M_parameterAt ⟨_, rfl⟩ rfl rfl ⟨(Or.inr ⟨wy_pr rfl, fun q => q⟩), trivial, trivial, trivial, trivial, (Or.inr ⟨wy_pr rfl, fun q => q⟩), trivial, trivial⟩ trivial (fun _ _ q => False.elim q) (rpa_261 (S := S) (m := m) (i := i) hM hK hw hm (hpn (by omega)) (by omega)) (fun oq53 Sq53 hp54 q53 => ?_)
      rcases q53 with ⟨rfl, rfl⟩
      show wJ _ _ _ _ _ _ _ _ _ _
      refine wa_istore (n := 7) rfl ?_
      refine wa_iconst ?_
      refine wa_istore (n := 8) rfl ?_
      refine wa_fall ⟨_, rfl⟩ ?_
      refine wJ_S (rms_261 (cF := cF) (x6 := (i : Int)) (p := prT (hmR ms m) i) hM hK hw hFS hFn hF4 hFr hty (fun q hq => (hmu.1 q hq).1) ⟨by omega, by omega⟩ (fun q hq => ?_) nf 0 (by omega) (fun q hq => absurd hq (Nat.not_lt_zero _))) ⟨rfl, rfl, rfl, rfl, rfl, rfl, rfl, rfl, rfl, trivial⟩
      refine wa_iload (n := 8) rfl ?_
      refine wa_iload_n (n := 3) rfl ?_
      refine wa_icmpge (w_rg0 (by omega) (by omega)) (w_rg0 (by omega) (by omega)) ⟨_, rfl⟩ (fun c201 => ?_) (fun c201 => ?_)
      · skip
        refine wa_iinc rfl rfl ?_
        refine wa_goto ⟨_, rfl⟩ ?_
        have hq2 : q = nf ∧ fuN nf ty cF (prT (hmR ms m) i) = none := hq.resolve_left (fun z => by omega)
        rw [csS_n hq2.2] at hcs
        exact wJ_S (ih (i + 1) _ _ (by omega) hmu hcs) ⟨rfl, rfl, rfl, rfl, rfl, rfl, rfl, trivial⟩
      · skip
        have hq1 : q < nf ∧ fuN nf ty cF (prT (hmR ms m) i) = some q := hq.resolve_right (fun z => by omega)
        refine wa_aload (n := 5) rfl ?_
        refine wa_iload (n := 8) rfl ?_
        refine wa_iconst ?_
        refine wb_zast 386 rfl (wy_pr rfl) wt_386 (n := 400) ((ml_386 hM)) (by omega) (by omega) ⟨(by omega), (by omega)⟩ ?_
        refine wa_aload_n (n := 0) rfl ?_
        refine wa_iload (n := 4) rfl ?_
        refine wa_iload (n := 8) rfl ?_
        refine wa_cv 237 rfl (wy_pr rfl) wt_237 (M2 := fun _ => False) rfl at_M_slotAt ⟨_, rfl⟩ rfl rfl ⟨(Or.inr ⟨wy_pr rfl, fun q => q⟩), trivial, trivial, trivial, trivial, (Or.inr ⟨wy_pr rfl, fun q => q⟩), trivial, trivial, trivial, trivial⟩ trivial (fun _ _ q => False.elim q) (wJ_mono (saM_ok (S := (w_up S 386 (q : Int) 1)) (l := ivl s0 nf) (ML_w (P := fun j x => j = 386 ∧ 0 ≤ x) hM (fun j x hj => w_up_no (fun z => hj ⟨z.1, by omega⟩)) (fun j z => by omega)) hg ⟨(w_up_slot (by decide)).trans hslS.1, fun z => (w_up_slot (by decide)).trans (hslS.2.1 z), fun q hq => ⟨(hslS.2.2 q hq).1, fun z => (w_up_slot (by decide)).trans ((hslS.2.2 q hq).2 z)⟩⟩ (i := (q : Int)) ⟨by omega, by rw [ivl_len]; omega⟩ (by rw [ivl_len]; omega)) (fun o Z hz => (⟨hz.1, by rw [← ivl_get nf s0 q hq1.1]; exact hz.2⟩ : (w_up S 386 (q : Int) 1) = Z ∧ o = .inl (some (0, s0 + (q : Int)))))) (fun oq202 Sq202 hp203 q202 => ?_)
        rcases q202 with ⟨rfl, rfl⟩
        show wJ _ _ _ _ _ _ _ _ _ _
        refine wa_istore (n := 9) rfl ?_
        refine wa_aload_n (n := 0) rfl ?_
        refine wb_gf4 237 rfl (wy_pr rfl) wt_237 wf_15_83 (v := 325) wl_237_83 ?_
        refine wa_iload (n := 9) rfl ?_
        refine wa_aload_n (n := 0) rfl ?_
        refine wb_gf4 237 rfl (wy_pr rfl) wt_237 wf_15_138 (v := 363) wl_237_138 ?_
        refine wa_aload_n (n := 0) rfl ?_
        refine wb_gfi 237 rfl (wy_pr rfl) wt_237 wf_15_173 (v := r) ((w_up_slot (by decide)).trans (g73)) (fun r204 => ?_)
        refine wa_iconst ?_
        refine wa_iadd ?_
        refine wa_iload (n := 6) rfl ?_
        refine wa_iadd ?_
        refine wb_iald 363 rfl (wy_pr rfl) wt_363 (n := 4200) ((w_up_slot (by decide)).trans ((ml_363 hM))) (by omega) (by omega) (v := (es.getD i (0, 0)).1) ((w_up_slot (by decide)).trans (he1)) (fun r205 => ?_)
        refine wb_iast 325 rfl (wy_pr rfl) wt_325 (n := 60000) ((w_up_slot (by decide)).trans ((ml_325 hM))) (by omega) (by omega) ⟨(by omega), (by omega)⟩ ?_
        refine wa_aload_n (n := 0) rfl ?_
        refine wb_gf4 237 rfl (wy_pr rfl) wt_237 wf_15_84 (v := 326) wl_237_84 ?_
        refine wa_iload (n := 9) rfl ?_
        refine wa_aload_n (n := 0) rfl ?_
        refine wb_gf4 237 rfl (wy_pr rfl) wt_237 wf_15_139 (v := 364) wl_237_139 ?_
        refine wa_aload_n (n := 0) rfl ?_
        refine wb_gfi 237 rfl (wy_pr rfl) wt_237 wf_15_173 (v := r) ((w_up_slot (by decide)).trans ((w_up_slot (by decide)).trans (g73))) (fun r206 => ?_)
        refine wa_iconst ?_
        refine wa_iadd ?_
        refine wa_iload (n := 6) rfl ?_
        refine wa_iadd ?_
        refine wb_lald 364 rfl (wy_pr rfl) wt_364 (n := 4200) ((w_up_slot (by decide)).trans ((w_up_slot (by decide)).trans ((ml_364 hM)))) (by omega) (by omega) (v := (es.getD i (0, 0)).2) ((w_up_slot (by decide)).trans ((w_up_slot (by decide)).trans (he2))) (fun r207 => ?_)
        refine wb_last 326 rfl (wy_pr rfl) wt_326 (n := 60000) ((w_up_slot (by decide)).trans ((w_up_slot (by decide)).trans ((ml_326 hM)))) (by omega) (by omega) ⟨(by omega), (by omega)⟩ ?_
        refine wa_fall ⟨_, rfl⟩ ?_
        refine wa_iinc rfl rfl ?_
        refine wa_goto ⟨_, rfl⟩ ?_
        rw [csS_q hq1.2] at hcs
        exact wJ_S (ih (i + 1) _ _ (by omega) (mu_up hmu hq1.1 (by omega)) hcs) ⟨rfl, rfl, rfl, rfl, rfl, rfl, rfl, trivial⟩
end Wi2
