/-! PART h7: the class's host: choose. -/
section Wh7
variable {xs : List (Nat × List Int32)} {M : Nat → Prop} {d : Nat} {S Z A : wS} {T : Int → Int} {cs : List hCR} {ms : List hMR} {os : Int → List Int} {Q : wO → wS → Prop}
theorem cdA_nd (ok : Int → Bool) : ∀ (l acc : List Int), acc.Nodup → (cdA ms ok acc l).Nodup := by
  intro l
  induction l with
  | nil => intro acc h; exact h
  | cons m l ih =>
    intro acc h
    rw [cdA_c]
    split
    · next c =>
      refine ih _ (List.nodup_append.mpr ⟨h, List.nodup_cons.mpr ⟨List.not_mem_nil, List.nodup_nil⟩, fun x hx y hy e => ?_⟩)
      rw [List.mem_singleton.mp hy] at e
      have z : hidM ms acc m = true := by
        unfold hidM
        rw [List.any_eq_true]
        exact ⟨m, by rw [← e]; exact hx, decide_eq_true rfl⟩
      rw [z] at c
      exact absurd c.2 (by first | decide | omega)
    · exact ih _ h
theorem cdA_400 {ok : Int → Bool} {l : List Int} (hw : wHo cs ms os) (hl : ∀ x ∈ l, 0 ≤ x ∧ x < (ms.length : Int)) : (cdA ms ok [] l).length ≤ 400 ∧ ∀ x ∈ cdA ms ok [] l, 0 ≤ x ∧ x < (ms.length : Int) := by
  have z : ∀ x ∈ cdA ms ok [] l, 0 ≤ x ∧ x < (ms.length : Int) := fun x hx => by
    rcases cdA_m ok l [] x hx with y | y
    · exact absurd y List.not_mem_nil
    · exact hl x y.1
  have y := su_nd_len (c := (ms.length : Int)) (l := cdA ms ok [] l) (by omega) ⟨cdA_nd ok l [] List.nodup_nil, z⟩
  have y2 := hw.1.2
  exact ⟨by omega, z⟩
theorem ft_m {ph x : Int} {tl F : List Int} (hw : wHo cs ms os) (hF : ∀ x ∈ F, 0 ≤ x ∧ x < (ms.length : Int)) (h : x ∈ ftL cs ms ph tl F) : (0 ≤ x ∧ x < (ms.length : Int)) ∧ (ph ≠ 3 → (hmR ms x).2.2.2.2.1.length = tl.length) ∧ (ph = 3 → 1 ≤ (hmR ms x).2.2.2.2.1.length) := by
  obtain ⟨h1, h2⟩ := List.mem_filter.mp h
  have h3 := hF x h1
  unfold ftA at h2
  rw [Bool.and_eq_true, Bool.and_eq_true] at h2
  have h4 := of_decide_eq_true h2.1.1
  have h5 := of_decide_eq_true h2.1.2
  refine ⟨h3, fun c => ?_, fun c => ?_⟩
  · rw [if_neg c] at h5; exact h5
  · rw [if_pos c] at h4
    rcases (hw.2.2.2 x h3.1 h3.2).2.1 with y | y
    · omega
    · exact y.2
theorem sgP_rg {ph : Int} {n : Nat} (f : List Int) : sgP cs ms ph n f = -8 ∨ sgP cs ms ph n f ∈ f := by
  unfold sgP
  split
  · next c =>
    have hl : 0 < (bsA cs ms ph n f).length := by omega
    refine Or.inr ?_
    have z : (bsA cs ms ph n f).getD 0 0 ∈ bsA cs ms ph n f := by rw [List.getD_eq_getElem?_getD, List.getElem?_eq_getElem hl]; exact List.getElem_mem hl
    exact (List.mem_filter.mp z).1
  · exact Or.inl rfl
def askd (k am fs n word : Int) : Int := ((((k * 4 + am) * 2 + fs) * 16 + n) * 1024) + word
def chF (p cd kA : Nat) (S Z : wS) : Prop := ∀ (j : Nat) (i : Int), j < 4000000 → j ≠ wG → j ≠ cd → (j < kA ∨ kA + 4 < j) → (j ≠ p ∨ (i ≠ 10 ∧ i ≠ 16 ∧ i ≠ 18)) → Z j i = S j i
def chQ (p cd kA : Nat) (cs : List hCR) (ms : List hMR) (K : List aKp) (ask word : Int) (tl F : List Int) (S : wS) (o : wO) (Z : wS) : Prop := (word = -1 ∧ o = .inl (some (0, -1)) ∧ Z = S) ∨ (word ≠ -1 ∧ (∃ q : Int, 0 ≤ q ∧ q < (K.length : Int) ∧ (kG K q).1 = ask ∧ (kG K q).2.1 = esV tl ∧ o = .inl (some (0, (kG K q).2.2))) ∧ Z = S) ∨ (word ≠ -1 ∧ (∀ i : Int, 0 ≤ i → i < (K.length : Int) → ¬ ((kG K i).1 = ask ∧ (kG K i).2.1 = esV tl)) ∧ ((F = [] ∧ o = .inl (some (0, -1)) ∧ Z p 18 = S p 18 ∧ kpR p kA K Z) ∨ (F ≠ [] ∧ o = .inl (some (0, sgA cs ms tl F)) ∧ Z p 18 = S p 18 + 1 ∧ kpR p kA (if (K.length : Int) < S p 17 then K ++ [(ask, esV tl, sgA cs ms tl F)] else K) Z)) ∧ chF p cd kA S Z ∧ (64 ≤ Z cd (-1) ∧ Z cd (-1) ≤ 1023) ∧ gI Z ∧ rmR S Z)
/-- while those that fit are moved to the front -/
def fiR (cd : Nat) (F g : List Int) (B A : wS) : Prop := (∀ (j : Nat) (i : Int), (j ≠ cd ∨ i < 0) → A j i = B j i) ∧ (∀ x : Nat, x < g.length → A cd (x : Int) = g.getD x 0) ∧ ∀ x : Nat, g.length ≤ x → x < F.length → A cd (x : Int) = F.getD x 0
theorem fiR_C {cd : Nat} {F g : List Int} {B : wS} (hC : w_CL B) (h : fiR cd F g B A) : w_CL A := fun q hq => (h.1 q.1 (-1) (Or.inr (by first | decide | omega))).trans (hC q hq)
theorem fiR_g {cd : Nat} {F g : List Int} {B : wS} (hcd : 14 < cd ∧ cd < 237) (hI : gI B) (h : fiR cd F g B A) : gI A ∧ rmR B A := by
  have hg : wG = 1000000 := rfl
  exact ⟨gI_ag2 hI (fun j hj => h.1 j (-1) (Or.inr (by first | decide | omega))) (fun x _ => h.1 238 _ (Or.inl (by omega))) (h.1 14 5 (Or.inl (by omega))), rmR_ag (rmR_rfl B) (fun k _ => h.1 k (-1) (Or.inr (by first | decide | omega))) (h.1 wG 0 (Or.inl (by omega))) (h.1 wG 1 (Or.inl (by omega)))⟩
theorem fiR_n {cd : Nat} {F g : List Int} {B : wS} {m : Int} {i : Nat} (h : fiR cd F g B A) (hg : g.length ≤ i) (hi : i < F.length) : fiR cd F (g ++ [m]) B (w_up A cd (g.length : Int) m) := by
  refine ⟨fun j x hj => (w_up_no (by omega)).trans (h.1 j x hj), fun x hx => ?_, fun x h1 h2 => ?_⟩
  · rw [List.length_append, List.length_singleton] at hx
    by_cases c : x = g.length
    · rw [c, getD_last]; exact w_up_same _ _ _ _
    · rw [getD_app (by omega), w_up_at (by omega)]; exact h.2.1 x (by omega)
  · rw [List.length_append, List.length_singleton] at h1
    rw [w_up_at (by omega)]; exact h.2.2 x (by omega) h2
theorem flt_s {F : List Int} {pb : Int → Bool} {i : Nat} (hi : i < F.length) : (F.take (i + 1)).filter pb = if pb (F.getD i 0) = true then (F.take i).filter pb ++ [F.getD i 0] else (F.take i).filter pb := by
  rw [List.take_succ, List.filter_append, List.getElem?_eq_getElem hi, List.getD_eq_getElem?_getD, List.getElem?_eq_getElem hi]
  show (F.take i).filter pb ++ List.filter pb [F[i]] = if pb F[i] = true then (F.take i).filter pb ++ [F[i]] else (F.take i).filter pb
  by_cases c : pb F[i] = true
  · rw [if_pos c, List.filter_cons_of_pos c]; rfl
  · rw [if_neg c, List.filter_cons_of_neg c]; exact List.append_nil _
theorem fiK_73 {F g : List Int} {B : wS} (hK : KC 87 97 93 114 115 74 73 T cs ms os B) (h : fiR 120 F g B A) : KC 87 97 93 114 115 74 73 T cs ms os A := by
  refine KC_ag hK (h.1 73 2 (Or.inl (by first | decide | omega))) (h.1 73 4 (Or.inl (by first | decide | omega))) (fun j hj => ?_)
  funext x
  exact h.1 j x (Or.inl (by omega))
theorem chf_73 {ph ask : Int} {tl F : List Int} {B : wS} (hC : w_CL B) (hK : KC 87 97 93 114 115 74 73 T cs ms os B) (hw : wHo cs ms os) (hph : 1 ≤ ph ∧ ph ≤ 3) (htl : tl.length ≤ 8) (hes : esOk tl) (hty : ∀ c ∈ tl, c < 9 + (cs.length : Int)) (h10 : B 73 10 = (F.length : Int)) (hcd : (F.length : Int) ≤ B 120 (-1) ∧ B 120 (-1) ≤ 1023) (hF4 : F.length ≤ 400) (hFm : ∀ x ∈ F, 0 ≤ x ∧ x < (ms.length : Int)) (hnx : ∀ A : wS, fiR 120 F (ftL cs ms ph tl F) B A → wJ (pe_GA xs) wY0 (mS [120, 121, 122, 123, 124]) (d + 4) t_XO_choose ((pe_at t_XO_choose.bl 9).getD (0, [])).2 [(0, (2, 73)), (5, (1, esV tl)), (7, (0, (tl.length : Int))), (8, (0, ask)), (10, (0, (-9))), (11, (0, ph)), (12, (0, ((ftL cs ms ph tl F).length : Int)))] [] A Q) : ∀ (n i : Nat) (g : List Int) (A : wS), i + n = F.length → g = (F.take i).filter (ftA cs ms ph tl) → fiR 120 F g B A → wJ (pe_GA xs) wY0 (mS [120, 121, 122, 123, 124]) (d + 4) t_XO_choose ((pe_at t_XO_choose.bl 7).getD (0, [])).2 [(0, (2, 73)), (5, (1, esV tl)), (7, (0, (tl.length : Int))), (8, (0, ask)), (10, (0, (-9))), (11, (0, ph)), (12, (0, (g.length : Int))), (13, (0, (i : Int)))] [] A Q := by
  intro n
  induction n with
  | zero =>
    intro i g A hin hg hfi
    have e10 : A 73 10 = (F.length : Int) := (hfi.1 73 10 (Or.inl (by first | decide | omega))).trans h10
    have hgF : g = ftL cs ms ph tl F := by rw [hg, List.take_of_length_le (by omega)]; rfl
    refine wa_iload (n := 13) rfl ?_
    refine wa_aload_n (n := 0) rfl ?_
    refine wb_gfi 73 rfl (wy_pr rfl) wt_73 wf_3_10 (v := (F.length : Int)) (e10) (fun r1 => ?_)
    refine wa_icmpge (w_rg0 (by omega) (by omega)) (w_rg0 (by omega) (by omega)) ⟨_, rfl⟩ (fun c2 => ?_) (fun c2 => ?_)
    · skip
      rw [hgF] at hfi ⊢; exact wJ_S (hnx A hfi) ⟨rfl, rfl, rfl, rfl, rfl, rfl, rfl, trivial⟩
    · skip
      exfalso; omega
  | succ n ih =>
    intro i g A hin hg hfi
    have e10 : A 73 10 = (F.length : Int) := (hfi.1 73 10 (Or.inl (by first | decide | omega))).trans h10
    have ecd : A 120 (-1) = B 120 (-1) := hfi.1 120 (-1) (Or.inr (by first | decide | omega))
    have hil : i < F.length := by omega
    have hgl : g.length ≤ i := by have z := List.length_filter_le (ftA cs ms ph tl) (F.take i); rw [← hg, List.length_take] at z; omega
    have hAi : A 120 (i : Int) = F.getD i 0 := hfi.2.2 i hgl hil
    have hmem : F.getD i 0 ∈ F := by rw [List.getD_eq_getElem?_getD, List.getElem?_eq_getElem hil]; exact List.getElem_mem hil
    have hmr := hFm _ hmem
    have h400 := hw.1.2
    have hfs := flt_s (pb := ftA cs ms ph tl) hil
    rw [← hg] at hfs
    refine wa_iload (n := 13) rfl ?_
    refine wa_aload_n (n := 0) rfl ?_
    refine wb_gfi 73 rfl (wy_pr rfl) wt_73 wf_3_10 (v := (F.length : Int)) (e10) (fun r51 => ?_)
    refine wa_icmpge (w_rg0 (by omega) (by omega)) (w_rg0 (by omega) (by omega)) ⟨_, rfl⟩ (fun c52 => ?_) (fun c52 => ?_)
    · skip
      exfalso; omega
    · skip
      refine wa_aload_n (n := 0) rfl ?_
      refine wa_aload_n (n := 0) rfl ?_
      refine wb_gf4 73 rfl (wy_pr rfl) wt_73 wf_3_9 (v := 120) wl_73_9 ?_
      refine wa_iload (n := 13) rfl ?_
      refine wb_iald 120 rfl (wy_pr rfl) wt_120 (n := (B 120 (-1))) (ecd) (by omega) (by omega) (v := (F.getD i 0)) (hAi) (fun r53 => ?_)
      refine wa_iload (n := 11) rfl ?_
      refine wa_lload (n := 5) rfl ?_
      refine wa_iload (n := 7) rfl ?_
      refine wa_cv 73 rfl (wy_pr rfl) wt_73 (M2 := fun _ => False) rfl at_XO_fits ⟨_, rfl⟩ rfl rfl ⟨(Or.inr ⟨wy_pr rfl, fun q => q⟩), trivial, trivial, trivial, trivial, trivial, trivial, trivial, trivial⟩ trivial (fun _ _ q => False.elim q) (fit_73 (S := A) (m := F.getD i 0) (ph := ph) (tl := tl) (fiR_C hC hfi) (fiK_73 hK hfi) hw hmr hph htl hes hty) (fun oq54 Sq54 hp55 q54 => ?_)
      rcases q54 with ⟨rfl, rfl⟩
      show wJ _ _ _ _ _ _ _ _ _ _
      have hbr := bI_rg (ftA cs ms ph tl (F.getD i 0))
      refine wa_ifeq (w_rg0 (by omega) (by omega)) ⟨_, rfl⟩ (fun c56 => ?_) (fun c56 => ?_)
      · skip
        refine wa_iinc rfl rfl ?_
        refine wa_goto ⟨_, rfl⟩ ?_
        rw [if_neg (by rw [bI_0 (b := ftA cs ms ph tl (F.getD i 0)) (by omega)]; decide)] at hfs
        exact wJ_S (ih (i + 1) g A (by omega) hfs.symm hfi) ⟨rfl, rfl, rfl, rfl, rfl, rfl, rfl, rfl, trivial⟩
      · skip
        refine wa_aload_n (n := 0) rfl ?_
        refine wb_gf4 73 rfl (wy_pr rfl) wt_73 wf_3_9 (v := 120) wl_73_9 ?_
        refine wa_iload (n := 12) rfl ?_
        refine wa_aload_n (n := 0) rfl ?_
        refine wb_gf4 73 rfl (wy_pr rfl) wt_73 wf_3_9 (v := 120) wl_73_9 ?_
        refine wa_iload (n := 13) rfl ?_
        refine wb_iald 120 rfl (wy_pr rfl) wt_120 (n := (B 120 (-1))) (ecd) (by omega) (by omega) (v := (F.getD i 0)) (hAi) (fun r57 => ?_)
        refine wb_iast 120 rfl (wy_pr rfl) wt_120 (n := (B 120 (-1))) (ecd) (by omega) (by omega) ⟨(by omega), (by omega)⟩ ?_
        refine wa_iinc rfl rfl ?_
        refine wa_fall ⟨_, rfl⟩ ?_
        refine wa_iinc rfl rfl ?_
        refine wa_goto ⟨_, rfl⟩ ?_
        rw [if_pos (bI_1 (b := ftA cs ms ph tl (F.getD i 0)) (by omega))] at hfs
        have hn1 : ((g ++ [F.getD i 0]).length : Int) = (g.length : Int) + 1 := by rw [List.length_append, List.length_singleton]; omega
        have hih := ih (i + 1) (g ++ [F.getD i 0]) _ (by omega) hfs.symm (fiR_n (m := F.getD i 0) hfi hgl hil)
        rw [hn1] at hih
        exact wJ_S hih ⟨rfl, rfl, rfl, rfl, rfl, rfl, rfl, rfl, trivial⟩
theorem chs_73 {ph ask : Int} {tl F : List Int} {B : wS} (hC : w_CL B) (hK : KC 87 97 93 114 115 74 73 T cs ms os B) (hw : wHo cs ms os) (hph : 1 ≤ ph ∧ ph ≤ 3) (htl : tl.length ≤ 8) (hes : esOk tl) (hty : ∀ c ∈ tl, c < 9 + (cs.length : Int)) (h10 : B 73 10 = (F.length : Int)) (hcd : (F.length : Int) ≤ B 120 (-1) ∧ B 120 (-1) ≤ 1023) (hF4 : F.length ≤ 400) (hFm : ∀ x ∈ F, 0 ≤ x ∧ x < (ms.length : Int)) (h1 : ftL cs ms ph tl F ≠ [] → ∀ A : wS, fiR 120 F (ftL cs ms ph tl F) B A → wJ (pe_GA xs) wY0 (mS [120, 121, 122, 123, 124]) (d + 4) t_XO_choose ((pe_at t_XO_choose.bl 11).getD (0, [])).2 [(0, (2, 73)), (5, (1, esV tl)), (8, (0, ask)), (10, (0, sgP cs ms ph tl.length (ftL cs ms ph tl F)))] [] A Q) (h2 : ftL cs ms ph tl F = [] → ∀ A : wS, fiR 120 F [] B A → wJ (pe_GA xs) wY0 (mS [120, 121, 122, 123, 124]) (d + 4) t_XO_choose ((pe_at t_XO_choose.bl 6).getD (0, [])).2 [(0, (2, 73)), (5, (1, esV tl)), (7, (0, (tl.length : Int))), (8, (0, ask)), (10, (0, (-9))), (11, (0, ph + 1))] [] A Q) (A0 : wS) (hA0 : fiR 120 F [] B A0) : wJ (pe_GA xs) wY0 (mS [120, 121, 122, 123, 124]) (d + 4) t_XO_choose ((pe_at t_XO_choose.bl 6).getD (0, [])).2 [(0, (2, 73)), (5, (1, esV tl)), (7, (0, (tl.length : Int))), (8, (0, ask)), (10, (0, (-9))), (11, (0, ph))] [] A0 Q := by
  refine wa_iload (n := 11) rfl ?_
  refine wa_iconst ?_
  refine wa_icmpgt (w_rg0 (by omega) (by omega)) (w_rg0 (by omega) (by omega)) ⟨_, rfl⟩ (fun c1 => ?_) (fun c1 => ?_)
  · skip
    exfalso; omega
  · skip
    refine wa_iload (n := 10) rfl ?_
    refine wa_bipush (w_rg2 (by omega) (by omega)) ?_
    refine wa_icmpne (w_rg0 (by omega) (by omega)) (w_rg0 (by omega) (by omega)) ⟨_, rfl⟩ (fun c2 => ?_) (fun c2 => ?_)
    · skip
      exact absurd c2 (by omega)
    · skip
      refine wa_iconst ?_
      refine wa_istore (n := 12) rfl ?_
      refine wa_iconst ?_
      refine wa_istore (n := 13) rfl ?_
      refine wa_fall ⟨_, rfl⟩ ?_
      refine wJ_S (chf_73 (B := B) hC hK hw hph htl hes hty h10 hcd hF4 hFm (fun A hfi => ?_) F.length 0 [] A0 (by omega) rfl hA0) ⟨rfl, rfl, rfl, rfl, rfl, rfl, rfl, rfl, trivial⟩
      have hfl : (ftL cs ms ph tl F).length ≤ F.length := List.length_filter_le _ _
      have ecd : A 120 (-1) = B 120 (-1) := hfi.1 120 (-1) (Or.inr (by first | decide | omega))
      have hsr := sgP_rg (cs := cs) (ms := ms) (ph := ph) (n := tl.length) (ftL cs ms ph tl F)
      have h400 := hw.1.2
      have hsr2 : -8 ≤ sgP cs ms ph tl.length (ftL cs ms ph tl F) ∧ sgP cs ms ph tl.length (ftL cs ms ph tl F) ≤ 400 := by
        rcases hsr with z | z
        · omega
        · have := (ft_m hw hFm z).1; omega
      refine wa_iload (n := 12) rfl ?_
      refine wa_ifle (w_rg0 (by omega) (by omega)) ⟨_, rfl⟩ (fun c201 => ?_) (fun c201 => ?_)
      · skip
        refine wa_iinc rfl rfl ?_
        refine wa_goto ⟨_, rfl⟩ ?_
        have he : ftL cs ms ph tl F = [] := List.eq_nil_of_length_eq_zero (by omega)
        rw [he] at hfi
        exact wJ_S (h2 he A hfi) ⟨rfl, rfl, rfl, rfl, rfl, rfl, trivial⟩
      · skip
        refine wa_aload_n (n := 0) rfl ?_
        refine wa_iload (n := 12) rfl ?_
        refine wa_iload (n := 11) rfl ?_
        refine wa_cv 73 rfl (wy_pr rfl) wt_73 (M2 := fun _ => False) rfl at_XO_mostSpecific ⟨_, rfl⟩ rfl rfl ⟨(Or.inr ⟨wy_pr rfl, fun q => q⟩), trivial, trivial, trivial, trivial, trivial, trivial, trivial⟩ trivial (fun _ _ q => False.elim q) (mos_73 (S := A) (n := tl.length) (f := ftL cs ms ph tl F) (fiR_C hC hfi) (fiK_73 hK hfi) hw hph ⟨by omega, by omega, by omega⟩ hfi.2.1 (fun x hx => ft_m hw hFm hx)) (fun oq202 Sq202 hp203 q202 => ?_)
        rcases q202 with ⟨rfl, rfl⟩
        show wJ _ _ _ _ _ _ _ _ _ _
        refine wa_istore (n := 10) rfl ?_
        refine wa_fall ⟨_, rfl⟩ ?_
        refine wa_iinc rfl rfl ?_
        refine wa_goto ⟨_, rfl⟩ ?_
        refine wa_iload (n := 11) rfl ?_
        refine wa_iconst ?_
        refine wa_icmpgt (w_rg0 (by omega) (by omega)) (w_rg0 (by omega) (by omega)) ⟨_, rfl⟩ (fun c204 => ?_) (fun c204 => ?_)
        · skip
          exact wJ_S (h1 (fun z => absurd (congrArg List.length z) (by show ¬ (ftL cs ms ph tl F).length = 0; omega)) A hfi) ⟨rfl, rfl, rfl, rfl, trivial⟩
        · skip
          refine wa_iload (n := 10) rfl ?_
          refine wa_bipush (w_rg2 (by omega) (by omega)) ?_
          refine wa_icmpne (w_rg0 (by omega) (by omega)) (w_rg0 (by omega) (by omega)) ⟨_, rfl⟩ (fun c205 => ?_) (fun c205 => ?_)
          · skip
            exact wJ_S (h1 (fun z => absurd (congrArg List.length z) (by show ¬ (ftL cs ms ph tl F).length = 0; omega)) A hfi) ⟨rfl, rfl, rfl, rfl, trivial⟩
          · skip
            exfalso; omega
theorem che_73 {ask v : Int} {tl : List Int} {K : List aKp} (hkp : kpR 73 121 K A) (hI : gI A) (hask : -2147483648 ≤ ask ∧ ask ≤ 2147483647) (hv : -2147483648 ≤ v ∧ v ≤ 2147483647) (he : -9223372036854775808 ≤ esV tl ∧ esV tl ≤ 9223372036854775807) (h17 : A 73 17 ≤ 2000) : wJ (pe_GA xs) wY0 (mS [120, 121, 122, 123, 124]) (d + 4) t_XO_choose ((pe_at t_XO_choose.bl 11).getD (0, [])).2 [(0, (2, 73)), (5, (1, esV tl)), (8, (0, ask)), (10, (0, v))] [] A (fun o Z => o = .inl (some (0, v)) ∧ kpR 73 121 (if (K.length : Int) < A 73 17 then K ++ [(ask, esV tl, v)] else K) Z ∧ (∀ (j : Nat) (i : Int), j < 4000000 → j ≠ wG → (j < 121 ∨ 125 < j) → (j ≠ 73 ∨ i ≠ 16) → Z j i = A j i) ∧ gI Z ∧ rmR A Z) := by
  have h16 : A 73 16 = (K.length : Int) := hkp.1
  have hl5 := hkp.2.2.2.2
  refine wa_aload_n (n := 0) rfl ?_
  refine wb_gfi 73 rfl (wy_pr rfl) wt_73 wf_3_16 (v := (K.length : Int)) (h16) (fun r1 => ?_)
  refine wa_aload_n (n := 0) rfl ?_
  refine wb_gfi 73 rfl (wy_pr rfl) wt_73 wf_3_17 (v := (A 73 17)) rfl (fun r2 => ?_)
  refine wa_icmpge (w_rg0 (by omega) (by omega)) (w_rg0 (by omega) (by omega)) ⟨_, rfl⟩ (fun c3 => ?_) (fun c3 => ?_)
  · skip
    refine wa_iload (n := 10) rfl ?_
    refine wa_ireturn rfl ?_
    exact ⟨rfl, by rw [if_neg (by omega)]; exact hkp, fun j i _ _ _ _ => rfl, hI, rmR_rfl _⟩
  · skip
    refine wa_aload_n (n := 0) rfl ?_
    refine wa_iload (n := 8) rfl ?_
    refine wa_lload (n := 5) rfl ?_
    refine wa_iload (n := 10) rfl ?_
    refine wa_cv 73 rfl (wy_pr rfl) wt_73 (M2 := mS [121, 122, 123, 124]) rfl at_XO_keep ⟨_, rfl⟩ rfl rfl ⟨(Or.inr ⟨wy_pr rfl, mS_no rfl⟩), trivial, trivial, trivial, trivial⟩ trivial (fun _ _ q => mS_sub (by decide) q) (kee_73 (S := A) (K := K) hkp hI hask he hv (by omega)) (fun oq4 Sq4 hp5 q4 => ?_)
    rcases q4 with ⟨rfl, hke⟩
    show wJ _ _ _ _ _ _ _ _ _ _
    refine wa_fall ⟨_, rfl⟩ ?_
    refine wa_iload (n := 10) rfl ?_
    refine wa_ireturn rfl ?_
    exact ⟨rfl, by rw [if_pos (by omega)]; exact hke.1, hke.2.1, hke.2.2.1, hke.2.2.2⟩
set_option maxHeartbeats 2000000 in
theorem cho_73 {k am word fs pc ask : Int} {W tl F : List Int} {K : List aKp} (hC : w_CL S) (hK : KC 87 97 93 114 115 74 73 T cs ms os S) (hw : wHo cs ms os) (hI : gI S) (hcd : 64 ≤ S 120 (-1) ∧ S 120 (-1) ≤ 1023) (hkp : kpR 73 121 K S) (h17 : 0 ≤ S 73 17 ∧ S 73 17 ≤ 2000) (h18 : 0 ≤ S 73 18 ∧ S 73 18 ≤ 10000000) (hk : 0 ≤ k ∧ k < (cs.length : Int)) (ham : 0 ≤ am ∧ am ≤ 2) (hwd : wdM 97 T ms S (if am = 2 then 2 else 1) word W) (hwr : -1 ≤ word ∧ word < 1024) (hfs : (fs = 0 ∧ pc = -1) ∨ (fs = 1 ∧ pc = 1)) (htl : tl.length ≤ 8) (hes : esOk tl) (hty : ∀ c ∈ tl, c < 9 + (cs.length : Int)) (hask : ask = askd k am fs (tl.length : Int) word) (hF : F = cdA ms (okM T ms (if am = 2 then 2 else 1) (if am = 1 then 1 else 0) pc W) [] (mOr cs (if am = 2 then [k] else os k))) : wJ (pe_GA xs) wY0 (mS [120, 121, 122, 123, 124]) (d + 5) t_XO_choose ((pe_at t_XO_choose.bl 0).getD (0, [])).2 [(0, (2, 73)), (1, (0, k)), (2, (0, am)), (3, (0, word)), (4, (0, fs)), (5, (1, esV tl)), (7, (0, (tl.length : Int)))] [] S (chQ 73 120 121 cs ms K ask word tl F S) := by
  have h60 := hw.1.1
  have hon := (hw.2.2.1 k hk.1 hk.2).2.2
  have hlr : ∀ o ∈ (if am = 2 then [k] else os k), 0 ≤ o ∧ o < (cs.length : Int) := fun o ho => by
    by_cases c : am = 2
    · rw [if_pos c] at ho; rw [List.mem_singleton.mp ho]; exact hk
    · rw [if_neg c] at ho; exact hon o ho
  have hF5 := cdA_400 (ok := okM T ms (if am = 2 then 2 else 1) (if am = 1 then 1 else 0) pc W) (l := mOr cs (if am = 2 then [k] else os k)) hw (fun x hx => mOr_rg hw hlr hx)
  rw [← hF] at hF5
  have hF4 := hF5.1
  have hFm := hF5.2
  have hear : 0 ≤ esV tl ∧ esV tl < 72057594037927936 := by have z := esV_rg tl hes; have z2 := p7_le (n := tl.length) htl; omega
  have hakr : -2147483648 ≤ ask ∧ ask ≤ 2147483647 := by rw [hask]; unfold askd; omega
  have hl0 : S 123 (-1) = S 121 (-1) := hkp.2.2.2.1.2.1
  have hl5 := hkp.2.2.2.2
  refine wa_iload_n (n := 3) rfl ?_
  refine wa_iconst ?_
  refine wa_icmpne (w_rg0 (by omega) (by omega)) (w_rg0 (by omega) (by omega)) ⟨_, rfl⟩ (fun c1 => ?_) (fun c1 => ?_)
  · skip
    refine wa_iload_n (n := 1) rfl ?_
    refine wa_iconst ?_
    refine wa_imul ?_
    refine wa_iload_n (n := 2) rfl ?_
    refine wa_iadd ?_
    refine wa_iconst ?_
    refine wa_imul ?_
    refine wa_iload (n := 4) rfl ?_
    refine wa_ifeq (w_rg0 (by omega) (by omega)) ⟨_, rfl⟩ (fun c2 => ?_) (fun c2 => ?_)
    · skip
      refine wa_iconst ?_
      refine wa_fall ⟨_, rfl⟩ ?_
      refine wJ_top (show 0 = fs by omega) ?_
      refine wa_iadd ?_
      refine wa_bipush (w_rg2 (by omega) (by omega)) ?_
      refine wa_imul ?_
      refine wa_iload (n := 7) rfl ?_
      refine wa_iadd ?_
      refine wa_sipush (by omega) ?_
      refine wa_imul ?_
      refine wa_iload_n (n := 3) rfl ?_
      refine wa_iadd ?_
      refine wJ_top (show ((((((((k * 4) + am) * 2) + fs) * 16) + (tl.length : Int)) * 1024) + word) = ask by rw [hask]; rfl) ?_
      refine wa_istore (n := 8) rfl ?_
      refine wa_aload_n (n := 0) rfl ?_
      refine wa_iload (n := 8) rfl ?_
      refine wa_lload (n := 5) rfl ?_
      refine wa_cv 73 rfl (wy_pr rfl) wt_73 (M2 := fun _ => False) rfl at_XO_keptAt ⟨_, rfl⟩ rfl rfl ⟨trivial, (Or.inr ⟨wy_pr rfl, fun q => q⟩), trivial, trivial, trivial, trivial, trivial, trivial, trivial⟩ trivial (fun _ _ q => False.elim q) (kat_73 (S := S) (K := K) (a := ask) (e := esV tl) hC hkp hakr ⟨by omega, by omega⟩) (fun oq3 Sq3 hp4 q3 => ?_)
      rcases q3 with ⟨rfl, kq, rfl, hkq⟩
      show wJ _ _ _ _ _ _ _ _ _ _
      have hkb : -1 ≤ kq ∧ kq < 2000 := by omega
      refine wa_istore (n := 9) rfl ?_
      refine wa_iload (n := 9) rfl ?_
      refine wa_iconst ?_
      refine wa_icmpeq (w_rg0 (by omega) (by omega)) (w_rg0 (by omega) (by omega)) ⟨_, rfl⟩ (fun c5 => ?_) (fun c5 => ?_)
      · skip
        have hkn : ∀ i : Int, 0 ≤ i → i < (K.length : Int) → ¬ ((kG K i).1 = ask ∧ (kG K i).2.1 = esV tl) := by rcases hkq with z | z; omega; exact z.2
        refine wa_aload_n (n := 0) rfl ?_
        refine wa_iload_n (n := 1) rfl ?_
        refine wa_iload_n (n := 2) rfl ?_
        refine wa_iload_n (n := 3) rfl ?_
        refine wa_iload (n := 4) rfl ?_
        refine wa_cv 73 rfl (wy_pr rfl) wt_73 (M2 := mS [120]) rfl at_XO_gather ⟨_, rfl⟩ rfl rfl ⟨trivial, trivial, (Or.inr ⟨wy_pr rfl, mS_no rfl⟩), trivial, trivial, trivial, trivial, trivial, trivial, trivial⟩ trivial (fun _ _ q => mS_sub (by decide) q) (gat_73 (S := S) (k := k) (word := word) (am := am) (fs := fs) (pc := pc) (W := W) (F := F) hC hK hw hI hcd hk ham hwd ⟨by omega, by omega⟩ hfs hF hF4) (fun oq6 Sq6 hp7 q6 => ?_)
        rcases q6 with ⟨rfl, hga⟩
        show wJ _ _ _ _ _ _ _ _ _ _
        refine wa_aload_n (n := 0) rfl ?_
        refine wb_gfi 73 rfl (wy_pr rfl) wt_73 wf_3_10 (v := (F.length : Int)) (hga.1) (fun r8 => ?_)
        refine wa_ifne (w_rg0 (by omega) (by omega)) ⟨_, rfl⟩ (fun c9 => ?_) (fun c9 => ?_)
        · skip
          refine wa_aload_n (n := 0) rfl ?_
          refine wa_dup (by decide) ?_
          refine wb_gfi 73 rfl (wy_pr rfl) wt_73 wf_3_18 (v := (S 73 18)) ((hga.2.2.2.1 73 18 (by decide) (by decide) (by decide) (Or.inr (by decide)))) (fun r10 => ?_)
          refine wa_iconst ?_
          refine wa_iadd ?_
          refine wb_pfi 73 rfl (wy_pr rfl) wt_73 wf_3_18 (n := 18) rfl ⟨(by omega), (by omega)⟩ ?_
          refine wa_bipush (w_rg2 (by omega) (by omega)) ?_
          refine wa_istore (n := 10) rfl ?_
          refine wa_iconst ?_
          refine wa_istore (n := 11) rfl ?_
          refine wa_fall ⟨_, rfl⟩ ?_
          obtain ⟨B, hB⟩ : ∃ B : wS, B = (w_up Sq6 73 18 ((S 73 18) + 1)) := ⟨_, rfl⟩
          rw [← hB]
          have fB : ∀ (j : Nat) (i : Int), (j ≠ 73 ∨ i ≠ 18) → B j i = Sq6 j i := fun j i hj => by rw [hB]; exact w_up_no (by omega)
          have e18 : B 73 18 = S 73 18 + 1 := by rw [hB]; exact w_up_same _ _ _ _
          have fS : ∀ (j : Nat) (i : Int), j < 4000000 → j ≠ wG → j ≠ 120 → (j ≠ 73 ∨ (i ≠ 10 ∧ i ≠ 18)) → B j i = S j i := fun j i j0 j1 j2 j3 => (fB j i (by omega)).trans (hga.2.2.2.1 j i j0 j1 j2 (by omega))
          have hCB : w_CL B := by rw [hB]; exact w_CL_up (gaR_C (by first | decide | omega) hC hga) (by first | decide | omega)
          have hIB : gI B := by rw [hB]; exact gI_up hga.2.2.2.2.1 (by first | decide | omega) (by first | decide | omega) (by first | decide | omega)
          have hRB : rmR S B := by rw [hB]; exact rmR_up hga.2.2.2.2.2 (by first | decide | omega) (by first | decide | omega)
          have hKB : KC 87 97 93 114 115 74 73 T cs ms os B := KC_ag hK (fS 73 2 (by first | decide | omega) (by first | decide | omega) (by first | decide | omega) (by first | decide | omega)) (fS 73 4 (by first | decide | omega) (by first | decide | omega) (by first | decide | omega) (by first | decide | omega)) (fun j hj => by funext x; exact fS j x (by omega) (by unfold wG; omega) (by omega) (Or.inl (by omega)))
          have hkB : kpR 73 121 K B := kpR_ag hkp (fS 73 16 (by first | decide | omega) (by first | decide | omega) (by first | decide | omega) (by first | decide | omega)) (fun j i j0 j1 => fS j i (by omega) (by unfold wG; omega) (by omega) (Or.inl (by omega)))
          have h10B : B 73 10 = (F.length : Int) := (fB 73 10 (by first | decide | omega)).trans hga.1
          have hcB : B 120 (-1) = Sq6 120 (-1) := fB 120 (-1) (by first | decide | omega)
          have hcl := hga.2.2.1
          have hF0 : F ≠ [] := fun z => absurd (congrArg List.length z) (by show ¬ F.length = 0; omega)
          have hA0 : fiR 120 F [] B B := ⟨fun j i _ => rfl, fun x hx => absurd hx (Nat.not_lt_zero _), fun x _ hx => (fB 120 _ (by first | decide | omega)).trans (hga.2.1 x hx)⟩
          have hEnd : ∀ (v : Int) (g : List Int) (A : wS), fiR 120 F g B A → sgA cs ms tl F = v → (-9 ≤ v ∧ v ≤ 400) → wJ (pe_GA xs) wY0 (mS [120, 121, 122, 123, 124]) (d + 5) t_XO_choose ((pe_at t_XO_choose.bl 11).getD (0, [])).2 [(0, (2, 73)), (5, (1, esV tl)), (8, (0, ask)), (10, (0, v))] [] A (chQ 73 120 121 cs ms K ask word tl F S) := by
            intro v g A hfi hv hvr
            have hgA := fiR_g (by first | decide | omega) hIB hfi
            have fA : ∀ (j : Nat) (i : Int), (j ≠ 120 ∨ i < 0) → A j i = B j i := hfi.1
            have hkA : kpR 73 121 K A := kpR_ag hkB (fA 73 16 (by first | decide | omega)) (fun j i j0 j1 => fA j i (by omega))
            have h17A : A 73 17 = S 73 17 := (fA 73 17 (by first | decide | omega)).trans (fS 73 17 (by first | decide | omega) (by first | decide | omega) (by first | decide | omega) (by first | decide | omega))
            refine wJ_mono (che_73 (d := d + 1) hkA hgA.1 hakr ⟨by omega, by omega⟩ ⟨by omega, by omega⟩ (by omega)) (fun o Z hz => Or.inr (Or.inr ⟨by omega, hkn, Or.inr ⟨hF0, ?_, ?_, ?_⟩, fun j i j0 j1 j2 j3 j4 => ?_, ?_, hz.2.2.2.1, rmR_tr hRB (rmR_tr hgA.2 hz.2.2.2.2)⟩))
            · rw [hv]; exact hz.1
            · exact (hz.2.2.1 73 18 (by first | decide | omega) (by first | decide | omega) (by first | decide | omega) (by first | decide | omega)).trans ((fA 73 18 (by first | decide | omega)).trans e18)
            · rw [hv, ← h17A]; exact hz.2.1
            · exact (hz.2.2.1 j i j0 j1 j3 (by omega)).trans ((fA j i (Or.inl j2)).trans (fS j i j0 j1 j2 (by omega)))
            · rw [hz.2.2.1 120 (-1) (by first | decide | omega) (by first | decide | omega) (by first | decide | omega) (by first | decide | omega), fA 120 (-1) (by first | decide | omega), hcB]; exact ⟨hcl.1, hcl.2.1⟩
          have hsr : ∀ ph : Int, -9 ≤ sgP cs ms ph tl.length (ftL cs ms ph tl F) ∧ sgP cs ms ph tl.length (ftL cs ms ph tl F) ≤ 400 := fun ph => by
            have h400 := hw.1.2
            rcases sgP_rg (cs := cs) (ms := ms) (ph := ph) (n := tl.length) (ftL cs ms ph tl F) with z | z
            · omega
            · have := (ft_m hw hFm z).1; omega
          refine wJ_S (chs_73 (d := d + 1) (ph := 1) (B := B) hCB hKB hw ⟨by decide, by decide⟩ htl hes hty h10B ⟨by omega, by omega⟩ hF4 hFm (fun e1 A1 hf1 => hEnd _ _ A1 hf1 ?_ (hsr 1)) (fun e1 A1 hf1 => wJ_S (chs_73 (d := d + 1) (ph := 2) (B := B) hCB hKB hw ⟨by decide, by decide⟩ htl hes hty h10B ⟨by omega, by omega⟩ hF4 hFm (fun e2 A2 hf2 => hEnd _ _ A2 hf2 ?_ (hsr 2)) (fun e2 A2 hf2 => wJ_S (chs_73 (d := d + 1) (ph := 3) (B := B) hCB hKB hw ⟨by decide, by decide⟩ htl hes hty h10B ⟨by omega, by omega⟩ hF4 hFm (fun e3 A3 hf3 => hEnd _ _ A3 hf3 ?_ (hsr 3)) (fun e3 A3 hf3 => ?_) A2 hf2) ⟨rfl, rfl, rfl, rfl, rfl, rfl, trivial⟩) A1 hf1) ⟨rfl, rfl, rfl, rfl, rfl, rfl, trivial⟩) B hA0) ⟨rfl, rfl, rfl, rfl, rfl, rfl, trivial⟩
          · unfold sgA; rw [if_pos e1]
          · unfold sgA; rw [if_neg (fun z => z e1), if_pos e2]
          · unfold sgA; rw [if_neg (fun z => z e1), if_neg (fun z => z e2), if_pos e3]
          · skip
            refine wa_iload (n := 11) rfl ?_
            refine wa_iconst ?_
            refine wa_icmpgt (w_rg0 (by omega) (by omega)) (w_rg0 (by omega) (by omega)) ⟨_, rfl⟩ (fun c401 => ?_) (fun c401 => ?_)
            · skip
              exact wJ_S (hEnd (-9) [] A3 hf3 (by unfold sgA; rw [if_neg (fun z => z e1), if_neg (fun z => z e2), if_neg (fun z => z e3)]) (by omega)) ⟨rfl, rfl, rfl, rfl, trivial⟩
            · skip
              exfalso; omega
        · skip
          refine wa_iconst ?_
          refine wa_ireturn rfl ?_
          exact Or.inr (Or.inr ⟨by omega, hkn, Or.inl ⟨List.eq_nil_of_length_eq_zero (by omega), rfl, hga.2.2.2.1 73 18 (by first | decide | omega) (by first | decide | omega) (by first | decide | omega) (by first | decide | omega), kpR_ag hkp (hga.2.2.2.1 73 16 (by first | decide | omega) (by first | decide | omega) (by first | decide | omega) (by first | decide | omega)) (fun j i j0 j1 => hga.2.2.2.1 j i (by omega) (by unfold wG; omega) (by omega) (Or.inl (by omega)))⟩, fun j i j0 j1 j2 j3 j4 => hga.2.2.2.1 j i j0 j1 j2 (by omega), ⟨hga.2.2.1.1, hga.2.2.1.2.1⟩, hga.2.2.2.2.1, hga.2.2.2.2.2⟩)
      · skip
        have hkq1 : 0 ≤ kq ∧ kq < (K.length : Int) ∧ (kG K kq).1 = ask ∧ (kG K kq).2.1 = esV tl := by rcases hkq with z | z; exact z; omega
        have hk3 : S 123 kq = (kG K kq).2.2 := (hkp.2.1 kq hkq1.1 hkq1.2.1).2.2.1
        refine wa_aload_n (n := 0) rfl ?_
        refine wb_gf4 73 rfl (wy_pr rfl) wt_73 wf_3_13 (v := 123) wl_73_13 ?_
        refine wa_iload (n := 9) rfl ?_
        refine wb_iald 123 rfl (wy_pr rfl) wt_123 (n := (S 121 (-1))) (hl0) (by omega) (by omega) (v := (kG K kq).2.2) (hk3) (fun r11 => ?_)
        refine wa_ireturn rfl ?_
        exact Or.inr (Or.inl ⟨by omega, ⟨kq, hkq1.1, hkq1.2.1, hkq1.2.2.1, hkq1.2.2.2, rfl⟩, rfl⟩)
    · skip
      refine wa_iconst ?_
      refine wa_goto ⟨_, rfl⟩ ?_
      refine wJ_top (show 1 = fs by omega) ?_
      refine wa_iadd ?_
      refine wa_bipush (w_rg2 (by omega) (by omega)) ?_
      refine wa_imul ?_
      refine wa_iload (n := 7) rfl ?_
      refine wa_iadd ?_
      refine wa_sipush (by omega) ?_
      refine wa_imul ?_
      refine wa_iload_n (n := 3) rfl ?_
      refine wa_iadd ?_
      refine wJ_top (show ((((((((k * 4) + am) * 2) + fs) * 16) + (tl.length : Int)) * 1024) + word) = ask by rw [hask]; rfl) ?_
      refine wa_istore (n := 8) rfl ?_
      refine wa_aload_n (n := 0) rfl ?_
      refine wa_iload (n := 8) rfl ?_
      refine wa_lload (n := 5) rfl ?_
      refine wa_cv 73 rfl (wy_pr rfl) wt_73 (M2 := fun _ => False) rfl at_XO_keptAt ⟨_, rfl⟩ rfl rfl ⟨trivial, (Or.inr ⟨wy_pr rfl, fun q => q⟩), trivial, trivial, trivial, trivial, trivial, trivial, trivial⟩ trivial (fun _ _ q => False.elim q) (kat_73 (S := S) (K := K) (a := ask) (e := esV tl) hC hkp hakr ⟨by omega, by omega⟩) (fun oq12 Sq12 hp13 q12 => ?_)
      rcases q12 with ⟨rfl, kq, rfl, hkq⟩
      show wJ _ _ _ _ _ _ _ _ _ _
      have hkb : -1 ≤ kq ∧ kq < 2000 := by omega
      refine wa_istore (n := 9) rfl ?_
      refine wa_iload (n := 9) rfl ?_
      refine wa_iconst ?_
      refine wa_icmpeq (w_rg0 (by omega) (by omega)) (w_rg0 (by omega) (by omega)) ⟨_, rfl⟩ (fun c14 => ?_) (fun c14 => ?_)
      · skip
        have hkn : ∀ i : Int, 0 ≤ i → i < (K.length : Int) → ¬ ((kG K i).1 = ask ∧ (kG K i).2.1 = esV tl) := by rcases hkq with z | z; omega; exact z.2
        refine wa_aload_n (n := 0) rfl ?_
        refine wa_iload_n (n := 1) rfl ?_
        refine wa_iload_n (n := 2) rfl ?_
        refine wa_iload_n (n := 3) rfl ?_
        refine wa_iload (n := 4) rfl ?_
        refine wa_cv 73 rfl (wy_pr rfl) wt_73 (M2 := mS [120]) rfl at_XO_gather ⟨_, rfl⟩ rfl rfl ⟨trivial, trivial, (Or.inr ⟨wy_pr rfl, mS_no rfl⟩), trivial, trivial, trivial, trivial, trivial, trivial, trivial⟩ trivial (fun _ _ q => mS_sub (by decide) q) (gat_73 (S := S) (k := k) (word := word) (am := am) (fs := fs) (pc := pc) (W := W) (F := F) hC hK hw hI hcd hk ham hwd ⟨by omega, by omega⟩ hfs hF hF4) (fun oq15 Sq15 hp16 q15 => ?_)
        rcases q15 with ⟨rfl, hga⟩
        show wJ _ _ _ _ _ _ _ _ _ _
        refine wa_aload_n (n := 0) rfl ?_
        refine wb_gfi 73 rfl (wy_pr rfl) wt_73 wf_3_10 (v := (F.length : Int)) (hga.1) (fun r17 => ?_)
        refine wa_ifne (w_rg0 (by omega) (by omega)) ⟨_, rfl⟩ (fun c18 => ?_) (fun c18 => ?_)
        · skip
          refine wa_aload_n (n := 0) rfl ?_
          refine wa_dup (by decide) ?_
          refine wb_gfi 73 rfl (wy_pr rfl) wt_73 wf_3_18 (v := (S 73 18)) ((hga.2.2.2.1 73 18 (by decide) (by decide) (by decide) (Or.inr (by decide)))) (fun r19 => ?_)
          refine wa_iconst ?_
          refine wa_iadd ?_
          refine wb_pfi 73 rfl (wy_pr rfl) wt_73 wf_3_18 (n := 18) rfl ⟨(by omega), (by omega)⟩ ?_
          refine wa_bipush (w_rg2 (by omega) (by omega)) ?_
          refine wa_istore (n := 10) rfl ?_
          refine wa_iconst ?_
          refine wa_istore (n := 11) rfl ?_
          refine wa_fall ⟨_, rfl⟩ ?_
          obtain ⟨B, hB⟩ : ∃ B : wS, B = (w_up Sq15 73 18 ((S 73 18) + 1)) := ⟨_, rfl⟩
          rw [← hB]
          have fB : ∀ (j : Nat) (i : Int), (j ≠ 73 ∨ i ≠ 18) → B j i = Sq15 j i := fun j i hj => by rw [hB]; exact w_up_no (by omega)
          have e18 : B 73 18 = S 73 18 + 1 := by rw [hB]; exact w_up_same _ _ _ _
          have fS : ∀ (j : Nat) (i : Int), j < 4000000 → j ≠ wG → j ≠ 120 → (j ≠ 73 ∨ (i ≠ 10 ∧ i ≠ 18)) → B j i = S j i := fun j i j0 j1 j2 j3 => (fB j i (by omega)).trans (hga.2.2.2.1 j i j0 j1 j2 (by omega))
          have hCB : w_CL B := by rw [hB]; exact w_CL_up (gaR_C (by first | decide | omega) hC hga) (by first | decide | omega)
          have hIB : gI B := by rw [hB]; exact gI_up hga.2.2.2.2.1 (by first | decide | omega) (by first | decide | omega) (by first | decide | omega)
          have hRB : rmR S B := by rw [hB]; exact rmR_up hga.2.2.2.2.2 (by first | decide | omega) (by first | decide | omega)
          have hKB : KC 87 97 93 114 115 74 73 T cs ms os B := KC_ag hK (fS 73 2 (by first | decide | omega) (by first | decide | omega) (by first | decide | omega) (by first | decide | omega)) (fS 73 4 (by first | decide | omega) (by first | decide | omega) (by first | decide | omega) (by first | decide | omega)) (fun j hj => by funext x; exact fS j x (by omega) (by unfold wG; omega) (by omega) (Or.inl (by omega)))
          have hkB : kpR 73 121 K B := kpR_ag hkp (fS 73 16 (by first | decide | omega) (by first | decide | omega) (by first | decide | omega) (by first | decide | omega)) (fun j i j0 j1 => fS j i (by omega) (by unfold wG; omega) (by omega) (Or.inl (by omega)))
          have h10B : B 73 10 = (F.length : Int) := (fB 73 10 (by first | decide | omega)).trans hga.1
          have hcB : B 120 (-1) = Sq15 120 (-1) := fB 120 (-1) (by first | decide | omega)
          have hcl := hga.2.2.1
          have hF0 : F ≠ [] := fun z => absurd (congrArg List.length z) (by show ¬ F.length = 0; omega)
          have hA0 : fiR 120 F [] B B := ⟨fun j i _ => rfl, fun x hx => absurd hx (Nat.not_lt_zero _), fun x _ hx => (fB 120 _ (by first | decide | omega)).trans (hga.2.1 x hx)⟩
          have hEnd : ∀ (v : Int) (g : List Int) (A : wS), fiR 120 F g B A → sgA cs ms tl F = v → (-9 ≤ v ∧ v ≤ 400) → wJ (pe_GA xs) wY0 (mS [120, 121, 122, 123, 124]) (d + 5) t_XO_choose ((pe_at t_XO_choose.bl 11).getD (0, [])).2 [(0, (2, 73)), (5, (1, esV tl)), (8, (0, ask)), (10, (0, v))] [] A (chQ 73 120 121 cs ms K ask word tl F S) := by
            intro v g A hfi hv hvr
            have hgA := fiR_g (by first | decide | omega) hIB hfi
            have fA : ∀ (j : Nat) (i : Int), (j ≠ 120 ∨ i < 0) → A j i = B j i := hfi.1
            have hkA : kpR 73 121 K A := kpR_ag hkB (fA 73 16 (by first | decide | omega)) (fun j i j0 j1 => fA j i (by omega))
            have h17A : A 73 17 = S 73 17 := (fA 73 17 (by first | decide | omega)).trans (fS 73 17 (by first | decide | omega) (by first | decide | omega) (by first | decide | omega) (by first | decide | omega))
            refine wJ_mono (che_73 (d := d + 1) hkA hgA.1 hakr ⟨by omega, by omega⟩ ⟨by omega, by omega⟩ (by omega)) (fun o Z hz => Or.inr (Or.inr ⟨by omega, hkn, Or.inr ⟨hF0, ?_, ?_, ?_⟩, fun j i j0 j1 j2 j3 j4 => ?_, ?_, hz.2.2.2.1, rmR_tr hRB (rmR_tr hgA.2 hz.2.2.2.2)⟩))
            · rw [hv]; exact hz.1
            · exact (hz.2.2.1 73 18 (by first | decide | omega) (by first | decide | omega) (by first | decide | omega) (by first | decide | omega)).trans ((fA 73 18 (by first | decide | omega)).trans e18)
            · rw [hv, ← h17A]; exact hz.2.1
            · exact (hz.2.2.1 j i j0 j1 j3 (by omega)).trans ((fA j i (Or.inl j2)).trans (fS j i j0 j1 j2 (by omega)))
            · rw [hz.2.2.1 120 (-1) (by first | decide | omega) (by first | decide | omega) (by first | decide | omega) (by first | decide | omega), fA 120 (-1) (by first | decide | omega), hcB]; exact ⟨hcl.1, hcl.2.1⟩
          have hsr : ∀ ph : Int, -9 ≤ sgP cs ms ph tl.length (ftL cs ms ph tl F) ∧ sgP cs ms ph tl.length (ftL cs ms ph tl F) ≤ 400 := fun ph => by
            have h400 := hw.1.2
            rcases sgP_rg (cs := cs) (ms := ms) (ph := ph) (n := tl.length) (ftL cs ms ph tl F) with z | z
            · omega
            · have := (ft_m hw hFm z).1; omega
          refine wJ_S (chs_73 (d := d + 1) (ph := 1) (B := B) hCB hKB hw ⟨by decide, by decide⟩ htl hes hty h10B ⟨by omega, by omega⟩ hF4 hFm (fun e1 A1 hf1 => hEnd _ _ A1 hf1 ?_ (hsr 1)) (fun e1 A1 hf1 => wJ_S (chs_73 (d := d + 1) (ph := 2) (B := B) hCB hKB hw ⟨by decide, by decide⟩ htl hes hty h10B ⟨by omega, by omega⟩ hF4 hFm (fun e2 A2 hf2 => hEnd _ _ A2 hf2 ?_ (hsr 2)) (fun e2 A2 hf2 => wJ_S (chs_73 (d := d + 1) (ph := 3) (B := B) hCB hKB hw ⟨by decide, by decide⟩ htl hes hty h10B ⟨by omega, by omega⟩ hF4 hFm (fun e3 A3 hf3 => hEnd _ _ A3 hf3 ?_ (hsr 3)) (fun e3 A3 hf3 => ?_) A2 hf2) ⟨rfl, rfl, rfl, rfl, rfl, rfl, trivial⟩) A1 hf1) ⟨rfl, rfl, rfl, rfl, rfl, rfl, trivial⟩) B hA0) ⟨rfl, rfl, rfl, rfl, rfl, rfl, trivial⟩
          · unfold sgA; rw [if_pos e1]
          · unfold sgA; rw [if_neg (fun z => z e1), if_pos e2]
          · unfold sgA; rw [if_neg (fun z => z e1), if_neg (fun z => z e2), if_pos e3]
          · skip
            refine wa_iload (n := 11) rfl ?_
            refine wa_iconst ?_
            refine wa_icmpgt (w_rg0 (by omega) (by omega)) (w_rg0 (by omega) (by omega)) ⟨_, rfl⟩ (fun c401 => ?_) (fun c401 => ?_)
            · skip
              exact wJ_S (hEnd (-9) [] A3 hf3 (by unfold sgA; rw [if_neg (fun z => z e1), if_neg (fun z => z e2), if_neg (fun z => z e3)]) (by omega)) ⟨rfl, rfl, rfl, rfl, trivial⟩
            · skip
              exfalso; omega
        · skip
          refine wa_iconst ?_
          refine wa_ireturn rfl ?_
          exact Or.inr (Or.inr ⟨by omega, hkn, Or.inl ⟨List.eq_nil_of_length_eq_zero (by omega), rfl, hga.2.2.2.1 73 18 (by first | decide | omega) (by first | decide | omega) (by first | decide | omega) (by first | decide | omega), kpR_ag hkp (hga.2.2.2.1 73 16 (by first | decide | omega) (by first | decide | omega) (by first | decide | omega) (by first | decide | omega)) (fun j i j0 j1 => hga.2.2.2.1 j i (by omega) (by unfold wG; omega) (by omega) (Or.inl (by omega)))⟩, fun j i j0 j1 j2 j3 j4 => hga.2.2.2.1 j i j0 j1 j2 (by omega), ⟨hga.2.2.1.1, hga.2.2.1.2.1⟩, hga.2.2.2.2.1, hga.2.2.2.2.2⟩)
      · skip
        have hkq1 : 0 ≤ kq ∧ kq < (K.length : Int) ∧ (kG K kq).1 = ask ∧ (kG K kq).2.1 = esV tl := by rcases hkq with z | z; exact z; omega
        have hk3 : S 123 kq = (kG K kq).2.2 := (hkp.2.1 kq hkq1.1 hkq1.2.1).2.2.1
        refine wa_aload_n (n := 0) rfl ?_
        refine wb_gf4 73 rfl (wy_pr rfl) wt_73 wf_3_13 (v := 123) wl_73_13 ?_
        refine wa_iload (n := 9) rfl ?_
        refine wb_iald 123 rfl (wy_pr rfl) wt_123 (n := (S 121 (-1))) (hl0) (by omega) (by omega) (v := (kG K kq).2.2) (hk3) (fun r20 => ?_)
        refine wa_ireturn rfl ?_
        exact Or.inr (Or.inl ⟨by omega, ⟨kq, hkq1.1, hkq1.2.1, hkq1.2.2.1, hkq1.2.2.2, rfl⟩, rfl⟩)
  · skip
    refine wa_iconst ?_
    refine wa_ireturn rfl ?_
    exact Or.inl ⟨by omega, rfl, rfl⟩
theorem fiK_162 {F g : List Int} {B : wS} (hK : KC 176 186 182 203 204 163 162 T cs ms os B) (h : fiR 209 F g B A) : KC 176 186 182 203 204 163 162 T cs ms os A := by
  refine KC_ag hK (h.1 162 2 (Or.inl (by first | decide | omega))) (h.1 162 4 (Or.inl (by first | decide | omega))) (fun j hj => ?_)
  funext x
  exact h.1 j x (Or.inl (by omega))
theorem chf_162 {ph ask : Int} {tl F : List Int} {B : wS} (hC : w_CL B) (hK : KC 176 186 182 203 204 163 162 T cs ms os B) (hw : wHo cs ms os) (hph : 1 ≤ ph ∧ ph ≤ 3) (htl : tl.length ≤ 8) (hes : esOk tl) (hty : ∀ c ∈ tl, c < 9 + (cs.length : Int)) (h10 : B 162 10 = (F.length : Int)) (hcd : (F.length : Int) ≤ B 209 (-1) ∧ B 209 (-1) ≤ 1023) (hF4 : F.length ≤ 400) (hFm : ∀ x ∈ F, 0 ≤ x ∧ x < (ms.length : Int)) (hnx : ∀ A : wS, fiR 209 F (ftL cs ms ph tl F) B A → wJ (pe_GA xs) wY0 (mS [209, 210, 211, 212, 213]) (d + 4) t_XO_choose ((pe_at t_XO_choose.bl 9).getD (0, [])).2 [(0, (2, 162)), (5, (1, esV tl)), (7, (0, (tl.length : Int))), (8, (0, ask)), (10, (0, (-9))), (11, (0, ph)), (12, (0, ((ftL cs ms ph tl F).length : Int)))] [] A Q) : ∀ (n i : Nat) (g : List Int) (A : wS), i + n = F.length → g = (F.take i).filter (ftA cs ms ph tl) → fiR 209 F g B A → wJ (pe_GA xs) wY0 (mS [209, 210, 211, 212, 213]) (d + 4) t_XO_choose ((pe_at t_XO_choose.bl 7).getD (0, [])).2 [(0, (2, 162)), (5, (1, esV tl)), (7, (0, (tl.length : Int))), (8, (0, ask)), (10, (0, (-9))), (11, (0, ph)), (12, (0, (g.length : Int))), (13, (0, (i : Int)))] [] A Q := by
  intro n
  induction n with
  | zero =>
    intro i g A hin hg hfi
    have e10 : A 162 10 = (F.length : Int) := (hfi.1 162 10 (Or.inl (by first | decide | omega))).trans h10
    have hgF : g = ftL cs ms ph tl F := by rw [hg, List.take_of_length_le (by omega)]; rfl
    refine wa_iload (n := 13) rfl ?_
    refine wa_aload_n (n := 0) rfl ?_
    refine wb_gfi 162 rfl (wy_pr rfl) wt_162 wf_3_10 (v := (F.length : Int)) (e10) (fun r1 => ?_)
    refine wa_icmpge (w_rg0 (by omega) (by omega)) (w_rg0 (by omega) (by omega)) ⟨_, rfl⟩ (fun c2 => ?_) (fun c2 => ?_)
    · skip
      rw [hgF] at hfi ⊢; exact wJ_S (hnx A hfi) ⟨rfl, rfl, rfl, rfl, rfl, rfl, rfl, trivial⟩
    · skip
      exfalso; omega
  | succ n ih =>
    intro i g A hin hg hfi
    have e10 : A 162 10 = (F.length : Int) := (hfi.1 162 10 (Or.inl (by first | decide | omega))).trans h10
    have ecd : A 209 (-1) = B 209 (-1) := hfi.1 209 (-1) (Or.inr (by first | decide | omega))
    have hil : i < F.length := by omega
    have hgl : g.length ≤ i := by have z := List.length_filter_le (ftA cs ms ph tl) (F.take i); rw [← hg, List.length_take] at z; omega
    have hAi : A 209 (i : Int) = F.getD i 0 := hfi.2.2 i hgl hil
    have hmem : F.getD i 0 ∈ F := by rw [List.getD_eq_getElem?_getD, List.getElem?_eq_getElem hil]; exact List.getElem_mem hil
    have hmr := hFm _ hmem
    have h400 := hw.1.2
    have hfs := flt_s (pb := ftA cs ms ph tl) hil
    rw [← hg] at hfs
    refine wa_iload (n := 13) rfl ?_
    refine wa_aload_n (n := 0) rfl ?_
    refine wb_gfi 162 rfl (wy_pr rfl) wt_162 wf_3_10 (v := (F.length : Int)) (e10) (fun r51 => ?_)
    refine wa_icmpge (w_rg0 (by omega) (by omega)) (w_rg0 (by omega) (by omega)) ⟨_, rfl⟩ (fun c52 => ?_) (fun c52 => ?_)
    · skip
      exfalso; omega
    · skip
      refine wa_aload_n (n := 0) rfl ?_
      refine wa_aload_n (n := 0) rfl ?_
      refine wb_gf4 162 rfl (wy_pr rfl) wt_162 wf_3_9 (v := 209) wl_162_9 ?_
      refine wa_iload (n := 13) rfl ?_
      refine wb_iald 209 rfl (wy_pr rfl) wt_209 (n := (B 209 (-1))) (ecd) (by omega) (by omega) (v := (F.getD i 0)) (hAi) (fun r53 => ?_)
      refine wa_iload (n := 11) rfl ?_
      refine wa_lload (n := 5) rfl ?_
      refine wa_iload (n := 7) rfl ?_
      refine wa_cv 162 rfl (wy_pr rfl) wt_162 (M2 := fun _ => False) rfl at_XO_fits ⟨_, rfl⟩ rfl rfl ⟨(Or.inr ⟨wy_pr rfl, fun q => q⟩), trivial, trivial, trivial, trivial, trivial, trivial, trivial, trivial⟩ trivial (fun _ _ q => False.elim q) (fit_162 (S := A) (m := F.getD i 0) (ph := ph) (tl := tl) (fiR_C hC hfi) (fiK_162 hK hfi) hw hmr hph htl hes hty) (fun oq54 Sq54 hp55 q54 => ?_)
      rcases q54 with ⟨rfl, rfl⟩
      show wJ _ _ _ _ _ _ _ _ _ _
      have hbr := bI_rg (ftA cs ms ph tl (F.getD i 0))
      refine wa_ifeq (w_rg0 (by omega) (by omega)) ⟨_, rfl⟩ (fun c56 => ?_) (fun c56 => ?_)
      · skip
        refine wa_iinc rfl rfl ?_
        refine wa_goto ⟨_, rfl⟩ ?_
        rw [if_neg (by rw [bI_0 (b := ftA cs ms ph tl (F.getD i 0)) (by omega)]; decide)] at hfs
        exact wJ_S (ih (i + 1) g A (by omega) hfs.symm hfi) ⟨rfl, rfl, rfl, rfl, rfl, rfl, rfl, rfl, trivial⟩
      · skip
        refine wa_aload_n (n := 0) rfl ?_
        refine wb_gf4 162 rfl (wy_pr rfl) wt_162 wf_3_9 (v := 209) wl_162_9 ?_
        refine wa_iload (n := 12) rfl ?_
        refine wa_aload_n (n := 0) rfl ?_
        refine wb_gf4 162 rfl (wy_pr rfl) wt_162 wf_3_9 (v := 209) wl_162_9 ?_
        refine wa_iload (n := 13) rfl ?_
        refine wb_iald 209 rfl (wy_pr rfl) wt_209 (n := (B 209 (-1))) (ecd) (by omega) (by omega) (v := (F.getD i 0)) (hAi) (fun r57 => ?_)
        refine wb_iast 209 rfl (wy_pr rfl) wt_209 (n := (B 209 (-1))) (ecd) (by omega) (by omega) ⟨(by omega), (by omega)⟩ ?_
        refine wa_iinc rfl rfl ?_
        refine wa_fall ⟨_, rfl⟩ ?_
        refine wa_iinc rfl rfl ?_
        refine wa_goto ⟨_, rfl⟩ ?_
        rw [if_pos (bI_1 (b := ftA cs ms ph tl (F.getD i 0)) (by omega))] at hfs
        have hn1 : ((g ++ [F.getD i 0]).length : Int) = (g.length : Int) + 1 := by rw [List.length_append, List.length_singleton]; omega
        have hih := ih (i + 1) (g ++ [F.getD i 0]) _ (by omega) hfs.symm (fiR_n (m := F.getD i 0) hfi hgl hil)
        rw [hn1] at hih
        exact wJ_S hih ⟨rfl, rfl, rfl, rfl, rfl, rfl, rfl, rfl, trivial⟩
theorem chs_162 {ph ask : Int} {tl F : List Int} {B : wS} (hC : w_CL B) (hK : KC 176 186 182 203 204 163 162 T cs ms os B) (hw : wHo cs ms os) (hph : 1 ≤ ph ∧ ph ≤ 3) (htl : tl.length ≤ 8) (hes : esOk tl) (hty : ∀ c ∈ tl, c < 9 + (cs.length : Int)) (h10 : B 162 10 = (F.length : Int)) (hcd : (F.length : Int) ≤ B 209 (-1) ∧ B 209 (-1) ≤ 1023) (hF4 : F.length ≤ 400) (hFm : ∀ x ∈ F, 0 ≤ x ∧ x < (ms.length : Int)) (h1 : ftL cs ms ph tl F ≠ [] → ∀ A : wS, fiR 209 F (ftL cs ms ph tl F) B A → wJ (pe_GA xs) wY0 (mS [209, 210, 211, 212, 213]) (d + 4) t_XO_choose ((pe_at t_XO_choose.bl 11).getD (0, [])).2 [(0, (2, 162)), (5, (1, esV tl)), (8, (0, ask)), (10, (0, sgP cs ms ph tl.length (ftL cs ms ph tl F)))] [] A Q) (h2 : ftL cs ms ph tl F = [] → ∀ A : wS, fiR 209 F [] B A → wJ (pe_GA xs) wY0 (mS [209, 210, 211, 212, 213]) (d + 4) t_XO_choose ((pe_at t_XO_choose.bl 6).getD (0, [])).2 [(0, (2, 162)), (5, (1, esV tl)), (7, (0, (tl.length : Int))), (8, (0, ask)), (10, (0, (-9))), (11, (0, ph + 1))] [] A Q) (A0 : wS) (hA0 : fiR 209 F [] B A0) : wJ (pe_GA xs) wY0 (mS [209, 210, 211, 212, 213]) (d + 4) t_XO_choose ((pe_at t_XO_choose.bl 6).getD (0, [])).2 [(0, (2, 162)), (5, (1, esV tl)), (7, (0, (tl.length : Int))), (8, (0, ask)), (10, (0, (-9))), (11, (0, ph))] [] A0 Q := by
  refine wa_iload (n := 11) rfl ?_
  refine wa_iconst ?_
  refine wa_icmpgt (w_rg0 (by omega) (by omega)) (w_rg0 (by omega) (by omega)) ⟨_, rfl⟩ (fun c1 => ?_) (fun c1 => ?_)
  · skip
    exfalso; omega
  · skip
    refine wa_iload (n := 10) rfl ?_
    refine wa_bipush (w_rg2 (by omega) (by omega)) ?_
    refine wa_icmpne (w_rg0 (by omega) (by omega)) (w_rg0 (by omega) (by omega)) ⟨_, rfl⟩ (fun c2 => ?_) (fun c2 => ?_)
    · skip
      exact absurd c2 (by omega)
    · skip
      refine wa_iconst ?_
      refine wa_istore (n := 12) rfl ?_
      refine wa_iconst ?_
      refine wa_istore (n := 13) rfl ?_
      refine wa_fall ⟨_, rfl⟩ ?_
      refine wJ_S (chf_162 (B := B) hC hK hw hph htl hes hty h10 hcd hF4 hFm (fun A hfi => ?_) F.length 0 [] A0 (by omega) rfl hA0) ⟨rfl, rfl, rfl, rfl, rfl, rfl, rfl, rfl, trivial⟩
      have hfl : (ftL cs ms ph tl F).length ≤ F.length := List.length_filter_le _ _
      have ecd : A 209 (-1) = B 209 (-1) := hfi.1 209 (-1) (Or.inr (by first | decide | omega))
      have hsr := sgP_rg (cs := cs) (ms := ms) (ph := ph) (n := tl.length) (ftL cs ms ph tl F)
      have h400 := hw.1.2
      have hsr2 : -8 ≤ sgP cs ms ph tl.length (ftL cs ms ph tl F) ∧ sgP cs ms ph tl.length (ftL cs ms ph tl F) ≤ 400 := by
        rcases hsr with z | z
        · omega
        · have := (ft_m hw hFm z).1; omega
      refine wa_iload (n := 12) rfl ?_
      refine wa_ifle (w_rg0 (by omega) (by omega)) ⟨_, rfl⟩ (fun c201 => ?_) (fun c201 => ?_)
      · skip
        refine wa_iinc rfl rfl ?_
        refine wa_goto ⟨_, rfl⟩ ?_
        have he : ftL cs ms ph tl F = [] := List.eq_nil_of_length_eq_zero (by omega)
        rw [he] at hfi
        exact wJ_S (h2 he A hfi) ⟨rfl, rfl, rfl, rfl, rfl, rfl, trivial⟩
      · skip
        refine wa_aload_n (n := 0) rfl ?_
        refine wa_iload (n := 12) rfl ?_
        refine wa_iload (n := 11) rfl ?_
        refine wa_cv 162 rfl (wy_pr rfl) wt_162 (M2 := fun _ => False) rfl at_XO_mostSpecific ⟨_, rfl⟩ rfl rfl ⟨(Or.inr ⟨wy_pr rfl, fun q => q⟩), trivial, trivial, trivial, trivial, trivial, trivial, trivial⟩ trivial (fun _ _ q => False.elim q) (mos_162 (S := A) (n := tl.length) (f := ftL cs ms ph tl F) (fiR_C hC hfi) (fiK_162 hK hfi) hw hph ⟨by omega, by omega, by omega⟩ hfi.2.1 (fun x hx => ft_m hw hFm hx)) (fun oq202 Sq202 hp203 q202 => ?_)
        rcases q202 with ⟨rfl, rfl⟩
        show wJ _ _ _ _ _ _ _ _ _ _
        refine wa_istore (n := 10) rfl ?_
        refine wa_fall ⟨_, rfl⟩ ?_
        refine wa_iinc rfl rfl ?_
        refine wa_goto ⟨_, rfl⟩ ?_
        refine wa_iload (n := 11) rfl ?_
        refine wa_iconst ?_
        refine wa_icmpgt (w_rg0 (by omega) (by omega)) (w_rg0 (by omega) (by omega)) ⟨_, rfl⟩ (fun c204 => ?_) (fun c204 => ?_)
        · skip
          exact wJ_S (h1 (fun z => absurd (congrArg List.length z) (by show ¬ (ftL cs ms ph tl F).length = 0; omega)) A hfi) ⟨rfl, rfl, rfl, rfl, trivial⟩
        · skip
          refine wa_iload (n := 10) rfl ?_
          refine wa_bipush (w_rg2 (by omega) (by omega)) ?_
          refine wa_icmpne (w_rg0 (by omega) (by omega)) (w_rg0 (by omega) (by omega)) ⟨_, rfl⟩ (fun c205 => ?_) (fun c205 => ?_)
          · skip
            exact wJ_S (h1 (fun z => absurd (congrArg List.length z) (by show ¬ (ftL cs ms ph tl F).length = 0; omega)) A hfi) ⟨rfl, rfl, rfl, rfl, trivial⟩
          · skip
            exfalso; omega
theorem che_162 {ask v : Int} {tl : List Int} {K : List aKp} (hkp : kpR 162 210 K A) (hI : gI A) (hask : -2147483648 ≤ ask ∧ ask ≤ 2147483647) (hv : -2147483648 ≤ v ∧ v ≤ 2147483647) (he : -9223372036854775808 ≤ esV tl ∧ esV tl ≤ 9223372036854775807) (h17 : A 162 17 ≤ 2000) : wJ (pe_GA xs) wY0 (mS [209, 210, 211, 212, 213]) (d + 4) t_XO_choose ((pe_at t_XO_choose.bl 11).getD (0, [])).2 [(0, (2, 162)), (5, (1, esV tl)), (8, (0, ask)), (10, (0, v))] [] A (fun o Z => o = .inl (some (0, v)) ∧ kpR 162 210 (if (K.length : Int) < A 162 17 then K ++ [(ask, esV tl, v)] else K) Z ∧ (∀ (j : Nat) (i : Int), j < 4000000 → j ≠ wG → (j < 210 ∨ 214 < j) → (j ≠ 162 ∨ i ≠ 16) → Z j i = A j i) ∧ gI Z ∧ rmR A Z) := by
  have h16 : A 162 16 = (K.length : Int) := hkp.1
  have hl5 := hkp.2.2.2.2
  refine wa_aload_n (n := 0) rfl ?_
  refine wb_gfi 162 rfl (wy_pr rfl) wt_162 wf_3_16 (v := (K.length : Int)) (h16) (fun r1 => ?_)
  refine wa_aload_n (n := 0) rfl ?_
  refine wb_gfi 162 rfl (wy_pr rfl) wt_162 wf_3_17 (v := (A 162 17)) rfl (fun r2 => ?_)
  refine wa_icmpge (w_rg0 (by omega) (by omega)) (w_rg0 (by omega) (by omega)) ⟨_, rfl⟩ (fun c3 => ?_) (fun c3 => ?_)
  · skip
    refine wa_iload (n := 10) rfl ?_
    refine wa_ireturn rfl ?_
    exact ⟨rfl, by rw [if_neg (by omega)]; exact hkp, fun j i _ _ _ _ => rfl, hI, rmR_rfl _⟩
  · skip
    refine wa_aload_n (n := 0) rfl ?_
    refine wa_iload (n := 8) rfl ?_
    refine wa_lload (n := 5) rfl ?_
    refine wa_iload (n := 10) rfl ?_
    refine wa_cv 162 rfl (wy_pr rfl) wt_162 (M2 := mS [210, 211, 212, 213]) rfl at_XO_keep ⟨_, rfl⟩ rfl rfl ⟨(Or.inr ⟨wy_pr rfl, mS_no rfl⟩), trivial, trivial, trivial, trivial⟩ trivial (fun _ _ q => mS_sub (by decide) q) (kee_162 (S := A) (K := K) hkp hI hask he hv (by omega)) (fun oq4 Sq4 hp5 q4 => ?_)
    rcases q4 with ⟨rfl, hke⟩
    show wJ _ _ _ _ _ _ _ _ _ _
    refine wa_fall ⟨_, rfl⟩ ?_
    refine wa_iload (n := 10) rfl ?_
    refine wa_ireturn rfl ?_
    exact ⟨rfl, by rw [if_pos (by omega)]; exact hke.1, hke.2.1, hke.2.2.1, hke.2.2.2⟩
set_option maxHeartbeats 2000000 in
theorem cho_162 {k am word fs pc ask : Int} {W tl F : List Int} {K : List aKp} (hC : w_CL S) (hK : KC 176 186 182 203 204 163 162 T cs ms os S) (hw : wHo cs ms os) (hI : gI S) (hcd : 64 ≤ S 209 (-1) ∧ S 209 (-1) ≤ 1023) (hkp : kpR 162 210 K S) (h17 : 0 ≤ S 162 17 ∧ S 162 17 ≤ 2000) (h18 : 0 ≤ S 162 18 ∧ S 162 18 ≤ 10000000) (hk : 0 ≤ k ∧ k < (cs.length : Int)) (ham : 0 ≤ am ∧ am ≤ 2) (hwd : wdM 186 T ms S (if am = 2 then 2 else 1) word W) (hwr : -1 ≤ word ∧ word < 1024) (hfs : (fs = 0 ∧ pc = -1) ∨ (fs = 1 ∧ pc = 1)) (htl : tl.length ≤ 8) (hes : esOk tl) (hty : ∀ c ∈ tl, c < 9 + (cs.length : Int)) (hask : ask = askd k am fs (tl.length : Int) word) (hF : F = cdA ms (okM T ms (if am = 2 then 2 else 1) (if am = 1 then 1 else 0) pc W) [] (mOr cs (if am = 2 then [k] else os k))) : wJ (pe_GA xs) wY0 (mS [209, 210, 211, 212, 213]) (d + 5) t_XO_choose ((pe_at t_XO_choose.bl 0).getD (0, [])).2 [(0, (2, 162)), (1, (0, k)), (2, (0, am)), (3, (0, word)), (4, (0, fs)), (5, (1, esV tl)), (7, (0, (tl.length : Int)))] [] S (chQ 162 209 210 cs ms K ask word tl F S) := by
  have h60 := hw.1.1
  have hon := (hw.2.2.1 k hk.1 hk.2).2.2
  have hlr : ∀ o ∈ (if am = 2 then [k] else os k), 0 ≤ o ∧ o < (cs.length : Int) := fun o ho => by
    by_cases c : am = 2
    · rw [if_pos c] at ho; rw [List.mem_singleton.mp ho]; exact hk
    · rw [if_neg c] at ho; exact hon o ho
  have hF5 := cdA_400 (ok := okM T ms (if am = 2 then 2 else 1) (if am = 1 then 1 else 0) pc W) (l := mOr cs (if am = 2 then [k] else os k)) hw (fun x hx => mOr_rg hw hlr hx)
  rw [← hF] at hF5
  have hF4 := hF5.1
  have hFm := hF5.2
  have hear : 0 ≤ esV tl ∧ esV tl < 72057594037927936 := by have z := esV_rg tl hes; have z2 := p7_le (n := tl.length) htl; omega
  have hakr : -2147483648 ≤ ask ∧ ask ≤ 2147483647 := by rw [hask]; unfold askd; omega
  have hl0 : S 212 (-1) = S 210 (-1) := hkp.2.2.2.1.2.1
  have hl5 := hkp.2.2.2.2
  refine wa_iload_n (n := 3) rfl ?_
  refine wa_iconst ?_
  refine wa_icmpne (w_rg0 (by omega) (by omega)) (w_rg0 (by omega) (by omega)) ⟨_, rfl⟩ (fun c1 => ?_) (fun c1 => ?_)
  · skip
    refine wa_iload_n (n := 1) rfl ?_
    refine wa_iconst ?_
    refine wa_imul ?_
    refine wa_iload_n (n := 2) rfl ?_
    refine wa_iadd ?_
    refine wa_iconst ?_
    refine wa_imul ?_
    refine wa_iload (n := 4) rfl ?_
    refine wa_ifeq (w_rg0 (by omega) (by omega)) ⟨_, rfl⟩ (fun c2 => ?_) (fun c2 => ?_)
    · skip
      refine wa_iconst ?_
      refine wa_fall ⟨_, rfl⟩ ?_
      refine wJ_top (show 0 = fs by omega) ?_
      refine wa_iadd ?_
      refine wa_bipush (w_rg2 (by omega) (by omega)) ?_
      refine wa_imul ?_
      refine wa_iload (n := 7) rfl ?_
      refine wa_iadd ?_
      refine wa_sipush (by omega) ?_
      refine wa_imul ?_
      refine wa_iload_n (n := 3) rfl ?_
      refine wa_iadd ?_
      refine wJ_top (show ((((((((k * 4) + am) * 2) + fs) * 16) + (tl.length : Int)) * 1024) + word) = ask by rw [hask]; rfl) ?_
      refine wa_istore (n := 8) rfl ?_
      refine wa_aload_n (n := 0) rfl ?_
      refine wa_iload (n := 8) rfl ?_
      refine wa_lload (n := 5) rfl ?_
      refine wa_cv 162 rfl (wy_pr rfl) wt_162 (M2 := fun _ => False) rfl at_XO_keptAt ⟨_, rfl⟩ rfl rfl ⟨trivial, (Or.inr ⟨wy_pr rfl, fun q => q⟩), trivial, trivial, trivial, trivial, trivial, trivial, trivial⟩ trivial (fun _ _ q => False.elim q) (kat_162 (S := S) (K := K) (a := ask) (e := esV tl) hC hkp hakr ⟨by omega, by omega⟩) (fun oq3 Sq3 hp4 q3 => ?_)
      rcases q3 with ⟨rfl, kq, rfl, hkq⟩
      show wJ _ _ _ _ _ _ _ _ _ _
      have hkb : -1 ≤ kq ∧ kq < 2000 := by omega
      refine wa_istore (n := 9) rfl ?_
      refine wa_iload (n := 9) rfl ?_
      refine wa_iconst ?_
      refine wa_icmpeq (w_rg0 (by omega) (by omega)) (w_rg0 (by omega) (by omega)) ⟨_, rfl⟩ (fun c5 => ?_) (fun c5 => ?_)
      · skip
        have hkn : ∀ i : Int, 0 ≤ i → i < (K.length : Int) → ¬ ((kG K i).1 = ask ∧ (kG K i).2.1 = esV tl) := by rcases hkq with z | z; omega; exact z.2
        refine wa_aload_n (n := 0) rfl ?_
        refine wa_iload_n (n := 1) rfl ?_
        refine wa_iload_n (n := 2) rfl ?_
        refine wa_iload_n (n := 3) rfl ?_
        refine wa_iload (n := 4) rfl ?_
        refine wa_cv 162 rfl (wy_pr rfl) wt_162 (M2 := mS [209]) rfl at_XO_gather ⟨_, rfl⟩ rfl rfl ⟨trivial, trivial, (Or.inr ⟨wy_pr rfl, mS_no rfl⟩), trivial, trivial, trivial, trivial, trivial, trivial, trivial⟩ trivial (fun _ _ q => mS_sub (by decide) q) (gat_162 (S := S) (k := k) (word := word) (am := am) (fs := fs) (pc := pc) (W := W) (F := F) hC hK hw hI hcd hk ham hwd ⟨by omega, by omega⟩ hfs hF hF4) (fun oq6 Sq6 hp7 q6 => ?_)
        rcases q6 with ⟨rfl, hga⟩
        show wJ _ _ _ _ _ _ _ _ _ _
        refine wa_aload_n (n := 0) rfl ?_
        refine wb_gfi 162 rfl (wy_pr rfl) wt_162 wf_3_10 (v := (F.length : Int)) (hga.1) (fun r8 => ?_)
        refine wa_ifne (w_rg0 (by omega) (by omega)) ⟨_, rfl⟩ (fun c9 => ?_) (fun c9 => ?_)
        · skip
          refine wa_aload_n (n := 0) rfl ?_
          refine wa_dup (by decide) ?_
          refine wb_gfi 162 rfl (wy_pr rfl) wt_162 wf_3_18 (v := (S 162 18)) ((hga.2.2.2.1 162 18 (by decide) (by decide) (by decide) (Or.inr (by decide)))) (fun r10 => ?_)
          refine wa_iconst ?_
          refine wa_iadd ?_
          refine wb_pfi 162 rfl (wy_pr rfl) wt_162 wf_3_18 (n := 18) rfl ⟨(by omega), (by omega)⟩ ?_
          refine wa_bipush (w_rg2 (by omega) (by omega)) ?_
          refine wa_istore (n := 10) rfl ?_
          refine wa_iconst ?_
          refine wa_istore (n := 11) rfl ?_
          refine wa_fall ⟨_, rfl⟩ ?_
          obtain ⟨B, hB⟩ : ∃ B : wS, B = (w_up Sq6 162 18 ((S 162 18) + 1)) := ⟨_, rfl⟩
          rw [← hB]
          have fB : ∀ (j : Nat) (i : Int), (j ≠ 162 ∨ i ≠ 18) → B j i = Sq6 j i := fun j i hj => by rw [hB]; exact w_up_no (by omega)
          have e18 : B 162 18 = S 162 18 + 1 := by rw [hB]; exact w_up_same _ _ _ _
          have fS : ∀ (j : Nat) (i : Int), j < 4000000 → j ≠ wG → j ≠ 209 → (j ≠ 162 ∨ (i ≠ 10 ∧ i ≠ 18)) → B j i = S j i := fun j i j0 j1 j2 j3 => (fB j i (by omega)).trans (hga.2.2.2.1 j i j0 j1 j2 (by omega))
          have hCB : w_CL B := by rw [hB]; exact w_CL_up (gaR_C (by first | decide | omega) hC hga) (by first | decide | omega)
          have hIB : gI B := by rw [hB]; exact gI_up hga.2.2.2.2.1 (by first | decide | omega) (by first | decide | omega) (by first | decide | omega)
          have hRB : rmR S B := by rw [hB]; exact rmR_up hga.2.2.2.2.2 (by first | decide | omega) (by first | decide | omega)
          have hKB : KC 176 186 182 203 204 163 162 T cs ms os B := KC_ag hK (fS 162 2 (by first | decide | omega) (by first | decide | omega) (by first | decide | omega) (by first | decide | omega)) (fS 162 4 (by first | decide | omega) (by first | decide | omega) (by first | decide | omega) (by first | decide | omega)) (fun j hj => by funext x; exact fS j x (by omega) (by unfold wG; omega) (by omega) (Or.inl (by omega)))
          have hkB : kpR 162 210 K B := kpR_ag hkp (fS 162 16 (by first | decide | omega) (by first | decide | omega) (by first | decide | omega) (by first | decide | omega)) (fun j i j0 j1 => fS j i (by omega) (by unfold wG; omega) (by omega) (Or.inl (by omega)))
          have h10B : B 162 10 = (F.length : Int) := (fB 162 10 (by first | decide | omega)).trans hga.1
          have hcB : B 209 (-1) = Sq6 209 (-1) := fB 209 (-1) (by first | decide | omega)
          have hcl := hga.2.2.1
          have hF0 : F ≠ [] := fun z => absurd (congrArg List.length z) (by show ¬ F.length = 0; omega)
          have hA0 : fiR 209 F [] B B := ⟨fun j i _ => rfl, fun x hx => absurd hx (Nat.not_lt_zero _), fun x _ hx => (fB 209 _ (by first | decide | omega)).trans (hga.2.1 x hx)⟩
          have hEnd : ∀ (v : Int) (g : List Int) (A : wS), fiR 209 F g B A → sgA cs ms tl F = v → (-9 ≤ v ∧ v ≤ 400) → wJ (pe_GA xs) wY0 (mS [209, 210, 211, 212, 213]) (d + 5) t_XO_choose ((pe_at t_XO_choose.bl 11).getD (0, [])).2 [(0, (2, 162)), (5, (1, esV tl)), (8, (0, ask)), (10, (0, v))] [] A (chQ 162 209 210 cs ms K ask word tl F S) := by
            intro v g A hfi hv hvr
            have hgA := fiR_g (by first | decide | omega) hIB hfi
            have fA : ∀ (j : Nat) (i : Int), (j ≠ 209 ∨ i < 0) → A j i = B j i := hfi.1
            have hkA : kpR 162 210 K A := kpR_ag hkB (fA 162 16 (by first | decide | omega)) (fun j i j0 j1 => fA j i (by omega))
            have h17A : A 162 17 = S 162 17 := (fA 162 17 (by first | decide | omega)).trans (fS 162 17 (by first | decide | omega) (by first | decide | omega) (by first | decide | omega) (by first | decide | omega))
            refine wJ_mono (che_162 (d := d + 1) hkA hgA.1 hakr ⟨by omega, by omega⟩ ⟨by omega, by omega⟩ (by omega)) (fun o Z hz => Or.inr (Or.inr ⟨by omega, hkn, Or.inr ⟨hF0, ?_, ?_, ?_⟩, fun j i j0 j1 j2 j3 j4 => ?_, ?_, hz.2.2.2.1, rmR_tr hRB (rmR_tr hgA.2 hz.2.2.2.2)⟩))
            · rw [hv]; exact hz.1
            · exact (hz.2.2.1 162 18 (by first | decide | omega) (by first | decide | omega) (by first | decide | omega) (by first | decide | omega)).trans ((fA 162 18 (by first | decide | omega)).trans e18)
            · rw [hv, ← h17A]; exact hz.2.1
            · exact (hz.2.2.1 j i j0 j1 j3 (by omega)).trans ((fA j i (Or.inl j2)).trans (fS j i j0 j1 j2 (by omega)))
            · rw [hz.2.2.1 209 (-1) (by first | decide | omega) (by first | decide | omega) (by first | decide | omega) (by first | decide | omega), fA 209 (-1) (by first | decide | omega), hcB]; exact ⟨hcl.1, hcl.2.1⟩
          have hsr : ∀ ph : Int, -9 ≤ sgP cs ms ph tl.length (ftL cs ms ph tl F) ∧ sgP cs ms ph tl.length (ftL cs ms ph tl F) ≤ 400 := fun ph => by
            have h400 := hw.1.2
            rcases sgP_rg (cs := cs) (ms := ms) (ph := ph) (n := tl.length) (ftL cs ms ph tl F) with z | z
            · omega
            · have := (ft_m hw hFm z).1; omega
          refine wJ_S (chs_162 (d := d + 1) (ph := 1) (B := B) hCB hKB hw ⟨by decide, by decide⟩ htl hes hty h10B ⟨by omega, by omega⟩ hF4 hFm (fun e1 A1 hf1 => hEnd _ _ A1 hf1 ?_ (hsr 1)) (fun e1 A1 hf1 => wJ_S (chs_162 (d := d + 1) (ph := 2) (B := B) hCB hKB hw ⟨by decide, by decide⟩ htl hes hty h10B ⟨by omega, by omega⟩ hF4 hFm (fun e2 A2 hf2 => hEnd _ _ A2 hf2 ?_ (hsr 2)) (fun e2 A2 hf2 => wJ_S (chs_162 (d := d + 1) (ph := 3) (B := B) hCB hKB hw ⟨by decide, by decide⟩ htl hes hty h10B ⟨by omega, by omega⟩ hF4 hFm (fun e3 A3 hf3 => hEnd _ _ A3 hf3 ?_ (hsr 3)) (fun e3 A3 hf3 => ?_) A2 hf2) ⟨rfl, rfl, rfl, rfl, rfl, rfl, trivial⟩) A1 hf1) ⟨rfl, rfl, rfl, rfl, rfl, rfl, trivial⟩) B hA0) ⟨rfl, rfl, rfl, rfl, rfl, rfl, trivial⟩
          · unfold sgA; rw [if_pos e1]
          · unfold sgA; rw [if_neg (fun z => z e1), if_pos e2]
          · unfold sgA; rw [if_neg (fun z => z e1), if_neg (fun z => z e2), if_pos e3]
          · skip
            refine wa_iload (n := 11) rfl ?_
            refine wa_iconst ?_
            refine wa_icmpgt (w_rg0 (by omega) (by omega)) (w_rg0 (by omega) (by omega)) ⟨_, rfl⟩ (fun c401 => ?_) (fun c401 => ?_)
            · skip
              exact wJ_S (hEnd (-9) [] A3 hf3 (by unfold sgA; rw [if_neg (fun z => z e1), if_neg (fun z => z e2), if_neg (fun z => z e3)]) (by omega)) ⟨rfl, rfl, rfl, rfl, trivial⟩
            · skip
              exfalso; omega
        · skip
          refine wa_iconst ?_
          refine wa_ireturn rfl ?_
          exact Or.inr (Or.inr ⟨by omega, hkn, Or.inl ⟨List.eq_nil_of_length_eq_zero (by omega), rfl, hga.2.2.2.1 162 18 (by first | decide | omega) (by first | decide | omega) (by first | decide | omega) (by first | decide | omega), kpR_ag hkp (hga.2.2.2.1 162 16 (by first | decide | omega) (by first | decide | omega) (by first | decide | omega) (by first | decide | omega)) (fun j i j0 j1 => hga.2.2.2.1 j i (by omega) (by unfold wG; omega) (by omega) (Or.inl (by omega)))⟩, fun j i j0 j1 j2 j3 j4 => hga.2.2.2.1 j i j0 j1 j2 (by omega), ⟨hga.2.2.1.1, hga.2.2.1.2.1⟩, hga.2.2.2.2.1, hga.2.2.2.2.2⟩)
      · skip
        have hkq1 : 0 ≤ kq ∧ kq < (K.length : Int) ∧ (kG K kq).1 = ask ∧ (kG K kq).2.1 = esV tl := by rcases hkq with z | z; exact z; omega
        have hk3 : S 212 kq = (kG K kq).2.2 := (hkp.2.1 kq hkq1.1 hkq1.2.1).2.2.1
        refine wa_aload_n (n := 0) rfl ?_
        refine wb_gf4 162 rfl (wy_pr rfl) wt_162 wf_3_13 (v := 212) wl_162_13 ?_
        refine wa_iload (n := 9) rfl ?_
        refine wb_iald 212 rfl (wy_pr rfl) wt_212 (n := (S 210 (-1))) (hl0) (by omega) (by omega) (v := (kG K kq).2.2) (hk3) (fun r11 => ?_)
        refine wa_ireturn rfl ?_
        exact Or.inr (Or.inl ⟨by omega, ⟨kq, hkq1.1, hkq1.2.1, hkq1.2.2.1, hkq1.2.2.2, rfl⟩, rfl⟩)
    · skip
      refine wa_iconst ?_
      refine wa_goto ⟨_, rfl⟩ ?_
      refine wJ_top (show 1 = fs by omega) ?_
      refine wa_iadd ?_
      refine wa_bipush (w_rg2 (by omega) (by omega)) ?_
      refine wa_imul ?_
      refine wa_iload (n := 7) rfl ?_
      refine wa_iadd ?_
      refine wa_sipush (by omega) ?_
      refine wa_imul ?_
      refine wa_iload_n (n := 3) rfl ?_
      refine wa_iadd ?_
      refine wJ_top (show ((((((((k * 4) + am) * 2) + fs) * 16) + (tl.length : Int)) * 1024) + word) = ask by rw [hask]; rfl) ?_
      refine wa_istore (n := 8) rfl ?_
      refine wa_aload_n (n := 0) rfl ?_
      refine wa_iload (n := 8) rfl ?_
      refine wa_lload (n := 5) rfl ?_
      refine wa_cv 162 rfl (wy_pr rfl) wt_162 (M2 := fun _ => False) rfl at_XO_keptAt ⟨_, rfl⟩ rfl rfl ⟨trivial, (Or.inr ⟨wy_pr rfl, fun q => q⟩), trivial, trivial, trivial, trivial, trivial, trivial, trivial⟩ trivial (fun _ _ q => False.elim q) (kat_162 (S := S) (K := K) (a := ask) (e := esV tl) hC hkp hakr ⟨by omega, by omega⟩) (fun oq12 Sq12 hp13 q12 => ?_)
      rcases q12 with ⟨rfl, kq, rfl, hkq⟩
      show wJ _ _ _ _ _ _ _ _ _ _
      have hkb : -1 ≤ kq ∧ kq < 2000 := by omega
      refine wa_istore (n := 9) rfl ?_
      refine wa_iload (n := 9) rfl ?_
      refine wa_iconst ?_
      refine wa_icmpeq (w_rg0 (by omega) (by omega)) (w_rg0 (by omega) (by omega)) ⟨_, rfl⟩ (fun c14 => ?_) (fun c14 => ?_)
      · skip
        have hkn : ∀ i : Int, 0 ≤ i → i < (K.length : Int) → ¬ ((kG K i).1 = ask ∧ (kG K i).2.1 = esV tl) := by rcases hkq with z | z; omega; exact z.2
        refine wa_aload_n (n := 0) rfl ?_
        refine wa_iload_n (n := 1) rfl ?_
        refine wa_iload_n (n := 2) rfl ?_
        refine wa_iload_n (n := 3) rfl ?_
        refine wa_iload (n := 4) rfl ?_
        refine wa_cv 162 rfl (wy_pr rfl) wt_162 (M2 := mS [209]) rfl at_XO_gather ⟨_, rfl⟩ rfl rfl ⟨trivial, trivial, (Or.inr ⟨wy_pr rfl, mS_no rfl⟩), trivial, trivial, trivial, trivial, trivial, trivial, trivial⟩ trivial (fun _ _ q => mS_sub (by decide) q) (gat_162 (S := S) (k := k) (word := word) (am := am) (fs := fs) (pc := pc) (W := W) (F := F) hC hK hw hI hcd hk ham hwd ⟨by omega, by omega⟩ hfs hF hF4) (fun oq15 Sq15 hp16 q15 => ?_)
        rcases q15 with ⟨rfl, hga⟩
        show wJ _ _ _ _ _ _ _ _ _ _
        refine wa_aload_n (n := 0) rfl ?_
        refine wb_gfi 162 rfl (wy_pr rfl) wt_162 wf_3_10 (v := (F.length : Int)) (hga.1) (fun r17 => ?_)
        refine wa_ifne (w_rg0 (by omega) (by omega)) ⟨_, rfl⟩ (fun c18 => ?_) (fun c18 => ?_)
        · skip
          refine wa_aload_n (n := 0) rfl ?_
          refine wa_dup (by decide) ?_
          refine wb_gfi 162 rfl (wy_pr rfl) wt_162 wf_3_18 (v := (S 162 18)) ((hga.2.2.2.1 162 18 (by decide) (by decide) (by decide) (Or.inr (by decide)))) (fun r19 => ?_)
          refine wa_iconst ?_
          refine wa_iadd ?_
          refine wb_pfi 162 rfl (wy_pr rfl) wt_162 wf_3_18 (n := 18) rfl ⟨(by omega), (by omega)⟩ ?_
          refine wa_bipush (w_rg2 (by omega) (by omega)) ?_
          refine wa_istore (n := 10) rfl ?_
          refine wa_iconst ?_
          refine wa_istore (n := 11) rfl ?_
          refine wa_fall ⟨_, rfl⟩ ?_
          obtain ⟨B, hB⟩ : ∃ B : wS, B = (w_up Sq15 162 18 ((S 162 18) + 1)) := ⟨_, rfl⟩
          rw [← hB]
          have fB : ∀ (j : Nat) (i : Int), (j ≠ 162 ∨ i ≠ 18) → B j i = Sq15 j i := fun j i hj => by rw [hB]; exact w_up_no (by omega)
          have e18 : B 162 18 = S 162 18 + 1 := by rw [hB]; exact w_up_same _ _ _ _
          have fS : ∀ (j : Nat) (i : Int), j < 4000000 → j ≠ wG → j ≠ 209 → (j ≠ 162 ∨ (i ≠ 10 ∧ i ≠ 18)) → B j i = S j i := fun j i j0 j1 j2 j3 => (fB j i (by omega)).trans (hga.2.2.2.1 j i j0 j1 j2 (by omega))
          have hCB : w_CL B := by rw [hB]; exact w_CL_up (gaR_C (by first | decide | omega) hC hga) (by first | decide | omega)
          have hIB : gI B := by rw [hB]; exact gI_up hga.2.2.2.2.1 (by first | decide | omega) (by first | decide | omega) (by first | decide | omega)
          have hRB : rmR S B := by rw [hB]; exact rmR_up hga.2.2.2.2.2 (by first | decide | omega) (by first | decide | omega)
          have hKB : KC 176 186 182 203 204 163 162 T cs ms os B := KC_ag hK (fS 162 2 (by first | decide | omega) (by first | decide | omega) (by first | decide | omega) (by first | decide | omega)) (fS 162 4 (by first | decide | omega) (by first | decide | omega) (by first | decide | omega) (by first | decide | omega)) (fun j hj => by funext x; exact fS j x (by omega) (by unfold wG; omega) (by omega) (Or.inl (by omega)))
          have hkB : kpR 162 210 K B := kpR_ag hkp (fS 162 16 (by first | decide | omega) (by first | decide | omega) (by first | decide | omega) (by first | decide | omega)) (fun j i j0 j1 => fS j i (by omega) (by unfold wG; omega) (by omega) (Or.inl (by omega)))
          have h10B : B 162 10 = (F.length : Int) := (fB 162 10 (by first | decide | omega)).trans hga.1
          have hcB : B 209 (-1) = Sq15 209 (-1) := fB 209 (-1) (by first | decide | omega)
          have hcl := hga.2.2.1
          have hF0 : F ≠ [] := fun z => absurd (congrArg List.length z) (by show ¬ F.length = 0; omega)
          have hA0 : fiR 209 F [] B B := ⟨fun j i _ => rfl, fun x hx => absurd hx (Nat.not_lt_zero _), fun x _ hx => (fB 209 _ (by first | decide | omega)).trans (hga.2.1 x hx)⟩
          have hEnd : ∀ (v : Int) (g : List Int) (A : wS), fiR 209 F g B A → sgA cs ms tl F = v → (-9 ≤ v ∧ v ≤ 400) → wJ (pe_GA xs) wY0 (mS [209, 210, 211, 212, 213]) (d + 5) t_XO_choose ((pe_at t_XO_choose.bl 11).getD (0, [])).2 [(0, (2, 162)), (5, (1, esV tl)), (8, (0, ask)), (10, (0, v))] [] A (chQ 162 209 210 cs ms K ask word tl F S) := by
            intro v g A hfi hv hvr
            have hgA := fiR_g (by first | decide | omega) hIB hfi
            have fA : ∀ (j : Nat) (i : Int), (j ≠ 209 ∨ i < 0) → A j i = B j i := hfi.1
            have hkA : kpR 162 210 K A := kpR_ag hkB (fA 162 16 (by first | decide | omega)) (fun j i j0 j1 => fA j i (by omega))
            have h17A : A 162 17 = S 162 17 := (fA 162 17 (by first | decide | omega)).trans (fS 162 17 (by first | decide | omega) (by first | decide | omega) (by first | decide | omega) (by first | decide | omega))
            refine wJ_mono (che_162 (d := d + 1) hkA hgA.1 hakr ⟨by omega, by omega⟩ ⟨by omega, by omega⟩ (by omega)) (fun o Z hz => Or.inr (Or.inr ⟨by omega, hkn, Or.inr ⟨hF0, ?_, ?_, ?_⟩, fun j i j0 j1 j2 j3 j4 => ?_, ?_, hz.2.2.2.1, rmR_tr hRB (rmR_tr hgA.2 hz.2.2.2.2)⟩))
            · rw [hv]; exact hz.1
            · exact (hz.2.2.1 162 18 (by first | decide | omega) (by first | decide | omega) (by first | decide | omega) (by first | decide | omega)).trans ((fA 162 18 (by first | decide | omega)).trans e18)
            · rw [hv, ← h17A]; exact hz.2.1
            · exact (hz.2.2.1 j i j0 j1 j3 (by omega)).trans ((fA j i (Or.inl j2)).trans (fS j i j0 j1 j2 (by omega)))
            · rw [hz.2.2.1 209 (-1) (by first | decide | omega) (by first | decide | omega) (by first | decide | omega) (by first | decide | omega), fA 209 (-1) (by first | decide | omega), hcB]; exact ⟨hcl.1, hcl.2.1⟩
          have hsr : ∀ ph : Int, -9 ≤ sgP cs ms ph tl.length (ftL cs ms ph tl F) ∧ sgP cs ms ph tl.length (ftL cs ms ph tl F) ≤ 400 := fun ph => by
            have h400 := hw.1.2
            rcases sgP_rg (cs := cs) (ms := ms) (ph := ph) (n := tl.length) (ftL cs ms ph tl F) with z | z
            · omega
            · have := (ft_m hw hFm z).1; omega
          refine wJ_S (chs_162 (d := d + 1) (ph := 1) (B := B) hCB hKB hw ⟨by decide, by decide⟩ htl hes hty h10B ⟨by omega, by omega⟩ hF4 hFm (fun e1 A1 hf1 => hEnd _ _ A1 hf1 ?_ (hsr 1)) (fun e1 A1 hf1 => wJ_S (chs_162 (d := d + 1) (ph := 2) (B := B) hCB hKB hw ⟨by decide, by decide⟩ htl hes hty h10B ⟨by omega, by omega⟩ hF4 hFm (fun e2 A2 hf2 => hEnd _ _ A2 hf2 ?_ (hsr 2)) (fun e2 A2 hf2 => wJ_S (chs_162 (d := d + 1) (ph := 3) (B := B) hCB hKB hw ⟨by decide, by decide⟩ htl hes hty h10B ⟨by omega, by omega⟩ hF4 hFm (fun e3 A3 hf3 => hEnd _ _ A3 hf3 ?_ (hsr 3)) (fun e3 A3 hf3 => ?_) A2 hf2) ⟨rfl, rfl, rfl, rfl, rfl, rfl, trivial⟩) A1 hf1) ⟨rfl, rfl, rfl, rfl, rfl, rfl, trivial⟩) B hA0) ⟨rfl, rfl, rfl, rfl, rfl, rfl, trivial⟩
          · unfold sgA; rw [if_pos e1]
          · unfold sgA; rw [if_neg (fun z => z e1), if_pos e2]
          · unfold sgA; rw [if_neg (fun z => z e1), if_neg (fun z => z e2), if_pos e3]
          · skip
            refine wa_iload (n := 11) rfl ?_
            refine wa_iconst ?_
            refine wa_icmpgt (w_rg0 (by omega) (by omega)) (w_rg0 (by omega) (by omega)) ⟨_, rfl⟩ (fun c401 => ?_) (fun c401 => ?_)
            · skip
              exact wJ_S (hEnd (-9) [] A3 hf3 (by unfold sgA; rw [if_neg (fun z => z e1), if_neg (fun z => z e2), if_neg (fun z => z e3)]) (by omega)) ⟨rfl, rfl, rfl, rfl, trivial⟩
            · skip
              exfalso; omega
        · skip
          refine wa_iconst ?_
          refine wa_ireturn rfl ?_
          exact Or.inr (Or.inr ⟨by omega, hkn, Or.inl ⟨List.eq_nil_of_length_eq_zero (by omega), rfl, hga.2.2.2.1 162 18 (by first | decide | omega) (by first | decide | omega) (by first | decide | omega) (by first | decide | omega), kpR_ag hkp (hga.2.2.2.1 162 16 (by first | decide | omega) (by first | decide | omega) (by first | decide | omega) (by first | decide | omega)) (fun j i j0 j1 => hga.2.2.2.1 j i (by omega) (by unfold wG; omega) (by omega) (Or.inl (by omega)))⟩, fun j i j0 j1 j2 j3 j4 => hga.2.2.2.1 j i j0 j1 j2 (by omega), ⟨hga.2.2.1.1, hga.2.2.1.2.1⟩, hga.2.2.2.2.1, hga.2.2.2.2.2⟩)
      · skip
        have hkq1 : 0 ≤ kq ∧ kq < (K.length : Int) ∧ (kG K kq).1 = ask ∧ (kG K kq).2.1 = esV tl := by rcases hkq with z | z; exact z; omega
        have hk3 : S 212 kq = (kG K kq).2.2 := (hkp.2.1 kq hkq1.1 hkq1.2.1).2.2.1
        refine wa_aload_n (n := 0) rfl ?_
        refine wb_gf4 162 rfl (wy_pr rfl) wt_162 wf_3_13 (v := 212) wl_162_13 ?_
        refine wa_iload (n := 9) rfl ?_
        refine wb_iald 212 rfl (wy_pr rfl) wt_212 (n := (S 210 (-1))) (hl0) (by omega) (by omega) (v := (kG K kq).2.2) (hk3) (fun r20 => ?_)
        refine wa_ireturn rfl ?_
        exact Or.inr (Or.inl ⟨by omega, ⟨kq, hkq1.1, hkq1.2.1, hkq1.2.2.1, hkq1.2.2.2, rfl⟩, rfl⟩)
  · skip
    refine wa_iconst ?_
    refine wa_ireturn rfl ?_
    exact Or.inl ⟨by omega, rfl, rfl⟩
end Wh7
