/-! PART hh: the reference: chooses, getter, looksAtHost. -/
section Whh
variable {xs : List (Nat × List Int32)} {M : Nat → Prop} {d : Nat} {S Z A : wS} {T : Int → Int} {n : Int} {cs : List hCR} {ms : List hMR} {os : Int → List Int} {Q : wO → wS → Prop} {N : List (List Int)} {CH : List aQ} {wo mo : Int}
/-- what looking at a host may change in the reference -/
def lhM (j : Nat) (x : Int) : Prop := ((j = 353 ∨ j = 354 ∨ j = 355 ∨ j = 352 ∨ (346 ≤ j ∧ j ≤ 351)) ∧ 0 ≤ x) ∨ (j = 237 ∧ (x = 124 ∨ x = 126 ∨ x = 128 ∨ x = 122 ∨ x = 172 ∨ x = 67 ∨ x = 114 ∨ x = 115 ∨ x = 167 ∨ x = 170)) ∨ (j = 238 ∧ (x = 5 ∨ x = 6))
theorem lhM_1 {j : Nat} : ¬ lhM j (-1) := by unfold lhM; omega
theorem lhM_od {j : Nat} {x : Int} (h : ¬ lhM j x) : ¬ odM j x := by unfold lhM at h; unfold odM; omega
theorem lhM_cd {j : Nat} {x : Int} (h : ¬ lhM j x) : ¬ cdM j x := by unfold lhM at h; unfold cdM; omega
theorem lhM_wt {j : Nat} {x : Int} (h : ¬ lhM j x) : ¬ wtM j x := by unfold lhM at h; unfold wtM; omega
theorem lhM_ty {j : Nat} {x : Int} (h : ¬ lhM j x) : ¬ tyM j x := by unfold lhM at h; unfold tyM; omega
theorem lhM_ch {j : Nat} {x : Int} (h : ¬ lhM j x) : ¬ chM j x := by unfold lhM at h; unfold chM; omega
def csM (j : Nat) (x : Int) : Prop := chM j x ∨ (j = 237 ∧ x = 170) ∨ (j = 238 ∧ (x = 5 ∨ x = 6))
theorem lhM_cs {j : Nat} {x : Int} (h : ¬ lhM j x) : ¬ csM j x := by unfold lhM at h; unfold csM chM; omega
theorem tEs_ag {tl : List Int} (h : tEs tl S) (f : ∀ (j : Nat) (x : Int), tyM j x → Z j x = S j x) : tEs tl Z := ⟨(f 237 122 (by unfold tyM; omega)).trans h.1, fun i hi => (f 352 (i : Int) (by unfold tyM; omega)).trans (h.2.1 i hi), h.2.2⟩
theorem cdF_h {ok : Int → Bool} {l : List Int} (hl : ∀ x ∈ l, 0 ≤ x) : (cdA ms ok [] l = [] ∧ fsA ok l = -1) ∨ (∃ t : List Int, cdA ms ok [] l = fsA ok l :: t) ∧ 0 ≤ fsA ok l := by
  rcases cdA_fs (ms := ms) ok l with ⟨y1, y2⟩ | ⟨t, ht⟩
  · exact Or.inl ⟨y1, (cdA_0 hl).mp y1⟩
  · refine Or.inr ⟨⟨t, ht⟩, ?_⟩
    rcases fsA_rg (ok := ok) l with z | z
    · have := (cdA_0 (ms := ms) hl).mpr z
      rw [ht] at this
      exact absurd this (List.cons_ne_nil _ _)
    · exact hl _ z.1
/-- what looking at a host comes to in the reference: wh what was found, or an ERROR; mn the ES that are asked for -/
def lrQ (T : Int → Int) (cs : List hCR) (ms : List hMR) (os : Int → List Int) (N : List (List Int)) (CH : List aQ) (wo mo c wh mn : Int) (S : wS) (o : wO) (Z : wS) : Prop := (0 ≤ wh → o = .inl none ∧ Z 237 170 = wh ∧ Z 237 172 = mn) ∧ (wh < 0 → o = .inr 238 ∧ Z 238 5 = (if wh = -1 then 4 else -wh) ∧ Z 238 6 = 0) ∧ Z 237 167 = c ∧ rCh T cs ms os N CH wo mo Z ∧ (∀ (j : Nat) (x : Int), ¬ lhM j x → Z j x = S j x)
theorem rcs1_241 {c am fs md nc : Int} {WW tl F : List Int} (hM : w_ML S) (hK : KR 241 T n cs ms S) (hw : wHo cs ms os) (hC : rCh T cs ms os N CH wo mo S) (hT : tEs tl S) (hqk : qRk T cs ms os N (c, am, fs, WW, tl)) (hmd : md = qMd (c, am, fs, WW, tl)) (hnc : nc = qNc T cs ms os N (c, am, fs, WW, tl)) (hmr : 0 ≤ md ∧ md ≤ 5) (hnr : -1 ≤ nc ∧ nc ≤ 4000) (hes : esOk tl) (hty : ∀ c ∈ tl, c < 9 + (cs.length : Int)) (hcd : cdI F S) (hFm : ∀ x ∈ F, 0 ≤ x ∧ x < (ms.length : Int)) (hF : F = FA T cs ms os c am fs WW) (hwo : wo < 10000000) : wJ (pe_GA xs) wY0 M (d + 6) t_M_chooses ((pe_at t_M_chooses.bl 0).getD (0, [])).2 [(0, (2, 237)), (1, (0, c)), (2, (0, md)), (3, (0, nc)), (4, (0, 1))] [] S (fun o Z => (0 ≤ rvA T cs ms os (c, am, fs, WW, tl) → o = .inl none ∧ Z 237 170 = rvA T cs ms os (c, am, fs, WW, tl)) ∧ (rvA T cs ms os (c, am, fs, WW, tl) < 0 → o = .inr 238 ∧ Z 238 5 = -rvA T cs ms os (c, am, fs, WW, tl) ∧ Z 238 6 = 0) ∧ rCh T cs ms os N (chN CH wo mo (c, am, fs, WW, tl) F).1 (chN CH wo mo (c, am, fs, WW, tl) F).2 mo Z ∧ ∀ (j : Nat) (x : Int), ¬ csM j x → Z j x = S j x) := by
  have hrr := rvA_rg (T := T) (q := (c, am, fs, WW, tl)) hw hqk.1
  have hrvs : rvA T cs ms os (c, am, fs, WW, tl) = sgA cs ms tl F := by rw [hF]; exact if_neg hqk.2.2.2.2.2.2
  obtain ⟨v, hv⟩ : ∃ v : Int, v = rvA T cs ms os (c, am, fs, WW, tl) := ⟨_, rfl⟩
  rw [← hv] at hrr ⊢
  refine wa_iload (n := 4) rfl ?_
  refine wa_ifeq (w_rg0 (by omega) (by omega)) ⟨_, rfl⟩ (fun c1 => ?_) (fun c1 => ?_)
  · skip
    exact absurd c1 (by omega)
  · skip
    refine wa_aload_n (n := 0) rfl ?_
    refine wa_iload_n (n := 1) rfl ?_
    refine wa_iload_n (n := 2) rfl ?_
    refine wa_iload_n (n := 3) rfl ?_
    refine wa_cv 237 rfl (wy_pr rfl) wt_237 (M2 := fun _ => False) rfl at_M_chosen ⟨_, rfl⟩ rfl rfl ⟨(Or.inr ⟨wy_pr rfl, fun q => q⟩), trivial, trivial, trivial, trivial, trivial⟩ trivial (fun _ _ q => False.elim q) (wJ_mono (rcn_241 (S := S) (F := F) hM hK hw hC hT hqk hmd hnc hmr hnr hes hty hcd hFm hF hwo) (fun o Z hz => (⟨by rw [hv]; exact hz.1, hz.2⟩ : o = .inl (some (0, v)) ∧ _ ∧ _))) (fun oq2 Sq2 hp3 q2 => ?_)
    rcases q2 with ⟨rfl, hc9, hf9⟩
    show wJ _ _ _ _ _ _ _ _ _ _
    refine wa_goto ⟨_, rfl⟩ ?_
    refine wa_istore (n := 5) rfl ?_
    refine wa_iload (n := 5) rfl ?_
    refine wa_ifge (w_rg0 (by omega) (by omega)) ⟨_, rfl⟩ (fun c4 => ?_) (fun c4 => ?_)
    · skip
      refine wa_aload_n (n := 0) rfl ?_
      refine wa_iload (n := 5) rfl ?_
      refine wb_pfi 237 rfl (wy_pr rfl) wt_237 wf_15_170 (n := 170) rfl ⟨(by omega), (by omega)⟩ ?_
      refine wa_return rfl ?_
      exact ⟨fun _ => ⟨rfl, (w_up_same _ _ _ _)⟩, fun z => absurd z (by omega), rCh_ag hc9 (fun j x hj => (w_up_no (by unfold chM at hj; omega))), fun j x hj => ((w_up_no (by unfold csM at hj; omega)).trans (hf9 j x (by unfold csM at hj; exact fun z => hj (Or.inl z))))⟩
    · skip
      refine wa_aload_n (n := 0) rfl ?_
      refine wa_iload (n := 5) rfl ?_
      refine wa_ineg ?_
      refine wa_cv 237 rfl (wy_pr rfl) wt_237 (M2 := fun _ => False) rfl at_M_error ⟨_, rfl⟩ rfl rfl ⟨trivial, (Or.inr ⟨wy_pr rfl, fun q => q⟩), trivial, trivial, trivial, trivial, trivial⟩ trivial (fun _ _ q => False.elim q) ?_ (fun _ _ _ q => q)
      refine wa_aload_n (n := 0) rfl ?_
      refine wb_gf4 237 rfl (wy_pr rfl) wt_237 wf_15_1 (v := 238) wl_237_1 ?_
      refine wa_iload_n (n := 1) rfl ?_
      refine wa_iconst ?_
      refine wa_cv 238 rfl (wy_pr rfl) wt_238 (M2 := fun _ => False) rfl at_MH_of ⟨_, rfl⟩ rfl rfl ⟨(Or.inr ⟨wy_pr rfl, fun q => q⟩), trivial, trivial⟩ trivial (fun _ _ q => False.elim q) ?_ (fun _ _ _ q => q)
      refine wa_aload_n (n := 0) rfl ?_
      refine wa_iload_n (n := 1) rfl ?_
      refine wb_pfi 238 rfl (wy_pr rfl) wt_238 wf_11_5 (n := 5) rfl ⟨(by omega), (by omega)⟩ ?_
      refine wa_aload_n (n := 0) rfl ?_
      refine wa_iload_n (n := 2) rfl ?_
      refine wb_pfi 238 rfl (wy_pr rfl) wt_238 wf_11_6 (n := 6) rfl ⟨(by omega), (by omega)⟩ ?_
      refine wa_aload_n (n := 0) rfl ?_
      refine wa_oreturn rfl ?_
      show wJ _ _ _ _ _ _ _ _ _ _
      refine wa_th (j := 238) ?_
      refine ⟨rfl, ?_⟩
      exact ⟨fun z => absurd z (by omega), fun _ => ⟨rfl, ((w_up_at (by first | decide | omega)).trans (w_up_same _ _ _ _)), (w_up_same _ _ _ _)⟩, rCh_ag hc9 (fun j x hj => ((w_up_no (by unfold chM at hj; omega)).trans (w_up_no (by unfold chM at hj; omega)))), fun j x hj => ((w_up_no (by unfold csM at hj; omega)).trans ((w_up_no (by unfold csM at hj; omega)).trans (hf9 j x (by unfold csM at hj; exact fun z => hj (Or.inl z)))))⟩
theorem rcs0_241 {c am fs md nc : Int} {WW tl F : List Int} (hM : w_ML S) (hK : KR 241 T n cs ms S) (hw : wHo cs ms os) (hC : rCh T cs ms os N CH wo mo S) (hT : tEs tl S) (hqk : qRk T cs ms os N (c, am, fs, WW, tl)) (hmd : md = qMd (c, am, fs, WW, tl)) (hnc : nc = qNc T cs ms os N (c, am, fs, WW, tl)) (hmr : 0 ≤ md ∧ md ≤ 5) (hnr : -1 ≤ nc ∧ nc ≤ 4000) (hes : esOk tl) (hty : ∀ c ∈ tl, c < 9 + (cs.length : Int)) (hcd : cdI F S) (hFm : ∀ x ∈ F, 0 ≤ x ∧ x < (ms.length : Int)) (hF : F = FA T cs ms os c am fs WW) (hwo : wo < 10000000) : wJ (pe_GA xs) wY0 M (d + 6) t_M_chooses ((pe_at t_M_chooses.bl 0).getD (0, [])).2 [(0, (2, 237)), (1, (0, c)), (2, (0, md)), (3, (0, nc)), (4, (0, 0))] [] S (fun o Z => (0 ≤ rvA T cs ms os (c, am, fs, WW, tl) → o = .inl none ∧ Z 237 170 = rvA T cs ms os (c, am, fs, WW, tl)) ∧ (rvA T cs ms os (c, am, fs, WW, tl) < 0 → o = .inr 238 ∧ Z 238 5 = -rvA T cs ms os (c, am, fs, WW, tl) ∧ Z 238 6 = 0) ∧ rCh T cs ms os N CH wo mo Z ∧ ∀ (j : Nat) (x : Int), ¬ csM j x → Z j x = S j x) := by
  have hrr := rvA_rg (T := T) (q := (c, am, fs, WW, tl)) hw hqk.1
  have hrvs : rvA T cs ms os (c, am, fs, WW, tl) = sgA cs ms tl F := by rw [hF]; exact if_neg hqk.2.2.2.2.2.2
  obtain ⟨v, hv⟩ : ∃ v : Int, v = rvA T cs ms os (c, am, fs, WW, tl) := ⟨_, rfl⟩
  rw [← hv] at hrr ⊢
  refine wa_iload (n := 4) rfl ?_
  refine wa_ifeq (w_rg0 (by omega) (by omega)) ⟨_, rfl⟩ (fun c1 => ?_) (fun c1 => ?_)
  · skip
    refine wa_aload_n (n := 0) rfl ?_
    refine wa_cv 237 rfl (wy_pr rfl) wt_237 (M2 := fun _ => False) rfl at_M_single ⟨_, rfl⟩ rfl rfl ⟨(Or.inr ⟨wy_pr rfl, fun q => q⟩), trivial, trivial, trivial, trivial, trivial⟩ trivial (fun _ _ q => False.elim q) (wJ_mono (rsg_241 (S := S) (tl := tl) (F := F) hM hK hw hT hes hty hcd hFm) (fun o Z hz => (⟨hz.1, hz.2.trans (by rw [hv, hrvs])⟩ : S = Z ∧ o = .inl (some (0, v))))) (fun oq2 Sq2 hp3 q2 => ?_)
    rcases q2 with ⟨rfl, rfl⟩
    show wJ _ _ _ _ _ _ _ _ _ _
    refine wa_fall ⟨_, rfl⟩ ?_
    refine wa_istore (n := 5) rfl ?_
    refine wa_iload (n := 5) rfl ?_
    refine wa_ifge (w_rg0 (by omega) (by omega)) ⟨_, rfl⟩ (fun c4 => ?_) (fun c4 => ?_)
    · skip
      refine wa_aload_n (n := 0) rfl ?_
      refine wa_iload (n := 5) rfl ?_
      refine wb_pfi 237 rfl (wy_pr rfl) wt_237 wf_15_170 (n := 170) rfl ⟨(by omega), (by omega)⟩ ?_
      refine wa_return rfl ?_
      exact ⟨fun _ => ⟨rfl, (w_up_same _ _ _ _)⟩, fun z => absurd z (by omega), rCh_ag hC (fun j x hj => (w_up_no (by unfold chM at hj; omega))), fun j x hj => (w_up_no (by unfold csM at hj; omega))⟩
    · skip
      refine wa_aload_n (n := 0) rfl ?_
      refine wa_iload (n := 5) rfl ?_
      refine wa_ineg ?_
      refine wa_cv 237 rfl (wy_pr rfl) wt_237 (M2 := fun _ => False) rfl at_M_error ⟨_, rfl⟩ rfl rfl ⟨trivial, (Or.inr ⟨wy_pr rfl, fun q => q⟩), trivial, trivial, trivial, trivial, trivial⟩ trivial (fun _ _ q => False.elim q) ?_ (fun _ _ _ q => q)
      refine wa_aload_n (n := 0) rfl ?_
      refine wb_gf4 237 rfl (wy_pr rfl) wt_237 wf_15_1 (v := 238) wl_237_1 ?_
      refine wa_iload_n (n := 1) rfl ?_
      refine wa_iconst ?_
      refine wa_cv 238 rfl (wy_pr rfl) wt_238 (M2 := fun _ => False) rfl at_MH_of ⟨_, rfl⟩ rfl rfl ⟨(Or.inr ⟨wy_pr rfl, fun q => q⟩), trivial, trivial⟩ trivial (fun _ _ q => False.elim q) ?_ (fun _ _ _ q => q)
      refine wa_aload_n (n := 0) rfl ?_
      refine wa_iload_n (n := 1) rfl ?_
      refine wb_pfi 238 rfl (wy_pr rfl) wt_238 wf_11_5 (n := 5) rfl ⟨(by omega), (by omega)⟩ ?_
      refine wa_aload_n (n := 0) rfl ?_
      refine wa_iload_n (n := 2) rfl ?_
      refine wb_pfi 238 rfl (wy_pr rfl) wt_238 wf_11_6 (n := 6) rfl ⟨(by omega), (by omega)⟩ ?_
      refine wa_aload_n (n := 0) rfl ?_
      refine wa_oreturn rfl ?_
      show wJ _ _ _ _ _ _ _ _ _ _
      refine wa_th (j := 238) ?_
      refine ⟨rfl, ?_⟩
      exact ⟨fun z => absurd z (by omega), fun _ => ⟨rfl, ((w_up_at (by first | decide | omega)).trans (w_up_same _ _ _ _)), (w_up_same _ _ _ _)⟩, rCh_ag hC (fun j x hj => ((w_up_no (by unfold chM at hj; omega)).trans (w_up_no (by unfold chM at hj; omega)))), fun j x hj => ((w_up_no (by unfold csM at hj; omega)).trans (w_up_no (by unfold csM at hj; omega)))⟩
  · skip
    exact absurd c1 (by omega)
theorem rgt_241 {c st nms : Int} {W : List Int} (hM : w_ML S) (hK : KR 241 T n cs ms S) (hw : wHo cs ms os) (hX : w_X xs) (hnm : 0 ≤ nms ∧ nms < 4000) (h82 : S 282 nms = (W.length : Int)) (hWl : W.length ≤ 60) (h81 : ∀ x : Nat, x < W.length → S 281 (60 * nms + (x : Int)) = W.getD x 0) (hO : wOs cs os) (hA : wAb cs) (hc : 0 ≤ c ∧ c < (cs.length : Int)) (hst : st = 0 ∨ st = 1) : wJ (pe_GA xs) wY0 M (d + 65) t_M_getter ((pe_at t_M_getter.bl 0).getD (0, [])).2 [(0, (2, 237)), (1, (0, c)), (2, (0, st)), (3, (0, nms))] [] S (fun o Z => o = .inl (some (0, (if gtA T cs ms os st W c = -1 then fdA T cs ms st W c else gtA T cs ms os st W c))) ∧ ∀ (j : Nat) (x : Int), ¬ (odM j x ∨ cdM j x ∨ wtM j x) → Z j x = S j x) := by
  have h60 := hw.1
  have h13 : S 237 13 = 241 := hK.1
  have hon := (hw.2.2.1 c hc.1 hc.2).2.2
  have hml : ∀ x ∈ mOr cs (os c), 0 ≤ x ∧ x < (ms.length : Int) := fun x hx => mOr_rg hw hon hx
  have hml0 : ∀ x ∈ mOr cs (os c), 0 ≤ x := fun x hx => (hml x hx).1
  obtain ⟨g1, hg1⟩ : ∃ g : Int, g = fsA (okM T ms 1 st 0 (wnW [103, 101, 116] W)) (mOr cs (os c)) := ⟨_, rfl⟩
  obtain ⟨g2, hg2⟩ : ∃ g : Int, g = fsA (okM T ms 1 st 0 (wnW [105, 115] W)) (mOr cs (os c)) := ⟨_, rfl⟩
  obtain ⟨fd, hfd⟩ : ∃ r : Int, r = fdA T cs ms st W c := ⟨_, rfl⟩
  have hgt : gtA T cs ms os st W c = if g1 ≠ -1 then g1 else if g2 ≠ -1 ∧ (hmR ms g2).2.2.2.1 = 3 then g2 else -1 := by unfold gtA; rw [← hg1, ← hg2]
  have hF1 := cdF_h (ms := ms) (ok := okM T ms 1 st 0 (wnW [103, 101, 116] W)) hml0
  have hF2 := cdF_h (ms := ms) (ok := okM T ms 1 st 0 (wnW [105, 115] W)) hml0
  rw [← hg1] at hF1
  rw [← hg2] at hF2
  have hb2 : 0 ≤ g2 → g2 < (ms.length : Int) := fun z => by
    rcases fsA_bd (ok := okM T ms 1 st 0 (wnW [105, 115] W)) hml with y | y
    · rw [← hg2] at y; omega
    · rw [← hg2] at y; exact y.2
  have hb1 : 0 ≤ g1 → g1 < (ms.length : Int) := fun z => by
    rcases fsA_bd (ok := okM T ms 1 st 0 (wnW [103, 101, 116] W)) hml with y | y
    · rw [← hg1] at y; omega
    · rw [← hg1] at y; exact y.2
  have hfr := fdA_rg (T := T) (st := st) (W := W) hw hc
  refine wa_aload_n (n := 0) rfl ?_
  refine wa_ks ?_
  refine wa_iload_n (n := 3) rfl ?_
  have fb1 : ∀ (j : Nat) (x : Int), ¬ lhM j x → S j x = S j x := fun j x hj => rfl
  have hMb1 : w_ML S := ML_w hM fb1 (fun j => lhM_1)
  have hKb1 : KR 241 T n cs ms S := KR_ag hK (fun j x hj => fb1 j x (by unfold lhM; omega))
  refine wa_cv 237 rfl (wy_pr rfl) wt_237 (M2 := fun _ => False) rfl at_M_wants ⟨_, rfl⟩ rfl rfl ⟨(Or.inr ⟨wy_pr rfl, fun q => q⟩), trivial, trivial, trivial, trivial⟩ trivial (fun _ _ q => False.elim q) (rwt81 (S := S) hX hMb1 hnm ((fb1 282 nms (by unfold lhM; omega)).trans h82) hWl (fun x hx => (fb1 281 _ (by unfold lhM; omega)).trans (h81 x hx))) (fun oq1 Sq1 hp2 q1 => ?_)
  rcases q1 with ⟨rfl, hw1, hf1⟩
  show wJ _ _ _ _ _ _ _ _ _ _
  have hq1 : ∀ (j : Nat) (x : Int), ¬ lhM j x → Sq1 j x = S j x := fun j x hj => hf1 j x (lhM_wt hj)
  have fS1 : ∀ (j : Nat) (x : Int), ¬ lhM j x → Sq1 j x = S j x := fun j x hj => (hq1 j x hj).trans (fb1 j x hj)
  refine wa_aload_n (n := 0) rfl ?_
  refine wa_iload_n (n := 1) rfl ?_
  refine wa_iload_n (n := 2) rfl ?_
  refine wa_iconst ?_
  have fb2 : ∀ (j : Nat) (x : Int), ¬ lhM j x → Sq1 j x = S j x := fun j x hj => (fS1 j x hj)
  have hMb2 : w_ML Sq1 := ML_w hM fb2 (fun j => lhM_1)
  have hKb2 : KR 241 T n cs ms Sq1 := KR_ag hK (fun j x hj => fb2 j x (by unfold lhM; omega))
  refine wa_cv 237 rfl (wy_pr rfl) wt_237 (M2 := fun _ => False) rfl at_M_collects ⟨_, rfl⟩ rfl rfl ⟨(Or.inr ⟨wy_pr rfl, fun q => q⟩), trivial, trivial, trivial, trivial⟩ trivial (fun _ _ q => False.elim q) (rco_241 (S := Sq1) (c := c) (st := st) (pc := 0) (WW := (wnW [103, 101, 116] W)) hMb2 hKb2 hw hO hA hst (by omega) hw1 hc) (fun oq3 Sq3 hp4 q3 => ?_)
  rcases q3 with ⟨rfl, hcd3, hf3⟩
  show wJ _ _ _ _ _ _ _ _ _ _
  have hq3 : ∀ (j : Nat) (x : Int), ¬ lhM j x → Sq3 j x = Sq1 j x := fun j x hj => hf3 j x (lhM_cd hj) (lhM_od hj)
  have fS3 : ∀ (j : Nat) (x : Int), ¬ lhM j x → Sq3 j x = S j x := fun j x hj => (hq3 j x hj).trans (fb2 j x hj)
  have hhl3 : ((cdA ms (okM T ms 1 st 0 (wnW [103, 101, 116] W)) [] (mOr cs (os c))).length = 0 ∧ g1 = -1) ∨ (0 < (cdA ms (okM T ms 1 st 0 (wnW [103, 101, 116] W)) [] (mOr cs (os c))).length ∧ 0 ≤ g1) := by rcases hF1 with ⟨z1, z2⟩ | ⟨⟨t, z1⟩, z2⟩; exact Or.inl ⟨by rw [z1]; rfl, z2⟩; exact Or.inr ⟨by rw [z1]; exact Nat.succ_pos _, z2⟩
  have hhd3 : 0 < (cdA ms (okM T ms 1 st 0 (wnW [103, 101, 116] W)) [] (mOr cs (os c))).length → Sq3 355 0 = g1 := fun z => (hcd3.2.1 0 z).trans (by rcases hF1 with ⟨z1, z2⟩ | ⟨⟨t, z1⟩, z2⟩; rw [z1] at z; exact absurd z (Nat.lt_irrefl _); rw [z1]; rfl)
  have hcl3 := hcd3.2.2
  refine wa_aload_n (n := 0) rfl ?_
  refine wb_gfi 237 rfl (wy_pr rfl) wt_237 wf_15_128 (v := ((cdA ms (okM T ms 1 st 0 (wnW [103, 101, 116] W)) [] (mOr cs (os c))).length : Int)) (hcd3.1) (fun r5 => ?_)
  refine wa_ifle (w_rg0 (by omega) (by omega)) ⟨_, rfl⟩ (fun c6 => ?_) (fun c6 => ?_)
  · skip
    refine wa_aload_n (n := 0) rfl ?_
    refine wa_ks ?_
    refine wa_iload_n (n := 3) rfl ?_
    have fb3 : ∀ (j : Nat) (x : Int), ¬ lhM j x → Sq3 j x = S j x := fun j x hj => (fS3 j x hj)
    have hMb3 : w_ML Sq3 := ML_w hM fb3 (fun j => lhM_1)
    have hKb3 : KR 241 T n cs ms Sq3 := KR_ag hK (fun j x hj => fb3 j x (by unfold lhM; omega))
    refine wa_cv 237 rfl (wy_pr rfl) wt_237 (M2 := fun _ => False) rfl at_M_wants ⟨_, rfl⟩ rfl rfl ⟨(Or.inr ⟨wy_pr rfl, fun q => q⟩), trivial, trivial, trivial, trivial⟩ trivial (fun _ _ q => False.elim q) (rwt83 (S := Sq3) hX hMb3 hnm ((fb3 282 nms (by unfold lhM; omega)).trans h82) hWl (fun x hx => (fb3 281 _ (by unfold lhM; omega)).trans (h81 x hx))) (fun oq7 Sq7 hp8 q7 => ?_)
    rcases q7 with ⟨rfl, hw7, hf7⟩
    show wJ _ _ _ _ _ _ _ _ _ _
    have hq7 : ∀ (j : Nat) (x : Int), ¬ lhM j x → Sq7 j x = Sq3 j x := fun j x hj => hf7 j x (lhM_wt hj)
    have fS7 : ∀ (j : Nat) (x : Int), ¬ lhM j x → Sq7 j x = S j x := fun j x hj => (hq7 j x hj).trans (fb3 j x hj)
    refine wa_aload_n (n := 0) rfl ?_
    refine wa_iload_n (n := 1) rfl ?_
    refine wa_iload_n (n := 2) rfl ?_
    refine wa_iconst ?_
    have fb4 : ∀ (j : Nat) (x : Int), ¬ lhM j x → Sq7 j x = S j x := fun j x hj => (fS7 j x hj)
    have hMb4 : w_ML Sq7 := ML_w hM fb4 (fun j => lhM_1)
    have hKb4 : KR 241 T n cs ms Sq7 := KR_ag hK (fun j x hj => fb4 j x (by unfold lhM; omega))
    refine wa_cv 237 rfl (wy_pr rfl) wt_237 (M2 := fun _ => False) rfl at_M_collects ⟨_, rfl⟩ rfl rfl ⟨(Or.inr ⟨wy_pr rfl, fun q => q⟩), trivial, trivial, trivial, trivial⟩ trivial (fun _ _ q => False.elim q) (rco_241 (S := Sq7) (c := c) (st := st) (pc := 0) (WW := (wnW [105, 115] W)) hMb4 hKb4 hw hO hA hst (by omega) hw7 hc) (fun oq9 Sq9 hp10 q9 => ?_)
    rcases q9 with ⟨rfl, hcd9, hf9⟩
    show wJ _ _ _ _ _ _ _ _ _ _
    have hq9 : ∀ (j : Nat) (x : Int), ¬ lhM j x → Sq9 j x = Sq7 j x := fun j x hj => hf9 j x (lhM_cd hj) (lhM_od hj)
    have fS9 : ∀ (j : Nat) (x : Int), ¬ lhM j x → Sq9 j x = S j x := fun j x hj => (hq9 j x hj).trans (fb4 j x hj)
    have hhl9 : ((cdA ms (okM T ms 1 st 0 (wnW [105, 115] W)) [] (mOr cs (os c))).length = 0 ∧ g2 = -1) ∨ (0 < (cdA ms (okM T ms 1 st 0 (wnW [105, 115] W)) [] (mOr cs (os c))).length ∧ 0 ≤ g2) := by rcases hF2 with ⟨z1, z2⟩ | ⟨⟨t, z1⟩, z2⟩; exact Or.inl ⟨by rw [z1]; rfl, z2⟩; exact Or.inr ⟨by rw [z1]; exact Nat.succ_pos _, z2⟩
    have hhd9 : 0 < (cdA ms (okM T ms 1 st 0 (wnW [105, 115] W)) [] (mOr cs (os c))).length → Sq9 355 0 = g2 := fun z => (hcd9.2.1 0 z).trans (by rcases hF2 with ⟨z1, z2⟩ | ⟨⟨t, z1⟩, z2⟩; rw [z1] at z; exact absurd z (Nat.lt_irrefl _); rw [z1]; rfl)
    have hcl9 := hcd9.2.2
    refine wa_aload_n (n := 0) rfl ?_
    refine wb_gfi 237 rfl (wy_pr rfl) wt_237 wf_15_128 (v := ((cdA ms (okM T ms 1 st 0 (wnW [105, 115] W)) [] (mOr cs (os c))).length : Int)) (hcd9.1) (fun r11 => ?_)
    refine wa_ifle (w_rg0 (by omega) (by omega)) ⟨_, rfl⟩ (fun c12 => ?_) (fun c12 => ?_)
    · skip
      refine wa_aload_n (n := 0) rfl ?_
      refine wa_ks ?_
      refine wa_iload_n (n := 3) rfl ?_
      have fb5 : ∀ (j : Nat) (x : Int), ¬ lhM j x → Sq9 j x = S j x := fun j x hj => (fS9 j x hj)
      have hMb5 : w_ML Sq9 := ML_w hM fb5 (fun j => lhM_1)
      have hKb5 : KR 241 T n cs ms Sq9 := KR_ag hK (fun j x hj => fb5 j x (by unfold lhM; omega))
      refine wa_cv 237 rfl (wy_pr rfl) wt_237 (M2 := fun _ => False) rfl at_M_wants ⟨_, rfl⟩ rfl rfl ⟨(Or.inr ⟨wy_pr rfl, fun q => q⟩), trivial, trivial, trivial, trivial⟩ trivial (fun _ _ q => False.elim q) (rwt53 (S := Sq9) hX hMb5 hnm ((fb5 282 nms (by unfold lhM; omega)).trans h82) hWl (fun x hx => (fb5 281 _ (by unfold lhM; omega)).trans (h81 x hx))) (fun oq13 Sq13 hp14 q13 => ?_)
      rcases q13 with ⟨rfl, hw13, hf13⟩
      show wJ _ _ _ _ _ _ _ _ _ _
      have hq13 : ∀ (j : Nat) (x : Int), ¬ lhM j x → Sq13 j x = Sq9 j x := fun j x hj => hf13 j x (lhM_wt hj)
      have fS13 : ∀ (j : Nat) (x : Int), ¬ lhM j x → Sq13 j x = S j x := fun j x hj => (hq13 j x hj).trans (fb5 j x hj)
      refine wa_aload_n (n := 0) rfl ?_
      refine wa_iload_n (n := 1) rfl ?_
      refine wa_iload_n (n := 2) rfl ?_
      refine wa_ifeq (w_rg0 (by omega) (by omega)) ⟨_, rfl⟩ (fun c15 => ?_) (fun c15 => ?_)
      · skip
        refine wa_iconst ?_
        refine wa_fall ⟨_, rfl⟩ ?_
        refine wJ_top (show 0 = st by omega) ?_
        have fb6 : ∀ (j : Nat) (x : Int), ¬ lhM j x → Sq13 j x = S j x := fun j x hj => (fS13 j x hj)
        have hMb6 : w_ML Sq13 := ML_w hM fb6 (fun j => lhM_1)
        have hKb6 : KR 241 T n cs ms Sq13 := KR_ag hK (fun j x hj => fb6 j x (by unfold lhM; omega))
        have hwn : wtI W Sq13 := by have z := hw13; rw [show wnW ([] : List Int) W = W from if_pos rfl] at z; exact z
        refine wa_cv 237 rfl (wy_pr rfl) wt_237 (M2 := fun _ => False) rfl at_M_field ⟨_, rfl⟩ rfl rfl ⟨(Or.inr ⟨wy_pr rfl, fun q => q⟩), trivial, trivial, trivial, trivial⟩ trivial (fun _ _ q => False.elim q) (wJ_mono (rfd_241 (S := Sq13) (c := c) (st := st) (WW := W) hMb6 hKb6 hw ⟨by omega, by omega⟩ hwn hc) (fun o Z hz => (⟨hz.1, by rw [hfd]; exact hz.2⟩ : Sq13 = Z ∧ o = .inl (some (0, fd))))) (fun oq16 Sq16 hp17 q16 => ?_)
        rcases q16 with ⟨rfl, rfl⟩
        show wJ _ _ _ _ _ _ _ _ _ _
        refine wa_ireturn rfl ?_
        refine ⟨congrArg (fun z => Sum.inl (some (0, z))) ?_, fun j x hj => ?_⟩
        · rw [hgt, ← hfd]
          rw [if_neg (show ¬ g1 ≠ -1 by omega), if_neg (show ¬ (g2 ≠ -1 ∧ (hmR ms g2).2.2.2.1 = 3) from fun z => by have z1 := z.1; have z2 := z.2; first | omega | (rcases hF2 with y | y <;> omega)), if_pos rfl]
        · exact ((hf13 j x (fun z => hj (Or.inr (Or.inr z)))).trans ((hf9 j x (fun z => hj (Or.inr (Or.inl z))) (fun z => hj (Or.inl z))).trans ((hf7 j x (fun z => hj (Or.inr (Or.inr z)))).trans ((hf3 j x (fun z => hj (Or.inr (Or.inl z))) (fun z => hj (Or.inl z))).trans (hf1 j x (fun z => hj (Or.inr (Or.inr z))))))))
      · skip
        refine wa_iconst ?_
        refine wa_goto ⟨_, rfl⟩ ?_
        refine wJ_top (show 1 = st by omega) ?_
        have fb7 : ∀ (j : Nat) (x : Int), ¬ lhM j x → Sq13 j x = S j x := fun j x hj => (fS13 j x hj)
        have hMb7 : w_ML Sq13 := ML_w hM fb7 (fun j => lhM_1)
        have hKb7 : KR 241 T n cs ms Sq13 := KR_ag hK (fun j x hj => fb7 j x (by unfold lhM; omega))
        have hwn : wtI W Sq13 := by have z := hw13; rw [show wnW ([] : List Int) W = W from if_pos rfl] at z; exact z
        refine wa_cv 237 rfl (wy_pr rfl) wt_237 (M2 := fun _ => False) rfl at_M_field ⟨_, rfl⟩ rfl rfl ⟨(Or.inr ⟨wy_pr rfl, fun q => q⟩), trivial, trivial, trivial, trivial⟩ trivial (fun _ _ q => False.elim q) (wJ_mono (rfd_241 (S := Sq13) (c := c) (st := st) (WW := W) hMb7 hKb7 hw ⟨by omega, by omega⟩ hwn hc) (fun o Z hz => (⟨hz.1, by rw [hfd]; exact hz.2⟩ : Sq13 = Z ∧ o = .inl (some (0, fd))))) (fun oq18 Sq18 hp19 q18 => ?_)
        rcases q18 with ⟨rfl, rfl⟩
        show wJ _ _ _ _ _ _ _ _ _ _
        refine wa_ireturn rfl ?_
        refine ⟨congrArg (fun z => Sum.inl (some (0, z))) ?_, fun j x hj => ?_⟩
        · rw [hgt, ← hfd]
          rw [if_neg (show ¬ g1 ≠ -1 by omega), if_neg (show ¬ (g2 ≠ -1 ∧ (hmR ms g2).2.2.2.1 = 3) from fun z => by have z1 := z.1; have z2 := z.2; first | omega | (rcases hF2 with y | y <;> omega)), if_pos rfl]
        · exact ((hf13 j x (fun z => hj (Or.inr (Or.inr z)))).trans ((hf9 j x (fun z => hj (Or.inr (Or.inl z))) (fun z => hj (Or.inl z))).trans ((hf7 j x (fun z => hj (Or.inr (Or.inr z)))).trans ((hf3 j x (fun z => hj (Or.inr (Or.inl z))) (fun z => hj (Or.inl z))).trans (hf1 j x (fun z => hj (Or.inr (Or.inr z))))))))
    · skip
      have hg2m := KR_m hK (m := g2) (by omega) (hb2 (by omega))
      have hg2t : S 255 g2 = (hmR ms g2).2.2.2.1 := hg2m.1.2.2.2.1
      have hg2b := hb2 (by omega)
      refine wa_aload_n (n := 0) rfl ?_
      refine wb_gf5 237 rfl (wy_pr rfl) wt_237 wf_15_13 (v := 241) (((hq9 237 13 (by unfold lhM; omega)).trans (((hq7 237 13 (by unfold lhM; omega)).trans (((hq3 237 13 (by unfold lhM; omega)).trans (((hq1 237 13 (by unfold lhM; omega)).trans (h13))))))))) (fun r20 => ?_)
      refine wb_gf4 241 rfl (wy_pr rfl) wt_241 wf_12_15 (v := 255) wl_241_15 ?_
      refine wa_aload_n (n := 0) rfl ?_
      refine wb_gf4 237 rfl (wy_pr rfl) wt_237 wf_15_129 (v := 355) wl_237_129 ?_
      refine wa_iconst ?_
      refine wb_iald 355 rfl (wy_pr rfl) wt_355 (n := 400) (((hq9 355 (-1) (by unfold lhM; omega)).trans (((hq7 355 (-1) (by unfold lhM; omega)).trans (((hq3 355 (-1) (by unfold lhM; omega)).trans (((hq1 355 (-1) (by unfold lhM; omega)).trans ((ml_355 hM)))))))))) (by omega) (by omega) (v := g2) ((hhd9 (by omega))) (fun r21 => ?_)
      refine wb_iald 255 rfl (wy_pr rfl) wt_255 (n := 400) (((hq9 255 (-1) (by unfold lhM; omega)).trans (((hq7 255 (-1) (by unfold lhM; omega)).trans (((hq3 255 (-1) (by unfold lhM; omega)).trans (((hq1 255 (-1) (by unfold lhM; omega)).trans ((ml_255 hM)))))))))) (by omega) (by omega) (v := (hmR ms g2).2.2.2.1) (((hq9 255 g2 (by unfold lhM; omega)).trans (((hq7 255 g2 (by unfold lhM; omega)).trans (((hq3 255 g2 (by unfold lhM; omega)).trans (((hq1 255 g2 (by unfold lhM; omega)).trans (hg2t))))))))) (fun r22 => ?_)
      refine wa_iconst ?_
      refine wa_icmpne (w_rg0 (by omega) (by omega)) (w_rg0 (by omega) (by omega)) ⟨_, rfl⟩ (fun c23 => ?_) (fun c23 => ?_)
      · skip
        refine wa_aload_n (n := 0) rfl ?_
        refine wa_ks ?_
        refine wa_iload_n (n := 3) rfl ?_
        have fb8 : ∀ (j : Nat) (x : Int), ¬ lhM j x → Sq9 j x = S j x := fun j x hj => (fS9 j x hj)
        have hMb8 : w_ML Sq9 := ML_w hM fb8 (fun j => lhM_1)
        have hKb8 : KR 241 T n cs ms Sq9 := KR_ag hK (fun j x hj => fb8 j x (by unfold lhM; omega))
        refine wa_cv 237 rfl (wy_pr rfl) wt_237 (M2 := fun _ => False) rfl at_M_wants ⟨_, rfl⟩ rfl rfl ⟨(Or.inr ⟨wy_pr rfl, fun q => q⟩), trivial, trivial, trivial, trivial⟩ trivial (fun _ _ q => False.elim q) (rwt53 (S := Sq9) hX hMb8 hnm ((fb8 282 nms (by unfold lhM; omega)).trans h82) hWl (fun x hx => (fb8 281 _ (by unfold lhM; omega)).trans (h81 x hx))) (fun oq24 Sq24 hp25 q24 => ?_)
        rcases q24 with ⟨rfl, hw24, hf24⟩
        show wJ _ _ _ _ _ _ _ _ _ _
        have hq24 : ∀ (j : Nat) (x : Int), ¬ lhM j x → Sq24 j x = Sq9 j x := fun j x hj => hf24 j x (lhM_wt hj)
        have fS24 : ∀ (j : Nat) (x : Int), ¬ lhM j x → Sq24 j x = S j x := fun j x hj => (hq24 j x hj).trans (fb8 j x hj)
        refine wa_aload_n (n := 0) rfl ?_
        refine wa_iload_n (n := 1) rfl ?_
        refine wa_iload_n (n := 2) rfl ?_
        refine wa_ifeq (w_rg0 (by omega) (by omega)) ⟨_, rfl⟩ (fun c26 => ?_) (fun c26 => ?_)
        · skip
          refine wa_iconst ?_
          refine wa_fall ⟨_, rfl⟩ ?_
          refine wJ_top (show 0 = st by omega) ?_
          have fb9 : ∀ (j : Nat) (x : Int), ¬ lhM j x → Sq24 j x = S j x := fun j x hj => (fS24 j x hj)
          have hMb9 : w_ML Sq24 := ML_w hM fb9 (fun j => lhM_1)
          have hKb9 : KR 241 T n cs ms Sq24 := KR_ag hK (fun j x hj => fb9 j x (by unfold lhM; omega))
          have hwn : wtI W Sq24 := by have z := hw24; rw [show wnW ([] : List Int) W = W from if_pos rfl] at z; exact z
          refine wa_cv 237 rfl (wy_pr rfl) wt_237 (M2 := fun _ => False) rfl at_M_field ⟨_, rfl⟩ rfl rfl ⟨(Or.inr ⟨wy_pr rfl, fun q => q⟩), trivial, trivial, trivial, trivial⟩ trivial (fun _ _ q => False.elim q) (wJ_mono (rfd_241 (S := Sq24) (c := c) (st := st) (WW := W) hMb9 hKb9 hw ⟨by omega, by omega⟩ hwn hc) (fun o Z hz => (⟨hz.1, by rw [hfd]; exact hz.2⟩ : Sq24 = Z ∧ o = .inl (some (0, fd))))) (fun oq27 Sq27 hp28 q27 => ?_)
          rcases q27 with ⟨rfl, rfl⟩
          show wJ _ _ _ _ _ _ _ _ _ _
          refine wa_ireturn rfl ?_
          refine ⟨congrArg (fun z => Sum.inl (some (0, z))) ?_, fun j x hj => ?_⟩
          · rw [hgt, ← hfd]
            rw [if_neg (show ¬ g1 ≠ -1 by omega), if_neg (show ¬ (g2 ≠ -1 ∧ (hmR ms g2).2.2.2.1 = 3) from fun z => by have z1 := z.1; have z2 := z.2; first | omega | (rcases hF2 with y | y <;> omega)), if_pos rfl]
          · exact ((hf24 j x (fun z => hj (Or.inr (Or.inr z)))).trans ((hf9 j x (fun z => hj (Or.inr (Or.inl z))) (fun z => hj (Or.inl z))).trans ((hf7 j x (fun z => hj (Or.inr (Or.inr z)))).trans ((hf3 j x (fun z => hj (Or.inr (Or.inl z))) (fun z => hj (Or.inl z))).trans (hf1 j x (fun z => hj (Or.inr (Or.inr z))))))))
        · skip
          refine wa_iconst ?_
          refine wa_goto ⟨_, rfl⟩ ?_
          refine wJ_top (show 1 = st by omega) ?_
          have fb10 : ∀ (j : Nat) (x : Int), ¬ lhM j x → Sq24 j x = S j x := fun j x hj => (fS24 j x hj)
          have hMb10 : w_ML Sq24 := ML_w hM fb10 (fun j => lhM_1)
          have hKb10 : KR 241 T n cs ms Sq24 := KR_ag hK (fun j x hj => fb10 j x (by unfold lhM; omega))
          have hwn : wtI W Sq24 := by have z := hw24; rw [show wnW ([] : List Int) W = W from if_pos rfl] at z; exact z
          refine wa_cv 237 rfl (wy_pr rfl) wt_237 (M2 := fun _ => False) rfl at_M_field ⟨_, rfl⟩ rfl rfl ⟨(Or.inr ⟨wy_pr rfl, fun q => q⟩), trivial, trivial, trivial, trivial⟩ trivial (fun _ _ q => False.elim q) (wJ_mono (rfd_241 (S := Sq24) (c := c) (st := st) (WW := W) hMb10 hKb10 hw ⟨by omega, by omega⟩ hwn hc) (fun o Z hz => (⟨hz.1, by rw [hfd]; exact hz.2⟩ : Sq24 = Z ∧ o = .inl (some (0, fd))))) (fun oq29 Sq29 hp30 q29 => ?_)
          rcases q29 with ⟨rfl, rfl⟩
          show wJ _ _ _ _ _ _ _ _ _ _
          refine wa_ireturn rfl ?_
          refine ⟨congrArg (fun z => Sum.inl (some (0, z))) ?_, fun j x hj => ?_⟩
          · rw [hgt, ← hfd]
            rw [if_neg (show ¬ g1 ≠ -1 by omega), if_neg (show ¬ (g2 ≠ -1 ∧ (hmR ms g2).2.2.2.1 = 3) from fun z => by have z1 := z.1; have z2 := z.2; first | omega | (rcases hF2 with y | y <;> omega)), if_pos rfl]
          · exact ((hf24 j x (fun z => hj (Or.inr (Or.inr z)))).trans ((hf9 j x (fun z => hj (Or.inr (Or.inl z))) (fun z => hj (Or.inl z))).trans ((hf7 j x (fun z => hj (Or.inr (Or.inr z)))).trans ((hf3 j x (fun z => hj (Or.inr (Or.inl z))) (fun z => hj (Or.inl z))).trans (hf1 j x (fun z => hj (Or.inr (Or.inr z))))))))
      · skip
        refine wa_aload_n (n := 0) rfl ?_
        refine wb_gf4 237 rfl (wy_pr rfl) wt_237 wf_15_129 (v := 355) wl_237_129 ?_
        refine wa_iconst ?_
        refine wb_iald 355 rfl (wy_pr rfl) wt_355 (n := 400) (((hq9 355 (-1) (by unfold lhM; omega)).trans (((hq7 355 (-1) (by unfold lhM; omega)).trans (((hq3 355 (-1) (by unfold lhM; omega)).trans (((hq1 355 (-1) (by unfold lhM; omega)).trans ((ml_355 hM)))))))))) (by omega) (by omega) (v := g2) ((hhd9 (by omega))) (fun r31 => ?_)
        refine wa_ireturn rfl ?_
        refine ⟨congrArg (fun z => Sum.inl (some (0, z))) ?_, fun j x hj => ?_⟩
        · rw [hgt, ← hfd]
          rw [if_neg (show ¬ g1 ≠ -1 by omega), if_pos (show g2 ≠ -1 ∧ (hmR ms g2).2.2.2.1 = 3 from ⟨by omega, by omega⟩), if_neg (by omega)]
        · exact ((hf9 j x (fun z => hj (Or.inr (Or.inl z))) (fun z => hj (Or.inl z))).trans ((hf7 j x (fun z => hj (Or.inr (Or.inr z)))).trans ((hf3 j x (fun z => hj (Or.inr (Or.inl z))) (fun z => hj (Or.inl z))).trans (hf1 j x (fun z => hj (Or.inr (Or.inr z)))))))
  · skip
    refine wa_aload_n (n := 0) rfl ?_
    refine wb_gf4 237 rfl (wy_pr rfl) wt_237 wf_15_129 (v := 355) wl_237_129 ?_
    refine wa_iconst ?_
    refine wb_iald 355 rfl (wy_pr rfl) wt_355 (n := 400) (((hq3 355 (-1) (by unfold lhM; omega)).trans (((hq1 355 (-1) (by unfold lhM; omega)).trans ((ml_355 hM)))))) (by omega) (by omega) (v := g1) ((hhd3 (by omega))) (fun r32 => ?_)
    refine wa_ireturn rfl ?_
    refine ⟨congrArg (fun z => Sum.inl (some (0, z))) ?_, fun j x hj => ?_⟩
    · rw [hgt, ← hfd]
      rw [if_pos (show g1 ≠ -1 by omega), if_neg (by omega)]
    · exact ((hf3 j x (fun z => hj (Or.inr (Or.inl z))) (fun z => hj (Or.inl z))).trans (hf1 j x (fun z => hj (Or.inr (Or.inr z)))))
theorem rcs1_261 {c am fs md nc : Int} {WW tl F : List Int} (hM : w_ML S) (hK : KR 261 T n cs ms S) (hw : wHo cs ms os) (hC : rCh T cs ms os N CH wo mo S) (hT : tEs tl S) (hqk : qRk T cs ms os N (c, am, fs, WW, tl)) (hmd : md = qMd (c, am, fs, WW, tl)) (hnc : nc = qNc T cs ms os N (c, am, fs, WW, tl)) (hmr : 0 ≤ md ∧ md ≤ 5) (hnr : -1 ≤ nc ∧ nc ≤ 4000) (hes : esOk tl) (hty : ∀ c ∈ tl, c < 9 + (cs.length : Int)) (hcd : cdI F S) (hFm : ∀ x ∈ F, 0 ≤ x ∧ x < (ms.length : Int)) (hF : F = FA T cs ms os c am fs WW) (hwo : wo < 10000000) : wJ (pe_GA xs) wY0 M (d + 6) t_M_chooses ((pe_at t_M_chooses.bl 0).getD (0, [])).2 [(0, (2, 237)), (1, (0, c)), (2, (0, md)), (3, (0, nc)), (4, (0, 1))] [] S (fun o Z => (0 ≤ rvA T cs ms os (c, am, fs, WW, tl) → o = .inl none ∧ Z 237 170 = rvA T cs ms os (c, am, fs, WW, tl)) ∧ (rvA T cs ms os (c, am, fs, WW, tl) < 0 → o = .inr 238 ∧ Z 238 5 = -rvA T cs ms os (c, am, fs, WW, tl) ∧ Z 238 6 = 0) ∧ rCh T cs ms os N (chN CH wo mo (c, am, fs, WW, tl) F).1 (chN CH wo mo (c, am, fs, WW, tl) F).2 mo Z ∧ ∀ (j : Nat) (x : Int), ¬ csM j x → Z j x = S j x) := by
  have hrr := rvA_rg (T := T) (q := (c, am, fs, WW, tl)) hw hqk.1
  have hrvs : rvA T cs ms os (c, am, fs, WW, tl) = sgA cs ms tl F := by rw [hF]; exact if_neg hqk.2.2.2.2.2.2
  obtain ⟨v, hv⟩ : ∃ v : Int, v = rvA T cs ms os (c, am, fs, WW, tl) := ⟨_, rfl⟩
  rw [← hv] at hrr ⊢
  refine wa_iload (n := 4) rfl ?_
  refine wa_ifeq (w_rg0 (by omega) (by omega)) ⟨_, rfl⟩ (fun c1 => ?_) (fun c1 => ?_)
  · skip
    exact absurd c1 (by omega)
  · skip
    refine wa_aload_n (n := 0) rfl ?_
    refine wa_iload_n (n := 1) rfl ?_
    refine wa_iload_n (n := 2) rfl ?_
    refine wa_iload_n (n := 3) rfl ?_
    refine wa_cv 237 rfl (wy_pr rfl) wt_237 (M2 := fun _ => False) rfl at_M_chosen ⟨_, rfl⟩ rfl rfl ⟨(Or.inr ⟨wy_pr rfl, fun q => q⟩), trivial, trivial, trivial, trivial, trivial⟩ trivial (fun _ _ q => False.elim q) (wJ_mono (rcn_261 (S := S) (F := F) hM hK hw hC hT hqk hmd hnc hmr hnr hes hty hcd hFm hF hwo) (fun o Z hz => (⟨by rw [hv]; exact hz.1, hz.2⟩ : o = .inl (some (0, v)) ∧ _ ∧ _))) (fun oq2 Sq2 hp3 q2 => ?_)
    rcases q2 with ⟨rfl, hc9, hf9⟩
    show wJ _ _ _ _ _ _ _ _ _ _
    refine wa_goto ⟨_, rfl⟩ ?_
    refine wa_istore (n := 5) rfl ?_
    refine wa_iload (n := 5) rfl ?_
    refine wa_ifge (w_rg0 (by omega) (by omega)) ⟨_, rfl⟩ (fun c4 => ?_) (fun c4 => ?_)
    · skip
      refine wa_aload_n (n := 0) rfl ?_
      refine wa_iload (n := 5) rfl ?_
      refine wb_pfi 237 rfl (wy_pr rfl) wt_237 wf_15_170 (n := 170) rfl ⟨(by omega), (by omega)⟩ ?_
      refine wa_return rfl ?_
      exact ⟨fun _ => ⟨rfl, (w_up_same _ _ _ _)⟩, fun z => absurd z (by omega), rCh_ag hc9 (fun j x hj => (w_up_no (by unfold chM at hj; omega))), fun j x hj => ((w_up_no (by unfold csM at hj; omega)).trans (hf9 j x (by unfold csM at hj; exact fun z => hj (Or.inl z))))⟩
    · skip
      refine wa_aload_n (n := 0) rfl ?_
      refine wa_iload (n := 5) rfl ?_
      refine wa_ineg ?_
      refine wa_cv 237 rfl (wy_pr rfl) wt_237 (M2 := fun _ => False) rfl at_M_error ⟨_, rfl⟩ rfl rfl ⟨trivial, (Or.inr ⟨wy_pr rfl, fun q => q⟩), trivial, trivial, trivial, trivial, trivial⟩ trivial (fun _ _ q => False.elim q) ?_ (fun _ _ _ q => q)
      refine wa_aload_n (n := 0) rfl ?_
      refine wb_gf4 237 rfl (wy_pr rfl) wt_237 wf_15_1 (v := 238) wl_237_1 ?_
      refine wa_iload_n (n := 1) rfl ?_
      refine wa_iconst ?_
      refine wa_cv 238 rfl (wy_pr rfl) wt_238 (M2 := fun _ => False) rfl at_MH_of ⟨_, rfl⟩ rfl rfl ⟨(Or.inr ⟨wy_pr rfl, fun q => q⟩), trivial, trivial⟩ trivial (fun _ _ q => False.elim q) ?_ (fun _ _ _ q => q)
      refine wa_aload_n (n := 0) rfl ?_
      refine wa_iload_n (n := 1) rfl ?_
      refine wb_pfi 238 rfl (wy_pr rfl) wt_238 wf_11_5 (n := 5) rfl ⟨(by omega), (by omega)⟩ ?_
      refine wa_aload_n (n := 0) rfl ?_
      refine wa_iload_n (n := 2) rfl ?_
      refine wb_pfi 238 rfl (wy_pr rfl) wt_238 wf_11_6 (n := 6) rfl ⟨(by omega), (by omega)⟩ ?_
      refine wa_aload_n (n := 0) rfl ?_
      refine wa_oreturn rfl ?_
      show wJ _ _ _ _ _ _ _ _ _ _
      refine wa_th (j := 238) ?_
      refine ⟨rfl, ?_⟩
      exact ⟨fun z => absurd z (by omega), fun _ => ⟨rfl, ((w_up_at (by first | decide | omega)).trans (w_up_same _ _ _ _)), (w_up_same _ _ _ _)⟩, rCh_ag hc9 (fun j x hj => ((w_up_no (by unfold chM at hj; omega)).trans (w_up_no (by unfold chM at hj; omega)))), fun j x hj => ((w_up_no (by unfold csM at hj; omega)).trans ((w_up_no (by unfold csM at hj; omega)).trans (hf9 j x (by unfold csM at hj; exact fun z => hj (Or.inl z)))))⟩
theorem rcs0_261 {c am fs md nc : Int} {WW tl F : List Int} (hM : w_ML S) (hK : KR 261 T n cs ms S) (hw : wHo cs ms os) (hC : rCh T cs ms os N CH wo mo S) (hT : tEs tl S) (hqk : qRk T cs ms os N (c, am, fs, WW, tl)) (hmd : md = qMd (c, am, fs, WW, tl)) (hnc : nc = qNc T cs ms os N (c, am, fs, WW, tl)) (hmr : 0 ≤ md ∧ md ≤ 5) (hnr : -1 ≤ nc ∧ nc ≤ 4000) (hes : esOk tl) (hty : ∀ c ∈ tl, c < 9 + (cs.length : Int)) (hcd : cdI F S) (hFm : ∀ x ∈ F, 0 ≤ x ∧ x < (ms.length : Int)) (hF : F = FA T cs ms os c am fs WW) (hwo : wo < 10000000) : wJ (pe_GA xs) wY0 M (d + 6) t_M_chooses ((pe_at t_M_chooses.bl 0).getD (0, [])).2 [(0, (2, 237)), (1, (0, c)), (2, (0, md)), (3, (0, nc)), (4, (0, 0))] [] S (fun o Z => (0 ≤ rvA T cs ms os (c, am, fs, WW, tl) → o = .inl none ∧ Z 237 170 = rvA T cs ms os (c, am, fs, WW, tl)) ∧ (rvA T cs ms os (c, am, fs, WW, tl) < 0 → o = .inr 238 ∧ Z 238 5 = -rvA T cs ms os (c, am, fs, WW, tl) ∧ Z 238 6 = 0) ∧ rCh T cs ms os N CH wo mo Z ∧ ∀ (j : Nat) (x : Int), ¬ csM j x → Z j x = S j x) := by
  have hrr := rvA_rg (T := T) (q := (c, am, fs, WW, tl)) hw hqk.1
  have hrvs : rvA T cs ms os (c, am, fs, WW, tl) = sgA cs ms tl F := by rw [hF]; exact if_neg hqk.2.2.2.2.2.2
  obtain ⟨v, hv⟩ : ∃ v : Int, v = rvA T cs ms os (c, am, fs, WW, tl) := ⟨_, rfl⟩
  rw [← hv] at hrr ⊢
  refine wa_iload (n := 4) rfl ?_
  refine wa_ifeq (w_rg0 (by omega) (by omega)) ⟨_, rfl⟩ (fun c1 => ?_) (fun c1 => ?_)
  · skip
    refine wa_aload_n (n := 0) rfl ?_
    refine wa_cv 237 rfl (wy_pr rfl) wt_237 (M2 := fun _ => False) rfl at_M_single ⟨_, rfl⟩ rfl rfl ⟨(Or.inr ⟨wy_pr rfl, fun q => q⟩), trivial, trivial, trivial, trivial, trivial⟩ trivial (fun _ _ q => False.elim q) (wJ_mono (rsg_261 (S := S) (tl := tl) (F := F) hM hK hw hT hes hty hcd hFm) (fun o Z hz => (⟨hz.1, hz.2.trans (by rw [hv, hrvs])⟩ : S = Z ∧ o = .inl (some (0, v))))) (fun oq2 Sq2 hp3 q2 => ?_)
    rcases q2 with ⟨rfl, rfl⟩
    show wJ _ _ _ _ _ _ _ _ _ _
    refine wa_fall ⟨_, rfl⟩ ?_
    refine wa_istore (n := 5) rfl ?_
    refine wa_iload (n := 5) rfl ?_
    refine wa_ifge (w_rg0 (by omega) (by omega)) ⟨_, rfl⟩ (fun c4 => ?_) (fun c4 => ?_)
    · skip
      refine wa_aload_n (n := 0) rfl ?_
      refine wa_iload (n := 5) rfl ?_
      refine wb_pfi 237 rfl (wy_pr rfl) wt_237 wf_15_170 (n := 170) rfl ⟨(by omega), (by omega)⟩ ?_
      refine wa_return rfl ?_
      exact ⟨fun _ => ⟨rfl, (w_up_same _ _ _ _)⟩, fun z => absurd z (by omega), rCh_ag hC (fun j x hj => (w_up_no (by unfold chM at hj; omega))), fun j x hj => (w_up_no (by unfold csM at hj; omega))⟩
    · skip
      refine wa_aload_n (n := 0) rfl ?_
      refine wa_iload (n := 5) rfl ?_
      refine wa_ineg ?_
      refine wa_cv 237 rfl (wy_pr rfl) wt_237 (M2 := fun _ => False) rfl at_M_error ⟨_, rfl⟩ rfl rfl ⟨trivial, (Or.inr ⟨wy_pr rfl, fun q => q⟩), trivial, trivial, trivial, trivial, trivial⟩ trivial (fun _ _ q => False.elim q) ?_ (fun _ _ _ q => q)
      refine wa_aload_n (n := 0) rfl ?_
      refine wb_gf4 237 rfl (wy_pr rfl) wt_237 wf_15_1 (v := 238) wl_237_1 ?_
      refine wa_iload_n (n := 1) rfl ?_
      refine wa_iconst ?_
      refine wa_cv 238 rfl (wy_pr rfl) wt_238 (M2 := fun _ => False) rfl at_MH_of ⟨_, rfl⟩ rfl rfl ⟨(Or.inr ⟨wy_pr rfl, fun q => q⟩), trivial, trivial⟩ trivial (fun _ _ q => False.elim q) ?_ (fun _ _ _ q => q)
      refine wa_aload_n (n := 0) rfl ?_
      refine wa_iload_n (n := 1) rfl ?_
      refine wb_pfi 238 rfl (wy_pr rfl) wt_238 wf_11_5 (n := 5) rfl ⟨(by omega), (by omega)⟩ ?_
      refine wa_aload_n (n := 0) rfl ?_
      refine wa_iload_n (n := 2) rfl ?_
      refine wb_pfi 238 rfl (wy_pr rfl) wt_238 wf_11_6 (n := 6) rfl ⟨(by omega), (by omega)⟩ ?_
      refine wa_aload_n (n := 0) rfl ?_
      refine wa_oreturn rfl ?_
      show wJ _ _ _ _ _ _ _ _ _ _
      refine wa_th (j := 238) ?_
      refine ⟨rfl, ?_⟩
      exact ⟨fun z => absurd z (by omega), fun _ => ⟨rfl, ((w_up_at (by first | decide | omega)).trans (w_up_same _ _ _ _)), (w_up_same _ _ _ _)⟩, rCh_ag hC (fun j x hj => ((w_up_no (by unfold chM at hj; omega)).trans (w_up_no (by unfold chM at hj; omega)))), fun j x hj => ((w_up_no (by unfold csM at hj; omega)).trans (w_up_no (by unfold csM at hj; omega)))⟩
  · skip
    exact absurd c1 (by omega)
theorem rgt_261 {c st nms : Int} {W : List Int} (hM : w_ML S) (hK : KR 261 T n cs ms S) (hw : wHo cs ms os) (hX : w_X xs) (hnm : 0 ≤ nms ∧ nms < 4000) (h82 : S 282 nms = (W.length : Int)) (hWl : W.length ≤ 60) (h81 : ∀ x : Nat, x < W.length → S 281 (60 * nms + (x : Int)) = W.getD x 0) (hO : wOs cs os) (hA : wAb cs) (hc : 0 ≤ c ∧ c < (cs.length : Int)) (hst : st = 0 ∨ st = 1) : wJ (pe_GA xs) wY0 M (d + 65) t_M_getter ((pe_at t_M_getter.bl 0).getD (0, [])).2 [(0, (2, 237)), (1, (0, c)), (2, (0, st)), (3, (0, nms))] [] S (fun o Z => o = .inl (some (0, (if gtA T cs ms os st W c = -1 then fdA T cs ms st W c else gtA T cs ms os st W c))) ∧ ∀ (j : Nat) (x : Int), ¬ (odM j x ∨ cdM j x ∨ wtM j x) → Z j x = S j x) := by
  have h60 := hw.1
  have h13 : S 237 13 = 261 := hK.1
  have hon := (hw.2.2.1 c hc.1 hc.2).2.2
  have hml : ∀ x ∈ mOr cs (os c), 0 ≤ x ∧ x < (ms.length : Int) := fun x hx => mOr_rg hw hon hx
  have hml0 : ∀ x ∈ mOr cs (os c), 0 ≤ x := fun x hx => (hml x hx).1
  obtain ⟨g1, hg1⟩ : ∃ g : Int, g = fsA (okM T ms 1 st 0 (wnW [103, 101, 116] W)) (mOr cs (os c)) := ⟨_, rfl⟩
  obtain ⟨g2, hg2⟩ : ∃ g : Int, g = fsA (okM T ms 1 st 0 (wnW [105, 115] W)) (mOr cs (os c)) := ⟨_, rfl⟩
  obtain ⟨fd, hfd⟩ : ∃ r : Int, r = fdA T cs ms st W c := ⟨_, rfl⟩
  have hgt : gtA T cs ms os st W c = if g1 ≠ -1 then g1 else if g2 ≠ -1 ∧ (hmR ms g2).2.2.2.1 = 3 then g2 else -1 := by unfold gtA; rw [← hg1, ← hg2]
  have hF1 := cdF_h (ms := ms) (ok := okM T ms 1 st 0 (wnW [103, 101, 116] W)) hml0
  have hF2 := cdF_h (ms := ms) (ok := okM T ms 1 st 0 (wnW [105, 115] W)) hml0
  rw [← hg1] at hF1
  rw [← hg2] at hF2
  have hb2 : 0 ≤ g2 → g2 < (ms.length : Int) := fun z => by
    rcases fsA_bd (ok := okM T ms 1 st 0 (wnW [105, 115] W)) hml with y | y
    · rw [← hg2] at y; omega
    · rw [← hg2] at y; exact y.2
  have hb1 : 0 ≤ g1 → g1 < (ms.length : Int) := fun z => by
    rcases fsA_bd (ok := okM T ms 1 st 0 (wnW [103, 101, 116] W)) hml with y | y
    · rw [← hg1] at y; omega
    · rw [← hg1] at y; exact y.2
  have hfr := fdA_rg (T := T) (st := st) (W := W) hw hc
  refine wa_aload_n (n := 0) rfl ?_
  refine wa_ks ?_
  refine wa_iload_n (n := 3) rfl ?_
  have fb1 : ∀ (j : Nat) (x : Int), ¬ lhM j x → S j x = S j x := fun j x hj => rfl
  have hMb1 : w_ML S := ML_w hM fb1 (fun j => lhM_1)
  have hKb1 : KR 261 T n cs ms S := KR_ag hK (fun j x hj => fb1 j x (by unfold lhM; omega))
  refine wa_cv 237 rfl (wy_pr rfl) wt_237 (M2 := fun _ => False) rfl at_M_wants ⟨_, rfl⟩ rfl rfl ⟨(Or.inr ⟨wy_pr rfl, fun q => q⟩), trivial, trivial, trivial, trivial⟩ trivial (fun _ _ q => False.elim q) (rwt81 (S := S) hX hMb1 hnm ((fb1 282 nms (by unfold lhM; omega)).trans h82) hWl (fun x hx => (fb1 281 _ (by unfold lhM; omega)).trans (h81 x hx))) (fun oq1 Sq1 hp2 q1 => ?_)
  rcases q1 with ⟨rfl, hw1, hf1⟩
  show wJ _ _ _ _ _ _ _ _ _ _
  have hq1 : ∀ (j : Nat) (x : Int), ¬ lhM j x → Sq1 j x = S j x := fun j x hj => hf1 j x (lhM_wt hj)
  have fS1 : ∀ (j : Nat) (x : Int), ¬ lhM j x → Sq1 j x = S j x := fun j x hj => (hq1 j x hj).trans (fb1 j x hj)
  refine wa_aload_n (n := 0) rfl ?_
  refine wa_iload_n (n := 1) rfl ?_
  refine wa_iload_n (n := 2) rfl ?_
  refine wa_iconst ?_
  have fb2 : ∀ (j : Nat) (x : Int), ¬ lhM j x → Sq1 j x = S j x := fun j x hj => (fS1 j x hj)
  have hMb2 : w_ML Sq1 := ML_w hM fb2 (fun j => lhM_1)
  have hKb2 : KR 261 T n cs ms Sq1 := KR_ag hK (fun j x hj => fb2 j x (by unfold lhM; omega))
  refine wa_cv 237 rfl (wy_pr rfl) wt_237 (M2 := fun _ => False) rfl at_M_collects ⟨_, rfl⟩ rfl rfl ⟨(Or.inr ⟨wy_pr rfl, fun q => q⟩), trivial, trivial, trivial, trivial⟩ trivial (fun _ _ q => False.elim q) (rco_261 (S := Sq1) (c := c) (st := st) (pc := 0) (WW := (wnW [103, 101, 116] W)) hMb2 hKb2 hw hO hA hst (by omega) hw1 hc) (fun oq3 Sq3 hp4 q3 => ?_)
  rcases q3 with ⟨rfl, hcd3, hf3⟩
  show wJ _ _ _ _ _ _ _ _ _ _
  have hq3 : ∀ (j : Nat) (x : Int), ¬ lhM j x → Sq3 j x = Sq1 j x := fun j x hj => hf3 j x (lhM_cd hj) (lhM_od hj)
  have fS3 : ∀ (j : Nat) (x : Int), ¬ lhM j x → Sq3 j x = S j x := fun j x hj => (hq3 j x hj).trans (fb2 j x hj)
  have hhl3 : ((cdA ms (okM T ms 1 st 0 (wnW [103, 101, 116] W)) [] (mOr cs (os c))).length = 0 ∧ g1 = -1) ∨ (0 < (cdA ms (okM T ms 1 st 0 (wnW [103, 101, 116] W)) [] (mOr cs (os c))).length ∧ 0 ≤ g1) := by rcases hF1 with ⟨z1, z2⟩ | ⟨⟨t, z1⟩, z2⟩; exact Or.inl ⟨by rw [z1]; rfl, z2⟩; exact Or.inr ⟨by rw [z1]; exact Nat.succ_pos _, z2⟩
  have hhd3 : 0 < (cdA ms (okM T ms 1 st 0 (wnW [103, 101, 116] W)) [] (mOr cs (os c))).length → Sq3 355 0 = g1 := fun z => (hcd3.2.1 0 z).trans (by rcases hF1 with ⟨z1, z2⟩ | ⟨⟨t, z1⟩, z2⟩; rw [z1] at z; exact absurd z (Nat.lt_irrefl _); rw [z1]; rfl)
  have hcl3 := hcd3.2.2
  refine wa_aload_n (n := 0) rfl ?_
  refine wb_gfi 237 rfl (wy_pr rfl) wt_237 wf_15_128 (v := ((cdA ms (okM T ms 1 st 0 (wnW [103, 101, 116] W)) [] (mOr cs (os c))).length : Int)) (hcd3.1) (fun r5 => ?_)
  refine wa_ifle (w_rg0 (by omega) (by omega)) ⟨_, rfl⟩ (fun c6 => ?_) (fun c6 => ?_)
  · skip
    refine wa_aload_n (n := 0) rfl ?_
    refine wa_ks ?_
    refine wa_iload_n (n := 3) rfl ?_
    have fb3 : ∀ (j : Nat) (x : Int), ¬ lhM j x → Sq3 j x = S j x := fun j x hj => (fS3 j x hj)
    have hMb3 : w_ML Sq3 := ML_w hM fb3 (fun j => lhM_1)
    have hKb3 : KR 261 T n cs ms Sq3 := KR_ag hK (fun j x hj => fb3 j x (by unfold lhM; omega))
    refine wa_cv 237 rfl (wy_pr rfl) wt_237 (M2 := fun _ => False) rfl at_M_wants ⟨_, rfl⟩ rfl rfl ⟨(Or.inr ⟨wy_pr rfl, fun q => q⟩), trivial, trivial, trivial, trivial⟩ trivial (fun _ _ q => False.elim q) (rwt83 (S := Sq3) hX hMb3 hnm ((fb3 282 nms (by unfold lhM; omega)).trans h82) hWl (fun x hx => (fb3 281 _ (by unfold lhM; omega)).trans (h81 x hx))) (fun oq7 Sq7 hp8 q7 => ?_)
    rcases q7 with ⟨rfl, hw7, hf7⟩
    show wJ _ _ _ _ _ _ _ _ _ _
    have hq7 : ∀ (j : Nat) (x : Int), ¬ lhM j x → Sq7 j x = Sq3 j x := fun j x hj => hf7 j x (lhM_wt hj)
    have fS7 : ∀ (j : Nat) (x : Int), ¬ lhM j x → Sq7 j x = S j x := fun j x hj => (hq7 j x hj).trans (fb3 j x hj)
    refine wa_aload_n (n := 0) rfl ?_
    refine wa_iload_n (n := 1) rfl ?_
    refine wa_iload_n (n := 2) rfl ?_
    refine wa_iconst ?_
    have fb4 : ∀ (j : Nat) (x : Int), ¬ lhM j x → Sq7 j x = S j x := fun j x hj => (fS7 j x hj)
    have hMb4 : w_ML Sq7 := ML_w hM fb4 (fun j => lhM_1)
    have hKb4 : KR 261 T n cs ms Sq7 := KR_ag hK (fun j x hj => fb4 j x (by unfold lhM; omega))
    refine wa_cv 237 rfl (wy_pr rfl) wt_237 (M2 := fun _ => False) rfl at_M_collects ⟨_, rfl⟩ rfl rfl ⟨(Or.inr ⟨wy_pr rfl, fun q => q⟩), trivial, trivial, trivial, trivial⟩ trivial (fun _ _ q => False.elim q) (rco_261 (S := Sq7) (c := c) (st := st) (pc := 0) (WW := (wnW [105, 115] W)) hMb4 hKb4 hw hO hA hst (by omega) hw7 hc) (fun oq9 Sq9 hp10 q9 => ?_)
    rcases q9 with ⟨rfl, hcd9, hf9⟩
    show wJ _ _ _ _ _ _ _ _ _ _
    have hq9 : ∀ (j : Nat) (x : Int), ¬ lhM j x → Sq9 j x = Sq7 j x := fun j x hj => hf9 j x (lhM_cd hj) (lhM_od hj)
    have fS9 : ∀ (j : Nat) (x : Int), ¬ lhM j x → Sq9 j x = S j x := fun j x hj => (hq9 j x hj).trans (fb4 j x hj)
    have hhl9 : ((cdA ms (okM T ms 1 st 0 (wnW [105, 115] W)) [] (mOr cs (os c))).length = 0 ∧ g2 = -1) ∨ (0 < (cdA ms (okM T ms 1 st 0 (wnW [105, 115] W)) [] (mOr cs (os c))).length ∧ 0 ≤ g2) := by rcases hF2 with ⟨z1, z2⟩ | ⟨⟨t, z1⟩, z2⟩; exact Or.inl ⟨by rw [z1]; rfl, z2⟩; exact Or.inr ⟨by rw [z1]; exact Nat.succ_pos _, z2⟩
    have hhd9 : 0 < (cdA ms (okM T ms 1 st 0 (wnW [105, 115] W)) [] (mOr cs (os c))).length → Sq9 355 0 = g2 := fun z => (hcd9.2.1 0 z).trans (by rcases hF2 with ⟨z1, z2⟩ | ⟨⟨t, z1⟩, z2⟩; rw [z1] at z; exact absurd z (Nat.lt_irrefl _); rw [z1]; rfl)
    have hcl9 := hcd9.2.2
    refine wa_aload_n (n := 0) rfl ?_
    refine wb_gfi 237 rfl (wy_pr rfl) wt_237 wf_15_128 (v := ((cdA ms (okM T ms 1 st 0 (wnW [105, 115] W)) [] (mOr cs (os c))).length : Int)) (hcd9.1) (fun r11 => ?_)
    refine wa_ifle (w_rg0 (by omega) (by omega)) ⟨_, rfl⟩ (fun c12 => ?_) (fun c12 => ?_)
    · skip
      refine wa_aload_n (n := 0) rfl ?_
      refine wa_ks ?_
      refine wa_iload_n (n := 3) rfl ?_
      have fb5 : ∀ (j : Nat) (x : Int), ¬ lhM j x → Sq9 j x = S j x := fun j x hj => (fS9 j x hj)
      have hMb5 : w_ML Sq9 := ML_w hM fb5 (fun j => lhM_1)
      have hKb5 : KR 261 T n cs ms Sq9 := KR_ag hK (fun j x hj => fb5 j x (by unfold lhM; omega))
      refine wa_cv 237 rfl (wy_pr rfl) wt_237 (M2 := fun _ => False) rfl at_M_wants ⟨_, rfl⟩ rfl rfl ⟨(Or.inr ⟨wy_pr rfl, fun q => q⟩), trivial, trivial, trivial, trivial⟩ trivial (fun _ _ q => False.elim q) (rwt53 (S := Sq9) hX hMb5 hnm ((fb5 282 nms (by unfold lhM; omega)).trans h82) hWl (fun x hx => (fb5 281 _ (by unfold lhM; omega)).trans (h81 x hx))) (fun oq13 Sq13 hp14 q13 => ?_)
      rcases q13 with ⟨rfl, hw13, hf13⟩
      show wJ _ _ _ _ _ _ _ _ _ _
      have hq13 : ∀ (j : Nat) (x : Int), ¬ lhM j x → Sq13 j x = Sq9 j x := fun j x hj => hf13 j x (lhM_wt hj)
      have fS13 : ∀ (j : Nat) (x : Int), ¬ lhM j x → Sq13 j x = S j x := fun j x hj => (hq13 j x hj).trans (fb5 j x hj)
      refine wa_aload_n (n := 0) rfl ?_
      refine wa_iload_n (n := 1) rfl ?_
      refine wa_iload_n (n := 2) rfl ?_
      refine wa_ifeq (w_rg0 (by omega) (by omega)) ⟨_, rfl⟩ (fun c15 => ?_) (fun c15 => ?_)
      · skip
        refine wa_iconst ?_
        refine wa_fall ⟨_, rfl⟩ ?_
        refine wJ_top (show 0 = st by omega) ?_
        have fb6 : ∀ (j : Nat) (x : Int), ¬ lhM j x → Sq13 j x = S j x := fun j x hj => (fS13 j x hj)
        have hMb6 : w_ML Sq13 := ML_w hM fb6 (fun j => lhM_1)
        have hKb6 : KR 261 T n cs ms Sq13 := KR_ag hK (fun j x hj => fb6 j x (by unfold lhM; omega))
        have hwn : wtI W Sq13 := by have z := hw13; rw [show wnW ([] : List Int) W = W from if_pos rfl] at z; exact z
        refine wa_cv 237 rfl (wy_pr rfl) wt_237 (M2 := fun _ => False) rfl at_M_field ⟨_, rfl⟩ rfl rfl ⟨(Or.inr ⟨wy_pr rfl, fun q => q⟩), trivial, trivial, trivial, trivial⟩ trivial (fun _ _ q => False.elim q) (wJ_mono (rfd_261 (S := Sq13) (c := c) (st := st) (WW := W) hMb6 hKb6 hw ⟨by omega, by omega⟩ hwn hc) (fun o Z hz => (⟨hz.1, by rw [hfd]; exact hz.2⟩ : Sq13 = Z ∧ o = .inl (some (0, fd))))) (fun oq16 Sq16 hp17 q16 => ?_)
        rcases q16 with ⟨rfl, rfl⟩
        show wJ _ _ _ _ _ _ _ _ _ _
        refine wa_ireturn rfl ?_
        refine ⟨congrArg (fun z => Sum.inl (some (0, z))) ?_, fun j x hj => ?_⟩
        · rw [hgt, ← hfd]
          rw [if_neg (show ¬ g1 ≠ -1 by omega), if_neg (show ¬ (g2 ≠ -1 ∧ (hmR ms g2).2.2.2.1 = 3) from fun z => by have z1 := z.1; have z2 := z.2; first | omega | (rcases hF2 with y | y <;> omega)), if_pos rfl]
        · exact ((hf13 j x (fun z => hj (Or.inr (Or.inr z)))).trans ((hf9 j x (fun z => hj (Or.inr (Or.inl z))) (fun z => hj (Or.inl z))).trans ((hf7 j x (fun z => hj (Or.inr (Or.inr z)))).trans ((hf3 j x (fun z => hj (Or.inr (Or.inl z))) (fun z => hj (Or.inl z))).trans (hf1 j x (fun z => hj (Or.inr (Or.inr z))))))))
      · skip
        refine wa_iconst ?_
        refine wa_goto ⟨_, rfl⟩ ?_
        refine wJ_top (show 1 = st by omega) ?_
        have fb7 : ∀ (j : Nat) (x : Int), ¬ lhM j x → Sq13 j x = S j x := fun j x hj => (fS13 j x hj)
        have hMb7 : w_ML Sq13 := ML_w hM fb7 (fun j => lhM_1)
        have hKb7 : KR 261 T n cs ms Sq13 := KR_ag hK (fun j x hj => fb7 j x (by unfold lhM; omega))
        have hwn : wtI W Sq13 := by have z := hw13; rw [show wnW ([] : List Int) W = W from if_pos rfl] at z; exact z
        refine wa_cv 237 rfl (wy_pr rfl) wt_237 (M2 := fun _ => False) rfl at_M_field ⟨_, rfl⟩ rfl rfl ⟨(Or.inr ⟨wy_pr rfl, fun q => q⟩), trivial, trivial, trivial, trivial⟩ trivial (fun _ _ q => False.elim q) (wJ_mono (rfd_261 (S := Sq13) (c := c) (st := st) (WW := W) hMb7 hKb7 hw ⟨by omega, by omega⟩ hwn hc) (fun o Z hz => (⟨hz.1, by rw [hfd]; exact hz.2⟩ : Sq13 = Z ∧ o = .inl (some (0, fd))))) (fun oq18 Sq18 hp19 q18 => ?_)
        rcases q18 with ⟨rfl, rfl⟩
        show wJ _ _ _ _ _ _ _ _ _ _
        refine wa_ireturn rfl ?_
        refine ⟨congrArg (fun z => Sum.inl (some (0, z))) ?_, fun j x hj => ?_⟩
        · rw [hgt, ← hfd]
          rw [if_neg (show ¬ g1 ≠ -1 by omega), if_neg (show ¬ (g2 ≠ -1 ∧ (hmR ms g2).2.2.2.1 = 3) from fun z => by have z1 := z.1; have z2 := z.2; first | omega | (rcases hF2 with y | y <;> omega)), if_pos rfl]
        · exact ((hf13 j x (fun z => hj (Or.inr (Or.inr z)))).trans ((hf9 j x (fun z => hj (Or.inr (Or.inl z))) (fun z => hj (Or.inl z))).trans ((hf7 j x (fun z => hj (Or.inr (Or.inr z)))).trans ((hf3 j x (fun z => hj (Or.inr (Or.inl z))) (fun z => hj (Or.inl z))).trans (hf1 j x (fun z => hj (Or.inr (Or.inr z))))))))
    · skip
      have hg2m := KR_m hK (m := g2) (by omega) (hb2 (by omega))
      have hg2t : S 275 g2 = (hmR ms g2).2.2.2.1 := hg2m.1.2.2.2.1
      have hg2b := hb2 (by omega)
      refine wa_aload_n (n := 0) rfl ?_
      refine wb_gf5 237 rfl (wy_pr rfl) wt_237 wf_15_13 (v := 261) (((hq9 237 13 (by unfold lhM; omega)).trans (((hq7 237 13 (by unfold lhM; omega)).trans (((hq3 237 13 (by unfold lhM; omega)).trans (((hq1 237 13 (by unfold lhM; omega)).trans (h13))))))))) (fun r20 => ?_)
      refine wb_gf4 261 rfl (wy_pr rfl) wt_261 wf_12_15 (v := 275) wl_261_15 ?_
      refine wa_aload_n (n := 0) rfl ?_
      refine wb_gf4 237 rfl (wy_pr rfl) wt_237 wf_15_129 (v := 355) wl_237_129 ?_
      refine wa_iconst ?_
      refine wb_iald 355 rfl (wy_pr rfl) wt_355 (n := 400) (((hq9 355 (-1) (by unfold lhM; omega)).trans (((hq7 355 (-1) (by unfold lhM; omega)).trans (((hq3 355 (-1) (by unfold lhM; omega)).trans (((hq1 355 (-1) (by unfold lhM; omega)).trans ((ml_355 hM)))))))))) (by omega) (by omega) (v := g2) ((hhd9 (by omega))) (fun r21 => ?_)
      refine wb_iald 275 rfl (wy_pr rfl) wt_275 (n := 400) (((hq9 275 (-1) (by unfold lhM; omega)).trans (((hq7 275 (-1) (by unfold lhM; omega)).trans (((hq3 275 (-1) (by unfold lhM; omega)).trans (((hq1 275 (-1) (by unfold lhM; omega)).trans ((ml_275 hM)))))))))) (by omega) (by omega) (v := (hmR ms g2).2.2.2.1) (((hq9 275 g2 (by unfold lhM; omega)).trans (((hq7 275 g2 (by unfold lhM; omega)).trans (((hq3 275 g2 (by unfold lhM; omega)).trans (((hq1 275 g2 (by unfold lhM; omega)).trans (hg2t))))))))) (fun r22 => ?_)
      refine wa_iconst ?_
      refine wa_icmpne (w_rg0 (by omega) (by omega)) (w_rg0 (by omega) (by omega)) ⟨_, rfl⟩ (fun c23 => ?_) (fun c23 => ?_)
      · skip
        refine wa_aload_n (n := 0) rfl ?_
        refine wa_ks ?_
        refine wa_iload_n (n := 3) rfl ?_
        have fb8 : ∀ (j : Nat) (x : Int), ¬ lhM j x → Sq9 j x = S j x := fun j x hj => (fS9 j x hj)
        have hMb8 : w_ML Sq9 := ML_w hM fb8 (fun j => lhM_1)
        have hKb8 : KR 261 T n cs ms Sq9 := KR_ag hK (fun j x hj => fb8 j x (by unfold lhM; omega))
        refine wa_cv 237 rfl (wy_pr rfl) wt_237 (M2 := fun _ => False) rfl at_M_wants ⟨_, rfl⟩ rfl rfl ⟨(Or.inr ⟨wy_pr rfl, fun q => q⟩), trivial, trivial, trivial, trivial⟩ trivial (fun _ _ q => False.elim q) (rwt53 (S := Sq9) hX hMb8 hnm ((fb8 282 nms (by unfold lhM; omega)).trans h82) hWl (fun x hx => (fb8 281 _ (by unfold lhM; omega)).trans (h81 x hx))) (fun oq24 Sq24 hp25 q24 => ?_)
        rcases q24 with ⟨rfl, hw24, hf24⟩
        show wJ _ _ _ _ _ _ _ _ _ _
        have hq24 : ∀ (j : Nat) (x : Int), ¬ lhM j x → Sq24 j x = Sq9 j x := fun j x hj => hf24 j x (lhM_wt hj)
        have fS24 : ∀ (j : Nat) (x : Int), ¬ lhM j x → Sq24 j x = S j x := fun j x hj => (hq24 j x hj).trans (fb8 j x hj)
        refine wa_aload_n (n := 0) rfl ?_
        refine wa_iload_n (n := 1) rfl ?_
        refine wa_iload_n (n := 2) rfl ?_
        refine wa_ifeq (w_rg0 (by omega) (by omega)) ⟨_, rfl⟩ (fun c26 => ?_) (fun c26 => ?_)
        · skip
          refine wa_iconst ?_
          refine wa_fall ⟨_, rfl⟩ ?_
          refine wJ_top (show 0 = st by omega) ?_
          have fb9 : ∀ (j : Nat) (x : Int), ¬ lhM j x → Sq24 j x = S j x := fun j x hj => (fS24 j x hj)
          have hMb9 : w_ML Sq24 := ML_w hM fb9 (fun j => lhM_1)
          have hKb9 : KR 261 T n cs ms Sq24 := KR_ag hK (fun j x hj => fb9 j x (by unfold lhM; omega))
          have hwn : wtI W Sq24 := by have z := hw24; rw [show wnW ([] : List Int) W = W from if_pos rfl] at z; exact z
          refine wa_cv 237 rfl (wy_pr rfl) wt_237 (M2 := fun _ => False) rfl at_M_field ⟨_, rfl⟩ rfl rfl ⟨(Or.inr ⟨wy_pr rfl, fun q => q⟩), trivial, trivial, trivial, trivial⟩ trivial (fun _ _ q => False.elim q) (wJ_mono (rfd_261 (S := Sq24) (c := c) (st := st) (WW := W) hMb9 hKb9 hw ⟨by omega, by omega⟩ hwn hc) (fun o Z hz => (⟨hz.1, by rw [hfd]; exact hz.2⟩ : Sq24 = Z ∧ o = .inl (some (0, fd))))) (fun oq27 Sq27 hp28 q27 => ?_)
          rcases q27 with ⟨rfl, rfl⟩
          show wJ _ _ _ _ _ _ _ _ _ _
          refine wa_ireturn rfl ?_
          refine ⟨congrArg (fun z => Sum.inl (some (0, z))) ?_, fun j x hj => ?_⟩
          · rw [hgt, ← hfd]
            rw [if_neg (show ¬ g1 ≠ -1 by omega), if_neg (show ¬ (g2 ≠ -1 ∧ (hmR ms g2).2.2.2.1 = 3) from fun z => by have z1 := z.1; have z2 := z.2; first | omega | (rcases hF2 with y | y <;> omega)), if_pos rfl]
          · exact ((hf24 j x (fun z => hj (Or.inr (Or.inr z)))).trans ((hf9 j x (fun z => hj (Or.inr (Or.inl z))) (fun z => hj (Or.inl z))).trans ((hf7 j x (fun z => hj (Or.inr (Or.inr z)))).trans ((hf3 j x (fun z => hj (Or.inr (Or.inl z))) (fun z => hj (Or.inl z))).trans (hf1 j x (fun z => hj (Or.inr (Or.inr z))))))))
        · skip
          refine wa_iconst ?_
          refine wa_goto ⟨_, rfl⟩ ?_
          refine wJ_top (show 1 = st by omega) ?_
          have fb10 : ∀ (j : Nat) (x : Int), ¬ lhM j x → Sq24 j x = S j x := fun j x hj => (fS24 j x hj)
          have hMb10 : w_ML Sq24 := ML_w hM fb10 (fun j => lhM_1)
          have hKb10 : KR 261 T n cs ms Sq24 := KR_ag hK (fun j x hj => fb10 j x (by unfold lhM; omega))
          have hwn : wtI W Sq24 := by have z := hw24; rw [show wnW ([] : List Int) W = W from if_pos rfl] at z; exact z
          refine wa_cv 237 rfl (wy_pr rfl) wt_237 (M2 := fun _ => False) rfl at_M_field ⟨_, rfl⟩ rfl rfl ⟨(Or.inr ⟨wy_pr rfl, fun q => q⟩), trivial, trivial, trivial, trivial⟩ trivial (fun _ _ q => False.elim q) (wJ_mono (rfd_261 (S := Sq24) (c := c) (st := st) (WW := W) hMb10 hKb10 hw ⟨by omega, by omega⟩ hwn hc) (fun o Z hz => (⟨hz.1, by rw [hfd]; exact hz.2⟩ : Sq24 = Z ∧ o = .inl (some (0, fd))))) (fun oq29 Sq29 hp30 q29 => ?_)
          rcases q29 with ⟨rfl, rfl⟩
          show wJ _ _ _ _ _ _ _ _ _ _
          refine wa_ireturn rfl ?_
          refine ⟨congrArg (fun z => Sum.inl (some (0, z))) ?_, fun j x hj => ?_⟩
          · rw [hgt, ← hfd]
            rw [if_neg (show ¬ g1 ≠ -1 by omega), if_neg (show ¬ (g2 ≠ -1 ∧ (hmR ms g2).2.2.2.1 = 3) from fun z => by have z1 := z.1; have z2 := z.2; first | omega | (rcases hF2 with y | y <;> omega)), if_pos rfl]
          · exact ((hf24 j x (fun z => hj (Or.inr (Or.inr z)))).trans ((hf9 j x (fun z => hj (Or.inr (Or.inl z))) (fun z => hj (Or.inl z))).trans ((hf7 j x (fun z => hj (Or.inr (Or.inr z)))).trans ((hf3 j x (fun z => hj (Or.inr (Or.inl z))) (fun z => hj (Or.inl z))).trans (hf1 j x (fun z => hj (Or.inr (Or.inr z))))))))
      · skip
        refine wa_aload_n (n := 0) rfl ?_
        refine wb_gf4 237 rfl (wy_pr rfl) wt_237 wf_15_129 (v := 355) wl_237_129 ?_
        refine wa_iconst ?_
        refine wb_iald 355 rfl (wy_pr rfl) wt_355 (n := 400) (((hq9 355 (-1) (by unfold lhM; omega)).trans (((hq7 355 (-1) (by unfold lhM; omega)).trans (((hq3 355 (-1) (by unfold lhM; omega)).trans (((hq1 355 (-1) (by unfold lhM; omega)).trans ((ml_355 hM)))))))))) (by omega) (by omega) (v := g2) ((hhd9 (by omega))) (fun r31 => ?_)
        refine wa_ireturn rfl ?_
        refine ⟨congrArg (fun z => Sum.inl (some (0, z))) ?_, fun j x hj => ?_⟩
        · rw [hgt, ← hfd]
          rw [if_neg (show ¬ g1 ≠ -1 by omega), if_pos (show g2 ≠ -1 ∧ (hmR ms g2).2.2.2.1 = 3 from ⟨by omega, by omega⟩), if_neg (by omega)]
        · exact ((hf9 j x (fun z => hj (Or.inr (Or.inl z))) (fun z => hj (Or.inl z))).trans ((hf7 j x (fun z => hj (Or.inr (Or.inr z)))).trans ((hf3 j x (fun z => hj (Or.inr (Or.inl z))) (fun z => hj (Or.inl z))).trans (hf1 j x (fun z => hj (Or.inr (Or.inr z)))))))
  · skip
    refine wa_aload_n (n := 0) rfl ?_
    refine wb_gf4 237 rfl (wy_pr rfl) wt_237 wf_15_129 (v := 355) wl_237_129 ?_
    refine wa_iconst ?_
    refine wb_iald 355 rfl (wy_pr rfl) wt_355 (n := 400) (((hq3 355 (-1) (by unfold lhM; omega)).trans (((hq1 355 (-1) (by unfold lhM; omega)).trans ((ml_355 hM)))))) (by omega) (by omega) (v := g1) ((hhd3 (by omega))) (fun r32 => ?_)
    refine wa_ireturn rfl ?_
    refine ⟨congrArg (fun z => Sum.inl (some (0, z))) ?_, fun j x hj => ?_⟩
    · rw [hgt, ← hfd]
      rw [if_pos (show g1 ≠ -1 by omega), if_neg (by omega)]
    · exact ((hf3 j x (fun z => hj (Or.inr (Or.inl z))) (fun z => hj (Or.inl z))).trans (hf1 j x (fun z => hj (Or.inr (Or.inr z)))))
end Whh
