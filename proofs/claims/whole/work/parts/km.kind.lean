/-! PART km: a step of a task, on both sides: a text is made. -/
section Wkm
variable {Sb : wS} {xs : List (Nat × List Int32)} {d : Nat} {S0 S Z : wS} {p w m : Nat} {HT : Int → Int} {cs : List hCR} {ms : List hMR} {os : Int → List Int} {X : List (List Int)} {mo t n B B2 oq : Int} {fa : Int → Int} {WE : aA → Prop} {A A2 : aA} {K2 : aK} {ml : List Nat} {T2 : List aO} {L2 : List aC} {G2 : Int → aV} {H2 : List aH} {c2 : Int → Int} {mk rk : Nat → Int → Prop} {k : Int} {l : List Int} {z2 z3 : Int}
/-- where texts, workings and counters lie -/
def mTx (j : Nat) (x : Int) : Prop := (j = 150 ∧ 0 ≤ x ∧ x < 5) ∨ (j = 157 ∧ 0 ≤ x) ∨ (j = 72 ∧ x = 19) ∨ j = 3 ∨ (j = 2 ∧ x = 1)
def rTx9 (j : Nat) (x : Int) : Prop := (283 ≤ j ∧ j ≤ 285) ∨ (j = 237 ∧ (x = 102 ∨ x = 103 ∨ x = 64 ∨ x = 65))
theorem wz_3 : ∀ q ∈ wz_n, q.1 ≠ 3 := by decide
theorem cRel_T (h : cRel S0 p HT cs ms os X mo A S) (hp : p = 73 ∨ p = 162) (hw : isWt w t) (hF : cFm w mk S Z) (hmk : ∀ (j : Nat) (x : Int), mk j x → mTx j x) (hx : cTx S Z) (hN : cNt (a_N A) X Z) (hK : cTk w Z K2) (hPo : cPo Z) (hcn : cCw c2 Z) (hPl : cPl (pV S0) (c2 3) (a_N A) Z) (hc2 : ∀ i : Int, 5 ≤ i → c2 i = a_c A i) : cRel S0 p HT cs ms os X mo (u_W A t K2 (a_T A) (a_L A) (a_G A) (a_H A) c2) Z := by
  refine ⟨cR_CL (A := A) h hF hw (fun q hq hm => by have := hmk _ _ hm; have := wz_3 q hq; unfold mTx at *; omega), cR_tk (A := A) h hF hw hx (fun j x hm => by have := hmk j x hm; unfold mTx at this; omega) hK, ⟨cR_W (A := A) h hF hw hx (fun j x hj hm => by have := hmk j x hm; unfold cWo at hj; unfold mTx at this; omega), cR_Sw (A := A) h hF hw (fun j x hj hm => by have := hmk j x hm; unfold shD at hj; unfold mTx at this; omega), hPo⟩, hN, cR_E (A := A) h hF hw (fun j x hj hm => by have := hmk j x hm; unfold cEo at hj; unfold mTx at this; omega), ⟨cR_O (A := A) h hF hw (fun x hm => by have := hmk _ x hm; unfold mTx at this; omega) (fun hm => by have := hmk _ _ hm; unfold mTx at this; omega), cR_R (A := A) h hF hw (fun x hm => by have := hmk _ x hm; unfold mTx at this; omega) (fun hm => by have := hmk _ _ hm; unfold mTx at this; omega)⟩, ⟨cR_C (A := A) h hp hF hw (fun j x hj hm => by have := hmk j x hm; unfold hoD at hj; unfold mTx at this; omega), cR_S (A := A) h hp hF hw hx (fun j x hj hm => by have := hmk j x hm; unfold hoD at hj; unfold mTx at this; omega)⟩, ?_, cR_st (A := A) h hp hF hw (fun j x hj hm => by have := hmk j x hm; unfold cSta at hj; unfold mTx at this; omega)⟩
  obtain ⟨-, h2, h3, h4, h5⟩ := h.2.2.2.2.2.2.2.1
  have f := fun (j : Nat) (x : Int) (hj : j < 215) (hx : cnD j x ∧ 5 ≤ j) => fmG hF hw j x hj (fun hm => by have := hmk j x hm; unfold cnD at hx; unfold mTx at this; omega)
  refine ⟨hcn.1, ⟨hcn.2, hPl⟩, (f 158 19 (by first | decide | omega) ⟨by unfold cnD; omega, by decide⟩).trans (h3.trans (hc2 19 (by first | decide | omega)).symm), fun i hi => (f 160 i (by first | decide | omega) ⟨by unfold cnD; omega, by decide⟩).trans ((h4 i hi).trans (hc2 _ (by omega)).symm), fun s s0 s1 => ?_⟩
  rw [f 19 9 (by first | decide | omega) ⟨by unfold cnD; omega, by decide⟩] at s1
  obtain ⟨a1, a2, a3, a4⟩ := h5 s s0 s1
  rw [f 41 s (by first | decide | omega) ⟨by unfold cnD; omega, by decide⟩, f 42 s (by first | decide | omega) ⟨by unfold cnD; omega, by decide⟩, f 43 s (by first | decide | omega) ⟨by unfold cnD; omega, by decide⟩, f 45 s (by first | decide | omega) ⟨by unfold cnD; omega, by decide⟩]
  exact ⟨a1, a2, a3, a4⟩
theorem rRel_T (h : rRun S0 Sb HT cs ms os X mo t A S) (ht : t = 0 ∨ t = 1) (hl : kLn (a_K A 0) ∧ kLn (a_K A 1)) (hF : rTm t rk S Z) (hrk : ∀ (j : Nat) (x : Int), rk j x → rTx9 j x) (hM : w_ML Z) (hK : rTk t Z K2) (hx : rTx S Z) (ht2 : rTt Z ∧ rTb Z) (hcn : rCw c2 Z) (hc2 : ∀ i : Int, 5 ≤ i → c2 i = a_c A i) : rRun S0 Sb HT cs ms os X mo t (u_W A t K2 (a_T A) (a_L A) (a_G A) (a_H A) c2) Z := by
  have g := fun (x : Int) (hx : 151 ≤ x ∧ x ≤ 153) => tmG hF 237 x (by unfold rKp; omega) (fun hm => by have := hrk 237 x hm; unfold rTx9 at this; omega)
  refine ⟨?_, (g 151 (by omega)).trans h.2.1, (g 152 (by omega)).trans h.2.2.1, (g 153 (by omega)).trans h.2.2.2⟩
  have h := h.1
  refine ⟨hM, rR_tk (A := A) h hF ht hx hl (fun j x hm => by have := hrk j x hm; unfold rTx9 at this; omega) hK, ⟨rR_W (A := A) h hF hx (fun j x hj hm => by have := hrk j x hm; unfold rWo at hj; unfold rTx9 at this; omega), rR_H (A := A) h hF (fun j x hj hm => by have := hrk j x hm; unfold rTx9 at this; omega)⟩, ⟨rR_N (A := A) h hF (fun j x hj hm => by have := hrk j x hm; unfold rTx9 at this; omega), rR_X (A := A) h hF hx (fun j x hj hm => by have := hrk j x hm; unfold rTx9 at this; omega), ht2⟩, rR_E (A := A) h hF (fun j x hj hm => by have := hrk j x hm; unfold rTx9 at this; omega), ⟨rR_O (A := A) h hF (fun x hm => by have := hrk _ x hm; unfold rTx9 at this; omega) (fun hm => by have := hrk _ _ hm; unfold rTx9 at this; omega), rR_R (A := A) h hF (fun x hm => by have := hrk _ x hm; unfold rTx9 at this; omega) (fun hm => by have := hrk _ _ hm; unfold rTx9 at this; omega)⟩, ⟨rR_C (A := A) h hF (fun j x hj hm => by have := hrk j x hm; unfold chM at hj; unfold rTx9 at this; omega), rR_S (A := A) h hF hx (fun j x hj hm => by have := hrk j x hm; unfold rTx9 at this; omega)⟩, ?_, rR_st (A := A) h hF (fun j x hj hm => by have := hrk j x hm; unfold rSta at hj; unfold rTx9 at this; omega)⟩
  obtain ⟨-, h2, h3, h4, h5, -⟩ := h.2.2.2.2.2.2.2.1
  have f := fun (j : Nat) (x : Int) (hx : rcD j x) => tmG hF j x (by unfold rcD at hx; unfold rKp; omega) (fun hm => by have := hrk j x hm; unfold rcD at hx; unfold rTx9 at this; omega)
  refine ⟨hcn.1.1, hcn.1.2, (f 237 108 (by unfold rcD; omega)).trans (h3.trans (hc2 19 (by first | decide | omega)).symm), fun i hi => (f 344 i (by unfold rcD; omega)).trans ((h4 i hi).trans (hc2 _ (by omega)).symm), fun s s0 s1 => ?_, hcn.2⟩
  rw [f 237 47 (by unfold rcD; omega)] at s1
  obtain ⟨a1, a2, a3, a4⟩ := h5 s s0 s1
  rw [f 310 s (by unfold rcD; omega), f 311 s (by unfold rcD; omega), f 312 s (by unfold rcD; omega), f 313 s (by unfold rcD; omega)]
  exact ⟨a1, a2, a3, a4⟩
/-- a step that makes a text -/
theorem stO_T (hp : p = 73 ∨ p = 162) (hw : isWt w t) (hs : ∀ k ∈ ml, k ∈ sML) (hA : wfA S0 fa ms n WE B A) (hA2 : wfA S0 fa ms n WE B2 (u_W A t K2 (a_T A) (a_L A) (a_G A) (a_H A) c2)) (hmk : ∀ (j : Nat) (x : Int), mk j x → mTx j x) (hrk : ∀ (j : Nat) (x : Int), rk j x → rTx9 j x) (hc2 : ∀ i : Int, 5 ≤ i → c2 i = a_c A i) (hc : ∀ S : wS, cRel S0 p HT cs ms os X mo A S → cSm xs d w ml mk S K2 (fun Z => cTx S Z ∧ cNt (a_N A) X Z ∧ cPo Z ∧ cCw c2 Z ∧ cPl (pV S0) (c2 3) (a_N A) Z)) (hr : ∀ {Sb : wS} (S : wS), rRun S0 Sb HT cs ms os X mo t A S → rSm xs d t rk S K2 (fun Z => rTx S Z ∧ (rTt Z ∧ rTb Z) ∧ rCw c2 Z)) : stO xs d S0 p HT cs ms os X mo fa n WE B2 w t A := by
  have tt := wt_t hw
  refine ⟨1, (u_W A t K2 (a_T A) (a_L A) (a_G A) (a_H A) c2), Or.inr rfl, hA2, fun t2 h => fUp_n h, fun z => absurd z (by first | decide | omega), fun S hS => ?_, fun S hS => ?_⟩
  · refine wJ_M (wJ_mono (hc S hS) (fun o Z hz => ?_)) (mS_sM hs)
    obtain ⟨z1, z2, z3, z4, z5, z6, z7, z8⟩ := hz
    exact ⟨z1, cRel_T hS hp hw z3 hmk z4 z5 z2 z6 z7 z8 hc2⟩
  · exact rtu_mo (hr S hS) (fun Z dn hz => ⟨hz.1, fun hM => rRel_T hS tt ⟨hA.1.1.1, hA.1.2.1⟩ hz.2.2.1 hrk hM hz.2.1 hz.2.2.2.1 hz.2.2.2.2.1 hz.2.2.2.2.2 hc2⟩)
/-- all that holds, when a text was made -/
theorem wf_T (h : wfA S0 fa ms n WE B A) (hE : WEw WE) (hw : isWt w t) (hB : B ≤ B2 ∧ B2 ≤ 600000) (h1 : wTk fa S0 K2) (h2 : wKv (a_T A) n K2) (h3 : fLe K2.2.1 (a_K A t).2.1) (hc : (0 ≤ c2 2 ∧ c2 2 ≤ 12000) ∧ (0 ≤ c2 3 ∧ c2 3 ≤ 200000) ∧ ∀ i : Int, i ≠ 2 → i ≠ 3 → c2 i = a_c A i) : wfA S0 fa ms n WE B2 (u_W A t K2 (a_T A) (a_L A) (a_G A) (a_H A) c2) := by
  obtain ⟨b1, b2, b3, b4, b5, b6, b7, b8, b9⟩ := wCt_B h.2.2.2.2.1 hB
  obtain ⟨d2, d3, d4⟩ := hc
  have e11 := d4 11 (by first | decide | omega) (by first | decide | omega)
  refine wf_W (k := -1) h hE hw h1 tKp_r h.2.1 h2 h.2.2.1.2.1 h.2.2.1.2.2.1 h.2.2.1.2.2.2.1 (fun cf c1 c2 => ⟨cf, c1, kc_le c2 h3, Nat.le_refl _, fun _ _ => rfl⟩) ?_ h.2.2.2.2.2.1.2.1 (eCh_rfl h.2.1) (by omega) (h20 := fun i hi => d4 i (by omega) (by omega))
  have e0 := d4 0 (by first | decide | omega) (by first | decide | omega)
  have e1 := d4 1 (by first | decide | omega) (by first | decide | omega)
  have e4 := d4 4 (by first | decide | omega) (by first | decide | omega)
  have e19 := d4 19 (by first | decide | omega) (by first | decide | omega)
  refine ⟨?_, ?_, d2, d3, ?_, ⟨?_, ?_, fun i i0 i1 => ?_⟩, b7, fun x x0 x1 => ?_, b9⟩
  · show ((a_T A).length : Int) + ((a_L A).length : Int) ≤ c2 0 ∧ c2 0 ≤ 8000
    rw [e0]
    exact b1
  · show 0 ≤ c2 1 ∧ c2 1 ≤ 60000 ∧ ∀ o ∈ a_T A, (o.2.2.2.2.2.2.length : Int) ≤ c2 1
    rw [e1]
    exact b2
  · show 0 ≤ c2 4 ∧ c2 4 ≤ 4000 ∧ ((a_H A).length : Int) ≤ c2 4 + 1
    rw [e4]
    exact b5
  · show 0 ≤ c2 11 ∧ c2 11 ≤ B2
    rw [e11]
    exact b6.1
  · show 0 ≤ c2 19 ∧ c2 19 ≤ B2
    rw [e19]
    exact b6.2.1
  · show 0 ≤ c2 i ∧ c2 i ≤ B2
    rw [d4 i (by omega) (by omega)]
    exact b6.2.2 i i0 i1
  · show (-1 ≤ (tO (a_T A) x).2.2.2.2.1 ∧ (tO (a_T A) x).2.2.2.2.1 ≤ c2 11) ∧ 0 ≤ (tO (a_T A) x).2.2.2.2.2.1 ∧ (tO (a_T A) x).2.2.2.2.2.1 ≤ c2 11
    rw [e11]
    exact b8 x x0 x1
theorem cCw_t (h : cRel S0 p HT cs ms os X mo A S) (hw : isWt w t) (hF : cFm w mk S Z) (e2 : Z 150 2 = S 150 2 + 1) (e3 : Z 150 3 = S 150 3 + z3) (hd : ∀ (j : Nat) (x : Int), (j = 150 ∧ x ≠ 2 ∧ x ≠ 3) ∨ (j = 72 ∧ x = 11) → ¬ mk j x) : cCw (fUp (fUp (a_c A) 2 (a_c A 2 + 1)) 3 (a_c A 3 + z3)) Z := by
  obtain ⟨u0, u1, u2, u3, u4, u5⟩ := cR_u h
  have f := fun (j : Nat) (x : Int) (hj : (j = 150 ∧ x ≠ 2 ∧ x ≠ 3) ∨ (j = 72 ∧ x = 11)) => fmG hF hw j x (by omega) (hd j x hj)
  refine cCw_of ?_ ?_ ?_ ?_ ?_ ?_
  · rw [fUp_n (by first | decide | omega), fUp_n (by first | decide | omega)]; exact (f _ _ (by omega)).trans u0
  · rw [fUp_n (by first | decide | omega), fUp_n (by first | decide | omega)]; exact (f _ _ (by omega)).trans u1
  · rw [fUp_n (by first | decide | omega), fUp_s, e2, u2]
  · rw [fUp_s, e3, u3]
  · rw [fUp_n (by first | decide | omega), fUp_n (by first | decide | omega)]; exact (f _ _ (by omega)).trans u4
  · rw [fUp_n (by first | decide | omega), fUp_n (by first | decide | omega)]; exact (f _ _ (by omega)).trans u5
theorem rCw_t (h : rRun S0 Sb HT cs ms os X mo t A S) (hF : rTm t rk S Z) (e2 : Z 237 64 = S 237 64 + 1) (e3 : Z 237 65 = S 237 65 + z3) (hd : ∀ x : Int, x = 62 ∨ x = 63 ∨ x = 66 ∨ x = 81 ∨ x = 82 ∨ x = 94 → ¬ rk 237 x) : rCw (fUp (fUp (a_c A) 2 (a_c A 2 + 1)) 3 (a_c A 3 + z3)) Z := by
  obtain ⟨u0, u1, u2, u3, u4, u5, u6⟩ := rR_u h
  have f := fun (x : Int) (hx : x = 62 ∨ x = 63 ∨ x = 66 ∨ x = 81 ∨ x = 82 ∨ x = 94) => tmG hF 237 x (by unfold rKp; omega) (hd x hx)
  refine rCw_of ?_ ?_ ?_ ?_ ?_ ?_ ?_
  · rw [fUp_n (by first | decide | omega), fUp_n (by first | decide | omega)]; exact (f _ (by omega)).trans u0
  · rw [fUp_n (by first | decide | omega), fUp_n (by first | decide | omega)]; exact (f _ (by omega)).trans u1
  · rw [fUp_n (by first | decide | omega), fUp_s, e2, u2]
  · rw [fUp_s, e3, u3]
  · rw [fUp_n (by first | decide | omega), fUp_n (by first | decide | omega)]; exact (f _ (by omega)).trans u4
  · rw [fUp_n (by first | decide | omega), fUp_n (by first | decide | omega)]; exact (f _ (by omega)).trans u5
  · rw [f 82 (by omega), f 94 (by omega), f 63 (by omega)]
    exact u6
theorem wl2_g : ∀ w ∈ wl2, (∀ y ∈ w, 0 ≤ y ∧ y ≤ 255) ∧ w.length ≤ 60 := by decide
theorem kd_g {k v : Int} : (∀ y ∈ kdL k v, 0 ≤ y ∧ y ≤ 255) ∧ (kdL k v).length ≤ 200000 := by
  unfold kdL
  rw [List.getD_eq_getElem?_getD]
  by_cases e : (kWd k v).toNat < wl2.length
  · rw [List.getElem?_eq_getElem e]
    have z := wl2_g _ (List.getElem_mem e)
    exact ⟨z.1, by have := z.2; show (wl2[(kWd k v).toNat]).length ≤ 200000; omega⟩
  · rw [List.getElem?_eq_none (by omega)]
    exact ⟨fun y hy => absurd hy (List.not_mem_nil), Nat.zero_le _⟩

theorem sb_6 (h : hyS S0 p X fa ms n WE B B2 w t A) (hWw : WEw WE) (hX : w_X xs) (hx1 : pe_at (pe_GA xs).xs 1 = some (1, tx_1)) (hx55 : pe_at (pe_GA xs).xs 55 = some (1, tx_55)) (ho : opI S0 (a_K A t) = 28) (ha : (opA S0 (a_K A t)) = 6) (hm : a_c A 2 < 12000 ∧ a_c A 3 + ((kdL ((a_K A t).1.getD ((a_K A t).1.length - 1) (0, 0, [])).1 ((a_K A t).1.getD ((a_K A t).1.length - 1) (0, 0, [])).2.1).length : Int) ≤ 200000) : stO xs d S0 p HT cs ms os X mo fa n WE B2 w t A := by
  obtain ⟨hp, hw, hx, hA, hE, hB, hr⟩ := h
  have hk := wT_of hA hw
  have hv := wV_of hA hw
  have hc := fun (S : wS) (hS : cRel S0 p HT cs ms os X mo A S) => hcb_c hx hk hr hw ho ha hS
  have hq := fun {Sb : wS} (S : wS) (hS : rRun S0 Sb HT cs ms os X mo t A S) => hqb_r hx hk hr hw ho ha hS
  have hh := tyt_h hx hk hr
  rw [ho, ha] at hh
  replace hh : 1 ≤ (a_K A t).1.length := by have z : (1 : Int) ≤ ((a_K A t).1.length : Int) := hh; omega
  have hu := hA.2.2.2.2.1
  have hT8 : ((a_T A).length : Int) ≤ 8000 := by have := hu.1; omega
  have hTu : ((a_T A).length : Int) ≤ a_c A 0 := by have := hu.1; omega
  have hk8 : 0 ≤ ((a_K A t).1.getD ((a_K A t).1.length - 1) (0, 0, [])).1 ∧ ((a_K A t).1.getD ((a_K A t).1.length - 1) (0, 0, [])).1 ≤ 8 := (hv.1 _ (tp_m (by omega))).1.1
  have hl1 := hk.1.1
  have hw0 := hw
  rcases hw with ⟨rfl, rfl⟩ | ⟨rfl, rfl⟩
  · refine stO_T (ml := [217, 218]) (mk := cMx) (rk := rMx) (K2 := kP (a_K A 0) 1 (3, 0, (kdL ((a_K A 0).1.getD ((a_K A 0).1.length - 1) (0, 0, [])).1 ((a_K A 0).1.getD ((a_K A 0).1.length - 1) (0, 0, [])).2.1))) (c2 := (fUp (fUp (a_c A) 2 (a_c A 2 + 1)) 3 (a_c A 3 + ((kdL ((a_K A 0).1.getD ((a_K A 0).1.length - 1) (0, 0, [])).1 ((a_K A 0).1.getD ((a_K A 0).1.length - 1) (0, 0, [])).2.1).length : Int)))) hp hw0 (by first | decide | omega) hA (wf_T hA hWw hw0 hB (tyt_P (m := 1) hx hk hr (by rw [ho]; decide) (by rw [ho, ha]; rfl) (by omega) (fun z => absurd z (by first | decide | omega))) (kv_P hv (vG_x kd_g)) fLe_P ⟨by rw [fUp_n (by first | decide | omega), fUp_s]; have := hu.2.2.1; omega, by rw [fUp_s]; have := hu.2.2.2.1; omega, fun i i0 i1 => by rw [fUp_n i1, fUp_n i0]⟩) (fun j x hm => by unfold cMx at hm; unfold mTx; omega) (fun j x hm => by unfold rMx at hm; unfold rTx9; omega) (fun i i0 => by rw [fUp_n (by omega), fUp_n (by omega)]) (fun S hS => ?_) (fun S hS => ?_)
    · have u := cR_u hS
      refine wJ_mono (zb6_215 (hc S hS).1 (hc S hS).2 hx1 hx55 (cR_n hS).1.1 (cR_n hS).1.2.1 (cR_n hS).2.2.2.1 (cR_n hS).2.2.2.2 (by rw [u.2.2.1]; exact hu.2.2.1) (by rw [u.2.2.2.1]; exact hu.2.2.2.1) hh hk8 ⟨by omega, by omega⟩) (fun o Z z => ⟨z.1, z.2.1, z.2.2.1, ?_, ?_, ?_, ?_, ?_⟩)
      · exact fr_tx z.2.2.1 hw0 (fun x hm => by unfold cMx at hm; omega) (fun hm => by unfold cMx at hm; omega)
      · exact cR_N (A := A) hS z.2.2.1 hw0 (fun j x hj hm => by unfold cMx at hm; omega)
      · exact cR_Po (A := A) hS z.2.2.1 hw0 (fun j x hj hm => by unfold cMx at hm; unfold poD at hj; omega)
      · exact cCw_t hS hw0 z.2.2.1 z.2.2.2.1 z.2.2.2.2 (fun j x hj hm => by unfold cMx at hm; omega)
      · exact cPl_ag hS.2.2.2.2.2.2.2.1.2.1.2 (fmG z.2.2.1 hw0 2 1 (by first | decide | omega) (fun hm => by unfold cMx at hm; omega)) (fmG z.2.2.1 hw0 3 (-1) (by first | decide | omega) (fun hm => by unfold cMx at hm; omega)) (fmG z.2.2.1 hw0 2 7 (by first | decide | omega) (fun hm => by unfold cMx at hm; omega)) (fmG z.2.2.1 hw0 4 (-1) (by first | decide | omega) (fun hm => by unfold cMx at hm; omega)) (by rw [fUp_s]; omega) (Nat.le_refl _)
    · have u := rR_u hS
      refine rTu_E (fun hE => ?_)
      refine rtu_mo (rnb6 (hq S hS).1 (hq S hS).2.2 (hq S hS).2.1 hX hS.1.2.2.2.1.2.2.1 hS.1.2.2.2.1.2.2.2 (by rw [u.2.2.1]; exact hu.2.2.1.2) (by rw [u.2.2.2.1]; exact hu.2.2.2.1.2) hh hk8 (by have z := pv_r (K := (a_K A 0)) (t := 0) hE hS.1.1 (by omega) (i := ((a_K A 0).1.length : Int) - 1) ⟨by omega, by omega⟩; rw [show (2100 * (0 : Int) + (((a_K A 0).1.length : Int) - 1)) = 2100 * (0 : Int) + ((a_K A 0).1.length : Int) - 1 by omega] at z; exact z) ⟨by omega, by omega⟩) (fun Z dn z => ⟨z.1, z.2.1, z.2.2.1, z.2.2.2.1, z.2.2.2.2.1, ?_⟩)
      exact rCw_t hS z.2.2.1 z.2.2.2.2.2.1.2.2.1 z.2.2.2.2.2.1.2.2.2 (fun x hj hm => by unfold rMx at hm; omega)
  · refine stO_T (ml := [228, 229]) (mk := cMx) (rk := rMx) (K2 := kP (a_K A 1) 1 (3, 0, (kdL ((a_K A 1).1.getD ((a_K A 1).1.length - 1) (0, 0, [])).1 ((a_K A 1).1.getD ((a_K A 1).1.length - 1) (0, 0, [])).2.1))) (c2 := (fUp (fUp (a_c A) 2 (a_c A 2 + 1)) 3 (a_c A 3 + ((kdL ((a_K A 1).1.getD ((a_K A 1).1.length - 1) (0, 0, [])).1 ((a_K A 1).1.getD ((a_K A 1).1.length - 1) (0, 0, [])).2.1).length : Int)))) hp hw0 (by first | decide | omega) hA (wf_T hA hWw hw0 hB (tyt_P (m := 1) hx hk hr (by rw [ho]; decide) (by rw [ho, ha]; rfl) (by omega) (fun z => absurd z (by first | decide | omega))) (kv_P hv (vG_x kd_g)) fLe_P ⟨by rw [fUp_n (by first | decide | omega), fUp_s]; have := hu.2.2.1; omega, by rw [fUp_s]; have := hu.2.2.2.1; omega, fun i i0 i1 => by rw [fUp_n i1, fUp_n i0]⟩) (fun j x hm => by unfold cMx at hm; unfold mTx; omega) (fun j x hm => by unfold rMx at hm; unfold rTx9; omega) (fun i i0 => by rw [fUp_n (by omega), fUp_n (by omega)]) (fun S hS => ?_) (fun S hS => ?_)
    · have u := cR_u hS
      refine wJ_mono (zb6_226 (hc S hS).1 (hc S hS).2 hx1 hx55 (cR_n hS).1.1 (cR_n hS).1.2.1 (cR_n hS).2.2.2.1 (cR_n hS).2.2.2.2 (by rw [u.2.2.1]; exact hu.2.2.1) (by rw [u.2.2.2.1]; exact hu.2.2.2.1) hh hk8 ⟨by omega, by omega⟩) (fun o Z z => ⟨z.1, z.2.1, z.2.2.1, ?_, ?_, ?_, ?_, ?_⟩)
      · exact fr_tx z.2.2.1 hw0 (fun x hm => by unfold cMx at hm; omega) (fun hm => by unfold cMx at hm; omega)
      · exact cR_N (A := A) hS z.2.2.1 hw0 (fun j x hj hm => by unfold cMx at hm; omega)
      · exact cR_Po (A := A) hS z.2.2.1 hw0 (fun j x hj hm => by unfold cMx at hm; unfold poD at hj; omega)
      · exact cCw_t hS hw0 z.2.2.1 z.2.2.2.1 z.2.2.2.2 (fun j x hj hm => by unfold cMx at hm; omega)
      · exact cPl_ag hS.2.2.2.2.2.2.2.1.2.1.2 (fmG z.2.2.1 hw0 2 1 (by first | decide | omega) (fun hm => by unfold cMx at hm; omega)) (fmG z.2.2.1 hw0 3 (-1) (by first | decide | omega) (fun hm => by unfold cMx at hm; omega)) (fmG z.2.2.1 hw0 2 7 (by first | decide | omega) (fun hm => by unfold cMx at hm; omega)) (fmG z.2.2.1 hw0 4 (-1) (by first | decide | omega) (fun hm => by unfold cMx at hm; omega)) (by rw [fUp_s]; omega) (Nat.le_refl _)
    · have u := rR_u hS
      refine rTu_E (fun hE => ?_)
      refine rtu_mo (rnb6 (hq S hS).1 (hq S hS).2.2 (hq S hS).2.1 hX hS.1.2.2.2.1.2.2.1 hS.1.2.2.2.1.2.2.2 (by rw [u.2.2.1]; exact hu.2.2.1.2) (by rw [u.2.2.2.1]; exact hu.2.2.2.1.2) hh hk8 (by have z := pv_r (K := (a_K A 1)) (t := 1) hE hS.1.1 (by omega) (i := ((a_K A 1).1.length : Int) - 1) ⟨by omega, by omega⟩; rw [show (2100 * (1 : Int) + (((a_K A 1).1.length : Int) - 1)) = 2100 * (1 : Int) + ((a_K A 1).1.length : Int) - 1 by omega] at z; exact z) ⟨by omega, by omega⟩) (fun Z dn z => ⟨z.1, z.2.1, z.2.2.1, z.2.2.2.1, z.2.2.2.2.1, ?_⟩)
      exact rCw_t hS z.2.2.1 z.2.2.2.2.2.1.2.2.1 z.2.2.2.2.2.1.2.2.2 (fun x hj hm => by unfold rMx at hm; omega)

theorem sb_6m (h : hyS S0 p X fa ms n WE B B2 w t A) (hX : w_X xs) (hx1 : pe_at (pe_GA xs).xs 1 = some (1, tx_1)) (hx55 : pe_at (pe_GA xs).xs 55 = some (1, tx_55)) (ho : opI S0 (a_K A t) = 28) (ha : (opA S0 (a_K A t)) = 6) (hm : ¬ (a_c A 2 < 12000 ∧ a_c A 3 + ((kdL ((a_K A t).1.getD ((a_K A t).1.length - 1) (0, 0, [])).1 ((a_K A t).1.getD ((a_K A t).1.length - 1) (0, 0, [])).2.1).length : Int) ≤ 200000)) : stO xs d S0 p HT cs ms os X mo fa n WE B2 w t A := by
  obtain ⟨hp, hw, hx, hA, hE, hB, hr⟩ := h
  have hk := wT_of hA hw
  have hv := wV_of hA hw
  have hc := fun (S : wS) (hS : cRel S0 p HT cs ms os X mo A S) => hcb_c hx hk hr hw ho ha hS
  have hq := fun {Sb : wS} (S : wS) (hS : rRun S0 Sb HT cs ms os X mo t A S) => hqb_r hx hk hr hw ho ha hS
  have hh := tyt_h hx hk hr
  rw [ho, ha] at hh
  replace hh : 1 ≤ (a_K A t).1.length := by have z : (1 : Int) ≤ ((a_K A t).1.length : Int) := hh; omega
  have hu := hA.2.2.2.2.1
  have hT8 : ((a_T A).length : Int) ≤ 8000 := by have := hu.1; omega
  have hTu : ((a_T A).length : Int) ≤ a_c A 0 := by have := hu.1; omega
  have hk8 : 0 ≤ ((a_K A t).1.getD ((a_K A t).1.length - 1) (0, 0, [])).1 ∧ ((a_K A t).1.getD ((a_K A t).1.length - 1) (0, 0, [])).1 ≤ 8 := (hv.1 _ (tp_m (by omega))).1.1
  have hl1 := hk.1.1
  have hw0 := hw
  rcases hw with ⟨rfl, rfl⟩ | ⟨rfl, rfl⟩
  · refine stO_S (ml := [217, 218]) hp hw0 (by first | decide | omega) hA hE hB (fun S hS => ?_) (fun S hS => ?_)
    · have u := cR_u hS
      exact zb6m_215 (hc S hS).1 (hc S hS).2 hx1 hx55 (cR_n hS).1.1 (cR_n hS).1.2.1 (cR_n hS).2.2.2.1 (cR_n hS).2.2.2.2 (by rw [u.2.2.1]; exact hu.2.2.1) (by rw [u.2.2.2.1]; exact hu.2.2.2.1) hh hk8 (by omega)
    · have u := rR_u hS
      refine rTu_E (fun hE => ?_)
      exact rnb6m (hq S hS).1 (hq S hS).2.2 (hq S hS).2.1 hX hS.1.2.2.2.1.2.2.1 hS.1.2.2.2.1.2.2.2 (by rw [u.2.2.1]; exact hu.2.2.1.2) (by rw [u.2.2.2.1]; exact hu.2.2.2.1.2) hh hk8 (by have z := pv_r (K := (a_K A 0)) (t := 0) hE hS.1.1 (by omega) (i := ((a_K A 0).1.length : Int) - 1) ⟨by omega, by omega⟩; rw [show (2100 * (0 : Int) + (((a_K A 0).1.length : Int) - 1)) = 2100 * (0 : Int) + ((a_K A 0).1.length : Int) - 1 by omega] at z; exact z) (by omega)
  · refine stO_S (ml := [228, 229]) hp hw0 (by first | decide | omega) hA hE hB (fun S hS => ?_) (fun S hS => ?_)
    · have u := cR_u hS
      exact zb6m_226 (hc S hS).1 (hc S hS).2 hx1 hx55 (cR_n hS).1.1 (cR_n hS).1.2.1 (cR_n hS).2.2.2.1 (cR_n hS).2.2.2.2 (by rw [u.2.2.1]; exact hu.2.2.1) (by rw [u.2.2.2.1]; exact hu.2.2.2.1) hh hk8 (by omega)
    · have u := rR_u hS
      refine rTu_E (fun hE => ?_)
      exact rnb6m (hq S hS).1 (hq S hS).2.2 (hq S hS).2.1 hX hS.1.2.2.2.1.2.2.1 hS.1.2.2.2.1.2.2.2 (by rw [u.2.2.1]; exact hu.2.2.1.2) (by rw [u.2.2.2.1]; exact hu.2.2.2.1.2) hh hk8 (by have z := pv_r (K := (a_K A 1)) (t := 1) hE hS.1.1 (by omega) (i := ((a_K A 1).1.length : Int) - 1) ⟨by omega, by omega⟩; rw [show (2100 * (1 : Int) + (((a_K A 1).1.length : Int) - 1)) = 2100 * (1 : Int) + ((a_K A 1).1.length : Int) - 1 by omega] at z; exact z) (by omega)

end Wkm
