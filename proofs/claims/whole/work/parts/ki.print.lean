/-! PART ki: a step of a task, on both sides: printing, and stops that leave workings behind. -/
section Wki
variable {Sb : wS} {xs : List (Nat × List Int32)} {d : Nat} {S0 S Z : wS} {p w m : Nat} {HT : Int → Int} {cs : List hCR} {ms : List hMR} {os : Int → List Int} {X : List (List Int)} {mo t n B B2 oq : Int} {fa : Int → Int} {WE : aA → Prop} {A A2 : aA} {K2 : aK} {ml : List Nat} {T2 : List aO} {L2 : List aC} {G2 : Int → aV} {H2 : List aH} {c2 : Int → Int} {mk rk : Nat → Int → Prop} {k : Int} {O2 : List Int} {PQ : wS → Int → Prop}
/-- a task and the output are changed -/
def u_O (A : aA) (t : Int) (K2 : aK) (O2 : List Int) : aA := (fUp A.1 t K2, A.2.1, A.2.2.1, (O2, A.2.2.2.1.2), A.2.2.2.2)
/-- workings and output of the class, of the reference -/
def mOu (j : Nat) (x : Int) : Prop := (j = 156 ∧ 0 ≤ x) ∨ (j = 157 ∧ 0 ≤ x) ∨ (j = 72 ∧ (x = 13 ∨ x = 19)) ∨ j = 151
def rOo (j : Nat) (x : Int) : Prop := j = 342 ∨ (j = 237 ∧ x = 104)
theorem wz_151 : ∀ q ∈ wz_n, q.1 ≠ 151 := by decide
theorem rTu_E (h : (∃ ad hp, w_E wY0 ad S hp) → rTurn xs d t S PQ) : rTurn xs d t S PQ := fun M Q n k x1 a b c => wJ_E (fun hE => h hE M Q n k x1 a b c)
theorem cRel_O (h : cRel S0 p HT cs ms os X mo A S) (hp : p = 73 ∨ p = 162) (hw : isWt w t) (hF : cFm w mk S Z) (hmk : ∀ (j : Nat) (x : Int), mk j x → mOu j x) (hK : cTk w Z K2) (hO : cOu Z O2) : cRel S0 p HT cs ms os X mo (u_O A t K2 O2) Z := by
  have hx := fr_tx hF hw (fun x hm => by have := hmk _ x hm; unfold mOu at this; omega) (fun hm => by have := hmk _ _ hm; unfold mOu at this; omega)
  exact ⟨cR_CL (A := A) h hF hw (fun q hq hm => by have := hmk _ _ hm; have := wz_151 q hq; unfold mOu at *; omega), cR_tk (A := A) h hF hw hx (fun j x hm => by have := hmk j x hm; unfold mOu at this; omega) hK, ⟨cR_W (A := A) h hF hw hx (fun j x hj hm => by have := hmk j x hm; unfold cWo at hj; unfold mOu at this; omega), cR_Sw (A := A) h hF hw (fun j x hj hm => by have := hmk j x hm; unfold shD at hj; unfold mOu at this; omega), cR_Po (A := A) h hF hw (fun j x hj hm => by have := hmk j x hm; unfold poD at hj; unfold mOu at this; omega)⟩, cR_N (A := A) h hF hw (fun j x hj hm => by have := hmk j x hm; unfold mOu at this; omega), cR_E (A := A) h hF hw (fun j x hj hm => by have := hmk j x hm; unfold cEo at hj; unfold mOu at this; omega), ⟨hO, cR_R (A := A) h hF hw (fun x hm => by have := hmk _ x hm; unfold mOu at this; omega) (fun hm => by have := hmk _ _ hm; unfold mOu at this; omega)⟩, ⟨cR_C (A := A) h hp hF hw (fun j x hj hm => by have := hmk j x hm; unfold hoD at hj; unfold mOu at this; omega), cR_S (A := A) h hp hF hw hx (fun j x hj hm => by have := hmk j x hm; unfold hoD at hj; unfold mOu at this; omega)⟩, cR_cn (A := A) h hF hw (fun j x hj hm => by have := hmk j x hm; unfold cnD at hj; unfold mOu at this; omega), cR_st (A := A) h hp hF hw (fun j x hj hm => by have := hmk j x hm; unfold cSta at hj; unfold mOu at this; omega)⟩
theorem rRel_O (h : rRun S0 Sb HT cs ms os X mo t A S) (ht : t = 0 ∨ t = 1) (hl : kLn (a_K A 0) ∧ kLn (a_K A 1)) (hF : rTm t rk S Z) (hrk : ∀ (j : Nat) (x : Int), rk j x → rOo j x) (hM : w_ML Z) (hK : rTk t Z K2) (hO : rOu Z O2) : rRun S0 Sb HT cs ms os X mo t (u_O A t K2 O2) Z := by
  have g := fun (x : Int) (hx : 151 ≤ x ∧ x ≤ 153) => tmG hF 237 x (by unfold rKp; omega) (fun hm => by have := hrk 237 x hm; unfold rOo at this; omega)
  refine ⟨?_, (g 151 (by omega)).trans h.2.1, (g 152 (by omega)).trans h.2.2.1, (g 153 (by omega)).trans h.2.2.2⟩
  have h := h.1
  have hx := tf_tx hF (fun j x hj hm => by have := hrk j x hm; unfold rOo at this; omega)
  exact ⟨hM, rR_tk (A := A) h hF ht hx hl (fun j x hm => by have := hrk j x hm; unfold rOo at this; omega) hK, ⟨rR_W (A := A) h hF hx (fun j x hj hm => by have := hrk j x hm; unfold rWo at hj; unfold rOo at this; omega), rR_H (A := A) h hF (fun j x hj hm => by have := hrk j x hm; unfold rOo at this; omega)⟩, ⟨rR_N (A := A) h hF (fun j x hj hm => by have := hrk j x hm; unfold rOo at this; omega), rR_X (A := A) h hF hx (fun j x hj hm => by have := hrk j x hm; unfold rOo at this; omega), rR_t (A := A) h hF (fun j x hj hm => by have := hrk j x hm; unfold txD at hj; unfold rOo at this; omega)⟩, rR_E (A := A) h hF (fun j x hj hm => by have := hrk j x hm; unfold rOo at this; omega), ⟨hO, rR_R (A := A) h hF (fun x hm => by have := hrk _ x hm; unfold rOo at this; omega) (fun hm => by have := hrk _ _ hm; unfold rOo at this; omega)⟩, ⟨rR_C (A := A) h hF (fun j x hj hm => by have := hrk j x hm; unfold chM at hj; unfold rOo at this; omega), rR_S (A := A) h hF hx (fun j x hj hm => by have := hrk j x hm; unfold rOo at this; omega)⟩, rR_cn (A := A) h hF (fun j x hj hm => by have := hrk j x hm; unfold rcD at hj; unfold rOo at this; omega), rR_st (A := A) h hF (fun j x hj hm => by have := hrk j x hm; unfold rSta at hj; unfold rOo at this; omega)⟩
/-- what holds of entries hangs on no output -/
def WEo (WE : aA → Prop) : Prop := ∀ (A : aA) (t : Int) (K2 : aK) (O2 : List Int), WE A → WE (u_O A t K2 O2)
theorem wf_O (h : wfA S0 fa ms n WE B A) (hE : WEo WE) (ht : t = 0 ∨ t = 1) (h1 : wTk fa S0 K2) (h2 : wKv (a_T A) n K2) (h3 : fLe K2.2.1 (a_K A t).2.1) (hB : B ≤ B2 ∧ B2 ≤ 600000) (hO : O2.length ≤ 65536) : wfA S0 fa ms n WE B2 (u_O A t K2 O2) := by
  obtain ⟨⟨a1, a2⟩, a3, ⟨⟨b1, b2⟩, b3⟩, ⟨cf, c1, c2, c3⟩, a5, a6, a7⟩ := h
  have hW := hE A t K2 O2 a7
  rcases ht with rfl | rfl
  · exact ⟨⟨h1, a2⟩, a3, ⟨⟨h2, b2⟩, b3⟩, ⟨cf, c1, kc_le c2 h3, c3⟩, wCt_B a5 hB, ⟨a6.1, a6.2.1, hO⟩, hW⟩
  · exact ⟨⟨a1, h1⟩, a3, ⟨⟨b1, h2⟩, b3⟩, ⟨cf, c1, c2, kc_le c3 h3⟩, wCt_B a5 hB, ⟨a6.1, a6.2.1, hO⟩, hW⟩
/-- a step that stops and leaves workings behind -/
theorem stO_So (hp : p = 73 ∨ p = 162) (hw : isWt w t) (hs : ∀ k ∈ ml, k ∈ sML) (hA : wfA S0 fa ms n WE B A) (hE : WEk WE) (hB : B ≤ B2 ∧ B2 ≤ 600000) (hmk : ∀ (j : Nat) (x : Int), mk j x → (j = 156 ∧ 0 ≤ x) ∨ (j = 157 ∧ 0 ≤ x) ∨ (j = 72 ∧ x = 19)) (hc : ∀ S : wS, cRel S0 p HT cs ms os X mo A S → cSo xs d w ml mk S (a_K A t)) (hr : ∀ {Sb : wS} (S : wS), rRun S0 Sb HT cs ms os X mo t A S → rSn xs d t S (a_K A t)) : stO xs d S0 p HT cs ms os X mo fa n WE B2 w t A := by
  have tt := wt_t hw
  refine ⟨0, u_K A t (kSt (a_K A t)), Or.inl rfl, wf_K hA hE tt (tyt_S (wT_of hA hw)) (kv_S (wV_of hA hw)) (fun cf _ c2 => kc_le c2 fLe_r) hB, fun t2 h => fUp_n h, fun _ => ?_, fun S hS => ?_, fun S hS => ?_⟩
  · show (fUp A.1 t (kSt (a_K A t)) t).2.2.2.1 ≠ 1
    rw [fUp_s]
    show (4 : Int) ≠ 1
    decide
  · exact wJ_M (wJ_mono (hc S hS) (fun o Z hz => ⟨hz.1, cRel_O (O2 := a_O A) hS hp hw hz.2.2 (fun j x hm => by have := hmk j x hm; unfold mOu; omega) hz.2.1 (cR_O (A := A) hS hz.2.2 hw (fun x hm => by have := hmk _ _ hm; omega) (fun hm => by have := hmk _ _ hm; omega))⟩)) (mS_sM hs)
  · exact rtu_mo (hr S hS) (fun Z dn hz => ⟨hz.1, fun hM => rRun_K hS tt ⟨hA.1.1.1, hA.1.2.1⟩ hz.2.1 hz.2.2 hM⟩)
/-- a step that prints -/
theorem stO_O (hp : p = 73 ∨ p = 162) (hw : isWt w t) (hs : ∀ k ∈ ml, k ∈ sML) (hA : wfA S0 fa ms n WE B A) (hA2 : wfA S0 fa ms n WE B2 (u_O A t K2 O2)) (hmk : ∀ (j : Nat) (x : Int), mk j x → mOu j x) (hrk : ∀ (j : Nat) (x : Int), rk j x → rOo j x) (hc : ∀ S : wS, cRel S0 p HT cs ms os X mo A S → cSm xs d w ml mk S K2 (fun Z => cOu Z O2)) (hr : ∀ {Sb : wS} (S : wS), rRun S0 Sb HT cs ms os X mo t A S → rSm xs d t rk S K2 (fun Z => rOu Z O2)) : stO xs d S0 p HT cs ms os X mo fa n WE B2 w t A := by
  have tt := wt_t hw
  refine ⟨1, (u_O A t K2 O2), Or.inr rfl, hA2, fun t2 h => fUp_n h, fun z => absurd z (by first | decide | omega), fun S hS => ?_, fun S hS => ?_⟩
  · exact wJ_M (wJ_mono (hc S hS) (fun o Z hz => ⟨hz.1, cRel_O hS hp hw hz.2.2.1 hmk hz.2.1 hz.2.2.2⟩)) (mS_sM hs)
  · exact rtu_mo (hr S hS) (fun Z dn hz => ⟨hz.1, fun hM => rRel_O hS tt ⟨hA.1.1.1, hA.1.2.1⟩ hz.2.2.1 hrk hM hz.2.1 hz.2.2.2⟩)
theorem cR_57 (h : cRel S0 p HT cs ms os X mo A S) (h0 : S0 157 (-1) = 64) : S 157 (-1) = 64 := (h.2.2.2.2.2.2.2.2 157 (-1) (by unfold cSta; omega)).trans h0

theorem pv_215 {K : aK} (hE : ∃ ad hp, w_E wY0 ad S hp) (h : stC 215 S K) {i : Int} (hi : 0 ≤ i ∧ i < (K.1.length : Int)) : -9223372036854775808 ≤ S 218 i ∧ S 218 i ≤ 9223372036854775807 := by
  obtain ⟨-, -, -, ⟨-, -, -, b2⟩, b3, -, -⟩ := xP_of (w := 215) (by omega) h
  exact lr_E hE ⟨Or.inl (by first | decide | omega), by decide⟩ rfl hi.1 (by have z : S 218 (-1) = S 217 (-1) := b3; have z2 : (K.1.length : Int) ≤ S 217 (-1) := b2; omega)

theorem pv_226 {K : aK} (hE : ∃ ad hp, w_E wY0 ad S hp) (h : stC 226 S K) {i : Int} (hi : 0 ≤ i ∧ i < (K.1.length : Int)) : -9223372036854775808 ≤ S 229 i ∧ S 229 i ≤ 9223372036854775807 := by
  obtain ⟨-, -, -, ⟨-, -, -, b2⟩, b3, -, -⟩ := xP_of (w := 226) (by omega) h
  exact lr_E hE ⟨Or.inl (by first | decide | omega), by decide⟩ rfl hi.1 (by have z : S 229 (-1) = S 228 (-1) := b3; have z2 : (K.1.length : Int) ≤ S 228 (-1) := b2; omega)

theorem pv_r {K : aK} (hE : ∃ ad hp, w_E wY0 ad S hp) (hM : w_ML S) (ht : t = 0 ∨ t = 1) {i : Int} (hi : 0 ≤ i ∧ i < 2100) : -9223372036854775808 ≤ S 364 (2100 * t + i) ∧ S 364 (2100 * t + i) ≤ 9223372036854775807 := lr_E hE ⟨Or.inl (by first | decide | omega), by decide⟩ rfl (by omega) (by rw [ml_364 hM]; omega)

theorem sb_30m (h : hyS S0 p X fa ms n WE B B2 w t A) (hx1 : pe_at (pe_GA xs).xs 1 = some (1, tx_1)) (h56 : S0 156 (-1) = 65) (ho : opI S0 (a_K A t) = 28) (ha : (opA S0 (a_K A t)) = 3) (hx2 : ((a_K A t).1.getD ((a_K A t).1.length - 2) (0, 0, [])).1 = 4 ∨ ((a_K A t).1.getD ((a_K A t).1.length - 2) (0, 0, [])).1 = 5) (hy : ((a_K A t).1.getD ((a_K A t).1.length - 1) (0, 0, [])).1 = 0) (hm0 : hMe (aPr (a_T A) (a_H A)) ((a_K A t).1.getD ((a_K A t).1.length - 2) (0, 0, [])).2.1 ((a_T A).length + 1) (-1) = 0) (hm : 4000 < a_c A 4 + aMb (a_H A) (-1) (fS (-1) (aNs (a_H A) (tO (a_T A) ((a_K A t).1.getD ((a_K A t).1.length - 2) (0, 0, [])).2.1).2.1) 0)) : stO xs d S0 p HT cs ms os X mo fa n WE B2 w t A := by
  obtain ⟨hp, hw, hx, hA, hE, hB, hr⟩ := h
  have hk := wT_of hA hw
  have hv := wV_of hA hw
  have hc := fun (S : wS) (hS : cRel S0 p HT cs ms os X mo A S) => hcb_c hx hk hr hw ho ha hS
  have hq := fun {Sb : wS} (S : wS) (hS : rRun S0 Sb HT cs ms os X mo t A S) => hqb_r hx hk hr hw ho ha hS
  have hh := tyt_h hx hk hr
  rw [ho, ha] at hh
  replace hh : 2 ≤ (a_K A t).1.length := by have z : (2 : Int) ≤ ((a_K A t).1.length : Int) := hh; omega
  have hu := hA.2.2.2.2.1
  have hT8 : ((a_T A).length : Int) ≤ 8000 := by have := hu.1; omega
  have hTu : ((a_T A).length : Int) ≤ a_c A 0 := by have := hu.1; omega
  have hxo := vG_o (hv.1 _ (tq_m (by omega))) hx2
  obtain ⟨n1, n2, n3, n4⟩ := wN_b hA
  have hw0 := hw
  rcases hw with ⟨rfl, rfl⟩ | ⟨rfl, rfl⟩
  · refine stO_So (ml := [217, 218, 144, 145, 146, 147, 148]) (mk := cMo) hp hw0 (by first | decide | omega) hA hE hB (fun j x hm => by unfold cMo at hm; omega) (fun S hS => ?_) (fun S hS => ?_)
    · have u := cR_u hS
      exact zb30m_215 (hc S hS).1 (hc S hS).2 hx1 hS.2.2.1.1 hS.2.2.1.2.1 hA.2.1 hT8 (by rw [u.2.2.2.2.1]; exact n4) n1 (by rw [u.2.2.2.2.2]; exact n2) (by rw [u.2.2.2.2.2]; exact n3) (cR_56 hS h56) hh hx2 hxo hy hm0 (by rw [u.2.2.2.2.1]; exact hm)
    · obtain ⟨sl, hW⟩ := hS.1.2.2.1.1
      have u := rR_u hS
      exact rnb30m (hq S hS).1 (hq S hS).2.2 (hq S hS).2.1 hW hS.1.2.2.1.2 hA.2.1 hT8 (rR_82 hS hu.2.1.2.1) (by rw [u.2.2.2.2.1]; exact n4) n1 (by rw [u.2.2.2.2.2.1]; exact n2) (by rw [u.2.2.2.2.2.1]; exact n3) hh hx2 hxo hy hm0 (by rw [u.2.2.2.2.1]; exact hm)
  · refine stO_So (ml := [228, 229, 144, 145, 146, 147, 148]) (mk := cMo) hp hw0 (by first | decide | omega) hA hE hB (fun j x hm => by unfold cMo at hm; omega) (fun S hS => ?_) (fun S hS => ?_)
    · have u := cR_u hS
      exact zb30m_226 (hc S hS).1 (hc S hS).2 hx1 hS.2.2.1.1 hS.2.2.1.2.1 hA.2.1 hT8 (by rw [u.2.2.2.2.1]; exact n4) n1 (by rw [u.2.2.2.2.2]; exact n2) (by rw [u.2.2.2.2.2]; exact n3) (cR_56 hS h56) hh hx2 hxo hy hm0 (by rw [u.2.2.2.2.1]; exact hm)
    · obtain ⟨sl, hW⟩ := hS.1.2.2.1.1
      have u := rR_u hS
      exact rnb30m (hq S hS).1 (hq S hS).2.2 (hq S hS).2.1 hW hS.1.2.2.1.2 hA.2.1 hT8 (rR_82 hS hu.2.1.2.1) (by rw [u.2.2.2.2.1]; exact n4) n1 (by rw [u.2.2.2.2.2.1]; exact n2) (by rw [u.2.2.2.2.2.1]; exact n3) hh hx2 hxo hy hm0 (by rw [u.2.2.2.2.1]; exact hm)

theorem sb_31m (h : hyS S0 p X fa ms n WE B B2 w t A) (hx1 : pe_at (pe_GA xs).xs 1 = some (1, tx_1)) (h56 : S0 156 (-1) = 65) (ho : opI S0 (a_K A t) = 28) (ha : (opA S0 (a_K A t)) = 3) (hx2 : ((a_K A t).1.getD ((a_K A t).1.length - 2) (0, 0, [])).1 = 4 ∨ ((a_K A t).1.getD ((a_K A t).1.length - 2) (0, 0, [])).1 = 5) (hy : ((a_K A t).1.getD ((a_K A t).1.length - 1) (0, 0, [])).1 = 4 ∨ ((a_K A t).1.getD ((a_K A t).1.length - 1) (0, 0, [])).1 = 5) (hm0 : hMe (aPr (a_T A) (a_H A)) ((a_K A t).1.getD ((a_K A t).1.length - 2) (0, 0, [])).2.1 ((a_T A).length + 1) ((a_K A t).1.getD ((a_K A t).1.length - 1) (0, 0, [])).2.1 = 0) (hm : 4000 < a_c A 4 + aMb (a_H A) ((a_K A t).1.getD ((a_K A t).1.length - 1) (0, 0, [])).2.1 (fS (-1) (aNs (a_H A) (tO (a_T A) ((a_K A t).1.getD ((a_K A t).1.length - 2) (0, 0, [])).2.1).2.1) 0)) : stO xs d S0 p HT cs ms os X mo fa n WE B2 w t A := by
  obtain ⟨hp, hw, hx, hA, hE, hB, hr⟩ := h
  have hk := wT_of hA hw
  have hv := wV_of hA hw
  have hc := fun (S : wS) (hS : cRel S0 p HT cs ms os X mo A S) => hcb_c hx hk hr hw ho ha hS
  have hq := fun {Sb : wS} (S : wS) (hS : rRun S0 Sb HT cs ms os X mo t A S) => hqb_r hx hk hr hw ho ha hS
  have hh := tyt_h hx hk hr
  rw [ho, ha] at hh
  replace hh : 2 ≤ (a_K A t).1.length := by have z : (2 : Int) ≤ ((a_K A t).1.length : Int) := hh; omega
  have hu := hA.2.2.2.2.1
  have hT8 : ((a_T A).length : Int) ≤ 8000 := by have := hu.1; omega
  have hTu : ((a_T A).length : Int) ≤ a_c A 0 := by have := hu.1; omega
  have hxo := vG_o (hv.1 _ (tq_m (by omega))) hx2
  have hqo := vG_o (hv.1 _ (tp_m (by omega))) hy
  obtain ⟨n1, n2, n3, n4⟩ := wN_b hA
  have hw0 := hw
  rcases hw with ⟨rfl, rfl⟩ | ⟨rfl, rfl⟩
  · refine stO_So (ml := [217, 218, 144, 145, 146, 147, 148]) (mk := cMo) hp hw0 (by first | decide | omega) hA hE hB (fun j x hm => by unfold cMo at hm; omega) (fun S hS => ?_) (fun S hS => ?_)
    · have u := cR_u hS
      exact zb31m_215 (hc S hS).1 (hc S hS).2 hx1 hS.2.2.1.1 hS.2.2.1.2.1 hA.2.1 hT8 (by rw [u.2.2.2.2.1]; exact n4) n1 (by rw [u.2.2.2.2.2]; exact n2) (by rw [u.2.2.2.2.2]; exact n3) (cR_56 hS h56) hh hx2 hxo hy hqo hm0 (by rw [u.2.2.2.2.1]; exact hm)
    · obtain ⟨sl, hW⟩ := hS.1.2.2.1.1
      have u := rR_u hS
      exact rnb31m (hq S hS).1 (hq S hS).2.2 (hq S hS).2.1 hW hS.1.2.2.1.2 hA.2.1 hT8 (rR_82 hS hu.2.1.2.1) (by rw [u.2.2.2.2.1]; exact n4) n1 (by rw [u.2.2.2.2.2.1]; exact n2) (by rw [u.2.2.2.2.2.1]; exact n3) hh hx2 hxo hy hqo hm0 (by rw [u.2.2.2.2.1]; exact hm)
  · refine stO_So (ml := [228, 229, 144, 145, 146, 147, 148]) (mk := cMo) hp hw0 (by first | decide | omega) hA hE hB (fun j x hm => by unfold cMo at hm; omega) (fun S hS => ?_) (fun S hS => ?_)
    · have u := cR_u hS
      exact zb31m_226 (hc S hS).1 (hc S hS).2 hx1 hS.2.2.1.1 hS.2.2.1.2.1 hA.2.1 hT8 (by rw [u.2.2.2.2.1]; exact n4) n1 (by rw [u.2.2.2.2.2]; exact n2) (by rw [u.2.2.2.2.2]; exact n3) (cR_56 hS h56) hh hx2 hxo hy hqo hm0 (by rw [u.2.2.2.2.1]; exact hm)
    · obtain ⟨sl, hW⟩ := hS.1.2.2.1.1
      have u := rR_u hS
      exact rnb31m (hq S hS).1 (hq S hS).2.2 (hq S hS).2.1 hW hS.1.2.2.1.2 hA.2.1 hT8 (rR_82 hS hu.2.1.2.1) (by rw [u.2.2.2.2.1]; exact n4) n1 (by rw [u.2.2.2.2.2.1]; exact n2) (by rw [u.2.2.2.2.2.1]; exact n3) hh hx2 hxo hy hqo hm0 (by rw [u.2.2.2.2.1]; exact hm)

theorem sb_4m (h : hyS S0 p X fa ms n WE B B2 w t A) (hx1 : pe_at (pe_GA xs).xs 1 = some (1, tx_1)) (h56 : S0 156 (-1) = 65) (ho : opI S0 (a_K A t) = 28) (ha : (opA S0 (a_K A t)) = 4) (hx2 : ((a_K A t).1.getD ((a_K A t).1.length - 2) (0, 0, [])).1 = 4 ∨ ((a_K A t).1.getD ((a_K A t).1.length - 2) (0, 0, [])).1 = 5) (hy : ((a_K A t).1.getD ((a_K A t).1.length - 1) (0, 0, [])).1 = 3) (hm0 : (ixL (a_N A) ((a_K A t).1.getD ((a_K A t).1.length - 1) (0, 0, [])).2.2) ≠ -1 ∧ aIx (a_T A) (ixL (a_N A) ((a_K A t).1.getD ((a_K A t).1.length - 1) (0, 0, [])).2.2) ((a_K A t).1.getD ((a_K A t).1.length - 2) (0, 0, [])).2.1 ≠ -1) (hm : 4000 < a_c A 4 + aMb (a_H A) (aPr (a_T A) (a_H A) ((a_K A t).1.getD ((a_K A t).1.length - 2) (0, 0, [])).2.1) (fS (aIx (a_T A) (ixL (a_N A) ((a_K A t).1.getD ((a_K A t).1.length - 1) (0, 0, [])).2.2) ((a_K A t).1.getD ((a_K A t).1.length - 2) (0, 0, [])).2.1) (aNs (a_H A) (tO (a_T A) ((a_K A t).1.getD ((a_K A t).1.length - 2) (0, 0, [])).2.1).2.1) 0)) : stO xs d S0 p HT cs ms os X mo fa n WE B2 w t A := by
  obtain ⟨hp, hw, hx, hA, hE, hB, hr⟩ := h
  have hk := wT_of hA hw
  have hv := wV_of hA hw
  have hc := fun (S : wS) (hS : cRel S0 p HT cs ms os X mo A S) => hcb_c hx hk hr hw ho ha hS
  have hq := fun {Sb : wS} (S : wS) (hS : rRun S0 Sb HT cs ms os X mo t A S) => hqb_r hx hk hr hw ho ha hS
  have hh := tyt_h hx hk hr
  rw [ho, ha] at hh
  replace hh : 2 ≤ (a_K A t).1.length := by have z : (2 : Int) ≤ ((a_K A t).1.length : Int) := hh; omega
  have hu := hA.2.2.2.2.1
  have hT8 : ((a_T A).length : Int) ≤ 8000 := by have := hu.1; omega
  have hTu : ((a_T A).length : Int) ≤ a_c A 0 := by have := hu.1; omega
  have hxo := vG_o (hv.1 _ (tq_m (by omega))) hx2
  obtain ⟨n1, n2, n3, n4⟩ := wN_b hA
  have hw0 := hw
  rcases hw with ⟨rfl, rfl⟩ | ⟨rfl, rfl⟩
  · refine stO_So (ml := [217, 218, 144, 145, 146, 147, 148]) (mk := cMo) hp hw0 (by first | decide | omega) hA hE hB (fun j x hm => by unfold cMo at hm; omega) (fun S hS => ?_) (fun S hS => ?_)
    · have u := cR_u hS
      exact zb4m_215 (hc S hS).1 (hc S hS).2 hx1 (cR_n hS).1.1 (cR_n hS).1.2.1 (cR_n hS).1.2.2 (cR_n hS).2.1 (cR_tt hS) hS.2.2.1.1 hS.2.2.1.2.1 hA.2.1 hT8 (by rw [u.2.2.2.2.1]; exact n4) n1 (by rw [u.2.2.2.2.2]; exact n2) (by rw [u.2.2.2.2.2]; exact n3) (cR_56 hS h56) hh hx2 hxo hy rfl hm0 (by rw [u.2.2.2.2.1]; exact hm)
    · obtain ⟨sl, hW⟩ := hS.1.2.2.1.1
      have u := rR_u hS
      exact rnb4m (hq S hS).1 (hq S hS).2.2 (hq S hS).2.1 hS.1.2.2.2.1.1 hS.1.2.2.2.1.2.2.1 hW hS.1.2.2.1.2 hA.2.1 hT8 (rR_82 hS hu.2.1.2.1) (by rw [u.2.2.2.2.1]; exact n4) n1 (by rw [u.2.2.2.2.2.1]; exact n2) (by rw [u.2.2.2.2.2.1]; exact n3) hh hx2 hxo hy rfl hm0 (by rw [u.2.2.2.2.1]; exact hm)
  · refine stO_So (ml := [228, 229, 144, 145, 146, 147, 148]) (mk := cMo) hp hw0 (by first | decide | omega) hA hE hB (fun j x hm => by unfold cMo at hm; omega) (fun S hS => ?_) (fun S hS => ?_)
    · have u := cR_u hS
      exact zb4m_226 (hc S hS).1 (hc S hS).2 hx1 (cR_n hS).1.1 (cR_n hS).1.2.1 (cR_n hS).1.2.2 (cR_n hS).2.1 (cR_tt hS) hS.2.2.1.1 hS.2.2.1.2.1 hA.2.1 hT8 (by rw [u.2.2.2.2.1]; exact n4) n1 (by rw [u.2.2.2.2.2]; exact n2) (by rw [u.2.2.2.2.2]; exact n3) (cR_56 hS h56) hh hx2 hxo hy rfl hm0 (by rw [u.2.2.2.2.1]; exact hm)
    · obtain ⟨sl, hW⟩ := hS.1.2.2.1.1
      have u := rR_u hS
      exact rnb4m (hq S hS).1 (hq S hS).2.2 (hq S hS).2.1 hS.1.2.2.2.1.1 hS.1.2.2.2.1.2.2.1 hW hS.1.2.2.1.2 hA.2.1 hT8 (rR_82 hS hu.2.1.2.1) (by rw [u.2.2.2.2.1]; exact n4) n1 (by rw [u.2.2.2.2.2.1]; exact n2) (by rw [u.2.2.2.2.2.1]; exact n3) hh hx2 hxo hy rfl hm0 (by rw [u.2.2.2.2.1]; exact hm)

theorem sb_0m (h : hyS S0 p X fa ms n WE B B2 w t A) (hX : w_X xs) (h57 : S0 157 (-1) = 64) (ho : opI S0 (a_K A t) = 28) (ha : (opA S0 (a_K A t)) = 0) (hk6 : ((a_K A t).1.getD ((a_K A t).1.length - 1) (0, 0, [])).1 ≤ 6) (hm : 65536 < ((a_O A).length : Int) + ((pL ((a_K A t).1.getD ((a_K A t).1.length - 1) (0, 0, []))).length : Int) + 1) : stO xs d S0 p HT cs ms os X mo fa n WE B2 w t A := by
  obtain ⟨hp, hw, hx, hA, hE, hB, hr⟩ := h
  have hk := wT_of hA hw
  have hv := wV_of hA hw
  have hc := fun (S : wS) (hS : cRel S0 p HT cs ms os X mo A S) => hcb_c hx hk hr hw ho ha hS
  have hq := fun {Sb : wS} (S : wS) (hS : rRun S0 Sb HT cs ms os X mo t A S) => hqb_r hx hk hr hw ho ha hS
  have hh := tyt_h hx hk hr
  rw [ho, ha] at hh
  replace hh : 1 ≤ (a_K A t).1.length := by have z : (1 : Int) ≤ ((a_K A t).1.length : Int) := hh; omega
  have hu := hA.2.2.2.2.1
  have hT8 : ((a_T A).length : Int) ≤ 8000 := by have := hu.1; omega
  have hTu : ((a_T A).length : Int) ≤ a_c A 0 := by have := hu.1; omega
  have hk0 : 0 ≤ ((a_K A t).1.getD ((a_K A t).1.length - 1) (0, 0, [])).1 ∧ ((a_K A t).1.getD ((a_K A t).1.length - 1) (0, 0, [])).1 ≤ 6 := ⟨(hv.1 _ (tp_m (by omega))).1.1.1, hk6⟩
  have hl1 := hk.1.1
  have hw0 := hw
  rcases hw with ⟨rfl, rfl⟩ | ⟨rfl, rfl⟩
  · refine stO_So (ml := [217, 218, 151]) (mk := cMq) hp hw0 (by first | decide | omega) hA hE hB (fun j x hm => by unfold cMq at hm; omega) (fun S hS => ?_) (fun S hS => ?_)
    · refine wJ_E (fun hE => ?_)
      exact zb0m_215 (hc S hS).1 (hc S hS).2 hX (cR_57 hS h57) hS.2.2.2.2.2.1.1 (cR_tt hS) hh hk0 (pv_215 hE (hc S hS).1 ⟨by omega, by omega⟩) hm
    · refine rTu_E (fun hE => ?_)
      exact rnb0m (hq S hS).1 (hq S hS).2.2 (hq S hS).2.1 hX hS.1.2.2.2.2.2.1.1 hS.1.2.2.2.1.2.2.1 hh hk0 (by have z := pv_r (K := (a_K A 0)) (t := 0) hE hS.1.1 (by omega) (i := ((a_K A 0).1.length : Int) - 1) ⟨by omega, by omega⟩; rw [show (2100 * (0 : Int) + (((a_K A 0).1.length : Int) - 1)) = 2100 * (0 : Int) + ((a_K A 0).1.length : Int) - 1 by omega] at z; exact z) hm
  · refine stO_So (ml := [228, 229, 151]) (mk := cMq) hp hw0 (by first | decide | omega) hA hE hB (fun j x hm => by unfold cMq at hm; omega) (fun S hS => ?_) (fun S hS => ?_)
    · refine wJ_E (fun hE => ?_)
      exact zb0m_226 (hc S hS).1 (hc S hS).2 hX (cR_57 hS h57) hS.2.2.2.2.2.1.1 (cR_tt hS) hh hk0 (pv_226 hE (hc S hS).1 ⟨by omega, by omega⟩) hm
    · refine rTu_E (fun hE => ?_)
      exact rnb0m (hq S hS).1 (hq S hS).2.2 (hq S hS).2.1 hX hS.1.2.2.2.2.2.1.1 hS.1.2.2.2.1.2.2.1 hh hk0 (by have z := pv_r (K := (a_K A 1)) (t := 1) hE hS.1.1 (by omega) (i := ((a_K A 1).1.length : Int) - 1) ⟨by omega, by omega⟩; rw [show (2100 * (1 : Int) + (((a_K A 1).1.length : Int) - 1)) = 2100 * (1 : Int) + ((a_K A 1).1.length : Int) - 1 by omega] at z; exact z) hm

theorem sb_0p (h : hyS S0 p X fa ms n WE B B2 w t A) (hWo : WEo WE) (hX : w_X xs) (h57 : S0 157 (-1) = 64) (ho : opI S0 (a_K A t) = 28) (ha : (opA S0 (a_K A t)) = 0) (hk6 : ((a_K A t).1.getD ((a_K A t).1.length - 1) (0, 0, [])).1 ≤ 6) (hm : ((a_O A).length : Int) + ((pL ((a_K A t).1.getD ((a_K A t).1.length - 1) (0, 0, []))).length : Int) + 1 ≤ 65536) : stO xs d S0 p HT cs ms os X mo fa n WE B2 w t A := by
  obtain ⟨hp, hw, hx, hA, hE, hB, hr⟩ := h
  have hk := wT_of hA hw
  have hv := wV_of hA hw
  have hc := fun (S : wS) (hS : cRel S0 p HT cs ms os X mo A S) => hcb_c hx hk hr hw ho ha hS
  have hq := fun {Sb : wS} (S : wS) (hS : rRun S0 Sb HT cs ms os X mo t A S) => hqb_r hx hk hr hw ho ha hS
  have hh := tyt_h hx hk hr
  rw [ho, ha] at hh
  replace hh : 1 ≤ (a_K A t).1.length := by have z : (1 : Int) ≤ ((a_K A t).1.length : Int) := hh; omega
  have hu := hA.2.2.2.2.1
  have hT8 : ((a_T A).length : Int) ≤ 8000 := by have := hu.1; omega
  have hTu : ((a_T A).length : Int) ≤ a_c A 0 := by have := hu.1; omega
  have hk0 : 0 ≤ ((a_K A t).1.getD ((a_K A t).1.length - 1) (0, 0, [])).1 ∧ ((a_K A t).1.getD ((a_K A t).1.length - 1) (0, 0, [])).1 ≤ 6 := ⟨(hv.1 _ (tp_m (by omega))).1.1.1, hk6⟩
  have hl1 := hk.1.1
  have hw0 := hw
  rcases hw with ⟨rfl, rfl⟩ | ⟨rfl, rfl⟩
  · refine stO_O (ml := [217, 218, 151]) (mk := cMp) (rk := rMp) (K2 := kP (a_K A 0) 1 (0, 0, [])) (O2 := a_O A ++ (pL ((a_K A 0).1.getD ((a_K A 0).1.length - 1) (0, 0, []))) ++ [10]) hp hw0 (by first | decide | omega) hA (wf_O hA hWo (by omega) (tyt_P (m := 1) hx hk hr (by rw [ho]; decide) (by rw [ho, ha]; rfl) (by omega) (fun z => absurd z (by first | decide | omega))) (kv_P hv vG_0) fLe_P hB (by simp only [List.length_append, List.length_cons, List.length_nil]; omega)) (fun j x hm => by unfold cMp at hm; unfold mOu; omega) (fun j x hm => by unfold rMp at hm; unfold rOo; omega) (fun S hS => ?_) (fun S hS => ?_)
    · refine wJ_E (fun hE => ?_)
      exact zb0_215 (hc S hS).1 (hc S hS).2 hX (cR_57 hS h57) hS.2.2.2.2.2.1.1 (cR_tt hS) hh hk0 (pv_215 hE (hc S hS).1 ⟨by omega, by omega⟩) hm
    · refine rTu_E (fun hE => ?_)
      exact rnb0 (hq S hS).1 (hq S hS).2.2 (hq S hS).2.1 hX hS.1.2.2.2.2.2.1.1 hS.1.2.2.2.1.2.2.1 hh hk0 (by have z := pv_r (K := (a_K A 0)) (t := 0) hE hS.1.1 (by omega) (i := ((a_K A 0).1.length : Int) - 1) ⟨by omega, by omega⟩; rw [show (2100 * (0 : Int) + (((a_K A 0).1.length : Int) - 1)) = 2100 * (0 : Int) + ((a_K A 0).1.length : Int) - 1 by omega] at z; exact z) hm
  · refine stO_O (ml := [228, 229, 151]) (mk := cMp) (rk := rMp) (K2 := kP (a_K A 1) 1 (0, 0, [])) (O2 := a_O A ++ (pL ((a_K A 1).1.getD ((a_K A 1).1.length - 1) (0, 0, []))) ++ [10]) hp hw0 (by first | decide | omega) hA (wf_O hA hWo (by omega) (tyt_P (m := 1) hx hk hr (by rw [ho]; decide) (by rw [ho, ha]; rfl) (by omega) (fun z => absurd z (by first | decide | omega))) (kv_P hv vG_0) fLe_P hB (by simp only [List.length_append, List.length_cons, List.length_nil]; omega)) (fun j x hm => by unfold cMp at hm; unfold mOu; omega) (fun j x hm => by unfold rMp at hm; unfold rOo; omega) (fun S hS => ?_) (fun S hS => ?_)
    · refine wJ_E (fun hE => ?_)
      exact zb0_226 (hc S hS).1 (hc S hS).2 hX (cR_57 hS h57) hS.2.2.2.2.2.1.1 (cR_tt hS) hh hk0 (pv_226 hE (hc S hS).1 ⟨by omega, by omega⟩) hm
    · refine rTu_E (fun hE => ?_)
      exact rnb0 (hq S hS).1 (hq S hS).2.2 (hq S hS).2.1 hX hS.1.2.2.2.2.2.1.1 hS.1.2.2.2.1.2.2.1 hh hk0 (by have z := pv_r (K := (a_K A 1)) (t := 1) hE hS.1.1 (by omega) (i := ((a_K A 1).1.length : Int) - 1) ⟨by omega, by omega⟩; rw [show (2100 * (1 : Int) + (((a_K A 1).1.length : Int) - 1)) = 2100 * (1 : Int) + ((a_K A 1).1.length : Int) - 1 by omega] at z; exact z) hm

end Wki
