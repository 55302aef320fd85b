/-! PART jv: what a step of the class leaves, part by part. -/
section Wjv
variable {S0 S Z : wS} {p w : Nat} {HT : Int → Int} {cs : List hCR} {ms : List hMR} {os : Int → List Int} {X : List (List Int)} {mo t : Int} {mk : Nat → Int → Prop} {A A2 : aA} {K2 : aK}
theorem wz_l5 : ∀ q ∈ wz_n, q.1 < 215 ∨ (219 ≤ q.1 ∧ q.1 ≤ 224) ∨ (230 ≤ q.1 ∧ q.1 ≤ 235) := by decide
/-- w and t are one task -/
def isWt (w : Nat) (t : Int) : Prop := (w = 215 ∧ t = 0) ∨ (w = 226 ∧ t = 1)
theorem isWt_w (h : isWt w t) : w = 215 ∨ w = 226 := h.imp (fun z => z.1) (fun z => z.1)
theorem fmG (hF : cFm w mk S Z) (hw : isWt w t) (j : Nat) (x : Int) (h1 : j < 215) (h2 : ¬ mk j x) : Z j x = S j x := hF.1 j x (by omega) (by unfold wG; omega) (by have := isWt_w hw; omega) h2
theorem cR_CL (h : cRel S0 p HT cs ms os X mo A S) (hF : cFm w mk S Z) (hw : isWt w t) (hd : ∀ q ∈ wz_n, ¬ mk q.1 (-1)) : w_CL Z ∧ gI Z ∧ rmR S0 Z := by
  refine ⟨fun q hq => ?_, hF.2.2.1, rmR_tr h.1.2.2 hF.2.2.2⟩
  refine Eq.trans ?_ (h.1.1 q hq)
  have hl := wz_l5 q hq
  by_cases c : w + 4 ≤ q.1 ∧ q.1 ≤ w + 9
  · exact hF.2.1 q.1 c.1 c.2
  · exact hF.1 q.1 (-1) (by omega) (by unfold wG; omega) (by have := isWt_w hw; omega) (hd q hq)
theorem cR_tk (h : cRel S0 p HT cs ms os X mo A S) (hF : cFm w mk S Z) (hw : isWt w t) (hx : cTx S Z) (hd : ∀ (j : Nat) (x : Int), mk j x → j < 215) (hK : cTk w Z K2) : cTk 215 Z (fUp A.1 t K2 0) ∧ cTk 226 Z (fUp A.1 t K2 1) := by
  rcases hw with ⟨rfl, rfl⟩ | ⟨rfl, rfl⟩
  · refine ⟨hK, ?_⟩
    exact cTk_ag h.2.1.2 hx (fun j x hj => hF.1 j x (by omega) (by unfold wG; omega) (by omega) (fun z => by have := hd j x z; omega))
  · refine ⟨?_, hK⟩
    exact cTk_ag h.2.1.1 hx (fun j x hj => hF.1 j x (by omega) (by unfold wG; omega) (by omega) (fun z => by have := hd j x z; omega))
theorem cR_W (h : cRel S0 p HT cs ms os X mo A S) (hF : cFm w mk S Z) (hw : isWt w t) (hx : cTx S Z) (hd : ∀ (j : Nat) (x : Int), cWo j x → ¬ mk j x) : cWd Z (a_T A) (a_L A) (a_G A) := cWd_ag h.2.2.1.1 hx (fun j x hj => fmG hF hw j x (by unfold cWo at hj; omega) (hd j x hj))
def shD (j : Nat) (x : Int) : Prop := (144 ≤ j ∧ j ≤ 149) ∨ (j = 132 ∧ 0 ≤ x) ∨ (j = 72 ∧ x = 8)
theorem cR_Sw (h : cRel S0 p HT cs ms os X mo A S) (hF : cFm w mk S Z) (hw : isWt w t) (hd : ∀ (j : Nat) (x : Int), shD j x → ¬ mk j x) : cSw Z (a_T A) (a_H A) := cSw_ag h.2.2.1.2.1 (fun j x hj => fmG hF hw j x (by omega) (hd j x (by unfold shD; omega)))
def poD (j : Nat) (x : Int) : Prop := (j = 72 ∧ x = 3) ∨ j = 134 ∨ j = 135 ∨ (j = 140 ∧ x = 2) ∨ (j = 150 ∧ x = 1)
theorem cR_Po (h : cRel S0 p HT cs ms os X mo A S) (hF : cFm w mk S Z) (hw : isWt w t) (hd : ∀ (j : Nat) (x : Int), poD j x → ¬ mk j x) : cPo Z := cPo_ag h.2.2.1.2.2 (fmG hF hw 72 3 (by first | decide | omega) (hd _ _ (by unfold poD; omega))) (fun x => ⟨fmG hF hw 134 x (by first | decide | omega) (hd _ _ (by unfold poD; omega)), fmG hF hw 135 x (by first | decide | omega) (hd _ _ (by unfold poD; omega))⟩) (fmG hF hw 140 2 (by first | decide | omega) (hd _ _ (by unfold poD; omega))) (fmG hF hw 150 1 (by first | decide | omega) (hd _ _ (by unfold poD; omega)))
theorem cR_N (h : cRel S0 p HT cs ms os X mo A S) (hF : cFm w mk S Z) (hw : isWt w t) (hd : ∀ (j : Nat) (x : Int), j < 19 → ¬ mk j x) : cNt (a_N A) X Z := cNt_ag h.2.2.2.1 (fun j hj => funext fun x => fmG hF hw j x (by omega) (hd j x hj))
theorem cR_E (h : cRel S0 p HT cs ms os X mo A S) (hF : cFm w mk S Z) (hw : isWt w t) (hd : ∀ (j : Nat) (x : Int), cEo j x → ¬ mk j x) : ∃ (ix : Int → List Int) (fl : List Int) (ow : Int → Int), cSe Z (a_E A) ix fl ow := by
  obtain ⟨ix, fl, ow, hE⟩ := h.2.2.2.2.1
  exact ⟨ix, fl, ow, cSe_ag hE (fun j x hj => fmG hF hw j x (by unfold cEo at hj; omega) (hd j x hj))⟩
theorem cR_O (h : cRel S0 p HT cs ms os X mo A S) (hF : cFm w mk S Z) (hw : isWt w t) (hd : ∀ x : Int, ¬ mk 151 x) (hd2 : ¬ mk 72 13) : cOu Z (a_O A) := cOu_ag h.2.2.2.2.2.1.1 (fmG hF hw 72 13 (by first | decide | omega) hd2) (fun x => fmG hF hw 151 x (by first | decide | omega) (hd x))
theorem cR_R (h : cRel S0 p HT cs ms os X mo A S) (hF : cFm w mk S Z) (hw : isWt w t) (hd : ∀ x : Int, ¬ mk 152 x) (hd2 : ¬ mk 72 15) : cTrc Z (a_R A) := cTrc_ag h.2.2.2.2.2.1.2 (fun x => fmG hF hw 152 x (by first | decide | omega) (hd x)) (fmG hF hw 72 15 (by first | decide | omega) hd2)
/-- a host's slots that choices and static fields lie in -/
def hoD (p : Nat) (j : Nat) (x : Int) : Prop := p ≤ j ∧ j ≤ p + 52
theorem cR_C (h : cRel S0 p HT cs ms os X mo A S) (hp : p = 73 ∨ p = 162) (hF : cFm w mk S Z) (hw : isWt w t) (hd : ∀ (j : Nat) (x : Int), hoD p j x → ¬ mk j x) : cCh p (p + 48) (p + 47) (p + 1) HT cs ms os (a_C A) (a_W A) mo Z := cCh_ag h.2.2.2.2.2.2.1.1 (fun j x hj => fmG hF hw j x (by omega) (hd j x (by unfold hoD; omega)))
theorem cR_S (h : cRel S0 p HT cs ms os X mo A S) (hp : p = 73 ∨ p = 162) (hF : cFm w mk S Z) (hw : isWt w t) (hx : cTx S Z) (hd : ∀ (j : Nat) (x : Int), hoD p j x → ¬ mk j x) : cStc (p + 24) (p + 44) ms (a_S A) Z := cStc_ag h.2.2.2.2.2.2.1.2 hx (fun j x hj => fmG hF hw j x (by omega) (hd j x (by unfold hoD; omega)))
def cnD (j : Nat) (x : Int) : Prop := (j = 72 ∧ x = 11) ∨ (j = 158 ∧ x = 19) ∨ (j = 160 ∧ 0 ≤ x) ∨ j = 41 ∨ j = 42 ∨ j = 43 ∨ j = 45 ∨ (j = 19 ∧ x = 9) ∨ (j = 2 ∧ (x = 1 ∨ x = 7)) ∨ (j = 3 ∧ x = -1) ∨ (j = 4 ∧ x = -1)
/-- counters: what is used may be told anew -/
theorem cR_cu (h : cRel S0 p HT cs ms os X mo A S) (hF : cFm w mk S Z) (hw : isWt w t) (hk : a_k A2 = a_k A) (hc : ∀ i : Int, 5 ≤ i → a_c A2 i = a_c A i) (hc3 : a_c A 3 ≤ a_c A2 3) (hN : (a_N A).length ≤ (a_N A2).length) (hu : ∀ i : Nat, i < 5 → Z 150 (i : Int) = a_c A2 (i : Int)) (hd : ∀ (j : Nat) (x : Int), cnD j x → ¬ mk j x) : cCn S0 A2 Z := by
  obtain ⟨-, h2, h3, h4, h5⟩ := h.2.2.2.2.2.2.2.1
  have f := fun (j : Nat) (x : Int) (hj : j < 215) (hx : cnD j x) => fmG hF hw j x hj (hd j x hx)
  refine ⟨hu, ⟨(f 72 11 (by first | decide | omega) (by unfold cnD; omega)).trans (h2.1.trans (hc 11 (by first | decide | omega)).symm), cPl_ag h2.2 (f 2 1 (by first | decide | omega) (by unfold cnD; omega)) (f 3 (-1) (by first | decide | omega) (by unfold cnD; omega)) (f 2 7 (by first | decide | omega) (by unfold cnD; omega)) (f 4 (-1) (by first | decide | omega) (by unfold cnD; omega)) hc3 hN⟩, (f 158 19 (by first | decide | omega) (by unfold cnD; omega)).trans (h3.trans (hc 19 (by first | decide | omega)).symm), fun i hi => (f 160 i (by first | decide | omega) (by unfold cnD; omega)).trans ((h4 i hi).trans (hc _ (by omega)).symm), fun s s0 s1 => ?_⟩
  rw [f 19 9 (by first | decide | omega) (by unfold cnD; omega)] at s1
  obtain ⟨a1, a2, a3, a4⟩ := h5 s s0 s1
  rw [hk, f 41 s (by first | decide | omega) (by unfold cnD; omega), f 42 s (by first | decide | omega) (by unfold cnD; omega), f 43 s (by first | decide | omega) (by unfold cnD; omega), f 45 s (by first | decide | omega) (by unfold cnD; omega)]
  exact ⟨a1, a2, a3, a4⟩
theorem cR_cn (h : cRel S0 p HT cs ms os X mo A S) (hF : cFm w mk S Z) (hw : isWt w t) (hd : ∀ (j : Nat) (x : Int), cnD j x ∨ (j = 150 ∧ 0 ≤ x) → ¬ mk j x) : cCn S0 A Z := cR_cu h hF hw rfl (fun _ _ => rfl) (Int.le_refl _) (Nat.le_refl _) (fun i hi => (fmG hF hw 150 i (by first | decide | omega) (hd 150 i (Or.inr ⟨rfl, by omega⟩))).trans (h.2.2.2.2.2.2.2.1.1 i hi)) (fun j x z => hd j x (Or.inl z))
theorem cR_st (h : cRel S0 p HT cs ms os X mo A S) (hp : p = 73 ∨ p = 162) (hF : cFm w mk S Z) (hw : isWt w t) (hd : ∀ (j : Nat) (x : Int), cSta p j x → ¬ mk j x) : ∀ (j : Nat) (x : Int), cSta p j x → Z j x = S0 j x := fun j x hj => by
  refine (hF.1 j x ?_ ?_ ?_ (hd j x hj)).trans (h.2.2.2.2.2.2.2.2 j x hj)
  · unfold cSta at hj; omega
  · unfold cSta at hj; unfold wG at hj ⊢; omega
  · rcases isWt_w hw with rfl | rfl <;> (unfold cSta at hj; omega)
theorem cFr_m (h : cFr w S Z) : cFm w (fun _ _ => False) S Z := ⟨fun j x j0 j1 j2 _ => h.1 j x j0 j1 j2, h.2⟩
theorem fr_tx (hF : cFm w mk S Z) (hw : isWt w t) (hd : ∀ x : Int, ¬ mk 3 x) (hd2 : ¬ mk 2 1) : cTx S Z := cTx_of (fmG hF hw 2 1 (by first | decide | omega) hd2) (fun x => fmG hF hw 3 x (by first | decide | omega) (hd x))
/-- a step that changes its task alone -/
theorem cRel_K (h : cRel S0 p HT cs ms os X mo A S) (hp : p = 73 ∨ p = 162) (hw : isWt w t) (hK : cTk w Z K2) (hf : cFr w S Z) : cRel S0 p HT cs ms os X mo (u_K A t K2) Z := by
  have hF := cFr_m hf
  have hx := fr_tx hF hw (fun x => (fun z => z)) ((fun z => z))
  exact ⟨cR_CL (A := A) h hF hw (fun q _ => (fun z => z)), cR_tk (A := A) h hF hw hx (fun _ _ z => z.elim) hK, ⟨cR_W (A := A) h hF hw hx (fun j x _ => (fun z => z)), cR_Sw (A := A) h hF hw (fun j x _ => (fun z => z)), cR_Po (A := A) h hF hw (fun j x _ => (fun z => z))⟩, cR_N (A := A) h hF hw (fun j x _ => (fun z => z)), cR_E (A := A) h hF hw (fun j x _ => (fun z => z)), ⟨cR_O (A := A) h hF hw (fun x => (fun z => z)) ((fun z => z)), cR_R (A := A) h hF hw (fun x => (fun z => z)) ((fun z => z))⟩, ⟨cR_C (A := A) h hp hF hw (fun j x _ => (fun z => z)), cR_S (A := A) h hp hF hw hx (fun j x _ => (fun z => z))⟩, cR_cn (A := A) h hF hw (fun j x _ => (fun z => z)), cR_st (A := A) h hp hF hw (fun j x _ => (fun z => z))⟩
end Wjv
