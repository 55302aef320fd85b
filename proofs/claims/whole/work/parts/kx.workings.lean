/-! PART kx: what a step at a site works out ahead of acting: names, entries, shapes, choices, counters. -/
section Wkx
variable {Sb : wS} {xs : List (Nat × List Int32)} {d : Nat} {S0 S Z : wS} {p w m : Nat} {HT : Int → Int} {cs : List hCR} {ms : List hMR} {os : Int → List Int} {X : List (List Int)} {mo t n B B2 oq : Int} {fa : Int → Int} {WE : aA → Prop} {A A2 : aA} {K2 : aK} {ml : List Nat} {k c s kd nms ne ec bh nm en : Int} {b ba : Nat} {ar : List aV} {e : aE} {V Z2 Y : wS} {o : wO} {dn : Int} {H2 : List aH} {N2 : List (List Int)} {E2 : Int → List aE} {C2 : List aQ} {W2 : Int} {c2 : Int → Int} {k2 : Int → Int → Int} {mk rk : Nat → Int → Prop}
/-- names, entries, shapes, choices and counters are changed -/
def u_L (A : aA) (H2 : List aH) (N2 : List (List Int)) (E2 : Int → List aE) (C2 : List aQ) (W2 : Int) (c2 : Int → Int) (k2 : Int → Int → Int) : aA := (A.1, (a_T A, a_L A, a_G A, H2), (N2, E2), A.2.2.2.1, (C2, W2), c2, k2)
/-- where these lie in the class -/
def mLk (p : Nat) (j : Nat) (x : Int) : Prop := (2 ≤ j ∧ j ≤ 12 ∧ j ≠ 11) ∨ (j = 19 ∧ (x = 11 ∨ x = 12)) ∨ (41 ≤ j ∧ j ≤ 46) ∨ (48 ≤ j ∧ j ≤ 57) ∨ (j = 72 ∧ x = 8) ∨ (144 ≤ j ∧ j ≤ 149) ∨ (j = 150 ∧ x = 4) ∨ j = 158 ∨ ((j = 159 ∨ j = 160) ∧ 0 ≤ x) ∨ (p + 47 ≤ j ∧ j ≤ p + 52) ∨ (j = p ∧ (x = 10 ∨ x = 16 ∨ x = 18))
theorem cRel_L (h : cRel S0 p HT cs ms os X mo A S) (hp : p = 73 ∨ p = 162) (hw : isWt w t) (hF : cFm w mk S Z) (hmk : ∀ (j : Nat) (x : Int), mk j x → mLk p j x) (hx : cTx S Z) (hCL : w_CL Z) (hK : cTk w Z (a_K A t)) (hSw : cSw Z (a_T A) H2) (hN : cNt N2 X Z) (hE : ∃ (ix : Int → List Int) (fl : List Int) (ow : Int → Int), cSe Z E2 ix fl ow) (hCh : cCh p (p + 48) (p + 47) (p + 1) HT cs ms os C2 W2 mo Z) (hCn : cCn S0 (u_L A H2 N2 E2 C2 W2 c2 k2) Z) : cRel S0 p HT cs ms os X mo (u_L A H2 N2 E2 C2 W2 c2 k2) Z := by
  have ht := cR_tk (A := A) h hF hw hx (fun j x hm => by have := hmk j x hm; unfold mLk at this; omega) hK
  rw [fUp_id] at ht
  refine ⟨⟨hCL, hF.2.2.1, rmR_tr h.1.2.2 hF.2.2.2⟩, ht, ⟨cR_W (A := A) h hF hw hx (fun j x hj hm => by have := hmk j x hm; unfold cWo at hj; unfold mLk at this; omega), hSw, cR_Po (A := A) h hF hw (fun j x hj hm => by have := hmk j x hm; unfold poD at hj; unfold mLk at this; omega)⟩, hN, hE, ⟨cR_O (A := A) h hF hw (fun x hm => by have := hmk _ x hm; unfold mLk at this; omega) (fun hm => by have := hmk _ _ hm; unfold mLk at this; omega), cR_R (A := A) h hF hw (fun x hm => by have := hmk _ x hm; unfold mLk at this; omega) (fun hm => by have := hmk _ _ hm; unfold mLk at this; omega)⟩, ⟨hCh, cStc_ag h.2.2.2.2.2.2.1.2 hx (fun j x hj => fmG hF hw j x (by omega) (fun hm => by have := hmk j x hm; unfold mLk at this; omega))⟩, hCn, cR_st (A := A) h hp hF hw (fun j x hj hm => by have := hmk j x hm; unfold cSta at hj; unfold mLk at this; omega)⟩
/-- where these lie in the reference -/
def rLk (j : Nat) (x : Int) : Prop := j = 281 ∨ j = 282 ∨ (310 ≤ j ∧ j ≤ 313) ∨ (329 ≤ j ∧ j ≤ 332) ∨ j = 337 ∨ j = 344 ∨ (346 ≤ j ∧ j ≤ 351) ∨ (376 ≤ j ∧ j ≤ 385) ∨ (j = 237 ∧ (x = 16 ∨ x = 66 ∨ x = 67 ∨ x = 87 ∨ x = 108 ∨ x = 114 ∨ x = 115))
theorem rRel_L (h : rRun S0 Sb HT cs ms os X mo t A S) (ht : t = 0 ∨ t = 1) (hl : kLn (a_K A 0) ∧ kLn (a_K A 1)) (hF : rTm t rk S Z) (hrk : ∀ (j : Nat) (x : Int), rk j x → rLk j x) (hM : w_ML Z) (hK : rTk t Z (a_K A t)) (hW : ∃ sl : Nat → List Int, rWd Z sl (a_T A) (a_L A) (a_G A)) (hH : rHs Z H2) (hN : mN N2 Z) (hE : rSe Z E2) (hCh : rCh HT cs ms os N2 C2 W2 mo Z) (hCc : rCc (u_L A H2 N2 E2 C2 W2 c2 k2) Z) : rRun S0 Sb HT cs ms os X mo t (u_L A H2 N2 E2 C2 W2 c2 k2) Z := by
  have g := fun (x : Int) (hx : 151 ≤ x ∧ x ≤ 153) => tmG hF 237 x (by unfold rKp; omega) (fun hm => by have := hrk 237 x hm; unfold rLk at this; omega)
  refine ⟨?_, (g 151 (by omega)).trans h.2.1, (g 152 (by omega)).trans h.2.2.1, (g 153 (by omega)).trans h.2.2.2⟩
  have h := h.1
  have hx := tf_tx hF (fun j x hj hm => by have := hrk j x hm; unfold rLk at this; omega)
  have hT := rR_tk (A := A) h hF ht hx hl (fun j x hm => by have := hrk j x hm; unfold rLk at this; omega) hK
  rw [fUp_id] at hT
  exact ⟨hM, hT, ⟨hW, hH⟩, ⟨hN, rR_X (A := A) h hF hx (fun j x hj hm => by have := hrk j x hm; unfold rLk at this; omega), rR_t (A := A) h hF (fun j x hj hm => by have := hrk j x hm; unfold txD at hj; unfold rLk at this; omega)⟩, hE, ⟨rR_O (A := A) h hF (fun x hm => by have := hrk _ x hm; unfold rLk at this; omega) (fun hm => by have := hrk _ _ hm; unfold rLk at this; omega), rR_R (A := A) h hF (fun x hm => by have := hrk _ x hm; unfold rLk at this; omega) (fun hm => by have := hrk _ _ hm; unfold rLk at this; omega)⟩, ⟨hCh, rR_S (A := A) h hF hx (fun j x hj hm => by have := hrk j x hm; unfold rLk at this; omega)⟩, hCc, rR_st (A := A) h hF (fun j x hj hm => by have := hrk j x hm; unfold rSta at hj; unfold rLk at this; omega)⟩
/-- the reference's scratch is no part of the state -/
theorem rRun_f (h : rRun S0 Sb HT cs ms os X mo t A S) (ht : t = 0 ∨ t = 1) (hl : kLn (a_K A 0) ∧ kLn (a_K A 1)) (hF : rTm t (fun _ _ => False) S Z) (hT : rTk t Z (a_K A t)) (hM : w_ML Z) : rRun S0 Sb HT cs ms os X mo t A Z := by
  have z := rRun_K (K2 := a_K A t) h ht hl hT (fun j x hj => hF j x hj (fun q => q)) hM
  rw [u_K_id] at z
  exact z
theorem hZ_e {n : Int} (j : Nat) (x : Int) (h : j ≠ 238) : hZ n S j x = S j x := (w_up_slot h).trans (w_up_slot h)
theorem hZ_5 {n : Int} : hZ n S 238 5 = n := (w_up_at (by first | decide | omega)).trans (w_up_same _ _ _ _)
theorem hZ_M {n : Int} (h : w_ML S) : w_ML (hZ n S) := w_ML_up (w_ML_up h (by first | decide | omega)) (by first | decide | omega)
/-- nothing but scratch of the reference has changed -/
def rSc (S Z : wS) : Prop := ∀ (j : Nat) (x : Int), ¬ (j = 237 ∧ (x = 110 ∨ x = 111 ∨ x = 113 ∨ x = 122 ∨ x = 124 ∨ x = 126 ∨ x = 128 ∨ x = 130 ∨ (154 ≤ x ∧ x ≤ 155) ∨ (166 ≤ x ∧ x ≤ 177))) → ¬ (j = 238 ∧ (x = 5 ∨ x = 6)) → j ≠ 345 → ¬ (352 ≤ j ∧ j ≤ 356) → j ≠ 386 → Z j x = S j x
theorem rSc_f (h : rSc S Z) : rTf t S Z := fun j x o => h j x (fun q => by have := o.1 q.1; omega) (fun q => by have := o.2.1 q.1; omega) o.2.2.1 (by have := o.2.2.2.1; omega) o.2.2.2.2.1
theorem rSc_k (h : rSc S Z) (hT : rTk t S K2) (ht : t = 0 ∨ t = 1) : rTk t Z K2 := rTk_ag hT (rTx_of (h 237 19 (by omega) (by omega) (by omega) (by omega) (by omega)) (h 237 102 (by omega) (by omega) (by omega) (by omega) (by omega)) (fun j i j0 j1 => h j i (by omega) (by omega) (by omega) (by omega) (by omega))) ⟨fun j hj => h j t (by omega) (by omega) (by omega) (by omega) (by omega), fun j i j0 j1 _ _ => h j i (by omega) (by omega) (by omega) (by omega) (by omega), fun j i j0 j1 _ _ => h j i (by omega) (by omega) (by omega) (by omega) (by omega)⟩ (h 359 t (by omega) (by omega) (by omega) (by omega) (by omega)) (fun i _ _ => ⟨h 363 i (by omega) (by omega) (by omega) (by omega) (by omega), h 364 i (by omega) (by omega) (by omega) (by omega) (by omega)⟩)
theorem rRun_s (h : rRun S0 Sb HT cs ms os X mo t A S) (ht : t = 0 ∨ t = 1) (hl : kLn (a_K A 0) ∧ kLn (a_K A 1)) (hs : rSc S Z) (hM : w_ML Z) : rRun S0 Sb HT cs ms os X mo t A Z := rRun_f h ht hl (fun j x o _ => rSc_f hs j x o) (rSc_k hs (rT_of h.1 ht) ht) hM
theorem rSc_h {n : Int} : rSc S (hZ n S) := fun j x _ h2 _ _ _ => by
  unfold hZ
  rw [w_up_no (by omega), w_up_no (by omega)]
theorem rRun_h {n : Int} (h : rRun S0 Sb HT cs ms os X mo t A S) (ht : t = 0 ∨ t = 1) (hl : kLn (a_K A 0) ∧ kLn (a_K A 1)) : rRun S0 Sb HT cs ms os X mo t A (hZ n S) := rRun_s h ht hl rSc_h (hZ_M h.1.1)
theorem rSc_rf : rSc S S := fun _ _ _ _ _ _ _ => rfl
theorem rSc_tr (h : rSc S Z) (h2 : rSc Z Z2) : rSc S Z2 := fun j x a b c d e => (h2 j x a b c d e).trans (h j x a b c d e)
end Wkx
