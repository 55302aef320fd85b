/-! PART jw: what a turn of the reference leaves, part by part. -/
section Wjw
variable {Sb : wS} {S0 S Z : wS} {HT : Int → Int} {cs : List hCR} {ms : List hMR} {os : Int → List Int} {X : List (List Int)} {mo t : Int} {mk : Nat → Int → Prop} {A A2 : aA} {K2 : aK}
/-- slots and fields that no turn may use as it likes -/
def rKp (j : Nat) (x : Int) : Prop := j < 237 ∨ (j = 238 ∧ x < 5) ∨ (239 ≤ j ∧ j ≤ 344) ∨ (346 ≤ j ∧ j ≤ 351) ∨ (376 ≤ j ∧ j ≤ 385) ∨ 387 ≤ j ∨ (j = 237 ∧ (x ≤ 109 ∨ x = 114 ∨ x = 115 ∨ (151 ≤ x ∧ x ≤ 153)))
theorem tmG (hF : rTm t mk S Z) (j : Nat) (x : Int) (h1 : rKp j x) (h2 : ¬ mk j x) : Z j x = S j x := hF j x (by unfold rKp at h1; unfold rOut; omega) h2
/-- piles and calls are within what a task may have -/
def kLn (K : aK) : Prop := K.1.length ≤ 2001 ∧ K.2.1.length ≤ 200
theorem rR_tk (h : rRel S0 Sb HT cs ms os X mo A S) (hF : rTm t mk S Z) (ht : t = 0 ∨ t = 1) (hx : rTx S Z) (hl : kLn (a_K A 0) ∧ kLn (a_K A 1)) (hd : ∀ (j : Nat) (x : Int), mk j x → j < 357 ∨ 375 < j) (hK : rTk t Z K2) : rTk 0 Z (fUp A.1 t K2 0) ∧ rTk 1 Z (fUp A.1 t K2 1) := by
  have f : ∀ (j : Nat) (x : Int), (357 ≤ j ∧ j ≤ 375) → rOut t j x → Z j x = S j x := fun j x j0 o => hF j x o (fun z => by have := hd j x z; omega)
  have h0 := h.2.1.1.2.2.1.2.1
  have h1 := h.2.1.2.2.2.1.2.1
  obtain ⟨⟨l1, l2⟩, l3, l4⟩ := hl
  rcases ht with rfl | rfl
  · refine ⟨hK, ?_⟩
    exact rTk_ag (K := a_K A 1) h.2.1.2 hx ⟨fun j hj => f j 1 (by omega) (by unfold rOut; omega), fun j x j0 j1 j2 j3 => f j x (by omega) (by unfold rOut; omega), fun j x j0 j1 j2 j3 => f j x (by omega) (by unfold rOut; omega)⟩ (f 359 1 (by first | decide | omega) (by unfold rOut; omega)) (fun x x0 x1 => ⟨f 363 x (by first | decide | omega) (by unfold rOut; omega), f 364 x (by first | decide | omega) (by unfold rOut; omega)⟩)
  · refine ⟨?_, hK⟩
    exact rTk_ag (K := a_K A 0) h.2.1.1 hx ⟨fun j hj => f j 0 (by omega) (by unfold rOut; omega), fun j x j0 j1 j2 j3 => f j x (by omega) (by unfold rOut; omega), fun j x j0 j1 j2 j3 => f j x (by omega) (by unfold rOut; omega)⟩ (f 359 0 (by first | decide | omega) (by unfold rOut; omega)) (fun x x0 x1 => ⟨f 363 x (by first | decide | omega) (by unfold rOut; omega), f 364 x (by first | decide | omega) (by unfold rOut; omega)⟩)
theorem rR_W (h : rRel S0 Sb HT cs ms os X mo A S) (hF : rTm t mk S Z) (hx : rTx S Z) (hd : ∀ (j : Nat) (x : Int), rWo j x → ¬ mk j x) : ∃ sl : Nat → List Int, rWd Z sl (a_T A) (a_L A) (a_G A) := by
  obtain ⟨sl, hW⟩ := h.2.2.1.1
  exact ⟨sl, rWd_ag hW hx (fun j x hj => tmG hF j x (by unfold rWo at hj; unfold rKp; omega) (hd j x hj))⟩
theorem rR_H (h : rRel S0 Sb HT cs ms os X mo A S) (hF : rTm t mk S Z) (hd : ∀ (j : Nat) (x : Int), (329 ≤ j ∧ j ≤ 332) ∨ (j = 237 ∧ x = 87) → ¬ mk j x) : rHs Z (a_H A) := rHs_ag h.2.2.1.2 (tmG hF 237 87 (by unfold rKp; omega) (hd _ _ (by omega))) (fun j x j0 j1 => tmG hF j x (by unfold rKp; omega) (hd j x (by omega)))
theorem rR_N (h : rRel S0 Sb HT cs ms os X mo A S) (hF : rTm t mk S Z) (hd : ∀ (j : Nat) (x : Int), j = 281 ∨ j = 282 ∨ (j = 237 ∧ x = 16) → ¬ mk j x) : mN (a_N A) Z := mN_ag9 h.2.2.2.1.1 (fun j x hj => tmG hF j x (by unfold rKp; omega) (hd j x hj))
theorem rR_X (h : rRel S0 Sb HT cs ms os X mo A S) (hF : rTm t mk S Z) (hx : rTx S Z) (hd : ∀ (j : Nat) (x : Int), j = 237 ∧ (x = 19 ∨ x = 20) → ¬ mk j x) : mX X Z := mX_tx h.2.2.2.1.2.1 hx (tmG hF 237 19 (by unfold rKp; omega) (hd _ _ (by omega))) (tmG hF 237 20 (by unfold rKp; omega) (hd _ _ (by omega)))
def txD (j : Nat) (x : Int) : Prop := (283 ≤ j ∧ j ≤ 285) ∨ (j = 237 ∧ (x = 19 ∨ x = 64 ∨ x = 65 ∨ x = 102 ∨ x = 103))
theorem rR_t (h : rRel S0 Sb HT cs ms os X mo A S) (hF : rTm t mk S Z) (hd : ∀ (j : Nat) (x : Int), txD j x → ¬ mk j x) : rTt Z ∧ rTb Z := by
  have f := fun (j : Nat) (x : Int) (hj : txD j x) => tmG hF j x (by unfold txD at hj; unfold rKp; omega) (hd j x hj)
  exact ⟨rTt_ag h.2.2.2.1.2.2.1 (f 237 19 (by unfold txD; omega)) (f 237 102 (by unfold txD; omega)) (fun x => ⟨f 284 x (by unfold txD; omega), f 285 x (by unfold txD; omega)⟩), rTb_ag h.2.2.2.1.2.2.2 (f 237 19 (by unfold txD; omega)) (f 237 102 (by unfold txD; omega)) (f 237 103 (by unfold txD; omega)) (f 237 64 (by unfold txD; omega)) (f 237 65 (by unfold txD; omega)) (fun x => ⟨f 284 x (by unfold txD; omega), f 285 x (by unfold txD; omega)⟩)⟩
theorem rR_E (h : rRel S0 Sb HT cs ms os X mo A S) (hF : rTm t mk S Z) (hd : ∀ (j : Nat) (x : Int), (376 ≤ j ∧ j ≤ 385) ∨ (j = 237 ∧ x = 47) → ¬ mk j x) : rSe Z (a_E A) := rSe_ag h.2.2.2.2.1 (fun j x hj => tmG hF j x (by unfold rKp; omega) (hd j x hj))
theorem rR_O (h : rRel S0 Sb HT cs ms os X mo A S) (hF : rTm t mk S Z) (hd : ∀ x : Int, ¬ mk 342 x) (hd2 : ¬ mk 237 104) : rOu Z (a_O A) := rOu_ag h.2.2.2.2.2.1.1 (tmG hF 237 104 (by unfold rKp; omega) hd2) (fun x => tmG hF 342 x (by unfold rKp; omega) (hd x))
theorem rR_R (h : rRel S0 Sb HT cs ms os X mo A S) (hF : rTm t mk S Z) (hd : ∀ x : Int, ¬ mk 343 x) (hd2 : ¬ mk 237 106) : rTrc Z (a_R A) := rTrc_ag h.2.2.2.2.2.1.2 (fun x => tmG hF 343 x (by unfold rKp; omega) (hd x)) (tmG hF 237 106 (by unfold rKp; omega) hd2)
theorem rR_C (h : rRel S0 Sb HT cs ms os X mo A S) (hF : rTm t mk S Z) (hd : ∀ (j : Nat) (x : Int), chM j x → ¬ mk j x) : rCh HT cs ms os (a_N A) (a_C A) (a_W A) mo Z := rCh_ag h.2.2.2.2.2.2.1.1 (fun j x hj => tmG hF j x (by unfold chM at hj; unfold rKp; omega) (hd j x hj))
theorem rR_S (h : rRel S0 Sb HT cs ms os X mo A S) (hF : rTm t mk S Z) (hx : rTx S Z) (hd : ∀ (j : Nat) (x : Int), j = 340 ∨ j = 341 → ¬ mk j x) : rStc ms (a_S A) Z := rStc_ag h.2.2.2.2.2.2.1.2 hx (fun j x hj => tmG hF j x (by unfold rKp; omega) (hd j x hj))
def rcD (j : Nat) (x : Int) : Prop := (j = 237 ∧ (x = 81 ∨ x = 108 ∨ x = 47)) ∨ (j = 344 ∧ 0 ≤ x) ∨ (310 ≤ j ∧ j ≤ 313)
/-- counters: what is used may be told anew -/
theorem rR_cu (h : rRel S0 Sb HT cs ms os X mo A S) (hF : rTm t mk S Z) (hk : a_k A2 = a_k A) (hc : ∀ i : Int, 5 ≤ i → a_c A2 i = a_c A i) (hu : ∀ i : Nat, i < 5 → Z 237 (62 + (i : Int)) = a_c A2 (i : Int)) (h8 : 0 ≤ Z 237 82 ∧ 0 ≤ Z 237 94 ∧ Z 237 82 + Z 237 94 ≤ Z 237 63) (hd : ∀ (j : Nat) (x : Int), rcD j x → ¬ mk j x) : rCc A2 Z := by
  obtain ⟨-, h2, h3, h4, h5, -⟩ := h.2.2.2.2.2.2.2.1
  have f := fun (j : Nat) (x : Int) (hx : rcD j x) => tmG hF j x (by unfold rcD at hx; unfold rKp; omega) (hd j x hx)
  refine ⟨hu, (f 237 81 (by unfold rcD; omega)).trans (h2.trans (hc 11 (by first | decide | omega)).symm), (f 237 108 (by unfold rcD; omega)).trans (h3.trans (hc 19 (by first | decide | omega)).symm), fun i hi => (f 344 i (by unfold rcD; omega)).trans ((h4 i hi).trans (hc _ (by omega)).symm), fun s s0 s1 => ?_, h8⟩
  rw [f 237 47 (by unfold rcD; omega)] at s1
  obtain ⟨a1, a2, a3, a4⟩ := h5 s s0 s1
  rw [hk, f 310 s (by unfold rcD; omega), f 311 s (by unfold rcD; omega), f 312 s (by unfold rcD; omega), f 313 s (by unfold rcD; omega)]
  exact ⟨a1, a2, a3, a4⟩
theorem rR_cn (h : rRel S0 Sb HT cs ms os X mo A S) (hF : rTm t mk S Z) (hd : ∀ (j : Nat) (x : Int), rcD j x ∨ (j = 237 ∧ ((62 ≤ x ∧ x ≤ 66) ∨ x = 82 ∨ x = 94)) → ¬ mk j x) : rCc A Z := by
  have f := fun (x : Int) (hx : (62 ≤ x ∧ x ≤ 66) ∨ x = 82 ∨ x = 94) => tmG hF 237 x (by unfold rKp; omega) (hd 237 x (Or.inr ⟨rfl, hx⟩))
  refine rR_cu h hF rfl (fun _ _ => rfl) (fun i hi => (f (62 + (i : Int)) (by omega)).trans (h.2.2.2.2.2.2.2.1.1 i hi)) ?_ (fun j x z => hd j x (Or.inl z))
  rw [f 82 (by omega), f 94 (by omega), f 63 (by omega)]
  exact h.2.2.2.2.2.2.2.1.2.2.2.2.2
theorem rR_st (h : rRel S0 Sb HT cs ms os X mo A S) (hF : rTm t mk S Z) (hd : ∀ (j : Nat) (x : Int), rSta j x → ¬ mk j x) : ∀ (j : Nat) (x : Int), rSta j x → Z j x = rBs S0 Sb j x := fun j x hj => (tmG hF j x (by unfold rSta at hj; unfold rKp; omega) (hd j x hj)).trans (h.2.2.2.2.2.2.2.2 j x hj)
theorem rTf_m (h : rTf t S Z) : rTm t (fun _ _ => False) S Z := fun j x o _ => h j x o
theorem tf_tx (hF : rTm t mk S Z) (hd : ∀ (j : Nat) (x : Int), (283 ≤ j ∧ j ≤ 285) ∨ (j = 237 ∧ (x = 19 ∨ x = 102)) → ¬ mk j x) : rTx S Z := rTx_of (tmG hF 237 19 (by unfold rKp; omega) (hd _ _ (by omega))) (tmG hF 237 102 (by unfold rKp; omega) (hd _ _ (by omega))) (fun j x j0 j1 => tmG hF j x (by unfold rKp; omega) (hd _ _ (by omega)))
/-- a turn that changes its task alone -/
theorem rRel_K (h : rRel S0 Sb HT cs ms os X mo A S) (ht : t = 0 ∨ t = 1) (hl : kLn (a_K A 0) ∧ kLn (a_K A 1)) (hK : rTk t Z K2) (hf : rTf t S Z) (hM : w_ML Z) : rRel S0 Sb HT cs ms os X mo (u_K A t K2) Z := by
  have hF := rTf_m hf
  have hx := tf_tx hF (fun _ _ _ z => z)
  exact ⟨hM, rR_tk (A := A) h hF ht hx hl (fun _ _ z => z.elim) hK, ⟨rR_W (A := A) h hF hx (fun _ _ _ z => z), rR_H (A := A) h hF (fun _ _ _ z => z)⟩, ⟨rR_N (A := A) h hF (fun _ _ _ z => z), rR_X (A := A) h hF hx (fun _ _ _ z => z), rR_t (A := A) h hF (fun _ _ _ z => z)⟩, rR_E (A := A) h hF (fun _ _ _ z => z), ⟨rR_O (A := A) h hF (fun _ z => z) (fun z => z), rR_R (A := A) h hF (fun _ z => z) (fun z => z)⟩, ⟨rR_C (A := A) h hF (fun _ _ _ z => z), rR_S (A := A) h hF hx (fun _ _ _ z => z)⟩, rR_cn (A := A) h hF (fun _ _ _ z => z), rR_st (A := A) h hF (fun _ _ _ z => z)⟩
end Wjw
