/-! PART j9: acting at a site by tasks: a property is added: of the reference. -/
section Wj9
variable {xs : List (Nat × List Int32)} {M : Nat → Prop} {d : Nat} {Y A : wS} {K : aK} {T : List aO} {L : List aC} {G : Int → aV} {sl : Nat → List Int} {t s kd gk gb es nm r : Int} {ba : Nat}
/-- a property is added -/
def rMa (gb : Int) (j : Nat) (x : Int) : Prop := ((315 ≤ j ∧ j ≤ 318) ∧ x = gb) ∨ ((j = 323 ∨ j = 324) ∧ x = gb) ∨ (325 ≤ j ∧ j ≤ 328 ∧ 0 ≤ x) ∨ (j = 237 ∧ (x = 82 ∨ x = 63 ∨ x = 81))
theorem chZ_g {e ch : Int} (j : Nat) (x : Int) (h : (j ≠ 323 ∧ j ≠ 324) ∨ x ≠ gb) (h2 : j ≠ 237 ∨ x ≠ 81) : chZ gb e ch A j x = A j x := by
  unfold chZ
  split
  · rfl
  · exact (w_up_no (by omega)).trans ((w_up_no (by omega)).trans (w_up_no (by omega)))
theorem rsw (hP : mP t (K.2.1.length : Int) (K.2.1.getD (K.2.1.length - 1) (0, 0, 0, (0, 0, []), 0, 0, 0)).2.1 (K.1.length : Int) (200 * t + (K.2.1.length : Int) - 1) Y) (hK : rTk t Y K) (hW : rWd Y sl T L G) (ht : 0 ≤ t ∧ t ≤ 1) (hKl : 0 < K.2.1.length ∧ K.2.1.length ≤ 200 ∧ K.1.length ≤ 2001) (hT : (T.length : Int) ≤ 8000) (h82 : 0 ≤ Y 237 82 ∧ Y 237 82 ≤ Y 237 63 ∧ Y 237 63 ≤ 60000) (h73 : Y 237 173 = 2100 * t + (ba : Int)) (hba : ba < K.1.length) (h74 : Y 237 174 = gk) (h75 : Y 237 175 = gb) (h76 : Y 237 176 = es) (hgb : 0 ≤ gb ∧ gb < (T.length : Int)) (h71 : Y 237 171 = r) (hr : 0 ≤ r ∧ r ≤ 4000) (hsz : (tO T gb).2.2.2.2.2.2.length ≤ 64) (hs : 0 ≤ s ∧ s < 4000) (hkd : kd = 1 ∨ kd = 3) (hnm : nm = if kd = 1 then Y 305 s else Y 237 177) (hnr : 0 ≤ nm ∧ nm ≤ 100000) (hvk : 0 ≤ (K.1.getD (K.1.length - 1) (0, 0, [])).1 ∧ (K.1.getD (K.1.length - 1) (0, 0, [])).1 ≤ 8) (hvb : -9223372036854775808 ≤ (Y 364 (2100 * t + (K.1.length : Int) - 1)) ∧ (Y 364 (2100 * t + (K.1.length : Int) - 1)) ≤ 9223372036854775807) (hep : -1 ≤ (tO T gb).2.2.2.2.1 ∧ (tO T gb).2.2.2.2.1 ≤ 9000001) (hch : 0 ≤ Y 237 81 ∧ Y 237 81 ≤ 9000000) : wJ (pe_GA xs) wY0 M (d + 8) t_M_actsOnThing ((pe_at t_M_actsOnThing.bl 0).getD (0, [])).2 [(0, (2, 237)), (1, (0, s)), (2, (0, kd))] [] Y (fun o Z => ((64 ≤ (tO T gb).2.2.2.2.2.2.length ∨ 60000 ≤ Y 237 63) ∧ o = .inr 238 ∧ hZ 99 Y = Z) ∨ (((tO T gb).2.2.2.2.2.2.length < 64 ∧ Y 237 63 < 60000) ∧ o = .inl none ∧ rTk t Z (kP K (K.1.length - ba) (K.1.getD (K.1.length - 1) (0, 0, []))) ∧ rWd Z (aSa sl gb.toNat (Y 237 82)) (tNc (tAp T gb nm (K.1.getD (K.1.length - 1) (0, 0, []))) gb r (Y 237 81)) L G ∧ rTm t (rMa gb) Y Z)) := by
  have hu : rVl Y (Y 363 (2100 * t + (K.1.length : Int) - 1)) (Y 364 (2100 * t + (K.1.length : Int) - 1)) (K.1.getD (K.1.length - 1) (0, 0, [])) := by
    have z := hK.1.2 (K.1.length - 1) (by omega)
    rw [show 2100 * t + ((K.1.length - 1 : Nat) : Int) = 2100 * t + (K.1.length : Int) - 1 by omega] at z
    exact z
  obtain ⟨⟨-, -, -, -, -, y22, y23, -⟩, ⟨b1, b2⟩, b3, b4, -⟩ := hW.1.2 gb.toNat (by omega)
  rw [show ((gb.toNat : Nat) : Int) = gb by omega] at y22 y23 b1 b3
  replace b1 : Y 317 gb = ((tO T gb).2.2.2.2.2.2.length : Int) := b1
  replace b2 : (sl gb.toNat).length = (tO T gb).2.2.2.2.2.2.length := b2
  replace y22 : Y 322 gb = (if (tO T gb).2.2.2.2.1 = -1 then 0 else 1) := y22
  replace y23 : (tO T gb).2.2.2.2.1 ≠ -1 → Y 323 gb = (tO T gb).2.2.2.2.1 := y23
  have hla : ((tO T gb).2.2.2.2.2.2.length : Int) ≠ 0 → 0 ≤ Y 318 gb ∧ Y 318 gb < 60000 := fun z => by
    have w1 := (b3 (by omega)).2
    have w2 := (b4 ((sl gb.toNat).length - 1) (by omega)).1
    rw [w1]
    omega
  refine rsA hP.1 hs h75 ⟨hgb.1, by omega⟩ hkd hnm (wJ_mono (rsn_ok (d := d) (r := r) (sz := ((tO T gb).2.2.2.2.2.2.length : Int)) (s0 := Y 237 82) (v0 := Y 237 63) (la := Y 318 gb) (ep := (tO T gb).2.2.2.2.1) (ch := Y 237 81) hP h73 ⟨by omega, by omega⟩ h74 h75 ⟨hgb.1, by omega⟩ h76 h71 (by omega) rfl rfl (by rw [hu.1]; exact hvk) hvb hr hnr b1 ⟨by omega, by omega⟩ rfl ⟨by omega, h82.2.2⟩ rfl ⟨h82.1, h82.2.1⟩ rfl hla y22 y23 hep rfl hch) (fun o Z hq => ?_)) (fun o Z hq => hq.elim (fun z => Or.inr z.2.1) (fun z => Or.inl z.2.1))
  rcases hq with ⟨q1, q2, q3⟩ | ⟨q1, q2, q3, q4⟩
  · exact Or.inl ⟨by omega, q2, q3⟩
  · subst q4
    have haf : as_f gb nm (Y 363 (2100 * t + (K.1.length : Int) - 1)) (Y 364 (2100 * t + (K.1.length : Int) - 1)) (Y 237 82) ((tO T gb).2.2.2.2.2.2.length : Int) (Y 318 gb) Y (asZ gb nm (Y 363 (2100 * t + (K.1.length : Int) - 1)) (Y 364 (2100 * t + (K.1.length : Int) - 1)) (Y 237 82) (Y 237 63) ((tO T gb).2.2.2.2.2.2.length : Int) (Y 318 gb) Y) := as_fz rfl
    have hWn : rWd (chZ gb (tO T gb).2.2.2.2.1 (Y 237 81) (w_up (asZ gb nm (Y 363 (2100 * t + (K.1.length : Int) - 1)) (Y 364 (2100 * t + (K.1.length : Int) - 1)) (Y 237 82) (Y 237 63) ((tO T gb).2.2.2.2.2.2.length : Int) (Y 318 gb) Y) 315 gb r)) (aSa sl gb.toNat (Y 237 82)) (tNc (tAp T gb nm (K.1.getD (K.1.length - 1) (0, 0, []))) gb r (Y 237 81)) L G := rWd_np hW hgb.1 hgb.2 rfl b1 rfl haf h82.1 hu rfl hep.1
    have fA : ∀ (j : Nat) (x : Int), (j ≠ 237 ∨ (x ≠ 82 ∧ x ≠ 63)) → (j < 325 ∨ 328 < j ∨ x < 0) → ((j ≠ 316 ∧ j ≠ 317 ∧ j ≠ 318) ∨ x ≠ gb) → (asZ gb nm (Y 363 (2100 * t + (K.1.length : Int) - 1)) (Y 364 (2100 * t + (K.1.length : Int) - 1)) (Y 237 82) (Y 237 63) ((tO T gb).2.2.2.2.2.2.length : Int) (Y 318 gb) Y) j x = Y j x := fun j x j0 j1 j2 => haf.2.2.2 j x j0 (by omega) (by
      by_cases c : ((tO T gb).2.2.2.2.2.2.length : Int) = 0
      · exact Or.inr (Or.inl c)
      · have := hla c
        omega) j2
    have fC : ∀ (j : Nat) (x : Int), (j ≠ 237 ∨ (x ≠ 82 ∧ x ≠ 63 ∧ x ≠ 81)) → (j < 325 ∨ 328 < j ∨ x < 0) → ((j ≠ 315 ∧ j ≠ 316 ∧ j ≠ 317 ∧ j ≠ 318 ∧ j ≠ 323 ∧ j ≠ 324) ∨ x ≠ gb) → (chZ gb (tO T gb).2.2.2.2.1 (Y 237 81) (w_up (asZ gb nm (Y 363 (2100 * t + (K.1.length : Int) - 1)) (Y 364 (2100 * t + (K.1.length : Int) - 1)) (Y 237 82) (Y 237 63) ((tO T gb).2.2.2.2.2.2.length : Int) (Y 318 gb) Y) 315 gb r)) j x = Y j x := fun j x j0 j1 j2 => (chZ_g j x (by omega) (by omega)).trans ((w_up_no (by omega)).trans (fA j x (by omega) j1 (by omega)))
    have eC : rTx Y (chZ gb (tO T gb).2.2.2.2.1 (Y 237 81) (w_up (asZ gb nm (Y 363 (2100 * t + (K.1.length : Int) - 1)) (Y 364 (2100 * t + (K.1.length : Int) - 1)) (Y 237 82) (Y 237 63) ((tO T gb).2.2.2.2.2.2.length : Int) (Y 318 gb) Y) 315 gb r)) := rTx_of (fC 237 19 (by omega) (by omega) (by omega)) (fC 237 102 (by omega) (by omega) (by omega)) (fun j x j0 j1 => fC j x (by omega) (by omega) (by omega))
    have hKC : rTk t (chZ gb (tO T gb).2.2.2.2.1 (Y 237 81) (w_up (asZ gb nm (Y 363 (2100 * t + (K.1.length : Int) - 1)) (Y 364 (2100 * t + (K.1.length : Int) - 1)) (Y 237 82) (Y 237 63) ((tO T gb).2.2.2.2.2.2.length : Int) (Y 318 gb) Y) 315 gb r)) K := rTk_fr hK eC (fun j x j0 j1 => fC j x (by omega) (by omega) (by omega))
    refine Or.inr ⟨⟨by omega, q2⟩, q3, rTk_gv hKC ht hKl.1 (by omega) (rVl_mo hu eC), gvZ_w hWn, fun j x o n => ?_⟩
    refine (gvZ_f (Y := (chZ gb (tO T gb).2.2.2.2.1 (Y 237 81) (w_up (asZ gb nm (Y 363 (2100 * t + (K.1.length : Int) - 1)) (Y 364 (2100 * t + (K.1.length : Int) - 1)) (Y 237 82) (Y 237 63) ((tO T gb).2.2.2.2.2.2.length : Int) (Y 318 gb) Y) 315 gb r))) ht ⟨hKl.1, hKl.2.1⟩ (by omega) j x o).trans ?_
    unfold rMa at n
    exact fC j x (by omega) (by omega) (by omega)
end Wj9
