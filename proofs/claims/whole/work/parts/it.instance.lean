/-! PART it: a new instance, in the class's world. -/
section Wit
variable {S Z : wS} {T : List aO} {L : List aC} {G : Int → aV} {nf : Nat} {ty pt : Nat → Int} {g st k : Int} {es : List (Int × Int)} {us : List aV}
theorem cWd_in (h : cWd S T L G) (r : coR g st k nf ty pt es S Z) (hg : g = (T.length : Int)) (hst : S 140 2 = st) (hz : st + (nf : Int) ≤ 240200) (ht : (T.length : Int) ≤ 8000) (hel : es.length = us.length) (hes : ∀ q : Nat, q < es.length → cVl S (es.getD q (0, 0)).1 (es.getD q (0, 0)).2 (us.getD q (0, 0, []))) : cWd Z (T ++ [(7, -1, k, -1, -1, 0, inP nf ty pt us)]) L G ∧ cTx S Z := by
  obtain ⟨B, C, D, E, hat, hcv, hcu, hfv, rfl⟩ := r
  have h3 : S 72 3 = (T.length : Int) := h.1.1
  have hBw : cWd (w_up B 136 (S 72 3) (-1)) (T ++ [(7, -1, k, -1, -1, 0, [])]) L G := cWd_at h hat ⟨by omega, by omega⟩ ht
  have hB : cWd B (T ++ [(7, -1, k, -1, -1, 0, [])]) L G := by
    have e := w_up_eta hat.2.1.2.2.2.2.2
    rw [← e] at hBw
    exact hBw
  have hst0 : 0 ≤ st := by have := h.2.2.2.1.2.2.1.1; omega
  obtain ⟨-, ⟨-, -, b33, -, b35, -⟩, -, b40, -, -, -, bfr, -, -⟩ := hat
  rw [h3] at b33 b35
  rw [hst] at b33 b40
  obtain ⟨⟨c34, -⟩, -, -, cce, ⟨cl1, cl2, cl3, cl4⟩, cfr, -, -⟩ := hcv
  obtain ⟨d1, dfr⟩ := hcu
  obtain ⟨e1, efr⟩ := hfv
  have fCD : ∀ (j : Nat) (x : Int), ((j ≠ 141 ∧ j ≠ 142) ∨ x < st ∨ st + (nf : Int) ≤ x) → j ≠ 158 → (w_up (w_up E 158 16 7) 158 17 g) j x = C j x := fun j x j0 j1 => (w_up_slot j1).trans ((w_up_slot j1).trans ((efr j x j0).trans (dfr j x j0)))
  have z14 : ∀ (j : Nat) (x : Int), j ≠ 158 → (w_up (w_up E 158 16 7) 158 17 g) j x = E j x := fun j x j1 => (w_up_slot j1).trans (w_up_slot j1)
  have eB : cTx B (w_up (w_up E 158 16 7) 158 17 g) := cTx_of ((fCD 2 1 (by omega) (by first | decide | omega)).trans (cfr 2 1 (by first | decide | omega) (by first | decide | omega) (by first | decide | omega) (by first | decide | omega) (by omega) (by omega))) (fun x => (fCD 3 x (by omega) (by first | decide | omega)).trans (cfr 3 x (by first | decide | omega) (by first | decide | omega) (by first | decide | omega) (by first | decide | omega) (by omega) (by omega)))
  have eS : cTx S (w_up (w_up E 158 16 7) 158 17 g) := cTx_tr (cTx_of (bfr 2 1 (by first | decide | omega) (by first | decide | omega) (by omega) (by first | decide | omega) (by first | decide | omega) (by omega) (by omega) (by omega)) (fun x => bfr 3 x (by first | decide | omega) (by first | decide | omega) (by omega) (by first | decide | omega) (by first | decide | omega) (by omega) (by omega) (by omega))) eB
  have hcs := cs_rel (nf := nf) (ty := ty) (pt := pt) (R := fun e u => cVl S e.1 e.2 u) (fun e u z => z.1) es us 0 (fun _ => (-1, 0)) (fun _ => (-1, 0, [])) hel hes (fun _ => cV_e (by first | decide | omega) rfl)
  have bl := hB.2.2.2.1.2
  refine ⟨cWd_fi hB eB (fun j x hj j2 j3 j4 => ?_) (fun x x0 x1 x2 => ?_) ⟨?_, ?_, ?_, ?_⟩ ?_ ?_ (fun i hi => ?_), eS⟩
  · have hj2 : j < 4000000 ∧ j ≠ wG ∧ j ≠ 158 ∧ j ≠ 150 := by
      have hG : wG = 1000000 := rfl
      unfold cWo at hj
      omega
    exact (fCD j x (by omega) hj2.2.2.1).trans (cfr j x hj2.1 hj2.2.1 j3 j4 (by omega) (by omega))
  · rw [b33, b35] at x2
    rw [b40] at x1
    obtain ⟨y1, y2⟩ := cce x x0 x1 x2
    exact ⟨(fCD 141 x (by omega) (by first | decide | omega)).trans y1, (fCD 142 x (by omega) (by first | decide | omega)).trans y2⟩
  · rw [fCD 142 (-1) (by omega) (by first | decide | omega), fCD 141 (-1) (by omega) (by first | decide | omega)]; exact cl1
  · rw [fCD 141 (-1) (by omega) (by first | decide | omega), b40]; exact cl2
  · rw [fCD 141 (-1) (by omega) (by first | decide | omega)]; omega
  · rw [fCD 141 (-1) (by omega) (by first | decide | omega)]; omega
  · rw [← hg, fCD 134 g (by omega) (by first | decide | omega), c34, inP_l]
  · rw [b35, inP_l]; exact Int.le_refl _
  · rw [List.length_map, inP_l] at hi
    rw [inP_v hi, b33, z14 141 _ (by first | decide | omega), z14 142 _ (by first | decide | omega), (e1 i hi).1, (e1 i hi).2, (d1 i hi).1, (d1 i hi).2]
    exact inV_c (cVl_mo (hcs i) eS)
end Wit
