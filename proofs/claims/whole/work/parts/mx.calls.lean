/-! PART mx: calls that ask of things, shapes and counts. -/
section Wmx
variable {xs : List (Nat × List Int32)} {d : Nat} {S0 S Z : wS} {p w m : Nat} {HT : Int → Int} {cs : List hCR} {ms : List hMR} {os : Int → List Int} {X : List (List Int)} {mo t n B B2 oq : Int} {fa : Int → Int} {WE : aA → Prop} {A A2 : aA} {K2 : aK} {ml : List Nat} {k c s kd nms ne ec bh nm en : Int} {b ba : Nat} {ar : List aV} {e : aE} {V Z2 Y : wS} {o : wO} {dn : Int} {H2 : List aH} {N2 : List (List Int)} {E2 : Int → List aE} {C2 : List aQ} {W2 : Int} {c2 : Int → Int} {k2 : Int → Int → Int} {mk rk : Nat → Int → Prop} {K : aK} {T : List aO} {H : List aH} {E : Int → List aE} {gk gb es lo hi a : Int} {r : List aE × Int × Option aE} {A1 : aA} {tl cl : List Int} {sl : Nat → List Int} {L : List aC} {G : Int → aV} {u : aV} {x : List Int} {T2 : List aO} {L2 : List aC} {G2 : Int → aV} {H2 : List aH} {c2 : Int → Int} {y : Int} {Q : wO → wS → Prop} {ps : List (Int × aV)} {k hd wh : Int} {f a9 pn fn md : Int} {vn m9 : Nat} {th : aV} {g : Int} {lp : List aV} {l ds fo g : Int} {mk : Nat → Int → Prop} {C2 : List aQ} {W2 : Int} {RZ : wS → Prop} {N3 : Nat} {SB : wS} {r r0 : Int} {sh : Int} {K9 : aK} {nt : Int} {R2 : List Int} {S2 : Int → aV} {wh en9 : Int} {q b2 pm m9 : Nat} {N : List (List Int)}
theorem kc17 {M : Nat → Prop} {k wh : Int} (h : RM xs m9 S) (hm : m9 < 512) (hk : -2147483648 ≤ k ∧ k ≤ 2147483647) (hwh : -2147483648 ≤ wh ∧ wh ≤ 2147483647) : wJ (pe_GA xs) wY0 M (d) t_X_thing ((pe_at t_X_thing.bl 0).getD (0, [])).2 [(0, (2, 0)), (1, (0, k)), (2, (0, wh))] [] S (fun o1 Z => ∀ (M2 : Nat → Prop) (d2 : Nat), wJ (pe_GA xs) wY0 M2 (d2 + 1) t_M_thing ((pe_at t_M_thing.bl 0).getD (0, [])).2 [(0, (2, 237)), (1, (0, k)), (2, (0, wh))] [] Z (fun o2 S2 => (∃ v : Int, o1 = .inl (some (0, v)) ∧ o2 = .inl (some (0, v))) ∧ RM xs (m9 + 1) S2)) := by
  obtain ⟨p, q, b, b2, pm, X, HT, nt, cs, ms, os, mo, fa, A, hp, hA, ⟨⟨k1, ⟨k2, k3, k4, k5⟩, k6⟩, k7⟩, ⟨hC, hr⟩, hw, hT, ⟨hX, hX2⟩, hv, -⟩ := id h
  have hTh := hC.2.2.1.1.1
  have hLt := hC.2.2.1.1.2.2.2.2.1
  have hSw := hC.2.2.1.2.1
  have hsh := hw.2.1
  have hwt := hsh.2.2.1
  have hT8 : ((a_T A).length : Int) ≤ 8000 := by have := hw.2.2.2.2.1.1; omega
  obtain ⟨⟨sl, hW⟩, hH⟩ := hr.2.2.1
  have hrT := hW.1
  have h4 := hsh.1.2.1
  have key : ∀ k : Int, 0 ≤ k → k < ((a_T A).length : Int) → wTh (a_H A) ((a_T A).getD k.toNat (0, 0, 0, 0, 0, 0, [])) := fun k k0 k1 => hwt k.toNat (by omega)
  refine wJ_mono (xth ⟨by rw [hTh.1]; omega, by rw [hTh.1]; exact hLt.2.1⟩ (by have := hLt.2.2.2; omega) hLt.1 hC.1.1 (fun k k0 k1 => ?_) (by have := hSw.2.1.2.2.2; omega) hk hwh) (fun o1 Z hz => ?_)
  · rw [hTh.1] at k1
    have a := (hTh.2 k.toNat (by omega)).1.2.1
    rw [show ((k.toNat : Nat) : Int) = k by omega] at a
    obtain ⟨w1, w2, w3, -⟩ := key k k0 k1
    have := hSw.2.1.2.1
    rw [a]
    omega
  obtain ⟨rfl, rfl⟩ := hz
  intro M2 d2
  refine wJ_mono (mth hA.2.2.1 ⟨by rw [hrT.1]; omega, by rw [hrT.1]; omega⟩ (fun k k0 k1 k4 => ?_) hk hwh) (fun o2 S2 hz => ⟨⟨_, rfl, ?_⟩, by rw [← hz.1]; exact RM_t h hm⟩)
  · rw [hrT.1] at k1
    have a := (hrT.2 k.toNat (by omega)).1
    rw [show ((k.toNat : Nat) : Int) = k by omega] at a
    obtain ⟨w1, w2, w3, -⟩ := key k k0 k1
    rw [a.1] at k4
    rw [a.2.1]
    omega
  · rw [hz.2, th_ce hTh hSw.1 hwt, th_re hrT hH hwt]
theorem kc19 {M : Nat → Prop} {k wh : Int} (h : RM xs m9 S) (hm : m9 < 512) (hk : -2147483648 ≤ k ∧ k ≤ 2147483647) (hwh : -2147483648 ≤ wh ∧ wh ≤ 2147483647) : wJ (pe_GA xs) wY0 M (d + 1) t_X_shape ((pe_at t_X_shape.bl 0).getD (0, [])).2 [(0, (2, 0)), (1, (0, k)), (2, (0, wh))] [] S (fun o1 Z => ∀ (M2 : Nat → Prop) (d2 : Nat), wJ (pe_GA xs) wY0 M2 (d2 + 1) t_M_shape ((pe_at t_M_shape.bl 0).getD (0, [])).2 [(0, (2, 237)), (1, (0, k)), (2, (0, wh))] [] Z (fun o2 S2 => (∃ v : Int, o1 = .inl (some (0, v)) ∧ o2 = .inl (some (0, v))) ∧ RM xs (m9 + 1) S2)) := by
  obtain ⟨p, q, b, b2, pm, X, HT, nt, cs, ms, os, mo, fa, A, hp, hA, ⟨⟨k1, ⟨k2, k3, k4, k5⟩, k6⟩, k7⟩, ⟨hC, hr⟩, hw, hT, ⟨hX, hX2⟩, hv, -⟩ := id h
  have hSw := hC.2.2.1.2.1
  have hsh := hw.2.1.1
  obtain ⟨⟨sl, hW⟩, hH⟩ := hr.2.2.1
  have h4 := hsh.2.1
  refine wJ_mono (xsh hSw.2.1.1 hC.1.1 ⟨by rw [hSw.1.1]; omega, by rw [hSw.1.1]; exact hSw.2.1.2.1⟩ (by have := hSw.2.1.2.2.2; omega) (hc_c hSw.1 hsh) hk hwh) (fun o1 Z hz => ?_)
  obtain ⟨rfl, rfl⟩ := hz
  intro M2 d2
  refine wJ_mono (msh hA.2.2.1 ⟨by rw [hH.1]; omega, by rw [hH.1]; omega⟩ (hc_r hH hsh) hk hwh) (fun o2 S2 hz => ⟨⟨_, rfl, ?_⟩, by rw [← hz.1]; exact RM_t h hm⟩)
  rw [hz.2, hH.1, ← hSw.1.1]
  rw [sh_eq (hc_c hSw.1 hsh) (fun k k0 k1 => ?_)]
  rw [hSw.1.1] at k1
  obtain ⟨a1, a2, a3, a4⟩ := hSw.1.2.2 k.toNat (by omega)
  obtain ⟨c1, c2, c3, c4⟩ := hH.2 k.toNat (by omega)
  rw [show ((k.toNat : Nat) : Int) = k by omega] at a1 a2 a3 a4 c1 c2 c3 c4
  exact ⟨⟨c1.trans a1.symm, c3.trans a3.symm⟩, c2.trans a2.symm, c4.trans a4.symm⟩

theorem kc22 {M : Nat → Prop} {k : Int} (h : RM xs m9 S) (hm : m9 < 512) (hk : -2147483648 ≤ k ∧ k ≤ 2147483647) : wJ (pe_GA xs) wY0 M (d + 1) t_X_count ((pe_at t_X_count.bl 0).getD (0, [])).2 [(0, (2, 0)), (1, (0, k))] [] S (fun o1 Z => ∀ (M2 : Nat → Prop) (d2 : Nat), wJ (pe_GA xs) wY0 M2 (d2 + 1) t_M_count ((pe_at t_M_count.bl 0).getD (0, [])).2 [(0, (2, 237)), (1, (0, k))] [] Z (fun o2 S2 => (∃ v : Int, o1 = .inl (some (0, v)) ∧ o2 = .inl (some (0, v))) ∧ RM xs (m9 + 1) S2)) := by
  obtain ⟨p, q, b, b2, pm, X, HT, nt, cs, ms, os, mo, fa, A, hp, hA, ⟨⟨k1, ⟨k2, k3, k4, k5⟩, k6⟩, k7⟩, ⟨hC, hr⟩, hw, hT, ⟨hX, hX2⟩, hv, -⟩ := id h
  obtain ⟨⟨sl, hW⟩, hH⟩ := hr.2.2.1
  have hds := (mK_d k6 k1.2.2.2.2.1 k1.2.2.2.2.2 k5).1
  have e8 : S 2 10 = S 237 16 := k1.1.2.2.1.1.trans k2.1.symm
  have e9 : S 2 12 = S 237 19 := k1.1.2.2.2.1.trans k3.1.symm
  have e10 : S 72 3 = S 237 68 := hC.2.2.1.1.1.1.trans hW.1.1.symm
  have e11 : S 72 5 = S 237 69 := hC.2.2.1.1.2.1.1.trans hW.2.1.1.symm
  have e12 : S 72 8 = S 237 87 := hC.2.2.1.2.1.1.1.trans hH.1.symm
  have e15 : S 72 13 = S 237 104 := hC.2.2.2.2.2.1.1.1.trans hr.2.2.2.2.2.1.1.1.symm
  have e16 : S 72 15 = S 237 106 := hC.2.2.2.2.2.1.2.1.trans hr.2.2.2.2.2.1.2.1.symm
  have e17 : S 158 19 = S 237 108 := hC.2.2.2.2.2.2.2.1.2.2.1.trans hr.2.2.2.2.2.2.2.1.2.2.1.symm
  have e2x : ∀ i : Nat, i < 4 → S 160 (i : Int) = S 344 (i : Int) := fun i hi => (hC.2.2.2.2.2.2.2.1.2.2.2.1 i hi).trans (hr.2.2.2.2.2.2.2.1.2.2.2.1 i hi).symm
  have e20 : S 160 0 = S 344 0 := e2x 0 (by first | decide | omega)
  have e21 : S 160 1 = S 344 1 := e2x 1 (by first | decide | omega)
  have e22 : S 160 2 = S 344 2 := e2x 2 (by first | decide | omega)
  have e23 : S 160 3 = S 344 3 := e2x 3 (by first | decide | omega)
  rcases hp with ⟨rfl, rfl, rfl, rfl⟩ | ⟨rfl, rfl, rfl, rfl⟩
  · have hR : RA 87 97 115 73 162 241 261 S := hA
    have hcn : cn_c 73 S k = cn_r 241 S k := by
      have e0 := hR.2.2.2.2.1
      have e1 := hR.2.2.2.2.2.2.1.1
      have e2 := hR.2.2.2.2.2.2.2.2.1.1
      have e13 : S 73 16 = S 237 114 := by
        obtain ⟨⟨K9, kk1, kk2, -⟩, -⟩ := hC.2.2.2.2.2.2.1.1
        rw [kk1.1, kk2]
        exact hr.2.2.2.2.2.2.1.1.1.symm
      have e14 : S 73 18 = S 237 115 := hC.2.2.2.2.2.2.1.1.2.1.trans hr.2.2.2.2.2.2.1.1.2.2.1.symm
      unfold cn_c cn_r
      rw [e0, e1, e2, k6.2.1.1, k6.1.1, k6.2.2.1.1, k6.2.2.2.1.1, hds, e8, e9, e10, e11, e12, e13, e14, e15, e16, e17, e20, e21, e22, e23]
    refine wJ_mono (cto_73 hC.1.1 hR.2.1.1 hT.2.2.2.1.2.1 hk) (fun o1 Z hz => ?_)
    obtain ⟨rfl, rfl⟩ := hz
    intro M2 d2
    refine wJ_mono (mcn_241 hR.2.2.1 hR.2.2.2.1.1 (ml_387 hR.2.2.1) hk) (fun o2 S2 hz => ⟨⟨_, rfl, hz.2.2.trans (by rw [hcn])⟩, RM_q h hm (fun j x _ _ hn => hz.1 j x (Or.inl (fun e => hn (by unfold rQm; omega))) (by unfold rQm at hn; omega)) (fun y hy => (hz.1 y.1 (-1) (Or.inr rfl) (Or.inr (by first | decide | omega))).trans (hR.2.2.1 y hy)) (gI_eq hC.1.2.1 (fun k => hz.1 k (-1) (Or.inr rfl) (Or.inr (by first | decide | omega))) (fun y => hz.1 238 y (Or.inl (by first | decide | omega)) (Or.inl (by first | decide | omega))) (hz.1 14 5 (Or.inl (by first | decide | omega)) (Or.inl (by first | decide | omega)))) (rmR_ag (rmR_rfl S) (fun k _ => hz.1 k (-1) (Or.inr rfl) (Or.inr (by first | decide | omega))) (hz.1 wG 0 (Or.inl (by unfold wG; decide)) (Or.inl (by unfold wG; decide))) (hz.1 wG 1 (Or.inl (by unfold wG; decide)) (Or.inl (by unfold wG; decide))))⟩)
  · have hR : RA 176 186 204 162 73 261 241 S := hA
    have hcn : cn_c 162 S k = cn_r 261 S k := by
      have e0 := hR.2.2.2.2.1
      have e1 := hR.2.2.2.2.2.2.1.1
      have e2 := hR.2.2.2.2.2.2.2.2.1.1
      have e13 : S 162 16 = S 237 114 := by
        obtain ⟨⟨K9, kk1, kk2, -⟩, -⟩ := hC.2.2.2.2.2.2.1.1
        rw [kk1.1, kk2]
        exact hr.2.2.2.2.2.2.1.1.1.symm
      have e14 : S 162 18 = S 237 115 := hC.2.2.2.2.2.2.1.1.2.1.trans hr.2.2.2.2.2.2.1.1.2.2.1.symm
      unfold cn_c cn_r
      rw [e0, e1, e2, k6.2.1.1, k6.1.1, k6.2.2.1.1, k6.2.2.2.1.1, hds, e8, e9, e10, e11, e12, e13, e14, e15, e16, e17, e20, e21, e22, e23]
    refine wJ_mono (cto_162 hC.1.1 hR.2.1.1 hT.2.2.2.1.2.1 hk) (fun o1 Z hz => ?_)
    obtain ⟨rfl, rfl⟩ := hz
    intro M2 d2
    refine wJ_mono (mcn_261 hR.2.2.1 hR.2.2.2.1.1 (ml_387 hR.2.2.1) hk) (fun o2 S2 hz => ⟨⟨_, rfl, hz.2.2.trans (by rw [hcn])⟩, RM_q h hm (fun j x _ _ hn => hz.1 j x (Or.inl (fun e => hn (by unfold rQm; omega))) (by unfold rQm at hn; omega)) (fun y hy => (hz.1 y.1 (-1) (Or.inr rfl) (Or.inr (by first | decide | omega))).trans (hR.2.2.1 y hy)) (gI_eq hC.1.2.1 (fun k => hz.1 k (-1) (Or.inr rfl) (Or.inr (by first | decide | omega))) (fun y => hz.1 238 y (Or.inl (by first | decide | omega)) (Or.inl (by first | decide | omega))) (hz.1 14 5 (Or.inl (by first | decide | omega)) (Or.inl (by first | decide | omega)))) (rmR_ag (rmR_rfl S) (fun k _ => hz.1 k (-1) (Or.inr rfl) (Or.inr (by first | decide | omega))) (hz.1 wG 0 (Or.inl (by unfold wG; decide)) (Or.inl (by unfold wG; decide))) (hz.1 wG 1 (Or.inl (by unfold wG; decide)) (Or.inl (by unfold wG; decide))))⟩)
end Wmx
