/-! PART mv: calls that ask of the host and of code. -/
section Wmv
variable {xs : List (Nat × List Int32)} {d : Nat} {S0 S Z : wS} {p w m : Nat} {HT : Int → Int} {cs : List hCR} {ms : List hMR} {os : Int → List Int} {X : List (List Int)} {mo t n B B2 oq : Int} {fa : Int → Int} {WE : aA → Prop} {A A2 : aA} {K2 : aK} {ml : List Nat} {k c s kd nms ne ec bh nm en : Int} {b ba : Nat} {ar : List aV} {e : aE} {V Z2 Y : wS} {o : wO} {dn : Int} {H2 : List aH} {N2 : List (List Int)} {E2 : Int → List aE} {C2 : List aQ} {W2 : Int} {c2 : Int → Int} {k2 : Int → Int → Int} {mk rk : Nat → Int → Prop} {K : aK} {T : List aO} {H : List aH} {E : Int → List aE} {gk gb es lo hi a : Int} {r : List aE × Int × Option aE} {A1 : aA} {tl cl : List Int} {sl : Nat → List Int} {L : List aC} {G : Int → aV} {u : aV} {x : List Int} {T2 : List aO} {L2 : List aC} {G2 : Int → aV} {H2 : List aH} {c2 : Int → Int} {y : Int} {Q : wO → wS → Prop} {ps : List (Int × aV)} {k hd wh : Int} {f a9 pn fn md : Int} {vn m9 : Nat} {th : aV} {g : Int} {lp : List aV} {l ds fo g : Int} {mk : Nat → Int → Prop} {C2 : List aQ} {W2 : Int} {RZ : wS → Prop} {N3 : Nat} {SB : wS} {r r0 : Int} {sh : Int} {K9 : aK} {nt : Int} {R2 : List Int} {S2 : Int → aV} {wh en9 : Int} {q b2 pm m9 : Nat} {N : List (List Int)}
/-- the room for words -/
theorem wk_of {S1 : wS} (hC : cRel S0 p HT cs ms os X mo A S) (hw : wfA S1 fa ms n WE B A) (hv : 133 ≤ pV S0 ∧ pV S0 + S 0 1 ≤ 133 + 16 * (m9 : Int)) (hm : m9 < 512) (h01 : 0 ≤ S 0 1) : wk ((pV S0 + ((a_N A).length : Int) + S 0 1).toNat + 1000000 * (pV S0 + a_c A 3 + 60 * ((a_N A).length : Int) + S 0 1).toNat) S := by
  have q := hC.2.2.2.2.2.2.2.1.2.1.2
  have u := hw.2.2.2.2.1.2.2.2.1
  have l := hw.2.2.2.2.2.1.1.1
  unfold cPl at q
  have e1 : ((pV S0 + ((a_N A).length : Int) + S 0 1).toNat + 1000000 * (pV S0 + a_c A 3 + 60 * ((a_N A).length : Int) + S 0 1).toNat) % 1000000 = (pV S0 + ((a_N A).length : Int) + S 0 1).toNat := by omega
  have e2 : ((pV S0 + ((a_N A).length : Int) + S 0 1).toNat + 1000000 * (pV S0 + a_c A 3 + 60 * ((a_N A).length : Int) + S 0 1).toNat) / 1000000 = (pV S0 + a_c A 3 + 60 * ((a_N A).length : Int) + S 0 1).toNat := by omega
  unfold wk
  rw [e1, e2]
  exact ⟨by omega, by omega, by omega, by omega, by omega⟩
theorem RM_t (h : RM xs m9 S) (hm : m9 < 512) {v : Int} : RM xs (m9 + 1) (w_up S 237 0 v) := by
  obtain ⟨p, q, b, b2, pm, X, HT, nt, cs, ms, os, mo, fa, A, hp, hA, ⟨⟨k1, ⟨k2, k3, k4, k5⟩, k6⟩, k7⟩, ⟨hC, hr⟩, hw, hT, ⟨hX, hX2⟩, hv, -⟩ := id h
  refine RM_q h hm (fun j x _ _ hn => w_up_no (fun z => hn (by unfold rQm; omega))) (w_ML_up hA.2.2.1 (by first | decide | omega)) (gI_up hA.1.2.1 (by first | decide | omega) (Or.inl (by first | decide | omega)) (Or.inl (Or.inl (by first | decide | omega)))) (rmR_up (rmR_rfl S) (by first | decide | omega) (by first | decide | omega))

theorem m2x_73 {M : Nat → Prop} {k wh : Int} (hR : RA 87 97 115 73 162 241 261 S) (hk : -2147483648 ≤ k ∧ k ≤ 2147483647) (hw : -2147483648 ≤ wh ∧ wh ≤ 2147483647) : wJ (pe_GA xs) wY0 M (d + 1) t_M_type ((pe_at t_M_type.bl 0).getD (0, [])).2 [(0, (2, 237)), (1, (0, k)), (2, (0, wh))] [] S (fun o Z => w_up S 237 0 0 = Z ∧ o = .inl (some (0, ty_r 241 S k wh))) := mty_241 hR.2.2.1 hR.2.2.2.1.1 hR.2.2.2.2.2.2.1.2 hk hw

theorem m2x_162 {M : Nat → Prop} {k wh : Int} (hR : RA 176 186 204 162 73 261 241 S) (hk : -2147483648 ≤ k ∧ k ≤ 2147483647) (hw : -2147483648 ≤ wh ∧ wh ≤ 2147483647) : wJ (pe_GA xs) wY0 M (d + 1) t_M_type ((pe_at t_M_type.bl 0).getD (0, [])).2 [(0, (2, 237)), (1, (0, k)), (2, (0, wh))] [] S (fun o Z => w_up S 237 0 0 = Z ∧ o = .inl (some (0, ty_r 261 S k wh))) := mty_261 hR.2.2.1 hR.2.2.2.1.1 hR.2.2.2.2.2.2.1.2 hk hw

theorem kc2 {M : Nat → Prop} {k wh : Int} (h : RM xs m9 S) (hm : m9 < 512) (hk : -2147483648 ≤ k ∧ k ≤ 2147483647) (hwh : -2147483648 ≤ wh ∧ wh ≤ 2147483647) : wJ (pe_GA xs) wY0 M (d + 1) t_X_type ((pe_at t_X_type.bl 0).getD (0, [])).2 [(0, (2, 0)), (1, (0, k)), (2, (0, wh))] [] S (fun o1 Z => ∀ (M2 : Nat → Prop) (d2 : Nat), wJ (pe_GA xs) wY0 M2 (d2 + 1) t_M_type ((pe_at t_M_type.bl 0).getD (0, [])).2 [(0, (2, 237)), (1, (0, k)), (2, (0, wh))] [] Z (fun o2 S2 => (∃ v : Int, o1 = .inl (some (0, v)) ∧ o2 = .inl (some (0, v))) ∧ RM xs (m9 + 1) S2)) := by
  obtain ⟨p, q, b, b2, pm, X, HT, nt, cs, ms, os, mo, fa, A, hp, hA, ⟨⟨k1, ⟨k2, k3, k4, k5⟩, k6⟩, k7⟩, ⟨hC, hr⟩, hw, hT, ⟨hX, hX2⟩, hv, -⟩ := id h
  rcases hp with ⟨rfl, rfl, rfl, rfl⟩ | ⟨rfl, rfl, rfl, rfl⟩
  · have hR : RA 87 97 115 73 162 241 261 S := hA
    refine wJ_mono (c2_73 (d := d + 1) hR hk hwh) (fun o1 Z hz => ?_)
    obtain ⟨rfl, rfl⟩ := hz
    intro M2 d2
    exact wJ_mono (m2x_73 hR hk hwh) (fun o2 S2 hz => ⟨⟨_, rfl, hz.2⟩, by rw [← hz.1]; exact RM_t h hm⟩)
  · have hR : RA 176 186 204 162 73 261 241 S := hA
    refine wJ_mono (c2_162 (d := d + 1) hR hk hwh) (fun o1 Z hz => ?_)
    obtain ⟨rfl, rfl⟩ := hz
    intro M2 d2
    exact wJ_mono (m2x_162 hR hk hwh) (fun o2 S2 hz => ⟨⟨_, rfl, hz.2⟩, by rw [← hz.1]; exact RM_t h hm⟩)

theorem m3x_73 {M : Nat → Prop} {k wh : Int} (hR : RA 87 97 115 73 162 241 261 S) (hk : -2147483648 ≤ k ∧ k ≤ 2147483647) (hw : -2147483648 ≤ wh ∧ wh ≤ 2147483647) : wJ (pe_GA xs) wY0 M (d + 1) t_M_member ((pe_at t_M_member.bl 0).getD (0, [])).2 [(0, (2, 237)), (1, (0, k)), (2, (0, wh))] [] S (fun o Z => w_up S 237 0 0 = Z ∧ o = .inl (some (0, me_r 241 S k wh))) := mme_241 hR.2.2.1 hR.2.2.2.1.1 hR.2.2.2.2.2.2.2.2.1.2 (fun i i0 i1 => (hR.2.2.2.2.2.2.2.2.2 i i0 i1).2.1) hk hw

theorem m3x_162 {M : Nat → Prop} {k wh : Int} (hR : RA 176 186 204 162 73 261 241 S) (hk : -2147483648 ≤ k ∧ k ≤ 2147483647) (hw : -2147483648 ≤ wh ∧ wh ≤ 2147483647) : wJ (pe_GA xs) wY0 M (d + 1) t_M_member ((pe_at t_M_member.bl 0).getD (0, [])).2 [(0, (2, 237)), (1, (0, k)), (2, (0, wh))] [] S (fun o Z => w_up S 237 0 0 = Z ∧ o = .inl (some (0, me_r 261 S k wh))) := mme_261 hR.2.2.1 hR.2.2.2.1.1 hR.2.2.2.2.2.2.2.2.1.2 (fun i i0 i1 => (hR.2.2.2.2.2.2.2.2.2 i i0 i1).2.1) hk hw

theorem kc3 {M : Nat → Prop} {k wh : Int} (h : RM xs m9 S) (hm : m9 < 512) (hk : -2147483648 ≤ k ∧ k ≤ 2147483647) (hwh : -2147483648 ≤ wh ∧ wh ≤ 2147483647) : wJ (pe_GA xs) wY0 M (d + 1) t_X_member ((pe_at t_X_member.bl 0).getD (0, [])).2 [(0, (2, 0)), (1, (0, k)), (2, (0, wh))] [] S (fun o1 Z => ∀ (M2 : Nat → Prop) (d2 : Nat), wJ (pe_GA xs) wY0 M2 (d2 + 1) t_M_member ((pe_at t_M_member.bl 0).getD (0, [])).2 [(0, (2, 237)), (1, (0, k)), (2, (0, wh))] [] Z (fun o2 S2 => (∃ v : Int, o1 = .inl (some (0, v)) ∧ o2 = .inl (some (0, v))) ∧ RM xs (m9 + 1) S2)) := by
  obtain ⟨p, q, b, b2, pm, X, HT, nt, cs, ms, os, mo, fa, A, hp, hA, ⟨⟨k1, ⟨k2, k3, k4, k5⟩, k6⟩, k7⟩, ⟨hC, hr⟩, hw, hT, ⟨hX, hX2⟩, hv, -⟩ := id h
  rcases hp with ⟨rfl, rfl, rfl, rfl⟩ | ⟨rfl, rfl, rfl, rfl⟩
  · have hR : RA 87 97 115 73 162 241 261 S := hA
    refine wJ_mono (c3_73 (d := d + 1) hR hk hwh) (fun o1 Z hz => ?_)
    obtain ⟨rfl, rfl⟩ := hz
    intro M2 d2
    exact wJ_mono (m3x_73 hR hk hwh) (fun o2 S2 hz => ⟨⟨_, rfl, hz.2⟩, by rw [← hz.1]; exact RM_t h hm⟩)
  · have hR : RA 176 186 204 162 73 261 241 S := hA
    refine wJ_mono (c3_162 (d := d + 1) hR hk hwh) (fun o1 Z hz => ?_)
    obtain ⟨rfl, rfl⟩ := hz
    intro M2 d2
    exact wJ_mono (m3x_162 hR hk hwh) (fun o2 S2 hz => ⟨⟨_, rfl, hz.2⟩, by rw [← hz.1]; exact RM_t h hm⟩)

theorem m4x_73 {M : Nat → Prop} {k wh : Int} (hR : RA 87 97 115 73 162 241 261 S) (hk : -2147483648 ≤ k ∧ k ≤ 2147483647) (hw : -2147483648 ≤ wh ∧ wh ≤ 2147483647) : wJ (pe_GA xs) wY0 M (d + 1) t_M_subtype ((pe_at t_M_subtype.bl 0).getD (0, [])).2 [(0, (2, 237)), (1, (0, k)), (2, (0, wh))] [] S (fun o Z => w_up S 237 0 0 = Z ∧ o = .inl (some (0, su_v (S 247) (S 241 1) k wh))) := msu_241 hR.2.2.1 hR.2.2.2.1.1 hR.2.2.2.2.2.2.1.2 hk hw

theorem m4x_162 {M : Nat → Prop} {k wh : Int} (hR : RA 176 186 204 162 73 261 241 S) (hk : -2147483648 ≤ k ∧ k ≤ 2147483647) (hw : -2147483648 ≤ wh ∧ wh ≤ 2147483647) : wJ (pe_GA xs) wY0 M (d + 1) t_M_subtype ((pe_at t_M_subtype.bl 0).getD (0, [])).2 [(0, (2, 237)), (1, (0, k)), (2, (0, wh))] [] S (fun o Z => w_up S 237 0 0 = Z ∧ o = .inl (some (0, su_v (S 267) (S 261 1) k wh))) := msu_261 hR.2.2.1 hR.2.2.2.1.1 hR.2.2.2.2.2.2.1.2 hk hw

theorem kc4 {M : Nat → Prop} {k wh : Int} (h : RM xs m9 S) (hm : m9 < 512) (hk : -2147483648 ≤ k ∧ k ≤ 2147483647) (hwh : -2147483648 ≤ wh ∧ wh ≤ 2147483647) : wJ (pe_GA xs) wY0 M (d + 1) t_X_subtype ((pe_at t_X_subtype.bl 0).getD (0, [])).2 [(0, (2, 0)), (1, (0, k)), (2, (0, wh))] [] S (fun o1 Z => ∀ (M2 : Nat → Prop) (d2 : Nat), wJ (pe_GA xs) wY0 M2 (d2 + 1) t_M_subtype ((pe_at t_M_subtype.bl 0).getD (0, [])).2 [(0, (2, 237)), (1, (0, k)), (2, (0, wh))] [] Z (fun o2 S2 => (∃ v : Int, o1 = .inl (some (0, v)) ∧ o2 = .inl (some (0, v))) ∧ RM xs (m9 + 1) S2)) := by
  obtain ⟨p, q, b, b2, pm, X, HT, nt, cs, ms, os, mo, fa, A, hp, hA, ⟨⟨k1, ⟨k2, k3, k4, k5⟩, k6⟩, k7⟩, ⟨hC, hr⟩, hw, hT, ⟨hX, hX2⟩, hv, -⟩ := id h
  rcases hp with ⟨rfl, rfl, rfl, rfl⟩ | ⟨rfl, rfl, rfl, rfl⟩
  · have hR : RA 87 97 115 73 162 241 261 S := hA
    refine wJ_mono (c4_73 hR hk hwh) (fun o1 Z hz => ?_)
    obtain ⟨rfl, rfl⟩ := hz
    intro M2 d2
    exact wJ_mono (m4x_73 hR hk hwh) (fun o2 S2 hz => ⟨⟨_, rfl, hz.2⟩, by rw [← hz.1]; exact RM_t h hm⟩)
  · have hR : RA 176 186 204 162 73 261 241 S := hA
    refine wJ_mono (c4_162 hR hk hwh) (fun o1 Z hz => ?_)
    obtain ⟨rfl, rfl⟩ := hz
    intro M2 d2
    exact wJ_mono (m4x_162 hR hk hwh) (fun o2 S2 hz => ⟨⟨_, rfl, hz.2⟩, by rw [← hz.1]; exact RM_t h hm⟩)

theorem kc6 {M : Nat → Prop} {k wh : Int} (h : RM xs m9 S) (hm : m9 < 512) (hk : -2147483648 ≤ k ∧ k ≤ 2147483647) (hwh : -2147483648 ≤ wh ∧ wh ≤ 2147483647) : wJ (pe_GA xs) wY0 M (d) t_X_function ((pe_at t_X_function.bl 0).getD (0, [])).2 [(0, (2, 0)), (1, (0, k)), (2, (0, wh))] [] S (fun o1 Z => ∀ (M2 : Nat → Prop) (d2 : Nat), wJ (pe_GA xs) wY0 M2 (d2 + 1) t_M_function ((pe_at t_M_function.bl 0).getD (0, [])).2 [(0, (2, 237)), (1, (0, k)), (2, (0, wh))] [] Z (fun o2 S2 => (∃ v : Int, o1 = .inl (some (0, v)) ∧ o2 = .inl (some (0, v))) ∧ RM xs (m9 + 1) S2)) := by
  obtain ⟨p, q, b, b2, pm, X, HT, nt, cs, ms, os, mo, fa, A, hp, hA, ⟨⟨k1, ⟨k2, k3, k4, k5⟩, k6⟩, k7⟩, ⟨hC, hr⟩, hw, hT, ⟨hX, hX2⟩, hv, -⟩ := id h
  have hpp := RMp_p hp
  have h01 := hA.1.2.2.2.2.2.2.2.1.1
  have hK : RK (a_N A) X _ pm S := ⟨k1, wk_of hC hw hv (by omega) h01, ⟨k2, k3, k4, k5⟩, k6, fa, k7.1, k7.2⟩
  refine wJ_mono (c6 hA hK hk hwh) (fun o1 Z hz => ?_)
  obtain ⟨rfl, rfl⟩ := hz
  intro M2 d2
  exact wJ_mono (m6 (by omega) (by omega) hA hK hk hwh) (fun o2 S2 hz => ⟨⟨_, rfl, hz.2.2⟩, by rw [← hz.2.1]; exact RM_t h hm⟩)

theorem kc7 {M : Nat → Prop} {k i wh : Int} (h : RM xs m9 S) (hm : m9 < 512) (hk : -2147483648 ≤ k ∧ k ≤ 2147483647) (hi : -2147483648 ≤ i ∧ i ≤ 2147483647) (hwh : -2147483648 ≤ wh ∧ wh ≤ 2147483647) : wJ (pe_GA xs) wY0 M (d) t_X_code ((pe_at t_X_code.bl 0).getD (0, [])).2 [(0, (2, 0)), (1, (0, k)), (2, (0, i)), (3, (0, wh))] [] S (fun o1 Z => ∀ (M2 : Nat → Prop) (d2 : Nat), wJ (pe_GA xs) wY0 M2 (d2 + 1) t_M_code ((pe_at t_M_code.bl 0).getD (0, [])).2 [(0, (2, 237)), (1, (0, k)), (2, (0, i)), (3, (0, wh))] [] Z (fun o2 S2 => (∃ v : Int, o1 = .inl (some (0, v)) ∧ o2 = .inl (some (0, v))) ∧ RM xs (m9 + 1) S2)) := by
  obtain ⟨p, q, b, b2, pm, X, HT, nt, cs, ms, os, mo, fa, A, hp, hA, ⟨⟨k1, ⟨k2, k3, k4, k5⟩, k6⟩, k7⟩, ⟨hC, hr⟩, hw, hT, ⟨hX, hX2⟩, hv, -⟩ := id h
  have hpp := RMp_p hp
  have h01 := hA.1.2.2.2.2.2.2.2.1.1
  have hK : RK (a_N A) X _ pm S := ⟨k1, wk_of hC hw hv (by omega) h01, ⟨k2, k3, k4, k5⟩, k6, fa, k7.1, k7.2⟩
  refine wJ_mono (c7 hA hK hk hi hwh) (fun o1 Z hz => ?_)
  obtain ⟨rfl, rfl⟩ := hz
  intro M2 d2
  exact wJ_mono (m7 (by omega) (by omega) hA hK hk hi hwh) (fun o2 S2 hz => ⟨⟨_, rfl, hz.2.2⟩, by rw [← hz.2.1]; exact RM_t h hm⟩)

theorem kc8 {M : Nat → Prop} {k wh : Int} (h : RM xs m9 S) (hm : m9 < 512) (hk : -2147483648 ≤ k ∧ k ≤ 2147483647) (hwh : -2147483648 ≤ wh ∧ wh ≤ 2147483647) : wJ (pe_GA xs) wY0 M (d) t_X_site ((pe_at t_X_site.bl 0).getD (0, [])).2 [(0, (2, 0)), (1, (0, k)), (2, (0, wh))] [] S (fun o1 Z => ∀ (M2 : Nat → Prop) (d2 : Nat), wJ (pe_GA xs) wY0 M2 (d2 + 1) t_M_site ((pe_at t_M_site.bl 0).getD (0, [])).2 [(0, (2, 237)), (1, (0, k)), (2, (0, wh))] [] Z (fun o2 S2 => (∃ v : Int, o1 = .inl (some (0, v)) ∧ o2 = .inl (some (0, v))) ∧ RM xs (m9 + 1) S2)) := by
  obtain ⟨p, q, b, b2, pm, X, HT, nt, cs, ms, os, mo, fa, A, hp, hA, ⟨⟨k1, ⟨k2, k3, k4, k5⟩, k6⟩, k7⟩, ⟨hC, hr⟩, hw, hT, ⟨hX, hX2⟩, hv, -⟩ := id h
  have hpp := RMp_p hp
  have h01 := hA.1.2.2.2.2.2.2.2.1.1
  have hK : RK (a_N A) X _ pm S := ⟨k1, wk_of hC hw hv (by omega) h01, ⟨k2, k3, k4, k5⟩, k6, fa, k7.1, k7.2⟩
  refine wJ_mono (c8 hA hK hk hwh) (fun o1 Z hz => ?_)
  obtain ⟨rfl, rfl⟩ := hz
  intro M2 d2
  exact wJ_mono (m8 (by omega) (by omega) hA hK hk hwh) (fun o2 S2 hz => ⟨⟨_, rfl, hz.2.2⟩, by rw [← hz.2.1]; exact RM_t h hm⟩)

theorem kc10 {M : Nat → Prop} {k i : Int} (h : RM xs m9 S) (hm : m9 < 512) (hk : -2147483648 ≤ k ∧ k ≤ 2147483647) (hi : -2147483648 ≤ i ∧ i ≤ 2147483647) : wJ (pe_GA xs) wY0 M (d) t_X_name ((pe_at t_X_name.bl 0).getD (0, [])).2 [(0, (2, 0)), (1, (0, k)), (2, (0, i))] [] S (fun o1 Z => ∀ (M2 : Nat → Prop) (d2 : Nat), wJ (pe_GA xs) wY0 M2 (d2 + 1) t_M_name ((pe_at t_M_name.bl 0).getD (0, [])).2 [(0, (2, 237)), (1, (0, k)), (2, (0, i))] [] Z (fun o2 S2 => (∃ v : Int, o1 = .inl (some (0, v)) ∧ o2 = .inl (some (0, v))) ∧ RM xs (m9 + 1) S2)) := by
  obtain ⟨p, q, b, b2, pm, X, HT, nt, cs, ms, os, mo, fa, A, hp, hA, ⟨⟨k1, ⟨k2, k3, k4, k5⟩, k6⟩, k7⟩, ⟨hC, hr⟩, hw, hT, ⟨hX, hX2⟩, hv, -⟩ := id h
  have hpp := RMp_p hp
  have h01 := hA.1.2.2.2.2.2.2.2.1.1
  have hK : RK (a_N A) X _ pm S := ⟨k1, wk_of hC hw hv (by omega) h01, ⟨k2, k3, k4, k5⟩, k6, fa, k7.1, k7.2⟩
  refine wJ_mono (c10 hK hk hi) (fun o1 Z hz => ?_)
  obtain ⟨rfl, rfl⟩ := hz
  intro M2 d2
  exact wJ_mono (m10 (by omega) (by omega) hA hK hk hi) (fun o2 S2 hz => ⟨⟨_, rfl, hz.2.2⟩, by rw [← hz.2.1]; exact RM_t h hm⟩)

end Wmv
