/-! PART mw: calls that ask of tasks, output and trace. -/
section Wmw
variable {xs : List (Nat × List Int32)} {d : Nat} {S0 S Z : wS} {p w m : Nat} {HT : Int → Int} {cs : List hCR} {ms : List hMR} {os : Int → List Int} {X : List (List Int)} {mo t n B B2 oq : Int} {fa : Int → Int} {WE : aA → Prop} {A A2 : aA} {K2 : aK} {ml : List Nat} {k c s kd nms ne ec bh nm en : Int} {b ba : Nat} {ar : List aV} {e : aE} {V Z2 Y : wS} {o : wO} {dn : Int} {H2 : List aH} {N2 : List (List Int)} {E2 : Int → List aE} {C2 : List aQ} {W2 : Int} {c2 : Int → Int} {k2 : Int → Int → Int} {mk rk : Nat → Int → Prop} {K : aK} {T : List aO} {H : List aH} {E : Int → List aE} {gk gb es lo hi a : Int} {r : List aE × Int × Option aE} {A1 : aA} {tl cl : List Int} {sl : Nat → List Int} {L : List aC} {G : Int → aV} {u : aV} {x : List Int} {T2 : List aO} {L2 : List aC} {G2 : Int → aV} {H2 : List aH} {c2 : Int → Int} {y : Int} {Q : wO → wS → Prop} {ps : List (Int × aV)} {k hd wh : Int} {f a9 pn fn md : Int} {vn m9 : Nat} {th : aV} {g : Int} {lp : List aV} {l ds fo g : Int} {mk : Nat → Int → Prop} {C2 : List aQ} {W2 : Int} {RZ : wS → Prop} {N3 : Nat} {SB : wS} {r r0 : Int} {sh : Int} {K9 : aK} {nt : Int} {R2 : List Int} {S2 : Int → aV} {wh en9 : Int} {q b2 pm m9 : Nat} {N : List (List Int)}
theorem kc13 {M : Nat → Prop} {k wh : Int} (h : RM xs m9 S) (hm : m9 < 512) (hk : -2147483648 ≤ k ∧ k ≤ 2147483647) (hwh : -2147483648 ≤ wh ∧ wh ≤ 2147483647) : wJ (pe_GA xs) wY0 M (d) t_X_task ((pe_at t_X_task.bl 0).getD (0, [])).2 [(0, (2, 0)), (1, (0, k)), (2, (0, wh))] [] S (fun o1 Z => ∀ (M2 : Nat → Prop) (d2 : Nat), wJ (pe_GA xs) wY0 M2 (d2 + 1) t_M_task ((pe_at t_M_task.bl 0).getD (0, [])).2 [(0, (2, 237)), (1, (0, k)), (2, (0, wh))] [] Z (fun o2 S2 => (∃ v : Int, o1 = .inl (some (0, v)) ∧ o2 = .inl (some (0, v))) ∧ RM xs (m9 + 1) S2)) := by
  obtain ⟨p, q, b, b2, pm, X, HT, nt, cs, ms, os, mo, fa, A, hp, hA, ⟨⟨k1, ⟨k2, k3, k4, k5⟩, k6⟩, k7⟩, ⟨hC, hr⟩, hw, hT, ⟨hX, hX2⟩, hv, -⟩ := id h
  have h0 := hC.2.1.1
  have h1 := hC.2.1.2
  have r0 := hr.2.1.1
  have r1 := hr.2.1.2
  have l0 := hw.1.1.1.2
  have l1 := hw.1.2.1.2
  refine wJ_mono (xtk hC.1.1 hA.1.2.2.2.2.2.2.1 ⟨by rw [h0.2.1.1]; omega, by rw [h0.2.1.1]; omega⟩ ⟨by rw [h1.2.1.1]; omega, by rw [h1.2.1.1]; omega⟩ hk hwh) (fun o1 Z hz => ?_)
  obtain ⟨rfl, rfl⟩ := hz
  intro M2 d2
  refine wJ_mono (mtk hA.2.2.1 (fun t t0 t1 => ?_) hk hwh) (fun o2 S2 hz => ⟨⟨_, rfl, ?_⟩, by rw [← hz.1]; exact RM_t h hm⟩)
  · by_cases c : t = 0
    · rw [c, r0.2.1.1]
      omega
    · rw [show t = 1 by omega, r1.2.1.1]
      omega
  · rw [hz.2]
    by_cases c : k = 0
    · rw [if_pos c, if_pos (Or.inl c), c, tk_ce h0, tk_re r0]
    · by_cases c1 : k = 1
      · rw [if_neg c, if_pos c1, if_pos (Or.inr c1), c1, tk_ce h1, tk_re r1]
      · rw [if_neg c, if_neg c1, if_neg (fun z => z.elim c c1)]
theorem kc20 {M : Nat → Prop} {k : Int} (h : RM xs m9 S) (hm : m9 < 512) (hk : -2147483648 ≤ k ∧ k ≤ 2147483647) : wJ (pe_GA xs) wY0 M (d) t_X_output ((pe_at t_X_output.bl 0).getD (0, [])).2 [(0, (2, 0)), (1, (0, k))] [] S (fun o1 Z => ∀ (M2 : Nat → Prop) (d2 : Nat), wJ (pe_GA xs) wY0 M2 (d2 + 1) t_M_output ((pe_at t_M_output.bl 0).getD (0, [])).2 [(0, (2, 237)), (1, (0, k))] [] Z (fun o2 S2 => (∃ v : Int, o1 = .inl (some (0, v)) ∧ o2 = .inl (some (0, v))) ∧ RM xs (m9 + 1) S2)) := by
  obtain ⟨p, q, b, b2, pm, X, HT, nt, cs, ms, os, mo, fa, A, hp, hA, ⟨⟨k1, ⟨k2, k3, k4, k5⟩, k6⟩, k7⟩, ⟨hC, hr⟩, hw, hT, ⟨hX, hX2⟩, hv, -⟩ := id h
  obtain ⟨c1, c2, c3, c4⟩ := hC.2.2.2.2.2.1.1
  obtain ⟨d1, d2', d3⟩ := hr.2.2.2.2.2.1.1
  refine wJ_mono (xou (l := a_O A) c1 (by omega) (by omega) c2 hk) (fun o1 Z hz => ?_)
  obtain ⟨rfl, rfl⟩ := hz
  intro M2 d2
  exact wJ_mono (mou (l := a_O A) hA.2.2.1 d1 (by omega) d2' hk) (fun o2 S2 hz => ⟨⟨_, rfl, hz.2⟩, by rw [← hz.1]; exact RM_t h hm⟩)
theorem kc21 {M : Nat → Prop} {k : Int} (h : RM xs m9 S) (hm : m9 < 512) (hk : -2147483648 ≤ k ∧ k ≤ 2147483647) : wJ (pe_GA xs) wY0 M (d) t_X_trace ((pe_at t_X_trace.bl 0).getD (0, [])).2 [(0, (2, 0)), (1, (0, k))] [] S (fun o1 Z => ∀ (M2 : Nat → Prop) (d2 : Nat), wJ (pe_GA xs) wY0 M2 (d2 + 1) t_M_trace ((pe_at t_M_trace.bl 0).getD (0, [])).2 [(0, (2, 237)), (1, (0, k))] [] Z (fun o2 S2 => (∃ v : Int, o1 = .inl (some (0, v)) ∧ o2 = .inl (some (0, v))) ∧ RM xs (m9 + 1) S2)) := by
  obtain ⟨p, q, b, b2, pm, X, HT, nt, cs, ms, os, mo, fa, A, hp, hA, ⟨⟨k1, ⟨k2, k3, k4, k5⟩, k6⟩, k7⟩, ⟨hC, hr⟩, hw, hT, ⟨hX, hX2⟩, hv, -⟩ := id h
  obtain ⟨c1, c2, c3, c4⟩ := hC.2.2.2.2.2.1.2
  obtain ⟨d1, d2', d3⟩ := hr.2.2.2.2.2.1.2
  refine wJ_mono (xtr (l := a_R A) c1 c3.1 (by omega) c2 hk) (fun o1 Z hz => ?_)
  obtain ⟨rfl, rfl⟩ := hz
  intro M2 d2
  exact wJ_mono (mtr (l := a_R A) hA.2.2.1 d1 d3 d2' hk) (fun o2 S2 hz => ⟨⟨_, rfl, hz.2⟩, by rw [← hz.1]; exact RM_t h hm⟩)
end Wmw
