/-! PART ng: calls that may throw: property, global. -/
section Wng
variable {xs : List (Nat × List Int32)} {d : Nat} {S0 S Z : wS} {p w m : Nat} {HT : Int → Int} {cs : List hCR} {ms : List hMR} {os : Int → List Int} {X : List (List Int)} {mo t n B B2 oq : Int} {fa : Int → Int} {WE : aA → Prop} {A A2 : aA} {K2 : aK} {ml : List Nat} {k c s kd nms ne ec bh nm en : Int} {b ba : Nat} {ar : List aV} {e : aE} {V Z2 Y : wS} {o : wO} {dn : Int} {H2 : List aH} {N2 : List (List Int)} {E2 : Int → List aE} {C2 : List aQ} {W2 : Int} {c2 : Int → Int} {k2 : Int → Int → Int} {mk rk : Nat → Int → Prop} {K : aK} {T : List aO} {H : List aH} {E : Int → List aE} {gk gb es lo hi a : Int} {r : List aE × Int × Option aE} {A1 : aA} {tl cl : List Int} {sl : Nat → List Int} {L : List aC} {G : Int → aV} {u : aV} {x : List Int} {T2 : List aO} {L2 : List aC} {G2 : Int → aV} {H2 : List aH} {c2 : Int → Int} {y : Int} {Q : wO → wS → Prop} {ps : List (Int × aV)} {k hd wh : Int} {f a9 pn fn md : Int} {vn m9 : Nat} {th : aV} {g : Int} {lp : List aV} {l ds fo g : Int} {mk : Nat → Int → Prop} {C2 : List aQ} {W2 : Int} {RZ : wS → Prop} {N3 : Nat} {SB : wS} {r r0 : Int} {sh : Int} {K9 : aK} {nt : Int} {R2 : List Int} {S2 : Int → aV} {wh en9 : Int} {q b2 pm m9 : Nat} {N : List (List Int)} {K0 K1 : aK}
theorem gDnq {l : List (Int × aV)} (i : Nat) : l.getD i (0, (0, 0, [])) = (0, (0, 0, [])) ∨ l.getD i (0, (0, 0, [])) ∈ l := by
  by_cases c : i < l.length
  · refine Or.inr ?_
    rw [List.getD_eq_getElem?_getD, List.getElem?_eq_getElem c]
    exact List.getElem_mem c
  · refine Or.inl ?_
    rw [List.getD_eq_getElem?_getD, List.getElem?_eq_none (by omega)]
    rfl
theorem tO_c {T : List aO} (k : Int) : (tO T k).2.2.2.2.2.2 = [] ∨ ((0 ≤ k ∧ k < (T.length : Int)) ∧ tO T k ∈ T) ∨ (k < 0 ∧ tO T k ∈ T) := by
  unfold tO
  by_cases c : k.toNat < T.length
  · have m : T.getD k.toNat (0, 0, 0, 0, 0, 0, []) ∈ T := by
      rw [List.getD_eq_getElem?_getD, List.getElem?_eq_getElem c]
      exact List.getElem_mem c
    by_cases c0 : 0 ≤ k
    · exact Or.inr (Or.inl ⟨⟨c0, by omega⟩, m⟩)
    · exact Or.inr (Or.inr ⟨by omega, m⟩)
  · refine Or.inl ?_
    rw [List.getD_eq_getElem?_getD, List.getElem?_eq_none (by omega)]
    rfl
theorem gm_c : ∀ (l : List (Int × aV)) (i : Nat), (l.map (fun x => x.2)).getD i (0, 0, []) = (l.getD i (0, (0, 0, []))).2
  | [], _ => rfl
  | _ :: _, 0 => rfl
  | _ :: l, i + 1 => by
    have z := gm_c l i
    simpa using z
/-- properties: their names and kinds -/
theorem py_r (hw : wfA S0 fa ms n WE B A) (k i : Int) : (-1 ≤ ((tO (a_T A) k).2.2.2.2.2.2.getD i.toNat (0, (0, 0, []))).1 ∧ ((tO (a_T A) k).2.2.2.2.2.2.getD i.toNat (0, (0, 0, []))).1 ≤ 100000) ∧ (-128 ≤ ((tO (a_T A) k).2.2.2.2.2.2.getD i.toNat (0, (0, 0, []))).2.1 ∧ ((tO (a_T A) k).2.2.2.2.2.2.getD i.toNat (0, (0, 0, []))).2.1 ≤ 127) ∧ (((tO (a_T A) k).2.2.2.2.2.2.getD i.toNat (0, (0, 0, []))).2.1 = 0 → ((tO (a_T A) k).2.2.2.2.2.2.getD i.toNat (0, (0, 0, []))).2.2.1 = 0) := by
  rcases gDnq (l := (tO (a_T A) k).2.2.2.2.2.2) i.toNat with e | e
  · rw [e]
    exact ⟨⟨by decide, by decide⟩, ⟨by decide, by decide⟩, fun _ => rfl⟩
  · have hm : tO (a_T A) k ∈ a_T A := by
      rcases tO_c (T := a_T A) k with c | c | c
      · rw [c] at e
        exact absurd e List.not_mem_nil
      · exact c.2
      · exact c.2
    have v := (hw.2.2.1.2.1 _ hm _ e).1
    refine ⟨?_, by have := v.1; omega, v.2.2.2.2.1⟩
    obtain ⟨q, hq, hqe⟩ := List.mem_iff_getElem.mp hm
    have hqq : tO (a_T A) (q : Int) = tO (a_T A) k := by
      rw [← hqe]
      unfold tO
      rw [List.getD_eq_getElem?_getD, show ((q : Int)).toNat = q by omega, List.getElem?_eq_getElem hq]
      rfl
    have ws := hw.2.1
    have w1 := ws.2.2.1 q hq
    have hte : (a_T A).getD q (0, 0, 0, 0, 0, 0, []) = tO (a_T A) k := by
      rw [← hqe, List.getD_eq_getElem?_getD, List.getElem?_eq_getElem hq]
      rfl
    rw [hte] at w1
    rcases (show ((tO (a_T A) k).1 = 4 ∨ (tO (a_T A) k).1 = 5) ∨ ((tO (a_T A) k).1 = 6 ∨ (tO (a_T A) k).1 = 7) by have := w1.1; omega) with c | c
    · have hO : isO (a_T A) (q : Int) := ⟨⟨by omega, by omega⟩, by rw [hqq]; exact c⟩
      have z := (ws.2.2.2.1 _ hO).1
      rw [hqq] at z
      have hs := w1.2.1 c
      have hmm : ((tO (a_T A) k).2.2.2.2.2.2.getD i.toNat (0, (0, 0, []))).1 ∈ aNs (a_H A) (tO (a_T A) k).2.1 := by
        rw [← z]
        exact List.mem_map.mpr ⟨_, e, rfl⟩
      have a1 := (nDs_H ws.1 ws.2.1 _ _ hs.1 hs.2 rfl).2 _ hmm
      have a2 := nNb _ _ ws.1 (fun s s0 s1 => by have := hw.2.2.2.2.2.1.2.1 s s0 s1; have := hw.2.2.2.2.2.1.1.1; omega) hs.1 hs.2 rfl _ hmm
      exact ⟨by omega, a2⟩
    · have z := ws.2.2.2.2.1 (q : Int) (by omega) (by omega) (by rw [hqq]; exact c)
      rw [hqq] at z
      rw [z _ e]
      exact ⟨by decide, by decide⟩
theorem kc18 {M : Nat → Prop} {k i wh : Int} (h : RM xs m9 S) (hm : m9 < 512) (hk : -2147483648 ≤ k ∧ k ≤ 2147483647) (hi : -2147483648 ≤ i ∧ i ≤ 2147483647) (hwh : -2147483648 ≤ wh ∧ wh ≤ 2147483647) : wJ (pe_GA xs) wY0 M (d + 8) t_LL_property ((pe_at t_LL_property.bl 0).getD (0, [])).2 [(0, (2, 0)), (1, (0, k)), (2, (0, i)), (3, (0, wh)), (4, (2, ((1000001 : Nat) : Int)))] [] S (fun o1 Z => ∀ (M2 : Nat → Prop) (d2 : Nat), wJ (pe_GA xs) wY0 M2 (d2 + 1) t_M_property ((pe_at t_M_property.bl 0).getD (0, [])).2 [(0, (2, 237)), (1, (0, k)), (2, (0, i)), (3, (0, wh))] [] Z (fun o2 S2 => (∃ c v : Int, o1 = .inl (some (0, c)) ∧ o2 = .inl (some (1, v)) ∧ S2 237 0 = c ∧ (c = 0 → S2 1000001 0 = v)) ∧ RM xs (m9 + 1) S2)) := by
  obtain ⟨p, q, b, b2, pm, X, HT, nt, cs, ms, os, mo, fa, A, hp, hA, ⟨⟨k1, ⟨k2, k3, k4, k5⟩, k6⟩, k7⟩, ⟨hC, hr⟩, hw, hT, ⟨hX, hX2⟩, hv, -⟩ := id h
  have ho := RM_o h
  refine wJ_E (fun hE => ?_)
  have hl : kLn (a_K A 0) ∧ kLn (a_K A 1) := ⟨hw.1.1.1, hw.1.2.1⟩
  have h21 : S 2 1 ≤ 10000000 := by have := hC.2.2.2.1.2.2.1; omega
  have hT8 : ((a_T A).length : Int) ≤ 8000 := by have := hw.2.2.2.2.1.1; omega
  have pr := fun (k i : Int) => py_r hw k i
  have rng : pyO (a_T A) k i wh → -9223372036854775808 ≤ pyV (a_T A) k i wh ∧ pyV (a_T A) k i wh ≤ 9223372036854775807 := fun e => by
    unfold pyV
    by_cases c : wh = 2
    · rw [if_pos c]
      have := (pr k i).1
      omega
    · rw [if_neg c]
      obtain ⟨k0, k1⟩ := e.1
      have hi9 : 0 ≤ i ∧ i < (((a_T A).getD k.toNat (0, 0, 0, 0, 0, 0, [])).2.2.2.2.2.2.length : Int) := e.2.2
      obtain ⟨-, ⟨c1, c2, c4, c5⟩, c3⟩ := hC.2.2.1.1.1.2 k.toNat (by omega)
      obtain ⟨-, l2, l3, -⟩ := hC.2.2.1.1.2.2.2.1
      have hil : i.toNat < (tO (a_T A) k).2.2.2.2.2.2.length := by have := e.2.2; omega
      have z := c3 i.toNat (by rw [List.length_map]; omega)
      rw [gm_c] at z
      have hm : tO (a_T A) k ∈ a_T A := by
        rcases tO_c (T := a_T A) k with c | c | c
        · have hi8 := e.2.2
          rw [c] at hi8
          exact absurd hi8.2 (by rw [List.length_nil]; omega)
        · exact c.2
        · exact c.2
      have hm2 : ((tO (a_T A) k).2.2.2.2.2.2.getD i.toNat (0, (0, 0, []))) ∈ (tO (a_T A) k).2.2.2.2.2.2 := by
        rw [List.getD_eq_getElem?_getD, List.getElem?_eq_getElem hil]
        exact List.getElem_mem _
      exact td_r z (lr_E hE ⟨Or.inl (by first | decide | omega), by decide⟩ rfl (by omega) (by omega)) (hw.2.2.1.2.1 _ hm _ hm2)
  have key : ∀ Z : wS, zO S Z → ∀ (M2 : Nat → Prop) (d2 : Nat), wJ (pe_GA xs) wY0 M2 (d2 + 1) t_M_property ((pe_at t_M_property.bl 0).getD (0, [])).2 [(0, (2, 237)), (1, (0, k)), (2, (0, i)), (3, (0, wh))] [] Z (fun o Y => (¬ pyO (a_T A) k i wh ∧ w_up Z 237 0 1 = Y ∧ o = .inl (some (1, 0))) ∨ (pyO (a_T A) k i wh ∧ w_up Z 237 0 0 = Y ∧ o = .inl (some (1, pyV (a_T A) k i wh)))) := fun Z hz M2 d2 => by
    have hrZ := rRel_o hr hl hz
    obtain ⟨⟨sl, hW⟩, hH⟩ := hrZ.2.2.1
    have c63 : Z 237 63 = a_c A 1 := hrZ.2.2.2.2.2.2.2.1.1 1 (by first | decide | omega)
    have h82 := hrZ.2.2.2.2.2.2.2.1.2.2.2.2.2
    have c1 := hw.2.2.2.2.1.2.1
    refine mpy (sl := sl) hrZ.1 hW hT8 (by omega) (fun q hq => ?_) (fun k i => (pr k i).2.2) hrZ.2.2.2.1.2.2.1.1.2 hrZ.2.2.2.1.2.2.1.2.1.2 (fun k i => (pr k i).2.1) (fun k i => (pr k i).1) hk hi hwh
    rw [(hW.1.2 q hq).2.1.2]
    have := c1.2.2 ((a_T A).getD q (0, 0, 0, 0, 0, 0, [])) (by
      rw [List.getD_eq_getElem?_getD, List.getElem?_eq_getElem hq]
      exact List.getElem_mem hq)
    omega
  refine ll_property (M2 := fun _ => False) (o := 1000001) ⟨Or.inr (by rw [ho]; decide), by unfold wG; decide⟩ wt_out (xpy (d := d) hC.1.2.1 hC.1.1 hC.2.2.1.1 hC.2.2.1.2.1 hw.2.1 h21 (by omega) (fun k i => (pr k i).1) (fun k i => (pr k i).2.1) hk hi hwh) (fun _ _ q => False.elim q) id id (fun o1 Z hz => ?_)
  rcases hz with ⟨n, x⟩ | ⟨n, rfl, rfl⟩
  · obtain ⟨v, rfl, -, -, -, ty, pr⟩ := id x
    refine Or.inr ⟨v, rfl, ty, pr, fun M2 d2 => wJ_mono (key Z (zO_n x) M2 d2) (fun o2 S2 z => ?_)⟩
    rcases z with ⟨-, rfl, rfl⟩ | ⟨c, -⟩
    · exact ⟨⟨1, 0, rfl, rfl, w_up_same _ _ _ _, fun z => absurd z (by first | decide | omega)⟩, RM_w h hm (zO_n x)⟩
    · exact absurd c n
  · refine Or.inl ⟨_, rfl, rng n, ho, fun M2 d2 => wJ_mono (key _ (zO_u hC.1.2.1) M2 d2) (fun o2 S2 z => ?_)⟩
    rcases z with ⟨c, -⟩ | ⟨-, rfl, rfl⟩
    · exact absurd n c
    · exact ⟨⟨0, _, rfl, rfl, w_up_same _ _ _ _, fun _ => (w_up_slot (by first | decide | omega)).trans (w_up_same _ _ _ _)⟩, RM_w h hm (zO_u hC.1.2.1)⟩
end Wng
