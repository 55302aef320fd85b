/-! PART nh: start. -/
section Wnh
variable {Sb : wS} {xs : List (Nat × List Int32)} {d : Nat} {S0 S Z : wS} {p w m : Nat} {HT : Int → Int} {cs : List hCR} {ms : List hMR} {os : Int → List Int} {X : List (List Int)} {mo t n B B2 oq : Int} {fa : Int → Int} {WE : aA → Prop} {A A2 : aA} {K2 : aK} {ml : List Nat} {k c s kd nms ne ec bh nm en : Int} {b ba : Nat} {ar : List aV} {e : aE} {V Z2 Y : wS} {o : wO} {dn : Int} {H2 : List aH} {N2 : List (List Int)} {E2 : Int → List aE} {C2 : List aQ} {W2 : Int} {c2 : Int → Int} {k2 : Int → Int → Int} {mk rk : Nat → Int → Prop} {K : aK} {T : List aO} {H : List aH} {E : Int → List aE} {gk gb es lo hi a : Int} {r : List aE × Int × Option aE} {A1 : aA} {tl cl : List Int} {sl : Nat → List Int} {L : List aC} {G : Int → aV} {u : aV} {x : List Int} {T2 : List aO} {L2 : List aC} {G2 : Int → aV} {H2 : List aH} {c2 : Int → Int} {y : Int} {Q : wO → wS → Prop} {ps : List (Int × aV)} {k hd wh : Int} {f a9 pn fn md : Int} {vn m9 : Nat} {th : aV} {g : Int} {lp : List aV} {l ds fo g : Int} {mk : Nat → Int → Prop} {C2 : List aQ} {W2 : Int} {RZ : wS → Prop} {N3 : Nat} {SB : wS} {r r0 : Int} {sh : Int} {K9 : aK} {nt : Int} {R2 : List Int} {S2 : Int → aV} {wh en9 : Int} {q b2 pm m9 : Nat} {N : List (List Int)}
theorem cSta_h {j : Nat} {x : Int} (h : 237 ≤ j ∧ j < 4000000 ∧ j ≠ wG) : cSta p j x := Or.inr (Or.inr (Or.inr (Or.inr (Or.inr (Or.inr (Or.inr (Or.inr (Or.inr (Or.inr (Or.inr (Or.inr (Or.inr (h)))))))))))))
theorem kc11 {k wh : Int} (h : RM xs m9 S) (hm : m9 < 512) (hk : -2147483648 ≤ k ∧ k ≤ 2147483647) (hwh : -2147483648 ≤ wh ∧ wh ≤ 2147483647) : wJ (pe_GA xs) wY0 (mS [138, 139, 141, 142]) (d + 6) t_X_start ((pe_at t_X_start.bl 0).getD (0, [])).2 [(0, (2, 0)), (1, (0, k)), (2, (0, wh))] [] S (fun o1 Z => ∀ d2 : Nat, wJ (pe_GA xs) wY0 (fun _ => False) (d2 + 3) t_M_start ((pe_at t_M_start.bl 0).getD (0, [])).2 [(0, (2, 237)), (1, (0, k)), (2, (0, wh))] [] Z (fun o2 S2 => (∃ v : Int, o1 = .inl (some (0, v)) ∧ o2 = .inl (some (0, v))) ∧ RM xs (m9 + 1) S2)) := by
  obtain ⟨p, q, b, b2, pm, X, HT, nt, cs, ms, os, mo, fa, A, hp, hA, ⟨⟨k1, ⟨k2, k3, k4, k5⟩, k6⟩, k7⟩, ⟨hC, hr⟩, hw, hT, ⟨hX, hX2⟩, hv, hV, -⟩ := id h
  have hpp := RMp_p hp
  have h33 := k6.2.1
  have h34 := k6.1
  have hfu : ∀ u : Int, 0 ≤ u → u < S 237 33 → (S 30 u = S 294 u ∧ 0 ≤ S 294 u ∧ S 294 u < S 237 34) ∧ fa (S 294 u) = -1 ∧ S 296 (S 294 u) = 0 := fun u u0 u1 => by
    have a := k6.2.2.2.2.2.1 u u0 u1
    have b := k7.2 u u0 u1
    have c := (k7.1 (S 294 u) a.2.1 a.2.2).2.1
    exact ⟨a, b, by omega⟩
  have uu := (cR_u hC).1
  have c0 : S 237 62 = a_c A 0 := hr.2.2.2.2.2.2.2.1.1 0 (by first | decide | omega)
  have ts : 0 ≤ k → k < 2 → S 357 k = (tkq (a_K A 0) (a_K A 1) k).2.2.2.1 := fun a b => by
    unfold tkq
    by_cases c : k = 0
    · rw [if_pos c, c]
      exact hr.2.1.1.2.2.2.1
    · rw [if_neg c, show k = 1 by omega]
      exact hr.2.1.2.2.2.2.1
  refine wJ_mono (bg_c hC hw hpp.1 hT.1.2.1 hA.1.2.2.2.2.2.2.1 (by omega) hk hwh) (fun o1 Z hz d2 => ?_)
  rcases hz with ⟨n1, rfl, rfl⟩ | ⟨n1, rfl, t01, hc2, w2, hw2, hf⟩
  · refine wJ_mono (bg_rr hr hw h33.2 (fun u u0 u1 => ⟨⟨(hfu u u0 u1).1.2.1, by have := (hfu u u0 u1).1.2.2; omega⟩, (hfu u u0 u1).2.2⟩) hk hwh) (fun o2 S2 hz => ?_)
    rcases hz with ⟨-, rfl, rfl⟩ | ⟨c, -⟩
    · exact ⟨⟨0, rfl, rfl⟩, RM_t h hm⟩
    · exact absurd ⟨⟨c.1.1, c.1.2.1, c.1.2.2.1, by omega⟩, by rw [← ts c.1.1 c.1.2.1]; exact c.2.1, by omega⟩ n1
  · have zs := hc2.2.2.2.2.2.2.2.2
    have zr : ∀ (j : Nat) (x : Int), 237 ≤ j → j < 400 → Z j x = S j x := fun j x j0 j1 => zs j x (cSta_h ⟨by omega, by omega, by unfold wG; omega⟩)
    have hl : kLn (a_K A 0) ∧ kLn (a_K A 1) := ⟨hw.1.1.1, hw.1.2.1⟩
    have hMZ : w_ML Z := fun y hy => (zr y.1 (-1) (by have := (wy_lt y hy).1; omega) (by have := (ML_t y hy).2; omega)).trans (hA.2.2.1 y hy)
    have hrZ : rRel Z Z HT cs ms os X mo A Z := rRel_z hr hl (fun j x j0 j1 _ => zr j x j0 (by omega)) hMZ (fun _ _ _ => rfl)
    refine wJ_mono (bg_rr hrZ hw (by rw [zr 237 33 (by first | decide | omega) (by first | decide | omega)]; exact h33.2) (fun u u0 u1 => ?_) hk hwh) (fun o2 S2 hz => ?_)
    · rw [zr 237 33 (by first | decide | omega) (by first | decide | omega)] at u1
      rw [zr 294 u (by first | decide | omega) (by first | decide | omega), zr 296 _ (by first | decide | omega) (by first | decide | omega)]
      exact ⟨⟨(hfu u u0 u1).1.2.1, by have := (hfu u u0 u1).1.2.2; omega⟩, (hfu u u0 u1).2.2⟩
    · have hu2 := hfu wh n1.1.2.2.1 (by have := n1.1.2.2.2; omega)
      rcases hz with ⟨c, -⟩ | ⟨-, rfl, hrr, hfr⟩
      · rw [zr 237 33 (by first | decide | omega) (by first | decide | omega), zr 357 k (by first | decide | omega) (by first | decide | omega), zr 237 62 (by first | decide | omega) (by first | decide | omega), ts n1.1.1 n1.1.2.1] at c
        exact absurd ⟨⟨n1.1.1, n1.1.2.1, n1.1.2.2.1, by have := n1.1.2.2.2; omega⟩, n1.2.1, by have := n1.2.2; omega⟩ c
      · rw [hu2.1.1] at hc2
        rw [zr 294 wh (by first | decide | omega) (by first | decide | omega)] at hrr
        have hwt : isWt (if k = 0 then 215 else 226) k := by
          rcases t01 with e | e
          · exact Or.inl ⟨if_pos e, e⟩
          · exact Or.inr ⟨if_neg (by omega), e⟩
        have g1 : ∀ (j : Nat) (x : Int), (j < 237 ∨ j = 238 ∧ x < 5 ∨ (239 ≤ j ∧ j ≤ 313) ∨ (j = 237 ∧ 1 ≤ x ∧ x ≤ 61) ∨ 376 = j ∨ 387 ≤ j) → S2 j x = Z j x := fun j x hj => hfr j x (by unfold rOut; omega) (by unfold rMc; omega) (by omega)
        have gc : ∀ (j : Nat) (x : Int), j < 215 → ¬ cMc j x → Z j x = S j x := fun j x j0 j1 => hf.1 j x (by omega) (by unfold wG; omega) (by omega) j1
        have hg : wG = 1000000 := rfl
        have w9 : rRel S2 S2 HT cs ms os X mo (u_W A k (kBg (S 294 wh) ((a_L A).length : Int) (a_K A k).2.2.2.2) (a_T A) (a_L A ++ [(-1, [])]) (a_G A) (a_H A) (fUp (a_c A) 0 (a_c A 0 + 1))) S2 := rRel_s hrr.1
        have w8 : cRel S2 p HT cs ms os X mo (u_W A k (kBg (S 294 wh) ((a_L A).length : Int) (a_K A k).2.2.2.2) (a_T A) (a_L A ++ [(-1, [])]) (a_G A) (a_H A) (fUp (a_c A) 0 (a_c A 0 + 1))) S2 := cRel_z0 hc2 hpp.1 (fun j x hj => g1 j x (Or.inl hj)) (gI_ag2 hc2.1.2.1 (fun j hj => g1 j (-1) (by omega)) (fun x hx => g1 238 x (by omega)) (g1 14 5 (by omega)))
        have w7 : rmR S S2 := rmR_ag hc2.1.2.2 (fun j hj => g1 j (-1) (by omega)) (g1 wG 0 (by omega)) (g1 wG 1 (by omega))
        have w6 : wfA S fa ms (cs.length : Int) (WEs S HT cs ms os) (1000 * (m9 : Int)) (u_W A k (kBg (S 294 wh) ((a_L A).length : Int) (a_K A k).2.2.2.2) (a_T A) (a_L A ++ [(-1, [])]) (a_G A) (a_H A) (fUp (a_c A) 0 (a_c A 0 + 1))) := wf_bg hw WEs_w hwt hu2.1.2 (k7.1 _ hu2.1.2.1 hu2.1.2.2).1 hu2.2.1 hu2.2.2 (by omega)
        have w5 : oL q S2 := ⟨(g1 1000001 (-1) (by omega)).trans ((zs 1000001 (-1) (cSta_h ⟨by decide, by decide, by unfold wG; decide⟩)).trans (RM_o h)), kL_ag (RM_k h hA.2.1.2.1) (fun j j0 j1 => (g1 j (-1) (by have := RMq hp; omega)).trans (zs j (-1) (cSta_q hp ⟨j0, j1⟩)))⟩
        have v1 : ∀ j : Nat, bgD j → S2 j = S j := fun j hj => funext fun x => by
          unfold bgD at hj
          rw [g1 j x (by omega)]
          exact gc j x hj.1 (by unfold cMc; omega)
        have v2 : S2 72 1 = S 72 1 ∧ S2 150 5 = S 150 5 := ⟨by
          rw [g1 72 1 (by omega)]
          exact gc 72 1 (by first | decide | omega) (by unfold cMc; omega), by
          rw [g1 150 5 (by omega)]
          exact gc 150 5 (by first | decide | omega) (by unfold cMc; omega)⟩
        have v3 : ∀ (j : Nat) (x : Int), (239 ≤ j ∧ j ≤ 313) ∨ (j = 237 ∧ 1 ≤ x ∧ x ≤ 61) ∨ (2000000 ≤ j ∧ j < 4000000) ∨ j = 376 → S2 j x = S j x := fun j x hj => by
          rw [g1 j x (by omega)]
          exact zs j x (cSta_h ⟨by omega, by omega, by unfold wG; omega⟩)
        have u7 : pV S2 ≤ pV S := by
          rw [pV_ag (g1 2 1 (by omega)) (g1 150 3 (by omega)) (g1 2 10 (by omega)) (g1 2 7 (by omega))]
          exact (cPl_s hc2.2.2.2.2.2.2.2.1.2.1.2 (pV_ge S) (hc2.2.2.2.2.2.2.2.1.1 3 (by decide)) (cNt_10 hc2.2.2.2.1)).2
        have u9 : 133 ≤ pV S2 ∧ pV S2 + S 0 1 ≤ 133 + 16 * (m9 : Int) := ⟨pV_ge S2, by have := hv.2; omega⟩
        have u8 : a_N (u_W A k (kBg (S 294 wh) ((a_L A).length : Int) (a_K A k).2.2.2.2) (a_T A) (a_L A ++ [(-1, [])]) (a_G A) (a_H A) (fUp (a_c A) 0 (a_c A 0 + 1))) = a_N A := rfl
        exact ⟨⟨1, rfl, rfl⟩, RM_b hm hp hA ⟨⟨k1, ⟨k2, k3, k4, k5⟩, k6⟩, k7⟩ hT ⟨hX, hX2⟩ u9 u8 w8 w9 w6 hV w7 w5 v1 v2 v3⟩
end Wnh
