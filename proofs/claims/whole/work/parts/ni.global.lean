/-! PART ni: global, as the law makes it. -/
section Wni
variable {Sb : wS} {xs : List (Nat × List Int32)} {d : Nat} {S0 S Z : wS} {p w m : Nat} {HT : Int → Int} {cs : List hCR} {ms : List hMR} {os : Int → List Int} {X : List (List Int)} {mo t n B B2 oq : Int} {fa : Int → Int} {WE : aA → Prop} {A A2 : aA} {K2 : aK} {ml : List Nat} {k c s kd nms ne ec bh nm en : Int} {b ba : Nat} {ar : List aV} {e : aE} {V Z2 Y : wS} {o : wO} {dn : Int} {H2 : List aH} {N2 : List (List Int)} {E2 : Int → List aE} {C2 : List aQ} {W2 : Int} {c2 : Int → Int} {k2 : Int → Int → Int} {mk rk : Nat → Int → Prop} {K : aK} {T : List aO} {H : List aH} {E : Int → List aE} {gk gb es lo hi a : Int} {r : List aE × Int × Option aE} {A1 : aA} {tl cl : List Int} {sl : Nat → List Int} {L : List aC} {G : Int → aV} {u : aV} {x : List Int} {T2 : List aO} {L2 : List aC} {G2 : Int → aV} {H2 : List aH} {c2 : Int → Int} {y : Int} {Q : wO → wS → Prop} {ps : List (Int × aV)} {k hd wh : Int} {f a9 pn fn md : Int} {vn m9 : Nat} {th : aV} {g : Int} {lp : List aV} {l ds fo g : Int} {mk : Nat → Int → Prop} {C2 : List aQ} {W2 : Int} {RZ : wS → Prop} {N3 : Nat} {SB : wS} {r r0 : Int} {sh : Int} {K9 : aK} {nt : Int} {R2 : List Int} {S2 : Int → aV} {wh en9 : Int} {q b2 pm m9 t0 m0 ob : Nat} {N : List (List Int)} {K0 K1 : aK}
/-- the tape is empty -/
theorem RA_g (h : RA t0 m0 ob p q b b2 S) (hp : 18 < p ∧ p < 237 ∧ 18 < q) (hb : 239 < b ∧ b + 19 < 400 ∧ 18 < t0 ∧ t0 + 4 < 237 ∧ 18 < m0 ∧ m0 + 14 < 237 ∧ 18 < ob ∧ ob < 237) (fl : ∀ (j : Nat) (x : Int), j < 237 → (j ≠ 0 ∨ x ≠ 1) → Z j x = S j x) (fr : ∀ (j : Nat) (x : Int), 237 ≤ j → j < 400 → (j ≠ 237 ∨ (x ≠ 0 ∧ x ≠ 3)) → Z j x = S j x) (h0 : Z 0 1 = 0) (h3 : Z 237 3 = 0) (hI : gI Z) : RA t0 m0 ob p q b b2 Z := by
  obtain ⟨⟨k1, k2, k3, k4, k5, k6, k7, k8, k9, k10, k11⟩, r2, r3, ⟨r4, r5⟩, r6, r7, r8⟩ := h
  have e : ∀ j : Nat, 1 ≤ j → j < 237 → Z j = S j := fun j a c => funext fun x => fl j x c (Or.inl (by omega))
  refine ⟨⟨fun q hq => (fl q.1 (-1) (wz_237 q hq) (Or.inr (by first | decide | omega))).trans (k1 q hq), hI, w2_ag k3 (fun x hx => e _ (by omega) (by omega)), hi_ag k4 (fun x hx => e _ (by omega) (by omega)) (congrFun (e 117 (by first | decide | omega) (by first | decide | omega)) _) (congrFun (e 118 (by first | decide | omega) (by first | decide | omega)) _), hi_ag k5 (fun x hx => e _ (by omega) (by omega)) (congrFun (e 206 (by first | decide | omega) (by first | decide | omega)) _) (congrFun (e 207 (by first | decide | omega) (by first | decide | omega)) _), ?_, ?_, ?_, ?_, ?_, ?_⟩, ?_, fun y hy => (fr y.1 (-1) (by have := (wy_lt y hy).1; omega) (by have := (wy_lt y hy).2; omega) (Or.inr (by first | decide | omega))).trans (r3 y hy), ⟨(fr 237 13 (by first | decide | omega) (by first | decide | omega) (by first | decide | omega)).trans r4, (fr 237 14 (by first | decide | omega) (by first | decide | omega) (by first | decide | omega)).trans r5⟩, h0.trans h3.symm, fun i i0 i1 => by omega, KQ_ag (lo := 18) (hi := 236) r8 (fun j j0 j1 => e j (by omega) (by omega)) (fun j j0 j1 => funext fun x => fr j x (by omega) (by omega) (by omega)) (by omega)⟩
  · unfold hs_R
    rw [e 15 (by first | decide | omega) (by first | decide | omega), e 16 (by first | decide | omega) (by first | decide | omega), e 17 (by first | decide | omega) (by first | decide | omega)]
    exact k6
  · rw [e 161 (by first | decide | omega) (by first | decide | omega)]
    exact k7
  · rw [h0, e 1 (by first | decide | omega) (by first | decide | omega)]
    exact ⟨by decide, by decide, by omega, k8.2.2.2⟩
  · intro i i0 i1
    omega
  · rw [e 48 (by first | decide | omega) (by first | decide | omega)]
    exact k10
  · rw [e 144 (by first | decide | omega) (by first | decide | omega), e 145 (by first | decide | omega) (by first | decide | omega), e 146 (by first | decide | omega) (by first | decide | omega), e 147 (by first | decide | omega) (by first | decide | omega), e 148 (by first | decide | omega) (by first | decide | omega)]
    exact k11
  · unfold cH at r2 ⊢
    rw [e 72 (by first | decide | omega) (by first | decide | omega), e 150 (by first | decide | omega) (by first | decide | omega), e p (by omega) (by omega), fl 0 10 (by first | decide | omega) (Or.inr (by first | decide | omega))]
    exact r2
def zGq (S Z : wS) : Prop := (∀ (j : Nat) (x : Int), j < 4000000 → j ≠ wG → (j ≠ 1000001 ∨ x < 0) → (j ≠ 0 ∨ x ≠ 1) → Z j x = S j x) ∧ Z 0 1 = 0 ∧ gI Z ∧ rmR6 S Z
theorem zGq_o (h : zO (w_up S 0 1 0) Z) : zGq S Z := by
  have e : gl (w_up S 0 1 0) = gl S := gl_same gl_l (fun a ha => w_up_at (by first | decide | omega))
  have e0 : ∀ i : Int, w_up S 0 1 0 wG i = S wG i := fun i => w_up_slot (by unfold wG; decide)
  obtain ⟨f, hI, hR⟩ := h
  refine ⟨fun j x j0 j1 j2 j3 => (f j x j0 j1 j2).trans (w_up_no (by omega)), (f 0 1 (by first | decide | omega) (by unfold wG; decide) (Or.inl (by first | decide | omega))).trans (w_up_same _ _ _ _), hI, ?_⟩
  exact rm6_fr hR (fun k hk => (w_up_at (by first | decide | omega)).symm) (e0 0).symm (e0 1).symm
theorem RM_g {k : Int} (h : RM xs m9 S) (hm : m9 < 512) (hz : zGq S Z) : RM xs (m9 + 1) (w_up (w_up Z 237 3 0) 237 0 k) := by
  obtain ⟨p, q, b, b2, pm, X, HT, nt, cs, ms, os, mo, fa, A, hp, hA, ⟨⟨k1, ⟨k2, k3, k4, k5⟩, k6⟩, k7⟩, ⟨hC, hr⟩, hw, hT, ⟨hX, hX2⟩, hv, -⟩ := id h
  obtain ⟨f, h0, hI, hR⟩ := hz
  have hg : wG = 1000000 := rfl
  have e : gl (w_up (w_up Z 237 3 0) 237 0 k) = gl Z := gl_same gl_l (fun a ha => (w_up_at (by first | decide | omega)).trans (w_up_at (by first | decide | omega)))
  have e0 : ∀ i : Int, w_up (w_up Z 237 3 0) 237 0 k wG i = Z wG i := fun i => (w_up_slot (by rw [hg]; decide)).trans (w_up_slot (by rw [hg]; decide))
  have u : ∀ (j : Nat) (x : Int), (j ≠ 237 ∨ (x ≠ 0 ∧ x ≠ 3)) → w_up (w_up Z 237 3 0) 237 0 k j x = Z j x := fun j x hj => (w_up_no (by omega)).trans (w_up_no (by omega))
  have hI2 : gI (w_up (w_up Z 237 3 0) 237 0 k) := gI_up (gI_up hI (by first | decide | omega) (Or.inl (by first | decide | omega)) (Or.inl (Or.inl (by first | decide | omega)))) (by first | decide | omega) (Or.inl (by first | decide | omega)) (Or.inl (Or.inl (by first | decide | omega)))
  have h01 : w_up (w_up Z 237 3 0) 237 0 k 0 1 = 0 := (u 0 1 (Or.inl (by first | decide | omega))).trans h0
  have t0 := hA.1.2.2.2.2.2.2.2.1.1
  exact RM_f0 h hm (fun t0 m0 ob p q b b2 q1 q2 q3 => RA_g q3 q1 q2 (fun j x j0 j1 => (u j x (Or.inl (by omega))).trans (f j x (by omega) (by rw [hg]; omega) (Or.inl (by omega)) j1)) (fun j x j0 j1 j2 => (u j x j2).trans (f j x (by omega) (by rw [hg]; omega) (Or.inl (by omega)) (Or.inl (by omega)))) h01 ((w_up_no (by first | decide | omega)).trans (w_up_same _ _ _ _)) hI2) (fun j x a b c d e => (u j x e).trans (f j x a.2.1 b a.2.2 (Or.inl (by omega)))) (by rw [h01]; omega) hI2 (rm6_ag hR (fun j hj => u j (-1) (Or.inl (by omega))) (e0 0) (e0 1)) (fun _ u2 => by
    rw [u 1 (-1) (Or.inl (by decide)), f 1 (-1) (by omega) (by rw [hg]; omega) (Or.inl (by omega)) (Or.inl (by omega))]
    exact u2)
theorem kc16 {M : Nat → Prop} {wh : Int} (h : RM xs m9 S) (hm : m9 < 512) (hwh : -2147483648 ≤ wh ∧ wh ≤ 2147483647) : wJ (pe_GA xs) wY0 M (d + 8) t_LL_global ((pe_at t_LL_global.bl 0).getD (0, [])).2 [(0, (2, 0)), (1, (0, wh)), (2, (2, ((1000001 : Nat) : Int)))] [] S (fun o1 Z => ∀ (M2 : Nat → Prop) (d2 : Nat), wJ (pe_GA xs) wY0 M2 (d2 + 1) t_M_global ((pe_at t_M_global.bl 0).getD (0, [])).2 [(0, (2, 237)), (1, (0, wh))] [] Z (fun o2 S2 => (∃ c v : Int, o1 = .inl (some (0, c)) ∧ o2 = .inl (some (1, v)) ∧ S2 237 0 = c ∧ (c = 0 → S2 1000001 0 = v)) ∧ RM xs (m9 + 1) S2)) := by
  obtain ⟨p, q, b, b2, pm, X, HT, nt, cs, ms, os, mo, fa, A, hp, hA, ⟨⟨k1, ⟨k2, k3, k4, k5⟩, k6⟩, k7⟩, ⟨hC, hr⟩, hw, hT, ⟨hX, hX2⟩, hv, -⟩ := id h
  have ho := RM_o h
  refine wJ_E (fun hE => ?_)
  have hl : kLn (a_K A 0) ∧ kLn (a_K A 1) := ⟨hw.1.1.1, hw.1.2.1⟩
  have h21 : S 2 1 ≤ 10000000 := by have := hC.2.2.2.1.2.2.1; omega
  have w8 := hA.1.2.2.2.2.2.2.2.1
  have hvk : ∀ a : Int, -128 ≤ (a_G A a).1 ∧ (a_G A a).1 ≤ 127 := fun a => by
    by_cases c : (a_G A a).1 = -1
    · rw [c]
      exact ⟨by decide, by decide⟩
    · have := (hw.2.2.1.2.2.2.1 a c).1.1
      omega
  have hv0 : ∀ a : Int, (a_G A a).1 = 0 → (a_G A a).2.1 = 0 := fun a c => (hw.2.2.1.2.2.2.1 a (by omega)).1.2.2.2.2.1 c
  have esl : sl_ (S 1) 0 (S 0 1) = sl_ (S 239) 0 (S 0 1) := by
    refine (sl_eq w8.1).mpr ⟨by rw [sl_len]; omega, fun i hi => ?_⟩
    rw [sl_get _ _ _ (by omega)]
    exact hA.2.2.2.2.2.1 _ (by omega) (by omega)
  have rng : ¬ (ixL (a_N A) (sl_ (S 1) 0 (S 0 1)) = -1 ∨ (a_G A (ixL (a_N A) (sl_ (S 1) 0 (S 0 1)))).1 = -1) → -9223372036854775808 ≤ tdV (a_G A (ixL (a_N A) (sl_ (S 1) 0 (S 0 1)))) wh ∧ tdV (a_G A (ixL (a_N A) (sl_ (S 1) 0 (S 0 1)))) wh ≤ 9223372036854775807 := fun e => by
    have hlt := ixL_lt (fun z => e (Or.inl z))
    obtain ⟨⟨g1, g2, g3, g4, g5⟩, g6, g7⟩ := hC.2.2.1.1.2.2.2.2.2
    have hg := hw.2.2.1.2.2.2.1 _ (fun z => e (Or.inr z))
    by_cases c : (ixL (a_N A) (sl_ (S 1) 0 (S 0 1))) < S 153 2
    · exact td_r (g6 _ hlt.1 c) (lr_E hE ⟨Or.inl (by first | decide | omega), by decide⟩ rfl hlt.1 (by omega)) hg
    · exact absurd (by rw [g7 _ (by omega)]) (fun z => e (Or.inr z))
  have key : ∀ Z : wS, zGq S Z → ∀ (M2 : Nat → Prop) (d2 : Nat), wJ (pe_GA xs) wY0 M2 (d2 + 1) t_M_global ((pe_at t_M_global.bl 0).getD (0, [])).2 [(0, (2, 237)), (1, (0, wh))] [] Z (fun o Y => (¬ (0 ≤ wh ∧ wh ≤ 1) ∧ (w_up (w_up Z 237 3 0) 237 0 1) = Y ∧ o = .inl (some (1, 0))) ∨ ((0 ≤ wh ∧ wh ≤ 1) ∧ ((ixL (a_N A) (sl_ (S 1) 0 (S 0 1))) = -1 ∨ (a_G A (ixL (a_N A) (sl_ (S 1) 0 (S 0 1)))).1 = -1) ∧ (w_up (w_up Z 237 3 0) 237 0 2) = Y ∧ o = .inl (some (1, 0))) ∨ ((0 ≤ wh ∧ wh ≤ 1) ∧ ¬ ((ixL (a_N A) (sl_ (S 1) 0 (S 0 1))) = -1 ∨ (a_G A (ixL (a_N A) (sl_ (S 1) 0 (S 0 1)))).1 = -1) ∧ (w_up (w_up Z 237 3 0) 237 0 0) = Y ∧ o = .inl (some (1, tdV (a_G A (ixL (a_N A) (sl_ (S 1) 0 (S 0 1)))) wh)))) := fun Z hz M2 d2 => by
    have fz : ∀ (j : Nat) (x : Int), 237 ≤ j → j < 400 → Z j x = S j x := fun j x j0 j1 => hz.1 j x (by omega) (by unfold wG; omega) (Or.inl (by omega)) (Or.inl (by omega))
    have hrZ : rRel Z Z HT cs ms os X mo A Z := rRel_z hr hl (fun j x j0 j1 _ => fz j x j0 (by omega)) (fun y hy => (fz y.1 (-1) (by have := (wy_lt y hy).1; omega) (by have := (wy_lt y hy).2; omega)).trans (hr.1 y hy)) (fun _ _ _ => rfl)
    obtain ⟨⟨sl, hW⟩, hH⟩ := hrZ.2.2.1
    have tt := hrZ.2.2.2.1.2.2.1
    have q := mgl (xs := xs) (M := M2) (d := d2) (wh := wh) (n := S 0 1) hrZ.1 hrZ.2.2.2.1.1 hW.2.2.2.2 ((fz 237 3 (by first | decide | omega) (by first | decide | omega)).trans hA.2.2.2.2.1.symm) ⟨w8.1, by omega⟩ hv0 tt.1.2 tt.2.1.2 hvk hwh
    rw [show Z 239 = S 239 from funext fun x => fz 239 x (by first | decide | omega) (by first | decide | omega), ← esl] at q
    exact q
  have w2 := k1.1.1
  refine ll_global (M2 := fun _ => False) (o := 1000001) ⟨Or.inr (by rw [ho]; decide), by unfold wG; decide⟩ wt_out (xgl (d := d) hC.1.2.1 hC.1.1 w2.1 w2.2.1 w2.2.2.1 k1.1.2.2.1 hw.2.2.2.2.2.1.1.1 hC.2.2.1.1.2.2.2.2.2 h21 rfl ⟨w8.1, w8.2.2.1⟩ (by omega) hvk hwh) (fun _ _ q => False.elim q) id id (fun o1 Z hz => ?_)
  rcases hz with ⟨n, x⟩ | ⟨n, e, x⟩ | ⟨n, e, rfl, rfl⟩
  · obtain ⟨v, rfl, -, -, -, ty, pr⟩ := id x
    refine Or.inr (Or.inl ⟨v, rfl, ty, pr, fun M2 d2 => wJ_mono (key Z (zGq_o (zO_n x)) M2 d2) (fun o2 S2 z => ?_)⟩)
    rcases z with ⟨-, rfl, rfl⟩ | ⟨c, -⟩ | ⟨c, -⟩
    · exact ⟨⟨1, 0, rfl, rfl, w_up_same _ _ _ _, fun z => absurd z (by first | decide | omega)⟩, RM_g h hm (zGq_o (zO_n x))⟩
    · exact absurd c n
    · exact absurd c n
  · obtain ⟨v, rfl, -, -, -, ty, pr⟩ := id x
    refine Or.inr (Or.inr ⟨v, rfl, ty, pr, fun M2 d2 => wJ_mono (key Z (zGq_o (zO_n x)) M2 d2) (fun o2 S2 z => ?_)⟩)
    rcases z with ⟨c, -⟩ | ⟨-, -, rfl, rfl⟩ | ⟨-, c, -⟩
    · exact absurd n c
    · exact ⟨⟨2, 0, rfl, rfl, w_up_same _ _ _ _, fun z => absurd z (by first | decide | omega)⟩, RM_g h hm (zGq_o (zO_n x))⟩
    · exact absurd e c
  · have hz9 : zGq S (w_up (w_up S 0 1 0) 1000001 0 (tdV (a_G A (ixL (a_N A) (sl_ (S 1) 0 (S 0 1)))) wh)) := zGq_o (zO_u (gI_up hC.1.2.1 (by first | decide | omega) (Or.inl (by first | decide | omega)) (Or.inl (Or.inl (by first | decide | omega)))))
    refine Or.inl ⟨_, rfl, rng e, (w_up_at (by first | decide | omega)).trans ho, fun M2 d2 => wJ_mono (key _ hz9 M2 d2) (fun o2 S2 z => ?_)⟩
    rcases z with ⟨c, -⟩ | ⟨-, c, -⟩ | ⟨-, -, rfl, rfl⟩
    · exact absurd n c
    · exact absurd c e
    · exact ⟨⟨0, _, rfl, rfl, w_up_same _ _ _ _, fun _ => (w_up_slot (by first | decide | omega)).trans ((w_up_slot (by first | decide | omega)).trans (w_up_same _ _ _ _))⟩, RM_g h hm hz9⟩
end Wni
