/-! PART mn: a host's constructor makes an instance. -/
section Wmn
variable {xs : List (Nat × List Int32)} {d : Nat} {S0 S Z : wS} {p w m : Nat} {HT : Int → Int} {cs : List hCR} {ms : List hMR} {os : Int → List Int} {X : List (List Int)} {mo t n B B2 oq : Int} {fa : Int → Int} {WE : aA → Prop} {A A2 : aA} {K2 : aK} {ml : List Nat} {k c s kd nms ne ec bh nm en : Int} {b ba : Nat} {ar : List aV} {e : aE} {V Z2 Y : wS} {o : wO} {dn : Int} {H2 : List aH} {N2 : List (List Int)} {E2 : Int → List aE} {C2 : List aQ} {W2 : Int} {c2 : Int → Int} {k2 : Int → Int → Int} {mk rk : Nat → Int → Prop} {K : aK} {T : List aO} {H : List aH} {E : Int → List aE} {gk gb es lo hi a : Int} {r : List aE × Int × Option aE} {A1 : aA} {tl cl : List Int} {sl : Nat → List Int} {L : List aC} {G : Int → aV} {u : aV} {x : List Int} {T2 : List aO} {L2 : List aC} {G2 : Int → aV} {H2 : List aH} {c2 : Int → Int} {y : Int} {Q : wO → wS → Prop} {ps : List (Int × aV)} {k hd wh : Int} {f a9 pn fn md : Int} {vn m9 : Nat} {th : aV} {g : Int} {lp : List aV} {l ds fo g : Int} {mk : Nat → Int → Prop} {C2 : List aQ} {W2 : Int} {RZ : wS → Prop} {N3 : Nat} {SB : wS} {r r0 : Int} {sh : Int} {K9 : aK} {nt : Int} {R2 : List Int} {S2 : Int → aV} {wh en9 : Int}
theorem csA_P {P : aV → Prop} {nf : Nat} {ty pt : Nat → Int} : ∀ (us : List aV) (i : Nat) (c : Nat → aV), (∀ u ∈ us, P u) → (∀ i, P (c i)) → ∀ q, P (csA nf ty pt i us c q)
  | [], _, _, _, h, q => h q
  | u :: us, i, c, hu, h, q => by
    refine csA_P us (i + 1) (csB nf ty c (pt i) u) (fun v hv => hu v (List.mem_cons.mpr (Or.inr hv))) (fun x => ?_) q
    unfold csB
    cases fuA nf ty c (pt i) with
    | none => exact h x
    | some y =>
      show P (if x = y then u else c x)
      by_cases cy : x = y
      · rw [if_pos cy]
        exact hu u (List.mem_cons.mpr (Or.inl rfl))
      · rw [if_neg cy]
        exact h x
theorem inV_G {T : List aO} {nf : Nat} {ty pt : Nat → Int} {us : List aV} {i : Nat} (hu : ∀ u ∈ us, vG T n u) : vG T n (inV nf ty pt us i) := by
  have z := csA_P (P := fun v => v.1 = -1 ∨ vG T n v) (nf := nf) (ty := ty) (pt := pt) us 0 (fun _ => (-1, 0, [])) (fun u h => Or.inr (hu u h)) (fun _ => Or.inl rfl) i
  unfold inV
  by_cases e : (csA nf ty pt 0 us (fun _ => (-1, 0, [])) i).1 = -1
  · rw [if_pos e]
    unfold fkI
    split
    · exact vG_n
    · split
      · exact vG_b (Or.inl rfl)
      · exact vG_0
  · rw [if_neg e]
    exact z.resolve_left e
theorem tO_y {T : List aO} {o : aO} : tO (T ++ [o]) (T.length : Int) = o := by
  show (T ++ [o]).getD (T.length : Int).toNat (0, 0, 0, 0, 0, 0, []) = o
  rw [Int.toNat_natCast, List.getD_eq_getElem?_getD, List.getElem?_append_right (Nat.le_refl _), Nat.sub_self]
  rfl
theorem vG_7 {T : List aO} {k : Int} {ps : List (Int × aV)} (hk : 0 ≤ k ∧ k < n ∧ k < 60) : vG (T ++ [((7, -1, k, -1, -1, 0, ps) : aO)]) n (7, (T.length : Int), []) := by
  refine ⟨⟨⟨by show (0 : Int) ≤ 7; decide, by show (7 : Int) ≤ 8; decide⟩, fun _ _ => ⟨⟨Int.natCast_nonneg _, by rw [List.length_append]; show (T.length : Int) < ((T.length + 1 : Nat) : Int); omega⟩, by show (tO (T ++ [((7, -1, k, -1, -1, 0, ps) : aO)]) (T.length : Int)).1 = 7; rw [tO_y]⟩, fun z => absurd z (by show ¬ ((7 : Int) = 8); decide), fun _ => ?_, fun z => absurd z (by show ¬ ((7 : Int) = 0); decide), fun z => absurd z (by show ¬ ((7 : Int) = 1); decide)⟩, fun _ => ?_, fun z => absurd z (by show ¬ ((7 : Int) = 8); decide), l0_v⟩
  · show 0 ≤ (tO (T ++ [((7, -1, k, -1, -1, 0, ps) : aO)]) (T.length : Int)).2.2.1 ∧ (tO (T ++ [((7, -1, k, -1, -1, 0, ps) : aO)]) (T.length : Int)).2.2.1 < 60
    rw [tO_y]
    exact ⟨hk.1, hk.2.2⟩
  · show (tO (T ++ [((7, -1, k, -1, -1, 0, ps) : aO)]) (T.length : Int)).2.2.1 < n
    rw [tO_y]
    exact hk.2.1
/-- all that holds, when an instance has come -/
theorem wf_in (h : hyA S0 p HT cs ms os X fa n B2 w t A s kd nms ne ec bh ba ar) {k : Int} {ty pt : Nat → Int} (hk : 0 ≤ k ∧ k < n ∧ k < 60) (hM : a_c A 0 + 1 ≤ 8000 ∧ a_c A 1 + ((flA cs ms k).length : Int) ≤ 60000) : wfA S0 fa ms n (WEs S0 HT cs ms os) B2 (u_W A t (kP (a_K A t) ((a_K A t).1.length - ba) (7, ((a_T A).length : Int), [])) (a_T A ++ [((7, -1, k, -1, -1, 0, inP (flA cs ms k).length ty pt ar) : aO)]) (a_L A) (a_G A) (a_H A) (fUp (fUp (a_c A) 0 (a_c A 0 + 1)) 1 (a_c A 1 + ((flA cs ms k).length : Int)))) := by
  obtain ⟨⟨hp, hw, hx⟩, hA, hB, ⟨hr, ho⟩, hsi, hme⟩ := id h
  have hu := hA.2.2.2.2.1
  have hv := wV_of hA hw
  have hpp : ∀ y ∈ inP (flA cs ms k).length ty pt ar, y.1 = -1 ∧ vG (a_T A) n y.2 := fun y hy => by
    unfold inP at hy
    obtain ⟨i, -, rfl⟩ := List.mem_map.mp hy
    exact ⟨rfl, inV_G (ar_G h)⟩
  refine wf_W0 hA hw (tyv_A h) tKp_n (wSh_a hA.2.1 ⟨⟨by show (4 : Int) ≤ 7; decide, by show (7 : Int) ≤ 7; decide⟩, fun q => absurd q (by show ¬ ((7 : Int) = 4 ∨ (7 : Int) = 5); decide), fun _ => rfl, Or.inl rfl⟩ rfl (fun q => absurd q (by show ¬ ((7 : Int) = 4 ∨ (7 : Int) = 5); decide)) (fun _ y hy => (hpp y hy).1)) (kv_P (kv_mo hv tKp_n) (vG_7 hk)) (ob_n hA.2.2.1.2.1 (fun y hy => vG_mo (hpp y hy).2 tKp_n)) (fun c hc v hv => vG_mo (hA.2.2.1.2.2.1 c hc v hv) tKp_n) (fun q hq => vG_mo (hA.2.2.1.2.2.2.1 q hq) tKp_n) (fun cf c1 c2 => ⟨cf, wCl_n c1 (fun q => absurd q (by show ¬ ((7 : Int) = 5); decide)), kc_le (fun f hf => by have z := c2 f hf; exact ⟨z.1, z.2.1, z.2.2.imp id (fun y => ⟨⟨y.1.1, by rw [List.length_append]; have := y.1.2; omega⟩, by rw [tO_l y.1.1 y.1.2]; exact y.2⟩)⟩) fLe_P, Nat.le_refl _, fun _ _ => rfl⟩) (wCt_n hu ⟨Int.le_refl _, hB.2⟩ ⟨by rw [fUp_n (by first | decide | omega), fUp_s], by rw [fUp_n (by first | decide | omega), fUp_s]; omega, by rw [fUp_s]; omega, by rw [fUp_s]; omega, fun i i0 i1 => by rw [fUp_n i1, fUp_n i0]⟩ ⟨by rw [fUp_s]; show ((inP (flA cs ms k).length ty pt ar).length : Int) ≤ _; rw [inP_l]; have := hu.2.1.1; omega, rfl, rfl⟩) hA.2.2.2.2.2.1.2.1 ?_
  have hE := hA.2.2.2.2.2.2
  refine ⟨WEs_e (A := A) hE hA.2.1 (eCh_new hA.2.1) (by rw [fUp_n (by first | decide | omega), fUp_n (by first | decide | omega)]; exact Int.le_refl _), ⟨?_, hE.2.1.2⟩, fun q q0 q1 q7 => ?_⟩
  · show a_W A ≤ (fUp (fUp (a_c A) 0 (a_c A 0 + 1)) 1 (a_c A 1 + ((flA cs ms k).length : Int))) 21 + (fUp (fUp (a_c A) 0 (a_c A 0 + 1)) 1 (a_c A 1 + ((flA cs ms k).length : Int))) 22
    rw [fUp_n (by first | decide | omega), fUp_n (by first | decide | omega), fUp_n (by first | decide | omega), fUp_n (by first | decide | omega)]
    exact hE.2.1.1
  · show (tO (a_T A ++ [((7, -1, k, -1, -1, 0, inP (flA cs ms k).length ty pt ar) : aO)]) q).2.2.2.2.2.2.length = (flA cs ms (tO (a_T A ++ [((7, -1, k, -1, -1, 0, inP (flA cs ms k).length ty pt ar) : aO)]) q).2.2.1).length
    replace q1 : q < ((a_T A ++ [((7, -1, k, -1, -1, 0, inP (flA cs ms k).length ty pt ar) : aO)]).length : Int) := q1
    replace q7 : (tO (a_T A ++ [((7, -1, k, -1, -1, 0, inP (flA cs ms k).length ty pt ar) : aO)]) q).1 = 7 := q7
    by_cases e : q < ((a_T A).length : Int)
    · rw [tO_l q0 e] at q7 ⊢
      exact hE.2.2 q q0 e q7
    · rw [List.length_append, List.length_singleton] at q1
      have e2 : q = ((a_T A).length : Int) := by omega
      rw [e2, tO_y]
      exact inP_l
/-- where the class's tables have a class's fields -/
def stHd (S0 : wS) (p : Nat) (cs : List hCR) (ms : List hMR) : Prop := ∀ c : Int, 0 ≤ c → c < (cs.length : Int) → cFd (p + 24) (p + 14) cs ms c S0
theorem hd_c (hp : p = 73 ∨ p = 162) (h : stHd S0 p cs ms) (hY : cRel S0 p HT cs ms os X mo A Y) {c : Int} (hc : 0 ≤ c ∧ c < (cs.length : Int)) : cFd (p + 24) (p + 14) cs ms c Y := by
  have f := fun (j : Nat) (x : Int) (hj : p + 2 ≤ j ∧ j ≤ p + 43) => hY.2.2.2.2.2.2.2.2 j x (by unfold cSta; omega)
  obtain ⟨z1, z2, z3, z4, z5⟩ := h c hc.1 hc.2
  refine ⟨(f _ _ (by omega)).trans z1, fun q => (f _ _ (by omega)).trans (z2 q), fun i hi => (f _ _ (by omega)).trans (z3 i hi), z4, z5⟩
theorem ao_mn (h : hyA S0 p HT cs ms os X fa n B2 w t A s kd nms ne ec bh ba ar) (hX : w_X xs) (hx1 : pe_at (pe_GA xs).xs 1 = some (1, tx_1)) {b9 : Nat} (hH : stHo S0 p b9 HT nt cs ms os n) (hC9 : stHc S0 p HT cs ms os) (hD9 : stHd S0 p cs ms) (e12 : e.1 = 1 ∨ e.1 = 2) (hm : (0 ≤ e.2.2.2.2.1 ∧ e.2.2.2.2.1 < (ms.length : Int)) ∧ (hmR ms e.2.2.2.2.1).2.1 = 2) (hpn : 0 < ar.length → 1 ≤ (hmR ms e.2.2.2.2.1).2.2.2.2.1.length) (hkd : kd = 6) (hbe : bh = ec) : aOut xs d S0 p HT cs ms os X mo fa n B2 w t A s kd nms ec bh ba nm en es e := by
  have hg := ar_g h
  have hav := ar_v h hH.2.2.2.1.2.2
  have hbl := (hA_ba h).2.1
  obtain ⟨⟨hp, hw, hx⟩, hA, hB, ⟨hr, ho⟩, hsi, hme⟩ := id h
  have hwH := hH.2.2.2.2.2.2.2.1
  have hn := hH.2.2.2.1.2.2
  have hcu := hA.2.2.2.2.1
  have how := (hwH.2.2.2 _ hm.1.1 hm.1.2).1.1
  have h60 := hwH.1.1
  have hlf := (hD9 (hmR ms e.2.2.2.2.1).1 how.1 how.2).2.2.2.2
  refine ao_M (ml := [w + 2, w + 3, 152, 127, 128, 129, 130, 131, 132, 133, 134, 135, 136, 141, 142]) (mk := cMi) (rk := rMi) (u := (7, ((a_T A).length : Int), [])) (wh := e.2.2.2.2.1) (en9 := ec) (F := (100000 < ((a_R A).length : Int) + 2 ∨ 8000 < a_c A 0 + 1 ∨ 60000 < a_c A 1 + ((flA cs ms (hmR ms e.2.2.2.2.1).1).length : Int))) (T2 := (a_T A ++ [(7, -1, (hmR ms e.2.2.2.2.1).1, -1, -1, 0, inP (flA cs ms (hmR ms e.2.2.2.2.1).1).length (ftO cs ms (hmR ms e.2.2.2.2.1).1) (fun i => prT (hmR ms e.2.2.2.2.1) i) ar)])) (L2 := a_L A) (G2 := a_G A) (H2 := a_H A) (c2 := (fUp (fUp (a_c A) 0 (a_c A 0 + 1)) 1 (a_c A 1 + ((flA cs ms (hmR ms e.2.2.2.2.1).1).length : Int)))) h e12 (by rcases hw with ⟨rfl, rfl⟩ | ⟨rfl, rfl⟩ <;> decide) (fun j x hm => Or.inl (mw_i hm)) (fun j x hm => Or.inl (by unfold rMi at hm; unfold rWd9; omega)) (fun i i0 i1 => by rw [fUp_n (by omega), fUp_n (by omega)]) (fun hF => ?_) (fun Y y hY ha hd9 he => ?_) (fun Y sl hY ha hW hd9 => ?_)
  · rw [if_neg (by omega)]
    exact wf_in h (k := (hmR ms e.2.2.2.2.1).1) ⟨how.1, by omega, by omega⟩ ⟨by omega, by omega⟩
  · have hKC := (hkc_c hp hC9 hY).1
    have h72 := (ho_c hH hY).1
    have htr := hY.2.2.2.2.2.1.2
    have u := cR_u hY
    obtain ⟨c1, c2, c3, c4⟩ := c14_c h hY
    have hfd := hd_c hp hD9 hY how
    have go : ∀ (o : wO) (V : wS), (o = .inl none ∧ (((100000 < ((a_R A).length : Int) + 2 ∨ 8000 < Y 150 0 + 1 ∨ 60000 < Y 150 1 + ((flA cs ms (hmR ms e.2.2.2.2.1).1).length : Int)) ∧ w_up Y w 16 99 = V) ∨ (¬ (100000 < ((a_R A).length : Int) + 2 ∨ 8000 < Y 150 0 + 1 ∨ 60000 < Y 150 1 + ((flA cs ms (hmR ms e.2.2.2.2.1).1).length : Int)) ∧ cmPt w (a_K A t) ba kd (7, ((a_T A).length : Int), []) e.2.2.2.2.1 ec (a_R A) cMi Y V ∧ cWd V (a_T A ++ [(7, -1, (hmR ms e.2.2.2.2.1).1, -1, -1, 0, inP (flA cs ms (hmR ms e.2.2.2.2.1).1).length (ftO cs ms (hmR ms e.2.2.2.2.1).1) (fun i => prT (hmR ms e.2.2.2.2.1) i) ar)]) (a_L A) (a_G A) ∧ cSw V (a_T A ++ [(7, -1, (hmR ms e.2.2.2.2.1).1, -1, -1, 0, inP (flA cs ms (hmR ms e.2.2.2.2.1).1).length (ftO cs ms (hmR ms e.2.2.2.2.1).1) (fun i => prT (hmR ms e.2.2.2.2.1) i) ar)]) (a_H A) ∧ (V 150 0 = Y 150 0 + 1 ∧ V 150 1 = Y 150 1 + ((flA cs ms (hmR ms e.2.2.2.2.1).1).length : Int)) ∧ (cPo Y → cPo V)))) → (o = .inl none ∧ (((100000 < ((a_R A).length : Int) + 2 ∨ 8000 < a_c A 0 + 1 ∨ 60000 < a_c A 1 + ((flA cs ms (hmR ms e.2.2.2.2.1).1).length : Int)) ∧ w_up Y w 16 99 = V) ∨ (¬ (100000 < ((a_R A).length : Int) + 2 ∨ 8000 < a_c A 0 + 1 ∨ 60000 < a_c A 1 + ((flA cs ms (hmR ms e.2.2.2.2.1).1).length : Int)) ∧ cmPt w (a_K A t) ba kd (7, ((a_T A).length : Int), []) e.2.2.2.2.1 ec (a_R A) cMi Y V ∧ (cTx Y V ∧ cNt (a_N A) X V) ∧ (cWd V (a_T A ++ [(7, -1, (hmR ms e.2.2.2.2.1).1, -1, -1, 0, inP (flA cs ms (hmR ms e.2.2.2.2.1).1).length (ftO cs ms (hmR ms e.2.2.2.2.1).1) (fun i => prT (hmR ms e.2.2.2.2.1) i) ar)]) (a_L A) (a_G A) ∧ cSw V (a_T A ++ [(7, -1, (hmR ms e.2.2.2.2.1).1, -1, -1, 0, inP (flA cs ms (hmR ms e.2.2.2.2.1).1).length (ftO cs ms (hmR ms e.2.2.2.2.1).1) (fun i => prT (hmR ms e.2.2.2.2.1) i) ar)]) (a_H A) ∧ cPo V) ∧ cCw (fUp (fUp (a_c A) 0 (a_c A 0 + 1)) 1 (a_c A 1 + ((flA cs ms (hmR ms e.2.2.2.2.1).1).length : Int))) V ∧ cPl (pV S0) ((fUp (fUp (a_c A) 0 (a_c A 0 + 1)) 1 (a_c A 1 + ((flA cs ms (hmR ms e.2.2.2.2.1).1).length : Int))) 3) (a_N A) V))) := fun o V hz => ⟨hz.1, by
      rcases hz.2 with z | z
      · rw [u.1, u.2.1] at z
        exact Or.inl z
      · obtain ⟨y1, y2, y3, y4, y5, y6⟩ := z
        rw [u.1, u.2.1] at y1
        have hF := y2.2.2.2
        have f := fun (j : Nat) (x : Int) (hj : j < 215) (hm : ¬ (cMh j x ∨ cMi j x)) => fmG hF hw j x hj hm
        refine Or.inr ⟨y1, y2, ⟨fr_tx hF hw (fun x hm => by unfold cMh cMi cMk at hm; omega) (fun hm => by unfold cMh cMi cMk at hm; omega), cR_N (A := A) hY hF hw (fun j x hj hm => by unfold cMh cMi cMk at hm; omega)⟩, ⟨y3, y4, y6 hY.2.2.1.2.2⟩, ?_, ?_⟩
        · refine cCw_of ?_ ?_ ?_ ?_ ?_ ?_
          · rw [fUp_n (by first | decide | omega), fUp_s, y5.1, u.1]
          · rw [fUp_s, y5.2, u.2.1]
          · rw [fUp_n (by first | decide | omega), fUp_n (by first | decide | omega)]; exact (f _ _ (by first | decide | omega) (fun hm => by unfold cMh cMi cMk at hm; omega)).trans u.2.2.1
          · rw [fUp_n (by first | decide | omega), fUp_n (by first | decide | omega)]; exact (f _ _ (by first | decide | omega) (fun hm => by unfold cMh cMi cMk at hm; omega)).trans u.2.2.2.1
          · rw [fUp_n (by first | decide | omega), fUp_n (by first | decide | omega)]; exact (f _ _ (by first | decide | omega) (fun hm => by unfold cMh cMi cMk at hm; omega)).trans u.2.2.2.2.1
          · rw [fUp_n (by first | decide | omega), fUp_n (by first | decide | omega)]; exact (f _ _ (by first | decide | omega) (fun hm => by unfold cMh cMi cMk at hm; omega)).trans u.2.2.2.2.2
        · rw [fUp_n (by first | decide | omega), fUp_n (by first | decide | omega)]
          exact cPl_ag hY.2.2.2.2.2.2.2.1.2.1.2 (f 2 1 (by first | decide | omega) (fun hm => by unfold cMh cMi cMk at hm; omega)) (f 3 (-1) (by first | decide | omega) (fun hm => by unfold cMh cMi cMk at hm; omega)) (f 2 7 (by first | decide | omega) (fun hm => by unfold cMh cMi cMk at hm; omega)) (f 4 (-1) (by first | decide | omega) (fun hm => by unfold cMh cMi cMk at hm; omega)) (Int.le_refl _) (Nat.le_refl _)⟩
    rcases hp with rfl | rfl
    · rcases hw with ⟨rfl, rfl⟩ | ⟨rfl, rfl⟩
      · exact wJ_mono (amk_73_215 (d := d + 83) hx1 hd9 hKC h72 e12 he.1.2.2.2.1 hm htr hg hwH hY.2.2.1.2.1 hA.2.1 hfd ⟨how.1, by omega⟩ hpn c1 ⟨c2.1, c2.2.1⟩ ⟨c3.1, c3.2.1⟩) go
      · exact wJ_mono (amk_73_226 (d := d + 83) hx1 hd9 hKC h72 e12 he.1.2.2.2.1 hm htr hg hwH hY.2.2.1.2.1 hA.2.1 hfd ⟨how.1, by omega⟩ hpn c1 ⟨c2.1, c2.2.1⟩ ⟨c3.1, c3.2.1⟩) go
    · rcases hw with ⟨rfl, rfl⟩ | ⟨rfl, rfl⟩
      · exact wJ_mono (amk_162_215 (d := d + 83) hx1 hd9 hKC h72 e12 he.1.2.2.2.1 hm htr hg hwH hY.2.2.1.2.1 hA.2.1 hfd ⟨how.1, by omega⟩ hpn c1 ⟨c2.1, c2.2.1⟩ ⟨c3.1, c3.2.1⟩) go
      · exact wJ_mono (amk_162_226 (d := d + 83) hx1 hd9 hKC h72 e12 he.1.2.2.2.1 hm htr hg hwH hY.2.2.1.2.1 hA.2.1 hfd ⟨how.1, by omega⟩ hpn c1 ⟨c2.1, c2.2.1⟩ ⟨c3.1, c3.2.1⟩) go
  · have hKR := ho_r hH hY
    have htr := hY.1.2.2.2.2.2.1.2
    have u := rR_u hY
    have hg2 : arG (a_K A t) ba bh ar := by rw [hbe]; exact hg
    have hb1 : kd = 1 → ba + 2 = (a_K A t).1.length := fun k1 => by omega
    have h8 := h82_r h hY
    have hmd : ((a_T A).length : Int) ≤ Y 237 62 ∧ Y 237 62 ≤ 8000 := by rw [u.1]; have := hcu.1; omega
    have go : ∀ (o : wO) (V : wS), (((100000 < ((a_R A).length : Int) + 2 ∨ 8000 < Y 237 62 + 1 ∨ 60000 < Y 237 63 + ((flA cs ms (hmR ms e.2.2.2.2.1).1).length : Int)) ∧ o = .inr 238 ∧ ∃ B : wS, (∀ (j : Nat) (x : Int), ¬ flM j x → B j x = Y j x) ∧ hZ 99 B = V) ∨ (¬ (100000 < ((a_R A).length : Int) + 2 ∨ 8000 < Y 237 62 + 1 ∨ 60000 < Y 237 63 + ((flA cs ms (hmR ms e.2.2.2.2.1).1).length : Int)) ∧ o = .inl none ∧ rmO t (a_K A t) ba kd (7, ((a_T A).length : Int), []) (a_T A ++ [(7, -1, (hmR ms e.2.2.2.2.1).1, -1, -1, 0, inP (flA cs ms (hmR ms e.2.2.2.2.1).1).length (ftO cs ms (hmR ms e.2.2.2.2.1).1) (fun i => prT (hmR ms e.2.2.2.2.1) i) ar)]) (a_L A) (a_G A) e.2.2.2.2.1 bh (a_R A) rMi Y V ∧ (V 237 62 = Y 237 62 + 1 ∧ V 237 63 = Y 237 63 + ((flA cs ms (hmR ms e.2.2.2.2.1).1).length : Int) ∧ V 237 82 = Y 237 82 + ((flA cs ms (hmR ms e.2.2.2.2.1).1).length : Int)))) → (((100000 < ((a_R A).length : Int) + 2 ∨ 8000 < a_c A 0 + 1 ∨ 60000 < a_c A 1 + ((flA cs ms (hmR ms e.2.2.2.2.1).1).length : Int)) ∧ o = .inr 238 ∧ ∃ B : wS, (∀ (j : Nat) (x : Int), ¬ (txM j x ∨ flM j x) → B j x = Y j x) ∧ hZ 99 B = V) ∨ (¬ (100000 < ((a_R A).length : Int) + 2 ∨ 8000 < a_c A 0 + 1 ∨ 60000 < a_c A 1 + ((flA cs ms (hmR ms e.2.2.2.2.1).1).length : Int)) ∧ o = .inl none ∧ rmO t (a_K A t) ba kd (7, ((a_T A).length : Int), []) (a_T A ++ [(7, -1, (hmR ms e.2.2.2.2.1).1, -1, -1, 0, inP (flA cs ms (hmR ms e.2.2.2.2.1).1).length (ftO cs ms (hmR ms e.2.2.2.2.1).1) (fun i => prT (hmR ms e.2.2.2.2.1) i) ar)]) (a_L A) (a_G A) e.2.2.2.2.1 ec (a_R A) rMi Y V ∧ rTx Y V ∧ (rTt V ∧ rTb V) ∧ rHs V (a_H A) ∧ rCw (fUp (fUp (a_c A) 0 (a_c A 0 + 1)) 1 (a_c A 1 + ((flA cs ms (hmR ms e.2.2.2.2.1).1).length : Int))) V)) := fun o V hz => by
      rw [hbe] at hz
      rcases hz with z | z
      · obtain ⟨y1, y2, B, y3, y4⟩ := z
        rw [u.1, u.2.1] at y1
        exact Or.inl ⟨y1, y2, B, fun j x hm => y3 j x (fun q => hm (Or.inr q)), y4⟩
      · obtain ⟨y1, y2, y3, y4⟩ := z
        rw [u.1, u.2.1] at y1
        have hF := y3.2.2.2
        have f := fun (x : Int) (hk : rKp 237 x) (hm : ¬ (rMh 237 x ∨ rMi 237 x)) => tmG hF 237 x hk hm
        refine Or.inr ⟨y1, y2, y3, tf_tx hF (fun j x hj hm => by unfold rMh rMi at hm; omega), rR_t (A := A) hY.1 hF (fun j x hj hm => by unfold txD at hj; unfold rMh rMi at hm; omega), rR_H (A := A) hY.1 hF (fun j x hj hm => by unfold rMh rMi at hm; omega), ?_⟩
        refine rCw_of ?_ ?_ ?_ ?_ ?_ ?_ ?_
        · rw [fUp_n (by first | decide | omega), fUp_s, y4.1, u.1]
        · rw [fUp_s, y4.2.1, u.2.1]
        · rw [fUp_n (by first | decide | omega), fUp_n (by first | decide | omega)]; exact (f _ (by unfold rKp; omega) (fun hm => by unfold rMh rMi at hm; omega)).trans u.2.2.1
        · rw [fUp_n (by first | decide | omega), fUp_n (by first | decide | omega)]; exact (f _ (by unfold rKp; omega) (fun hm => by unfold rMh rMi at hm; omega)).trans u.2.2.2.1
        · rw [fUp_n (by first | decide | omega), fUp_n (by first | decide | omega)]; exact (f _ (by unfold rKp; omega) (fun hm => by unfold rMh rMi at hm; omega)).trans u.2.2.2.2.1
        · rw [fUp_n (by first | decide | omega), fUp_n (by first | decide | omega)]; exact (f _ (by unfold rKp; omega) (fun hm => by unfold rMh rMi at hm; omega)).trans u.2.2.2.2.2.1
        · have e94 := f 94 (by unfold rKp; omega) (fun hm => by unfold rMh rMi at hm; omega)
          have := u.2.2.2.2.2.2
          have := y4.2.1
          have := y4.2.2
          omega
    rcases hH.1 with ⟨q1, q2⟩ | ⟨q1, q2⟩
    · rw [q2] at hKR
      exact wJ_mono (rnk_241 (d := d + 80) hd9 hKR hwH hX hm htr hg2 hsi.2.1.1.1 hb1 hlf hpn (fun v hv => (hav v hv).1) hmd ⟨h8.1, h8.2.1, h8.2.2.1⟩) go
    · rw [q2] at hKR
      exact wJ_mono (rnk_261 (d := d + 80) hd9 hKR hwH hX hm htr hg2 hsi.2.1.1.1 hb1 hlf hpn (fun v hv => (hav v hv).1) hmd ⟨h8.1, h8.2.1, h8.2.2.1⟩) go
end Wmn
