/-! PART lh: acting on things: calls. -/
section Wlh
variable {Sb : wS} {xs : List (Nat × List Int32)} {d : Nat} {S0 S Z : wS} {p w m : Nat} {HT : Int → Int} {cs : List hCR} {ms : List hMR} {os : Int → List Int} {X : List (List Int)} {mo t n B B2 oq : Int} {fa : Int → Int} {WE : aA → Prop} {A A2 : aA} {K2 : aK} {ml : List Nat} {k c s kd nms ne ec bh nm en : Int} {b ba : Nat} {ar : List aV} {e : aE} {V Z2 Y : wS} {o : wO} {dn : Int} {H2 : List aH} {N2 : List (List Int)} {E2 : Int → List aE} {C2 : List aQ} {W2 : Int} {c2 : Int → Int} {k2 : Int → Int → Int} {mk rk : Nat → Int → Prop} {K : aK} {T : List aO} {H : List aH} {E : Int → List aE} {gk gb es lo hi a : Int} {r : List aE × Int × Option aE} {A1 : aA} {tl cl : List Int} {sl : Nat → List Int} {L : List aC} {G : Int → aV} {u : aV} {x : List Int} {T2 : List aO} {L2 : List aC} {G2 : Int → aV} {H2 : List aH} {c2 : Int → Int} {y : Int} {Q : wO → wS → Prop} {ps : List (Int × aV)} {k hd wh : Int} {f a9 pn fn md : Int} {vn m9 : Nat} {th : aV} {g : Int} {lp : List aV}
/-- functions have few parameters -/
def stQ (S0 : wS) : Prop := ∀ g : Int, 0 ≤ g → g < S0 237 34 → 0 ≤ S0 295 g ∧ S0 295 g ≤ 1000
theorem tyt_C (hx : stX S0 fa X) (hk : wTk fa S0 K) (hr : K.2.2.2.1 = 1) (ho : opI S0 K = 27) (hg : 0 ≤ g ∧ g < S0 237 34) (hF : K.2.1.length < 200) (hm : mes (S0 304 (opA S0 K)) (S0 306 (opA S0 K)) = bh) (hb0 : 0 ≤ bh) (hl : (K.1.length : Int) = (ba : Int) + 1 + bh) {q n9 md : Int} {th : aV} (hq : q = (K.2.1.getD (K.2.1.length - 1) (0, 0, 0, (0, 0, []), 0, 0, 0)).2.1 + 1) : wTk fa S0 (kCl K (K.1.take ba) q g n9 th md) := by
  obtain ⟨h1, h2⟩ := hk.2.1 hr
  have hk1 := hk.1.1
  have lt : (K.1.take ba).length = ba := by rw [List.length_take]; omega
  refine ⟨⟨?_, ?_⟩, fun _ => ⟨wKt_cl h1 h2 hg (hx.2.1 g hg.1 hg.2).1 (fun H D n a1 a2 a3 a4 => ?_), ?_⟩, fun f9 hf9 => ?_⟩
  · show (K.1.take ba).length ≤ 2001
    omega
  · show ((kNx K q).2.1 ++ [_]).length ≤ 200
    rw [List.length_append]
    show (K.2.1.set _ _).length + 1 ≤ 200
    rw [List.length_set]
    omega
  · have z := a1.2.2.2.2.1 (K.2.1.getD (K.2.1.length - 1) (0, 0, 0, (0, 0, []), 0, 0, 0)).2.1.toNat (by omega)
    rw [show (((K.2.1.getD (K.2.1.length - 1) (0, 0, 0, (0, 0, []), 0, 0, 0)).2.1.toNat : Nat) : Int) = (K.2.1.getD (K.2.1.length - 1) (0, 0, 0, (0, 0, []), 0, 0, 0)).2.1 by omega] at z
    have e : q.toNat = (K.2.1.getD (K.2.1.length - 1) (0, 0, 0, (0, 0, []), 0, 0, 0)).2.1.toNat + 1 := by omega
    have zl := a1.2.2.2.2.2
    have ho2 : S0 301 (S0 297 (K.2.1.getD (K.2.1.length - 1) (0, 0, 0, (0, 0, []), 0, 0, 0)).1 + (K.2.1.getD (K.2.1.length - 1) (0, 0, 0, (0, 0, []), 0, 0, 0)).2.1) = 27 := ho
    have hA2 : S0 302 (S0 297 (K.2.1.getD (K.2.1.length - 1) (0, 0, 0, (0, 0, []), 0, 0, 0)).1 + (K.2.1.getD (K.2.1.length - 1) (0, 0, 0, (0, 0, []), 0, 0, 0)).2.1) = opA S0 K := rfl
    rw [ho2, hA2] at z
    obtain ⟨z1, z2, z3, -⟩ := z
    rw [hm] at z1 z2
    have z4 := z2 (by first | decide | omega)
    replace z4 : H ((K.2.1.getD (K.2.1.length - 1) (0, 0, 0, (0, 0, []), 0, 0, 0)).2.1.toNat + 1) = H (K.2.1.getD (K.2.1.length - 1) (0, 0, 0, (0, 0, []), 0, 0, 0)).2.1.toNat + -bh := z4
    replace z1 : bh + 1 ≤ H (K.2.1.getD (K.2.1.length - 1) (0, 0, 0, (0, 0, []), 0, 0, 0)).2.1.toNat := z1
    replace z3 : D ((K.2.1.getD (K.2.1.length - 1) (0, 0, 0, (0, 0, []), 0, 0, 0)).2.1.toNat + 1) = D (K.2.1.getD (K.2.1.length - 1) (0, 0, 0, (0, 0, []), 0, 0, 0)).2.1.toNat + 0 := z3
    have hn : q < (n : Int) := by
      by_cases c : (K.2.1.getD (K.2.1.length - 1) (0, 0, 0, (0, 0, []), 0, 0, 0)).2.1 + 1 < (n : Int)
      · omega
      · rw [show ((n - 1 : Nat) : Int) = (K.2.1.getD (K.2.1.length - 1) (0, 0, 0, (0, 0, []), 0, 0, 0)).2.1 by omega, ho2] at zl
        exact absurd zl (by first | decide | omega)
    rw [e]
    refine ⟨⟨by omega, hn⟩, ?_, by omega, by omega⟩
    rw [lt]
    omega
  · show 0 < ((kNx K q).2.1 ++ [_]).length
    rw [List.length_append]
    show 0 < (kNx K q).2.1.length + 1
    omega
  · replace hf9 : f9 ∈ (kNx K q).2.1 ++ [(g, 0, n9, th, md, (K.1.take ba).length, K.2.2.1.length)] := hf9
    rcases List.mem_append.mp hf9 with z | z
    · exact bs_le hk.2.2 (fLe_n (q := q)) f9 z
    · rw [List.mem_singleton.mp z]
      show (K.1.take ba).length ≤ 2000
      omega
theorem gD_G (hK : ∀ v ∈ K.1, vG T n v) (q : Nat) : vG T n (K.1.getD q (0, 0, [])) := by
  by_cases e : q < K.1.length
  · exact hK _ (tq_m e)
  · rw [List.getD_eq_getElem?_getD, List.getElem?_eq_none (by omega)]
    exact vG_0
theorem aVr_G (hK : ∀ v ∈ K.1, vG T n v) {pl es9 : Nat} : ∀ v ∈ aVr K.1 pl es9 vn, vG T n v := fun v hv => by
  unfold aVr at hv
  obtain ⟨i, -, rfl⟩ := List.mem_map.mp hv
  by_cases e : i < es9
  · rw [if_pos e]
    exact gD_G hK _
  · rw [if_neg e]
    exact vG_0
/-- all that holds, when a call has begun -/
theorem wf_call (hA : wfA S0 fa ms n WE B A) (hWw : WEw WE) (hx : stX S0 fa X) (hw : isWt w t) (hB : B ≤ 600000) (hr : (a_K A t).2.2.2.1 = 1) (ho : opI S0 (a_K A t) = 27) (hsi : siH S0 (a_K A t) s kd nms ne ec bh ba ar) (hme : mes kd ne = bh) (hfn : (0 ≤ fn ∧ fn < ((a_T A).length : Int)) ∧ (tO (a_T A) fn).1 = 5) (hf : (tO (a_T A) fn).2.2.1 = f ∧ (tO (a_T A) fn).2.2.2.1 = a9) (hvn : S0 296 f = (vn : Int)) (hF : (a_K A t).2.1.length < 200) (hmem : a_c A 0 + 1 ≤ 8000 ∧ a_c A 1 + (vn : Int) ≤ 60000) (hth : vG (a_T A) n th) (hmd : md = -1 ∨ ((0 ≤ md ∧ md < ((a_T A).length : Int)) ∧ (tO (a_T A) md).1 = 4)) : wfA S0 fa ms n WE B (u_W A t (kCl (a_K A t) ((a_K A t).1.take ba) (((a_K A t).2.1.getD ((a_K A t).2.1.length - 1) (0, 0, 0, (0, 0, []), 0, 0, 0)).2.1 + 1) f ((a_L A).length : Int) th md) (a_T A) (a_L A ++ [(a9, aVr (a_K A t).1 ba m9 vn)]) (a_G A) (a_H A) (fUp (fUp (a_c A) 0 (a_c A 0 + 1)) 1 (a_c A 1 + (vn : Int)))) := by
  have hk := wT_of hA hw
  have hv := wV_of hA hw
  obtain ⟨cf0, k1, -⟩ := hA.2.2.2.1
  have kf := (k1.2 fn hfn.1.1 hfn.1.2 hfn.2).1
  rw [hf.1] at kf
  have hbb : 0 ≤ bh ∧ ((a_K A t).1.length : Int) = (ba : Int) + 1 + bh := by
    have := hsi.2.1.2.2.1
    have := hsi.2.1.2.1
    have := hsi.2.1.1
    omega
  have hmm : mes (S0 304 (opA S0 (a_K A t))) (S0 306 (opA S0 (a_K A t))) = bh := by
    rw [hsi.1.1, hsi.1.2.1, hsi.1.2.2.2]
    exact hme
  have e11 : (fUp (fUp (a_c A) 0 (a_c A 0 + 1)) 1 (a_c A 1 + (vn : Int))) 11 = a_c A 11 := by rw [fUp_n (by first | decide | omega), fUp_n (by first | decide | omega)]
  have ll : (((a_L A ++ [(a9, aVr (a_K A t).1 ba m9 vn)]).length : Nat) : Int) = ((a_L A).length : Int) + 1 := by rw [List.length_append]; rfl
  refine wf_W (k := -1) hA hWw hw (tyt_C hx hk hr ho kf hF hmm hbb.1 hbb.2 rfl) tKp_r hA.2.1 ⟨fun v hm => hv.1 v (List.mem_of_mem_take hm), fun f9 hf9 => ?_, fun hs => hv.2.2 hs⟩ hA.2.2.1.2.1 (fun c hc v hm => ?_) hA.2.2.1.2.2.2.1 (fun cf c1 c2 => ⟨fUp cf ((a_L A).length : Int) f, ?_, ?_, by rw [List.length_append]; omega, fun q hq => fUp_n (by omega)⟩) ?_ hA.2.2.2.2.2.1.2.1 (eCh_rfl hA.2.1) (by rw [e11]; exact Int.le_refl _)
  · replace hf9 : f9 ∈ (kNx (a_K A t) (((a_K A t).2.1.getD ((a_K A t).2.1.length - 1) (0, 0, 0, (0, 0, []), 0, 0, 0)).2.1 + 1)).2.1 ++ [(f, 0, ((a_L A).length : Int), th, md, ((a_K A t).1.take ba).length, (a_K A t).2.2.1.length)] := hf9
    rcases List.mem_append.mp hf9 with z | z
    · exact (kv_N hv).2.1 f9 z
    · rw [List.mem_singleton.mp z]
      exact hth
  · rcases List.mem_append.mp hc with z | z
    · exact hA.2.2.1.2.2.1 c z v hm
    · rw [List.mem_singleton.mp z] at hm
      exact aVr_G hv.1 v hm
  · refine ⟨fun q hq => ?_, fun q q0 q1 h5 => ?_⟩
    · have hq2 : (q : Int) < ((a_L A ++ [(a9, aVr (a_K A t).1 ba m9 vn)]).length : Int) := by exact_mod_cast hq
      by_cases e : q < (a_L A).length
      · obtain ⟨y1, y2, y3⟩ := c1.1 q e
        rw [gD_app e, fUp_n (show (q : Int) ≠ ((a_L A).length : Int) by omega)]
        refine ⟨y1, y2, y3.imp id (fun y => ⟨y.1, ?_⟩)⟩
        rw [fUp_n (show ((a_L A).getD q (0, [])).1 ≠ ((a_L A).length : Int) by have := y.1; omega)]
        exact y.2
      · have eq : q = (a_L A).length := by omega
        rw [gD_la eq, show (q : Int) = ((a_L A).length : Int) by omega, fUp_s]
        refine ⟨kf, ?_, ?_⟩
        · show ((aVr (a_K A t).1 ba m9 vn).length : Int) = S0 296 f
          rw [aVr_l, hvn]
        · have z := (c1.2 fn hfn.1.1 hfn.1.2 hfn.2).2
          rw [hf.1, hf.2] at z
          refine z.imp id (fun y => ⟨⟨y.1.1, ?_⟩, ?_⟩)
          · show a9 < ((a_L A).length : Int)
            exact y.1.2
          · show fUp cf ((a_L A).length : Int) f a9 = fa f
            rw [fUp_n (by have := y.1.2; omega)]
            exact y.2
    · obtain ⟨y1, y2⟩ := c1.2 q q0 q1 h5
      refine ⟨y1, y2.imp id (fun y => ⟨⟨y.1.1, by have := y.1.2; omega⟩, ?_⟩)⟩
      rw [fUp_n (show (tO (a_T A) q).2.2.2.1 ≠ ((a_L A).length : Int) by have := y.1.2; omega)]
      exact y.2
  · intro f9 hf9
    replace hf9 : f9 ∈ (kNx (a_K A t) (((a_K A t).2.1.getD ((a_K A t).2.1.length - 1) (0, 0, 0, (0, 0, []), 0, 0, 0)).2.1 + 1)).2.1 ++ [(f, 0, ((a_L A).length : Int), th, md, ((a_K A t).1.take ba).length, (a_K A t).2.2.1.length)] := hf9
    rcases List.mem_append.mp hf9 with z | z
    · obtain ⟨y1, y2, y3⟩ := kc_le (K2 := kNx (a_K A t) (((a_K A t).2.1.getD ((a_K A t).2.1.length - 1) (0, 0, 0, (0, 0, []), 0, 0, 0)).2.1 + 1)) c2 fLe_n f9 z
      refine ⟨⟨y1.1, by have := y1.2; omega⟩, ?_, y3⟩
      rw [fUp_n (show f9.2.2.1 ≠ ((a_L A).length : Int) by have := y1.2; omega)]
      exact y2
    · rw [List.mem_singleton.mp z]
      refine ⟨⟨?_, ?_⟩, fUp_s, hmd⟩
      · show (0 : Int) ≤ ((a_L A).length : Int)
        omega
      · show ((a_L A).length : Int) < ((a_L A ++ [(a9, aVr (a_K A t).1 ba m9 vn)]).length : Int)
        omega
  · obtain ⟨b1, b2, b3, b4, b5, b6, b7, b8, b9⟩ := hA.2.2.2.2.1
    have e0 : (fUp (fUp (a_c A) 0 (a_c A 0 + 1)) 1 (a_c A 1 + (vn : Int))) 0 = a_c A 0 + 1 := by rw [fUp_n (by first | decide | omega), fUp_s]
    have e1 : (fUp (fUp (a_c A) 0 (a_c A 0 + 1)) 1 (a_c A 1 + (vn : Int))) 1 = a_c A 1 + (vn : Int) := fUp_s
    have en : ∀ i : Int, i ≠ 0 → i ≠ 1 → (fUp (fUp (a_c A) 0 (a_c A 0 + 1)) 1 (a_c A 1 + (vn : Int))) i = a_c A i := fun i i0 i1 => by rw [fUp_n i1, fUp_n i0]
    generalize (fUp (fUp (a_c A) 0 (a_c A 0 + 1)) 1 (a_c A 1 + (vn : Int))) = cc at *
    refine ⟨?_, ⟨(show 0 ≤ cc 1 by omega), (show cc 1 ≤ 60000 by omega), fun o hq => (show (o.2.2.2.2.2.2.length : Int) ≤ cc 1 by have := b2.2.2 o hq; omega)⟩, ?_, ?_, ?_, ⟨?_, ?_, fun i i0 i1 => ?_⟩, b7, fun q q0 q1 => ?_, b9⟩
    · show ((a_T A).length : Int) + ((a_L A ++ [(a9, aVr (a_K A t).1 ba m9 vn)]).length : Int) ≤ cc 0 ∧ cc 0 ≤ 8000
      omega
    · show 0 ≤ cc 2 ∧ cc 2 ≤ 12000
      rw [en 2 (by first | decide | omega) (by first | decide | omega)]
      exact b3
    · show 0 ≤ cc 3 ∧ cc 3 ≤ 200000
      rw [en 3 (by first | decide | omega) (by first | decide | omega)]
      exact b4
    · show 0 ≤ cc 4 ∧ cc 4 ≤ 4000 ∧ ((a_H A).length : Int) ≤ cc 4 + 1
      rw [en 4 (by first | decide | omega) (by first | decide | omega)]
      exact b5
    · show 0 ≤ cc 11 ∧ cc 11 ≤ B
      rw [e11]
      exact b6.1
    · show 0 ≤ cc 19 ∧ cc 19 ≤ B
      rw [en 19 (by first | decide | omega) (by first | decide | omega)]
      exact b6.2.1
    · show 0 ≤ cc i ∧ cc i ≤ B
      rw [en i (by omega) (by omega)]
      exact b6.2.2 i i0 i1
    · show (-1 ≤ (tO (a_T A) q).2.2.2.2.1 ∧ (tO (a_T A) q).2.2.2.2.1 ≤ cc 11) ∧ 0 ≤ (tO (a_T A) q).2.2.2.2.2.1 ∧ (tO (a_T A) q).2.2.2.2.2.1 ≤ cc 11
      rw [e11]
      exact b8 q q0 q1
/-- what is known of a fun that is called -/
theorem fn_of (h : hyA S0 p HT cs ms os X fa n B2 w t A s kd nms ne ec bh ba ar) (hq9 : stQ S0) (hfn : (0 ≤ fn ∧ fn < ((a_T A).length : Int)) ∧ (tO (a_T A) fn).1 = 5) : (0 ≤ (tO (a_T A) fn).2.2.1 ∧ (tO (a_T A) fn).2.2.1 < 400) ∧ (∀ Y : wS, cRel S0 p HT cs ms os X mo A Y → cFn (a_T A) fn (tO (a_T A) fn).2.2.1 (tO (a_T A) fn).2.2.2.1 (S0 296 (tO (a_T A) fn).2.2.1).toNat (S0 295 (tO (a_T A) fn).2.2.1) Y) ∧ (∀ {Sb : wS} (Y : wS), rRun S0 Sb HT cs ms os X mo t A Y → rFn (a_T A) fn (tO (a_T A) fn).2.2.1 (tO (a_T A) fn).2.2.2.1 (S0 296 (tO (a_T A) fn).2.2.1).toNat (S0 295 (tO (a_T A) fn).2.2.1) Y) ∧ S0 296 (tO (a_T A) fn).2.2.1 = ((S0 296 (tO (a_T A) fn).2.2.1).toNat : Int) := by
  obtain ⟨⟨hp, hw, hx⟩, hA, hB, ⟨hr, ho⟩, hsi, hme⟩ := id h
  obtain ⟨cf0, k1, -⟩ := hA.2.2.2.1
  have kf := (k1.2 fn hfn.1.1 hfn.1.2 hfn.2).1
  have m1 := hx.1.1
  have k6 := (hx.2.1 _ kf.1 kf.2).2.2
  have k7 := hq9 _ kf.1 kf.2
  have m5 := (hx.1.2.2.2.2.1 _ kf.1 kf.2).1
  refine ⟨⟨kf.1, by omega⟩, fun Y hY => ⟨hfn.1, ⟨rfl, rfl⟩, ⟨kf.1, by omega⟩, ⟨?_, by omega⟩, ?_, k7.1, k7.2⟩, fun Y hY => ⟨hfn, ⟨rfl, rfl⟩, ⟨kf.1, by omega⟩, ⟨?_, by omega⟩, ?_, k7.1, k7.2⟩, by omega⟩
  · rw [hY.2.2.2.2.2.2.2.2 23 _ (by unfold cSta; omega), m5.2.2.1]
    omega
  · rw [hY.2.2.2.2.2.2.2.2 22 _ (by unfold cSta; omega), m5.2.1]
  · rw [hY.1.2.2.2.2.2.2.2.2 296 _ (by unfold rSta; omega), rBs_i (by omega)]
    omega
  · rw [hY.1.2.2.2.2.2.2.2.2 295 _ (by unfold rSta; omega), rBs_i (by omega)]
theorem c14_c (h : hyA S0 p HT cs ms os X fa n B2 w t A s kd nms ne ec bh ba ar) (hY : cRel S0 p HT cs ms os X mo A Y) : Y 140 2 ≤ 4 * Y 150 1 ∧ (0 ≤ Y 150 0 ∧ Y 150 0 ≤ 8000 ∧ Y 150 0 = a_c A 0) ∧ (0 ≤ Y 150 1 ∧ Y 150 1 ≤ 60000 ∧ Y 150 1 = a_c A 1) ∧ ((a_L A).length : Int) ≤ 8000 := by
  have hct := h.2.1.2.2.2.2.1
  have u := cR_u hY
  have q := hY.2.2.1.2.2
  unfold cPo at q
  have q2 := pS_0 (S := Y) (Y 72 3).toNat
  have := hct.1
  have := hct.2.1
  omega
theorem rCn_of (h : hyA S0 p HT cs ms os X fa n B2 w t A s kd nms ne ec bh ba ar) (hY : rRun S0 Sb HT cs ms os X mo t A Y) (hl : a_c A 0 + 1 ≤ 8000 ∨ True) (hT0 : 0 < (a_T A).length) : rCn (a_L A) Y ∧ Y 237 62 = a_c A 0 ∧ Y 237 63 = a_c A 1 := by
  have hct := h.2.1.2.2.2.2.1
  have u := rR_u hY
  have b1 := hct.1
  have b2 := hct.2.1
  refine ⟨⟨?_, ?_, ?_, ?_⟩, u.1, u.2.1⟩
  · rw [u.1]
    omega
  · have := u.2.2.2.2.2.2
    omega
  · rw [u.2.1]
    omega
  · omega

/-- cal: a fun is called -/
theorem ao_cal (h : hyA S0 p HT cs ms os X fa n B2 w t A s kd nms ne ec bh ba ar) (hx1 : pe_at (pe_GA xs).xs 1 = some (1, tx_1)) (hq9 : stQ S0) (hP : aP0 (a_T A) (a_H A) ((a_N A).length : Int) kd nm ((a_K A t).1.getD ba (0, 0, [])).1 ((a_K A t).1.getD ba (0, 0, [])).2.1 e) (hkd : kd = 4) : aOut xs d S0 p HT cs ms os X mo fa n B2 w t A s kd nms ec bh ba nm en es e := by
  obtain ⟨⟨hp, hw, hx⟩, hA, hB, ⟨hr, ho⟩, hsi, hme⟩ := id h
  obtain ⟨⟨p1, p2, p3, p4⟩, p5, -, p6⟩ := hP
  have g3 : ((a_K A t).1.getD ba (0, 0, [])).1 ≠ 3 := by omega
  have hb := hA_ba h
  have hbe : bh = ((a_K A t).1.length : Int) - (ba : Int) - 1 ∧ bh ≤ 100 := by
    refine ⟨by omega, ?_⟩
    rw [← hme]
    have := hsi.2.1.1
    unfold mes
    repeat' split
    all_goals omega
  have hT0 : 0 < (a_T A).length := by have := p3.1; omega
  have g5 := (p6 (by omega)).1
  have hfn : (0 ≤ ((a_K A t).1.getD ba (0, 0, [])).2.1 ∧ ((a_K A t).1.getD ba (0, 0, [])).2.1 < ((a_T A).length : Int)) ∧ (tO (a_T A) ((a_K A t).1.getD ba (0, 0, [])).2.1).1 = 5 := ⟨p3.1, p4.trans g5⟩
  obtain ⟨f1, f2, f3, f4⟩ := fn_of (X := X) (HT := HT) (mo := mo) h hq9 hfn
  have hKl := (wT_of hA hw).1.2
  have hct := hA.2.2.2.2.1
  by_cases hF : (a_K A t).2.1.length = 200
  · refine aO_X (c := 11) h (cA_X (ml := [w + 2, w + 3, 138, 139, 141, 142]) h (by rcases hw with ⟨rfl, rfl⟩ | ⟨rfl, rfl⟩ <;> decide) (fun Y y hY ha hd9 he => ?_)) (rA_0 h p1 (fun Y sl hY ha hW hd9 => ?_))
    · have u := c14_c h hY
      rw [gb_c h hY g3, p1] at hd9
      rcases hw with ⟨rfl, rfl⟩ | ⟨rfl, rfl⟩
      · exact wJ_mono (acl_215 (d := d + 83) hx1 hd9 hkd (f2 Y hY) ⟨u.2.1.1, u.2.1.2.1⟩ ⟨u.2.2.1.1, u.2.2.1.2.1⟩ u.1 u.2.2.2) (fun o V hz => ⟨hz.1, by rcases hz.2 with z | z | z; omega; exact z.2; omega⟩)
      · exact wJ_mono (acl_226 (d := d + 83) hx1 hd9 hkd (f2 Y hY) ⟨u.2.1.1, u.2.1.2.1⟩ ⟨u.2.2.1.1, u.2.2.1.2.1⟩ u.1 u.2.2.2) (fun o V hz => ⟨hz.1, by rcases hz.2 with z | z | z; omega; exact z.2; omega⟩)
    · rw [gb_r h hY g3, p1] at hd9
      exact wJ_mono (rclT (d := d + 81) (s := s) hd9 hkd hbe.1 hbe.2 (f3 Y hY) (rCn_of h hY (Or.inr trivial) hT0).1) (fun o Z hz hM => rQ_X h hY (by first | decide | omega) (by rcases hz with z | z | z; exact z.2; omega; omega))
  · by_cases hm : a_c A 0 + 1 ≤ 8000 ∧ a_c A 1 + ((S0 296 (tO (a_T A) ((a_K A t).1.getD ba (0, 0, [])).2.1).2.2.1).toNat : Int) ≤ 60000
    · refine aO_W h (wf_call (m9 := esN (a_K A t) ba (S0 295 (tO (a_T A) ((a_K A t).1.getD ba (0, 0, [])).2.1).2.2.1)) hA WEs_w hx hw hB.2 hr ho hsi hme hfn ⟨rfl, rfl⟩ f4 (by omega) hm vG_0 (Or.inl rfl)) (cA_W (K2 := (kCl (a_K A t) ((a_K A t).1.take ba) (((a_K A t).2.1.getD ((a_K A t).2.1.length - 1) (0, 0, 0, (0, 0, []), 0, 0, 0)).2.1 + 1) (tO (a_T A) ((a_K A t).1.getD ba (0, 0, [])).2.1).2.2.1 ((a_L A).length : Int) (0, 0, []) (-1))) (T2 := a_T A) (L2 := (a_L A ++ [((tO (a_T A) ((a_K A t).1.getD ba (0, 0, [])).2.1).2.2.2.1, aVr (a_K A t).1 ba (esN (a_K A t) ba (S0 295 (tO (a_T A) ((a_K A t).1.getD ba (0, 0, [])).2.1).2.2.1)) (S0 296 (tO (a_T A) ((a_K A t).1.getD ba (0, 0, [])).2.1).2.2.1).toNat)])) (G2 := a_G A) (H2 := a_H A) (c2 := (fUp (fUp (a_c A) 0 (a_c A 0 + 1)) 1 (a_c A 1 + ((S0 296 (tO (a_T A) ((a_K A t).1.getD ba (0, 0, [])).2.1).2.2.1).toNat : Int)))) (ml := [w + 2, w + 3, 138, 139, 141, 142]) (mk := cMc) h (by rcases hw with ⟨rfl, rfl⟩ | ⟨rfl, rfl⟩ <;> decide) (fun j x hm => mw_c hm) (fun i i0 i1 => by rw [fUp_n (by omega), fUp_n (by omega)]) (by rw [fUp_n (by first | decide | omega), fUp_n (by first | decide | omega)]; exact Int.le_refl _) (fun Y y hY ha hd9 he => ?_)) (rA_0 h p1 (fun Y sl hY ha hW hd9 => ?_))
      · have u := c14_c h hY
        have uu := cR_u hY
        rw [gb_c h hY g3, p1] at hd9
        have fin : ∀ V : wS, caP w (a_K A t) (a_T A) (a_L A) (a_G A) ba (tO (a_T A) ((a_K A t).1.getD ba (0, 0, [])).2.1).2.2.1 (tO (a_T A) ((a_K A t).1.getD ba (0, 0, [])).2.1).2.2.2.1 (S0 296 (tO (a_T A) ((a_K A t).1.getD ba (0, 0, [])).2.1).2.2.1).toNat (S0 295 (tO (a_T A) ((a_K A t).1.getD ba (0, 0, [])).2.1).2.2.1) (0, 0, []) Y V → V w 16 = 0 ∧ cTk w V (kCl (a_K A t) ((a_K A t).1.take ba) (((a_K A t).2.1.getD ((a_K A t).2.1.length - 1) (0, 0, 0, (0, 0, []), 0, 0, 0)).2.1 + 1) (tO (a_T A) ((a_K A t).1.getD ba (0, 0, [])).2.1).2.2.1 ((a_L A).length : Int) (0, 0, []) (-1)) ∧ cFm w cMc Y V ∧ cWd V (a_T A) (a_L A ++ [((tO (a_T A) ((a_K A t).1.getD ba (0, 0, [])).2.1).2.2.2.1, aVr (a_K A t).1 ba (esN (a_K A t) ba (S0 295 (tO (a_T A) ((a_K A t).1.getD ba (0, 0, [])).2.1).2.2.1)) (S0 296 (tO (a_T A) ((a_K A t).1.getD ba (0, 0, [])).2.1).2.2.1).toNat)]) (a_G A) ∧ cSw V (a_T A) (a_H A) ∧ cPo V ∧ cCw (fUp (fUp (a_c A) 0 (a_c A 0 + 1)) 1 (a_c A 1 + ((S0 296 (tO (a_T A) ((a_K A t).1.getD ba (0, 0, [])).2.1).2.2.1).toNat : Int))) V := fun V hz => by
          rcases hz with ⟨z1, z2, z3, z4, z5, z6, z7, z8, z9⟩ | z | z
          · refine ⟨z3, z4, z6, z5, cR_Sw (A := A) hY z6 hw (fun j x hj hm => by unfold shD at hj; unfold cMc at hm; omega), z9 hY.2.2.1.2.2, cCw_of ?_ ?_ ?_ ?_ ?_ ?_⟩
            · rw [fUp_n (by first | decide | omega), fUp_s]; omega
            · rw [fUp_s]; omega
            · rw [fUp_n (by first | decide | omega), fUp_n (by first | decide | omega), fmG z6 hw 150 2 (by first | decide | omega) (fun hm => by unfold cMc at hm; omega)]; exact uu.2.2.1
            · rw [fUp_n (by first | decide | omega), fUp_n (by first | decide | omega), fmG z6 hw 150 3 (by first | decide | omega) (fun hm => by unfold cMc at hm; omega)]; exact uu.2.2.2.1
            · rw [fUp_n (by first | decide | omega), fUp_n (by first | decide | omega), fmG z6 hw 150 4 (by first | decide | omega) (fun hm => by unfold cMc at hm; omega)]; exact uu.2.2.2.2.1
            · rw [fUp_n (by first | decide | omega), fUp_n (by first | decide | omega), fmG z6 hw 72 11 (by first | decide | omega) (fun hm => by unfold cMc at hm; omega)]; exact uu.2.2.2.2.2
          · omega
          · omega
        rcases hw with ⟨rfl, rfl⟩ | ⟨rfl, rfl⟩
        · exact wJ_mono (acl_215 (d := d + 83) hx1 hd9 hkd (f2 Y hY) ⟨u.2.1.1, u.2.1.2.1⟩ ⟨u.2.2.1.1, u.2.2.1.2.1⟩ u.1 u.2.2.2) (fun o V hz => ⟨hz.1, fin V hz.2⟩)
        · exact wJ_mono (acl_226 (d := d + 83) hx1 hd9 hkd (f2 Y hY) ⟨u.2.1.1, u.2.1.2.1⟩ ⟨u.2.2.1.1, u.2.2.1.2.1⟩ u.1 u.2.2.2) (fun o V hz => ⟨hz.1, fin V hz.2⟩)
      · rw [gb_r h hY g3, p1] at hd9
        have u := rR_u hY
        refine wJ_mono (rclT (d := d + 81) (s := s) hd9 hkd hbe.1 hbe.2 (f3 Y hY) (rCn_of h hY (Or.inr trivial) hT0).1) (fun o Z hz hM => ?_)
        rcases hz with z | z | ⟨z1, z2, z3, z4, z5, z6, z7, z8, z9⟩
        · omega
        · have := z.2.1; omega
        · refine rQ_W (rk := rMc) h (fun j x hm => by unfold rMc at hm; unfold rWd9; omega) (fun i i0 i1 => by rw [fUp_n (by omega), fUp_n (by omega)]) hY hM ⟨z3, z4, z6, ⟨sl, z5⟩, rR_H (A := A) hY.1 z6 (fun j x hj hm => by unfold rMc at hm; omega), rCw_of ?_ ?_ ?_ ?_ ?_ ?_ ?_⟩
          · rw [fUp_n (by first | decide | omega), fUp_s]; omega
          · rw [fUp_s]; omega
          · rw [fUp_n (by first | decide | omega), fUp_n (by first | decide | omega), tmG z6 237 64 (by unfold rKp; omega) (fun hm => by unfold rMc at hm; omega)]; exact u.2.2.1
          · rw [fUp_n (by first | decide | omega), fUp_n (by first | decide | omega), tmG z6 237 65 (by unfold rKp; omega) (fun hm => by unfold rMc at hm; omega)]; exact u.2.2.2.1
          · rw [fUp_n (by first | decide | omega), fUp_n (by first | decide | omega), tmG z6 237 66 (by unfold rKp; omega) (fun hm => by unfold rMc at hm; omega)]; exact u.2.2.2.2.1
          · rw [fUp_n (by first | decide | omega), fUp_n (by first | decide | omega), tmG z6 237 81 (by unfold rKp; omega) (fun hm => by unfold rMc at hm; omega)]; exact u.2.2.2.2.2.1
          · have e82 := tmG z6 237 82 (by unfold rKp; omega) (fun hm => by unfold rMc at hm; omega)
            have := u.2.2.2.2.2.2
            omega
    · refine aO_X (c := 99) h (cA_X (ml := [w + 2, w + 3, 138, 139, 141, 142]) h (by rcases hw with ⟨rfl, rfl⟩ | ⟨rfl, rfl⟩ <;> decide) (fun Y y hY ha hd9 he => ?_)) (rA_0 h p1 (fun Y sl hY ha hW hd9 => ?_))
      · have u := c14_c h hY
        rw [gb_c h hY g3, p1] at hd9
        rcases hw with ⟨rfl, rfl⟩ | ⟨rfl, rfl⟩
        · exact wJ_mono (acl_215 (d := d + 83) hx1 hd9 hkd (f2 Y hY) ⟨u.2.1.1, u.2.1.2.1⟩ ⟨u.2.2.1.1, u.2.2.1.2.1⟩ u.1 u.2.2.2) (fun o V hz => ⟨hz.1, by rcases hz.2 with z | z | z; have := z.2.1; omega; omega; exact z.2.2⟩)
        · exact wJ_mono (acl_226 (d := d + 83) hx1 hd9 hkd (f2 Y hY) ⟨u.2.1.1, u.2.1.2.1⟩ ⟨u.2.2.1.1, u.2.2.1.2.1⟩ u.1 u.2.2.2) (fun o V hz => ⟨hz.1, by rcases hz.2 with z | z | z; have := z.2.1; omega; omega; exact z.2.2⟩)
      · rw [gb_r h hY g3, p1] at hd9
        have u := rR_u hY
        exact wJ_mono (rclT (d := d + 81) (s := s) hd9 hkd hbe.1 hbe.2 (f3 Y hY) (rCn_of h hY (Or.inr trivial) hT0).1) (fun o Z hz hM => rQ_X h hY (by first | decide | omega) (by rcases hz with z | z | z; omega; exact z.2.2; have := z.2.1; omega))

/-- mef: a fun is called -/
theorem ao_mef (h : hyA S0 p HT cs ms os X fa n B2 w t A s kd nms ne ec bh ba ar) (hx1 : pe_at (pe_GA xs).xs 1 = some (1, tx_1)) (hq9 : stQ S0) (hP : aP0 (a_T A) (a_H A) ((a_N A).length : Int) kd nm ((a_K A t).1.getD ba (0, 0, [])).1 ((a_K A t).1.getD ba (0, 0, [])).2.1 e) (hkd : kd = 5) (h1 : (e.2.2.2.1 = -1 ∧ hd = ((a_K A t).1.getD ba (0, 0, [])).2.1) ∨ (e.2.2.2.1 ≠ -1 ∧ hd = e.2.2.2.1)) (h2 : isO (a_T A) hd) (h3 : e.2.2.2.2.1 = -1 ∨ (0 ≤ e.2.2.2.2.1 ∧ e.2.2.2.2.1 < ((tO (a_T A) hd).2.2.2.2.2.2.length : Int))) (h5 : (gvA (a_T A) hd e.2.2.2.2.1).1 = 5) : aOut xs d S0 p HT cs ms os X mo fa n B2 w t A s kd nms ec bh ba nm en es e := by
  obtain ⟨⟨hp, hw, hx⟩, hA, hB, ⟨hr, ho⟩, hsi, hme⟩ := id h
  obtain ⟨⟨p1, p2, p3, p4⟩, p5, -, p6⟩ := hP
  have g3 : ((a_K A t).1.getD ba (0, 0, [])).1 ≠ 3 := by omega
  have hb := hA_ba h
  have hbe : bh = ((a_K A t).1.length : Int) - (ba : Int) - 1 ∧ bh ≤ 100 := by
    refine ⟨by omega, ?_⟩
    rw [← hme]
    have := hsi.2.1.1
    unfold mes
    repeat' split
    all_goals omega
  have hT0 : 0 < (a_T A).length := by have := p3.1; omega
  obtain ⟨⟨q1, q2, q3⟩, q4⟩ := p5 (by omega)
  have hu := gvA_G (wh := e.2.2.2.2.1) hA h2.1 h3
  have hz6 := pln_1 hA h2.1
  have hfn : (0 ≤ (gvA (a_T A) hd e.2.2.2.2.1).2.1 ∧ (gvA (a_T A) hd e.2.2.2.2.1).2.1 < ((a_T A).length : Int)) ∧ (tO (a_T A) (gvA (a_T A) hd e.2.2.2.2.1).2.1).1 = 5 := by
    have z := hu.1.2.1 (by omega) (by omega)
    exact ⟨z.1, z.2.trans h5⟩
  obtain ⟨f1, f2, f3, f4⟩ := fn_of (X := X) (HT := HT) (mo := mo) h hq9 hfn
  have hKl := (wT_of hA hw).1.2
  have hct := hA.2.2.2.2.1
  by_cases hF : (a_K A t).2.1.length = 200
  · refine aO_X (c := 11) h (cA_X (ml := [w + 2, w + 3, 138, 139, 141, 142]) h (by rcases hw with ⟨rfl, rfl⟩ | ⟨rfl, rfl⟩ <;> decide) (fun Y y hY ha hd9 he => ?_)) (rA_0 h p1 (fun Y sl hY ha hW hd9 => ?_))
    · have u := c14_c h hY
      rw [gb_c h hY g3, p1] at hd9
      rcases hw with ⟨rfl, rfl⟩ | ⟨rfl, rfl⟩
      · exact wJ_mono (amf_215 (d := d + 83) hx1 hd9 he.1.2.2.1 he.1.2.2.2.1 p3.1 h1 h2.1 h3 (fun _ => by omega) hkd ⟨h5, rfl⟩ (by omega) (by have z := gv_c h hY; rw [gb_c h hY g3] at z; exact z) (f2 Y hY) ⟨u.2.1.1, u.2.1.2.1⟩ ⟨u.2.2.1.1, u.2.2.1.2.1⟩ u.1 u.2.2.2) (fun o V hz => ⟨hz.1, by rcases hz.2 with z | z | z; omega; exact z.2; omega⟩)
      · exact wJ_mono (amf_226 (d := d + 83) hx1 hd9 he.1.2.2.1 he.1.2.2.2.1 p3.1 h1 h2.1 h3 (fun _ => by omega) hkd ⟨h5, rfl⟩ (by omega) (by have z := gv_c h hY; rw [gb_c h hY g3] at z; exact z) (f2 Y hY) ⟨u.2.1.1, u.2.1.2.1⟩ ⟨u.2.2.1.1, u.2.2.1.2.1⟩ u.1 u.2.2.2) (fun o V hz => ⟨hz.1, by rcases hz.2 with z | z | z; omega; exact z.2; omega⟩)
    · rw [gb_r h hY g3, p1] at hd9
      exact wJ_mono (rmfT (d := d + 81) (s := s) (by rw [q3] at hd9; exact hd9) p3.1 h1 h2.1 h3 hkd ⟨h5, rfl⟩ (by omega) (by have z := gv_r h hY; rw [gb_r h hY g3] at z; exact z) hbe.1 hbe.2 (f3 Y hY) (rCn_of h hY (Or.inr trivial) hT0).1) (fun o Z hz hM => rQ_X h hY (by first | decide | omega) (by rcases hz with z | z | z; exact z.2; omega; omega))
  · by_cases hm : a_c A 0 + 1 ≤ 8000 ∧ a_c A 1 + ((S0 296 (tO (a_T A) (gvA (a_T A) hd e.2.2.2.2.1).2.1).2.2.1).toNat : Int) ≤ 60000
    · refine aO_W h (wf_call (m9 := esN (a_K A t) ba (S0 295 (tO (a_T A) (gvA (a_T A) hd e.2.2.2.2.1).2.1).2.2.1)) hA WEs_w hx hw hB.2 hr ho hsi hme hfn ⟨rfl, rfl⟩ f4 (by omega) hm (gv_G h) (Or.inl rfl)) (cA_W (K2 := (kCl (a_K A t) ((a_K A t).1.take ba) (((a_K A t).2.1.getD ((a_K A t).2.1.length - 1) (0, 0, 0, (0, 0, []), 0, 0, 0)).2.1 + 1) (tO (a_T A) (gvA (a_T A) hd e.2.2.2.2.1).2.1).2.2.1 ((a_L A).length : Int) ((a_K A t).1.getD ba (0, 0, [])) (-1))) (T2 := a_T A) (L2 := (a_L A ++ [((tO (a_T A) (gvA (a_T A) hd e.2.2.2.2.1).2.1).2.2.2.1, aVr (a_K A t).1 ba (esN (a_K A t) ba (S0 295 (tO (a_T A) (gvA (a_T A) hd e.2.2.2.2.1).2.1).2.2.1)) (S0 296 (tO (a_T A) (gvA (a_T A) hd e.2.2.2.2.1).2.1).2.2.1).toNat)])) (G2 := a_G A) (H2 := a_H A) (c2 := (fUp (fUp (a_c A) 0 (a_c A 0 + 1)) 1 (a_c A 1 + ((S0 296 (tO (a_T A) (gvA (a_T A) hd e.2.2.2.2.1).2.1).2.2.1).toNat : Int)))) (ml := [w + 2, w + 3, 138, 139, 141, 142]) (mk := cMc) h (by rcases hw with ⟨rfl, rfl⟩ | ⟨rfl, rfl⟩ <;> decide) (fun j x hm => mw_c hm) (fun i i0 i1 => by rw [fUp_n (by omega), fUp_n (by omega)]) (by rw [fUp_n (by first | decide | omega), fUp_n (by first | decide | omega)]; exact Int.le_refl _) (fun Y y hY ha hd9 he => ?_)) (rA_0 h p1 (fun Y sl hY ha hW hd9 => ?_))
      · have u := c14_c h hY
        have uu := cR_u hY
        rw [gb_c h hY g3, p1] at hd9
        have fin : ∀ V : wS, caP w (a_K A t) (a_T A) (a_L A) (a_G A) ba (tO (a_T A) (gvA (a_T A) hd e.2.2.2.2.1).2.1).2.2.1 (tO (a_T A) (gvA (a_T A) hd e.2.2.2.2.1).2.1).2.2.2.1 (S0 296 (tO (a_T A) (gvA (a_T A) hd e.2.2.2.2.1).2.1).2.2.1).toNat (S0 295 (tO (a_T A) (gvA (a_T A) hd e.2.2.2.2.1).2.1).2.2.1) ((a_K A t).1.getD ba (0, 0, [])) Y V → V w 16 = 0 ∧ cTk w V (kCl (a_K A t) ((a_K A t).1.take ba) (((a_K A t).2.1.getD ((a_K A t).2.1.length - 1) (0, 0, 0, (0, 0, []), 0, 0, 0)).2.1 + 1) (tO (a_T A) (gvA (a_T A) hd e.2.2.2.2.1).2.1).2.2.1 ((a_L A).length : Int) ((a_K A t).1.getD ba (0, 0, [])) (-1)) ∧ cFm w cMc Y V ∧ cWd V (a_T A) (a_L A ++ [((tO (a_T A) (gvA (a_T A) hd e.2.2.2.2.1).2.1).2.2.2.1, aVr (a_K A t).1 ba (esN (a_K A t) ba (S0 295 (tO (a_T A) (gvA (a_T A) hd e.2.2.2.2.1).2.1).2.2.1)) (S0 296 (tO (a_T A) (gvA (a_T A) hd e.2.2.2.2.1).2.1).2.2.1).toNat)]) (a_G A) ∧ cSw V (a_T A) (a_H A) ∧ cPo V ∧ cCw (fUp (fUp (a_c A) 0 (a_c A 0 + 1)) 1 (a_c A 1 + ((S0 296 (tO (a_T A) (gvA (a_T A) hd e.2.2.2.2.1).2.1).2.2.1).toNat : Int))) V := fun V hz => by
          rcases hz with ⟨z1, z2, z3, z4, z5, z6, z7, z8, z9⟩ | z | z
          · refine ⟨z3, z4, z6, z5, cR_Sw (A := A) hY z6 hw (fun j x hj hm => by unfold shD at hj; unfold cMc at hm; omega), z9 hY.2.2.1.2.2, cCw_of ?_ ?_ ?_ ?_ ?_ ?_⟩
            · rw [fUp_n (by first | decide | omega), fUp_s]; omega
            · rw [fUp_s]; omega
            · rw [fUp_n (by first | decide | omega), fUp_n (by first | decide | omega), fmG z6 hw 150 2 (by first | decide | omega) (fun hm => by unfold cMc at hm; omega)]; exact uu.2.2.1
            · rw [fUp_n (by first | decide | omega), fUp_n (by first | decide | omega), fmG z6 hw 150 3 (by first | decide | omega) (fun hm => by unfold cMc at hm; omega)]; exact uu.2.2.2.1
            · rw [fUp_n (by first | decide | omega), fUp_n (by first | decide | omega), fmG z6 hw 150 4 (by first | decide | omega) (fun hm => by unfold cMc at hm; omega)]; exact uu.2.2.2.2.1
            · rw [fUp_n (by first | decide | omega), fUp_n (by first | decide | omega), fmG z6 hw 72 11 (by first | decide | omega) (fun hm => by unfold cMc at hm; omega)]; exact uu.2.2.2.2.2
          · omega
          · omega
        rcases hw with ⟨rfl, rfl⟩ | ⟨rfl, rfl⟩
        · exact wJ_mono (amf_215 (d := d + 83) hx1 hd9 he.1.2.2.1 he.1.2.2.2.1 p3.1 h1 h2.1 h3 (fun _ => by omega) hkd ⟨h5, rfl⟩ (by omega) (by have z := gv_c h hY; rw [gb_c h hY g3] at z; exact z) (f2 Y hY) ⟨u.2.1.1, u.2.1.2.1⟩ ⟨u.2.2.1.1, u.2.2.1.2.1⟩ u.1 u.2.2.2) (fun o V hz => ⟨hz.1, fin V hz.2⟩)
        · exact wJ_mono (amf_226 (d := d + 83) hx1 hd9 he.1.2.2.1 he.1.2.2.2.1 p3.1 h1 h2.1 h3 (fun _ => by omega) hkd ⟨h5, rfl⟩ (by omega) (by have z := gv_c h hY; rw [gb_c h hY g3] at z; exact z) (f2 Y hY) ⟨u.2.1.1, u.2.1.2.1⟩ ⟨u.2.2.1.1, u.2.2.1.2.1⟩ u.1 u.2.2.2) (fun o V hz => ⟨hz.1, fin V hz.2⟩)
      · rw [gb_r h hY g3, p1] at hd9
        have u := rR_u hY
        refine wJ_mono (rmfT (d := d + 81) (s := s) (by rw [q3] at hd9; exact hd9) p3.1 h1 h2.1 h3 hkd ⟨h5, rfl⟩ (by omega) (by have z := gv_r h hY; rw [gb_r h hY g3] at z; exact z) hbe.1 hbe.2 (f3 Y hY) (rCn_of h hY (Or.inr trivial) hT0).1) (fun o Z hz hM => ?_)
        rcases hz with z | z | ⟨z1, z2, z3, z4, z5, z6, z7, z8, z9⟩
        · omega
        · have := z.2.1; omega
        · refine rQ_W (rk := rMc) h (fun j x hm => by unfold rMc at hm; unfold rWd9; omega) (fun i i0 i1 => by rw [fUp_n (by omega), fUp_n (by omega)]) hY hM ⟨z3, z4, z6, ⟨sl, z5⟩, rR_H (A := A) hY.1 z6 (fun j x hj hm => by unfold rMc at hm; omega), rCw_of ?_ ?_ ?_ ?_ ?_ ?_ ?_⟩
          · rw [fUp_n (by first | decide | omega), fUp_s]; omega
          · rw [fUp_s]; omega
          · rw [fUp_n (by first | decide | omega), fUp_n (by first | decide | omega), tmG z6 237 64 (by unfold rKp; omega) (fun hm => by unfold rMc at hm; omega)]; exact u.2.2.1
          · rw [fUp_n (by first | decide | omega), fUp_n (by first | decide | omega), tmG z6 237 65 (by unfold rKp; omega) (fun hm => by unfold rMc at hm; omega)]; exact u.2.2.2.1
          · rw [fUp_n (by first | decide | omega), fUp_n (by first | decide | omega), tmG z6 237 66 (by unfold rKp; omega) (fun hm => by unfold rMc at hm; omega)]; exact u.2.2.2.2.1
          · rw [fUp_n (by first | decide | omega), fUp_n (by first | decide | omega), tmG z6 237 81 (by unfold rKp; omega) (fun hm => by unfold rMc at hm; omega)]; exact u.2.2.2.2.2.1
          · have e82 := tmG z6 237 82 (by unfold rKp; omega) (fun hm => by unfold rMc at hm; omega)
            have := u.2.2.2.2.2.2
            omega
    · refine aO_X (c := 99) h (cA_X (ml := [w + 2, w + 3, 138, 139, 141, 142]) h (by rcases hw with ⟨rfl, rfl⟩ | ⟨rfl, rfl⟩ <;> decide) (fun Y y hY ha hd9 he => ?_)) (rA_0 h p1 (fun Y sl hY ha hW hd9 => ?_))
      · have u := c14_c h hY
        rw [gb_c h hY g3, p1] at hd9
        rcases hw with ⟨rfl, rfl⟩ | ⟨rfl, rfl⟩
        · exact wJ_mono (amf_215 (d := d + 83) hx1 hd9 he.1.2.2.1 he.1.2.2.2.1 p3.1 h1 h2.1 h3 (fun _ => by omega) hkd ⟨h5, rfl⟩ (by omega) (by have z := gv_c h hY; rw [gb_c h hY g3] at z; exact z) (f2 Y hY) ⟨u.2.1.1, u.2.1.2.1⟩ ⟨u.2.2.1.1, u.2.2.1.2.1⟩ u.1 u.2.2.2) (fun o V hz => ⟨hz.1, by rcases hz.2 with z | z | z; have := z.2.1; omega; omega; exact z.2.2⟩)
        · exact wJ_mono (amf_226 (d := d + 83) hx1 hd9 he.1.2.2.1 he.1.2.2.2.1 p3.1 h1 h2.1 h3 (fun _ => by omega) hkd ⟨h5, rfl⟩ (by omega) (by have z := gv_c h hY; rw [gb_c h hY g3] at z; exact z) (f2 Y hY) ⟨u.2.1.1, u.2.1.2.1⟩ ⟨u.2.2.1.1, u.2.2.1.2.1⟩ u.1 u.2.2.2) (fun o V hz => ⟨hz.1, by rcases hz.2 with z | z | z; have := z.2.1; omega; omega; exact z.2.2⟩)
      · rw [gb_r h hY g3, p1] at hd9
        have u := rR_u hY
        exact wJ_mono (rmfT (d := d + 81) (s := s) (by rw [q3] at hd9; exact hd9) p3.1 h1 h2.1 h3 hkd ⟨h5, rfl⟩ (by omega) (by have z := gv_r h hY; rw [gb_r h hY g3] at z; exact z) hbe.1 hbe.2 (f3 Y hY) (rCn_of h hY (Or.inr trivial) hT0).1) (fun o Z hz hM => rQ_X h hY (by first | decide | omega) (by rcases hz with z | z | z; omega; exact z.2.2; have := z.2.1; omega))

end Wlh
