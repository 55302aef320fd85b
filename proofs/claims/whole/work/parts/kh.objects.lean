/-! PART kh: a step of a task, on both sides: objects made of a prototype. -/
section Wkh
variable {Sb : wS} {xs : List (Nat × List Int32)} {d : Nat} {S0 S Z : wS} {p w m : Nat} {HT : Int → Int} {cs : List hCR} {ms : List hMR} {os : Int → List Int} {X : List (List Int)} {mo t n B B2 oq : Int} {fa : Int → Int} {WE : aA → Prop} {A A2 : aA} {K2 : aK} {ml : List Nat} {T2 : List aO} {L2 : List aC} {G2 : Int → aV} {H2 : List aH} {c2 : Int → Int} {mk rk : Nat → Int → Prop} {k : Int} {o : aO} {T T1 : List aO} {L : List aC} {H : List aH} {cf : Int → Int} {c : Int → Int} {q sh : Int}
/-- things and shapes as they are when a bare shape was made -/
def brK (T : List aO) (H : List aH) (T1 : List aO) (H2 : List aH) : Prop := T1.length = T.length ∧ (∃ l : List aH, H2 = H ++ l ∧ ∀ h ∈ l, h.2.2.1 = -1) ∧ ∀ k : Int, 0 ≤ k → k < (T.length : Int) → ((tO T1 k).1 = (tO T k).1 ∧ (tO T1 k).2.1 = (tO T k).2.1 ∧ (tO T1 k).2.2.1 = (tO T k).2.2.1 ∧ (tO T1 k).2.2.2.1 = (tO T k).2.2.2.1) ∧ ((tO T1 k).2.2.2.2.1 = (tO T k).2.2.2.2.1 ∨ (tO T1 k).2.2.2.2.1 = 0) ∧ (tO T1 k).2.2.2.2.2 = (tO T k).2.2.2.2.2
theorem brK_r : brK T H T H := ⟨rfl, ⟨[], (List.append_nil H).symm, fun h hh => absurd hh (List.not_mem_nil)⟩, fun k _ _ => ⟨⟨rfl, rfl, rfl, rfl⟩, Or.inl rfl, rfl⟩⟩
theorem brK_e (hq : isO T q) : brK T H (tEp T q 0) (H ++ [(q, -1, -1, 0)]) := by
  refine ⟨tEp_l, ⟨[(q, -1, -1, 0)], rfl, fun h hh => by rw [List.mem_singleton.mp hh]⟩, fun k k0 k1 => ?_⟩
  rw [tEp_o hq.1.1 hq.1.2 k0]
  by_cases e : k = q
  · rw [if_pos e, e]
    exact ⟨⟨rfl, rfl, rfl, rfl⟩, Or.inr rfl, rfl⟩
  · rw [if_neg e]
    exact ⟨⟨rfl, rfl, rfl, rfl⟩, Or.inl rfl, rfl⟩
theorem brK_t (h : brK T H T1 H2) : tKp T T1 := ⟨by rw [h.1]; exact Nat.le_refl _, fun k k0 k1 => ⟨(h.2.2 k k0 k1).1.1, (h.2.2 k k0 k1).1.2.2.1, (h.2.2 k k0 k1).1.2.2.2⟩⟩
theorem tKp_tr {T3 : List aO} (h : tKp T T1) (g : tKp T1 T3) : tKp T T3 := by
  refine ⟨Nat.le_trans h.1 g.1, fun k k0 k1 => ?_⟩
  obtain ⟨a1, a2, a3⟩ := h.2 k k0 k1
  obtain ⟨b1, b2, b3⟩ := g.2 k k0 (by have := h.1; omega)
  exact ⟨b1.trans a1, b2.trans a2, b3.trans a3⟩
theorem brK_n (h : brK T H T1 H2) {m : Int} (hn : ∀ s : Int, 0 ≤ s → s < (H.length : Int) → qNm H s = -1 ∨ (0 ≤ qNm H s ∧ qNm H s < m)) : ∀ s : Int, 0 ≤ s → s < (H2.length : Int) → qNm H2 s = -1 ∨ (0 ≤ qNm H2 s ∧ qNm H2 s < m) := fun s s0 s1 => by
  obtain ⟨l, rfl, h2⟩ := h.2.1
  by_cases e : s < (H.length : Int)
  · have z := hn s s0 e
    unfold qNm at z ⊢
    rw [gA_l (by omega)]
    exact z
  · refine Or.inl ?_
    rw [List.length_append] at s1
    unfold qNm
    rw [List.getD_eq_getElem?_getD, List.getElem?_append_right (by omega), List.getElem?_eq_getElem (by omega)]
    exact h2 _ (List.getElem_mem _)
theorem mem_tO {x : aO} (h : x ∈ T) : ∃ k : Int, (0 ≤ k ∧ k < (T.length : Int)) ∧ tO T k = x := by
  obtain ⟨i, hi, e⟩ := List.getElem_of_mem h
  refine ⟨(i : Int), ⟨by omega, by omega⟩, ?_⟩
  unfold tO
  rw [show ((i : Int)).toNat = i by omega, List.getD_eq_getElem?_getD, List.getElem?_eq_getElem hi]
  exact e
theorem tO_mem {k : Int} (k0 : 0 ≤ k) (k1 : k < (T.length : Int)) : tO T k ∈ T := by
  unfold tO
  rw [List.getD_eq_getElem?_getD, List.getElem?_eq_getElem (by omega)]
  exact List.getElem_mem _
/-- values of things that kept their properties -/
theorem pv_k (hl : T1.length = T.length) (hp : ∀ k : Int, 0 ≤ k → k < (T.length : Int) → (tO T1 k).2.2.2.2.2.2 = (tO T k).2.2.2.2.2.2) {P : aO → Prop} (h : ∀ x ∈ T, ∀ y ∈ x.2.2.2.2.2.2, vG T n y.2) (e : tKp T T1) : ∀ x ∈ T1, ∀ y ∈ x.2.2.2.2.2.2, vG T1 n y.2 := fun x hx y hy => by
  obtain ⟨k, ⟨k0, k1⟩, rfl⟩ := mem_tO hx
  rw [hl] at k1
  rw [hp k k0 k1] at hy
  exact vG_mo (h _ (tO_mem k0 k1) y hy) e
theorem wCl_k (h : wCl S0 fa T L cf) (hl : T1.length = T.length) (e : tKp T T1) : wCl S0 fa T1 L cf := by
  refine ⟨h.1, fun k k0 k1 k5 => ?_⟩
  rw [hl] at k1
  obtain ⟨e1, e2, e3⟩ := e.2 k k0 k1
  rw [e1] at k5
  rw [e2, e3]
  exact h.2 k k0 k1 k5
theorem kc_k {K : aK} (h : wKc T L cf K) (e : tKp T T1) : wKc T1 L cf K := fun f hf => by
  obtain ⟨z1, z2, z3⟩ := h f hf
  have := e.1
  exact ⟨z1, z2, z3.imp id (fun y => ⟨⟨y.1.1, by omega⟩, (e.2 _ y.1.1 y.1.2).1.trans y.2⟩)⟩
theorem tK7_b {o : aO} (hb : brK T H T1 H2) (h : o.1 = 4 ∨ o.1 = 5 ∨ o.1 = 6 := by exact Or.inl rfl) : tK7 T (T1 ++ [o]) := by
  obtain ⟨a1, a2⟩ := tK7_a (T := T1) h
  refine ⟨fun k k0 k1 k7 => ?_, fun k k0 k1 => a2 k (by rw [hb.1]; exact k0) k1⟩
  rw [tO_l k0 (by rw [hb.1]; exact k1), (hb.2.2 k k0 k1).2.2]
/-- an object is made -/
theorem wf_ob (hA : wfA S0 fa ms n WE B A) (hWw : WEw WE) (hw : isWt w t) (hB : B ≤ B2 ∧ B2 ≤ 600000) (hK : wTk fa S0 K2) (hKv : wKv (T1 ++ [((4, sh, -1, -1, -1, 0, []) : aO)]) n K2) (hfl : fLe K2.2.1 (a_K A t).2.1) (hb : brK (a_T A) (a_H A) T1 H2) (hs : wSh T1 H2) (hsh : (0 ≤ sh ∧ sh < (H2.length : Int)) ∧ aNs H2 sh = []) (hc : c2 0 = a_c A 0 + 1 ∧ c2 0 ≤ 8000 ∧ c2 4 = a_c A 4 + ((H2.length : Int) - ((a_H A).length : Int)) ∧ c2 4 ≤ 4000 ∧ ∀ i : Int, i ≠ 0 → i ≠ 4 → c2 i = a_c A i) : wfA S0 fa ms n WE B2 (u_W A t K2 (T1 ++ [((4, sh, -1, -1, -1, 0, []) : aO)]) (a_L A) (a_G A) H2 c2) := by
  have e1 := brK_t hb
  have e2 : tKp (a_T A) (T1 ++ [((4, sh, -1, -1, -1, 0, []) : aO)]) := tKp_tr e1 tKp_n
  obtain ⟨d0, d1, d2, d3, d4⟩ := hc
  obtain ⟨b1, b2, b3, b4, b5, b6, b7, b8, b9⟩ := wCt_B hA.2.2.2.2.1 hB
  have l : ((T1 ++ [((4, sh, -1, -1, -1, 0, []) : aO)]).length : Int) = ((a_T A).length : Int) + 1 := by rw [List.length_append, hb.1]; simp only [List.length_cons, List.length_nil]; omega
  have hl2 : ((a_H A).length : Int) ≤ (H2.length : Int) := by
    obtain ⟨q, rfl, -⟩ := hb.2.1
    rw [List.length_append]
    omega
  refine wf_W (k := -1) hA hWw hw hK e2 ?_ hKv (ob_n (pv_k (P := fun _ => True) hb.1 (fun k k0 k1 => by rw [(hb.2.2 k k0 k1).2.2]) hA.2.2.1.2.1 e1) (fun y hy => absurd hy (List.not_mem_nil))) (fun c hc v hv => vG_mo (hA.2.2.1.2.2.1 c hc v hv) e2) (fun q hq => vG_mo (hA.2.2.1.2.2.2.1 q hq) e2) (fun cf c1 c2 => ⟨cf, wCl_n (wCl_k c1 hb.1 e1) (fun q => absurd q (by show ¬ ((4 : Int) = 5); decide)), kc_le (kc_k c2 e2) hfl, Nat.le_refl _, fun _ _ => rfl⟩) ?_ (brK_n hb hA.2.2.2.2.2.1.2.1) ?_ ?_ (h20 := fun i hi => d4 i (by omega) (by omega)) (h7 := tK7_b hb)
  · refine wSh_a hs ⟨⟨?_, ?_⟩, fun _ => hsh.1, fun q => ?_, Or.inl rfl⟩ rfl (fun _ => ⟨hsh.2.symm, Nat.zero_le _⟩) (fun _ y hy => absurd hy (List.not_mem_nil))
    · show (4 : Int) ≤ 4
      decide
    · show (4 : Int) ≤ 7
      decide
    · exact absurd q (by show ¬ ((4 : Int) = 6 ∨ (4 : Int) = 7); decide)
  · refine ⟨⟨?_, d1⟩, ⟨?_, ?_, fun x hm => ?_⟩, ?_, ?_, ?_, ⟨?_, ?_, fun i i0 i1 => ?_⟩, b7, fun k k0 k1 => ?_, b9⟩
    · show ((T1 ++ [((4, sh, -1, -1, -1, 0, []) : aO)]).length : Int) + ((a_L A).length : Int) ≤ c2 0
      omega
    · show 0 ≤ c2 1
      rw [d4 1 (by first | decide | omega) (by first | decide | omega)]
      exact b2.1
    · show c2 1 ≤ 60000
      rw [d4 1 (by first | decide | omega) (by first | decide | omega)]
      exact b2.2.1
    · show (x.2.2.2.2.2.2.length : Int) ≤ c2 1
      rw [d4 1 (by first | decide | omega) (by first | decide | omega)]
      replace hm : x ∈ T1 ++ [((4, sh, -1, -1, -1, 0, []) : aO)] := hm
      rcases List.mem_append.mp hm with z | z
      · obtain ⟨k, ⟨k0, k1⟩, rfl⟩ := mem_tO z
        rw [hb.1] at k1
        rw [(hb.2.2 k k0 k1).2.2]
        exact b2.2.2 _ (tO_mem k0 k1)
      · rw [List.mem_singleton.mp z]
        exact b2.1
    · show 0 ≤ c2 2 ∧ c2 2 ≤ 12000
      rw [d4 2 (by first | decide | omega) (by first | decide | omega)]
      exact b3
    · show 0 ≤ c2 3 ∧ c2 3 ≤ 200000
      rw [d4 3 (by first | decide | omega) (by first | decide | omega)]
      exact b4
    · show 0 ≤ c2 4 ∧ c2 4 ≤ 4000 ∧ (H2.length : Int) ≤ c2 4 + 1
      omega
    · show 0 ≤ c2 11 ∧ c2 11 ≤ B2
      rw [d4 11 (by first | decide | omega) (by first | decide | omega)]
      exact b6.1
    · show 0 ≤ c2 19 ∧ c2 19 ≤ B2
      rw [d4 19 (by first | decide | omega) (by first | decide | omega)]
      exact b6.2.1
    · show 0 ≤ c2 i ∧ c2 i ≤ B2
      rw [d4 i (by omega) (by omega)]
      exact b6.2.2 i i0 i1
    · show (-1 ≤ (tO (T1 ++ [((4, sh, -1, -1, -1, 0, []) : aO)]) k).2.2.2.2.1 ∧ (tO (T1 ++ [((4, sh, -1, -1, -1, 0, []) : aO)]) k).2.2.2.2.1 ≤ c2 11) ∧ 0 ≤ (tO (T1 ++ [((4, sh, -1, -1, -1, 0, []) : aO)]) k).2.2.2.2.2.1 ∧ (tO (T1 ++ [((4, sh, -1, -1, -1, 0, []) : aO)]) k).2.2.2.2.2.1 ≤ c2 11
      replace k1 : k < ((T1 ++ [((4, sh, -1, -1, -1, 0, []) : aO)]).length : Int) := k1
      rw [d4 11 (by first | decide | omega) (by first | decide | omega)]
      have b60 := b6.1.1
      by_cases q : k < ((a_T A).length : Int)
      · rw [tO_l k0 (by rw [hb.1]; exact q)]
        obtain ⟨-, z2, z3⟩ := hb.2.2 k k0 q
        rw [z3]
        have z4 := b8 k k0 q
        refine ⟨?_, z4.2⟩
        rcases z2 with z2 | z2
        · rw [z2]
          exact z4.1
        · rw [z2]
          omega
      · rw [show k = (T1.length : Int) by rw [hb.1]; omega, tO_r]
        show (-1 ≤ (-1 : Int) ∧ (-1 : Int) ≤ a_c A 11) ∧ 0 ≤ (0 : Int) ∧ (0 : Int) ≤ a_c A 11
        omega
  · refine eCh_of hA.2.1 (by omega) (by obtain ⟨q, e, -⟩ := hb.2.1; exact ⟨q, e⟩) (fun q hq _ => ?_) eN_1
    rw [tO_l hq.1.1 (by rw [hb.1]; exact hq.1.2)]
    obtain ⟨z1, z2, z3⟩ := hb.2.2 q hq.1.1 hq.1.2
    refine ⟨z1.2.1, ?_, by rw [z3]⟩
    unfold pNs
    rw [z3]
  · rw [d4 11 (by first | decide | omega) (by first | decide | omega)]
    exact Int.le_refl _
theorem br_p (hw : wSh T H) (hq : isO T q) (hf : aFs (-1) q (-1) H 0 ≠ -1) : aBr T H q = (T, H, aFs (-1) q (-1) H 0) := by
  unfold aBr
  rw [if_neg (by have := hq.1.1; omega), if_neg hf]
theorem br_q (hw : wSh T H) (hq : isO T q) (hf : aFs (-1) q (-1) H 0 = -1) : aBr T H q = (tEp T q 0, H ++ [(q, -1, -1, 0)], (H.length : Int)) := by
  unfold aBr
  rw [if_neg (by have := hq.1.1; omega), if_pos hf]
theorem br_s (hw : wSh T H) (hq : isO T q) (hf : 0 ≤ aFs (-1) q (-1) H 0) : (0 ≤ aFs (-1) q (-1) H 0 ∧ aFs (-1) q (-1) H 0 < (H.length : Int)) ∧ aNs H (aFs (-1) q (-1) H 0) = [] := by
  have z := aBr_ok hw (Or.inr hq) (l := []) (by
    unfold aMb
    rw [if_neg (by have := hq.1.1; omega), if_neg (by omega)]
    have := hw.1.2.1
    show (H.length : Int) + (0 + 0) ≤ 4001
    omega)
  rw [br_p hw hq (by omega)] at z
  exact ⟨z.2.1, z.2.2.2.1⟩
theorem br_l (hw : wSh T H) (hq : isO T q) (hf : aFs (-1) q (-1) H 0 = -1) (hl : (H.length : Int) ≤ 4000) : wSh (tEp T q 0) (H ++ [(q, -1, -1, 0)]) ∧ (0 ≤ (H.length : Int) ∧ (H.length : Int) < ((H ++ [((q, -1, -1, 0) : aH)]).length : Int)) ∧ aNs (H ++ [(q, -1, -1, 0)]) (H.length : Int) = [] := by
  have z := aBr_ok hw (Or.inr hq) (l := []) (by
    unfold aMb
    rw [if_neg (by have := hq.1.1; omega), if_pos hf]
    show (H.length : Int) + (1 + 0) ≤ 4001
    omega)
  rw [br_q hw hq hf] at z
  exact ⟨z.1, z.2.1, z.2.2.2.1⟩
theorem cCw_4 {z0 z4 : Int} (h : cRel S0 p HT cs ms os X mo A S) (hw : isWt w t) (hF : cFm w mk S Z) (e0 : Z 150 0 = S 150 0 + z0) (e4 : Z 150 4 = S 150 4 + z4) (e : ∀ x : Int, x ≠ 0 → x ≠ 4 → Z 150 x = S 150 x) (e11 : ¬ mk 72 11) : cCw (fUp (fUp (a_c A) 0 (a_c A 0 + z0)) 4 (a_c A 4 + z4)) Z := by
  obtain ⟨u0, u1, u2, u3, u4, u5⟩ := cR_u h
  refine cCw_of ?_ ?_ ?_ ?_ ?_ ?_
  · rw [fUp_n (by first | decide | omega), fUp_s, e0, u0]
  · rw [fUp_n (by first | decide | omega), fUp_n (by first | decide | omega)]; exact (e 1 (by first | decide | omega) (by first | decide | omega)).trans u1
  · rw [fUp_n (by first | decide | omega), fUp_n (by first | decide | omega)]; exact (e 2 (by first | decide | omega) (by first | decide | omega)).trans u2
  · rw [fUp_n (by first | decide | omega), fUp_n (by first | decide | omega)]; exact (e 3 (by first | decide | omega) (by first | decide | omega)).trans u3
  · rw [fUp_s, e4, u4]
  · rw [fUp_n (by first | decide | omega), fUp_n (by first | decide | omega)]; exact (fmG hF hw 72 11 (by first | decide | omega) e11).trans u5
theorem rCw_4 {z0 z4 : Int} (h : rRun S0 Sb HT cs ms os X mo t A S) (e0 : Z 237 62 = S 237 62 + z0) (e4 : Z 237 66 = S 237 66 + z4) (e : ∀ x : Int, x ≠ 62 → x ≠ 68 → x ≠ 66 → x ≠ 87 → x ≠ 154 → x ≠ 155 → Z 237 x = S 237 x) : rCw (fUp (fUp (a_c A) 0 (a_c A 0 + z0)) 4 (a_c A 4 + z4)) Z := by
  obtain ⟨u0, u1, u2, u3, u4, u5, u6⟩ := rR_u h
  have f := fun (x : Int) (hx : x = 63 ∨ x = 64 ∨ x = 65 ∨ x = 81 ∨ x = 82 ∨ x = 94) => e x (by omega) (by omega) (by omega) (by omega) (by omega) (by omega)
  refine rCw_of ?_ ?_ ?_ ?_ ?_ ?_ ?_
  · rw [fUp_n (by first | decide | omega), fUp_s, e0, u0]
  · rw [fUp_n (by first | decide | omega), fUp_n (by first | decide | omega)]; exact (f _ (by omega)).trans u1
  · rw [fUp_n (by first | decide | omega), fUp_n (by first | decide | omega)]; exact (f _ (by omega)).trans u2
  · rw [fUp_n (by first | decide | omega), fUp_n (by first | decide | omega)]; exact (f _ (by omega)).trans u3
  · rw [fUp_s, e4, u4]
  · rw [fUp_n (by first | decide | omega), fUp_n (by first | decide | omega)]; exact (f _ (by omega)).trans u5
  · rw [f 82 (by omega), f 94 (by omega), f 63 (by omega)]
    exact u6

theorem sb_1n (h : hyS S0 p X fa ms n WE B B2 w t A) (hWw : WEw WE) (hx1 : pe_at (pe_GA xs).xs 1 = some (1, tx_1)) (ho : opI S0 (a_K A t) = 28) (ha : (opA S0 (a_K A t)) = 1) (hy : ((a_K A t).1.getD ((a_K A t).1.length - 1) (0, 0, [])).1 = 0) (hm : a_c A 0 < 8000) : stO xs d S0 p HT cs ms os X mo fa n WE B2 w t A := by
  obtain ⟨hp, hw, hx, hA, hE, hB, hr⟩ := h
  have hk := wT_of hA hw
  have hv := wV_of hA hw
  have hc := fun (S : wS) (hS : cRel S0 p HT cs ms os X mo A S) => hcb_c hx hk hr hw ho ha hS
  have hq := fun {Sb : wS} (S : wS) (hS : rRun S0 Sb HT cs ms os X mo t A S) => hqb_r hx hk hr hw ho ha hS
  have hh := tyt_h hx hk hr
  rw [ho, ha] at hh
  replace hh : 1 ≤ (a_K A t).1.length := by have z : (1 : Int) ≤ ((a_K A t).1.length : Int) := hh; omega
  have hu := hA.2.2.2.2.1
  have hT8 : ((a_T A).length : Int) ≤ 8000 := by have := hu.1; omega
  have hTu : ((a_T A).length : Int) ≤ a_c A 0 := by have := hu.1; omega
  obtain ⟨n1, n2, n3, n4⟩ := wN_b hA
  have hw0 := hw
  rcases hw with ⟨rfl, rfl⟩ | ⟨rfl, rfl⟩
  · refine stO_W (ml := [217, 218, 127, 128, 129, 130, 131, 132, 133, 134, 135, 136, 141, 142]) (mk := cMb) (rk := rMb) (K2 := kP (a_K A 0) 1 (4, ((a_T A).length : Int), [])) (T2 := a_T A ++ [((4, 0, -1, -1, -1, 0, []) : aO)]) (L2 := a_L A) (G2 := a_G A) (H2 := a_H A) (c2 := (fUp (fUp (a_c A) 0 (a_c A 0 + 1)) 4 (a_c A 4 + 0))) hp hw0 (by first | decide | omega) hA (wf_ob hA hWw hw0 hB (tyt_P (m := 1) hx hk hr (by rw [ho]; decide) (by rw [ho, ha]; rfl) (by omega) (fun z => absurd z (by first | decide | omega))) (kv_P (kv_mo hv (tKp_tr (brK_t (brK_r (H := a_H A))) tKp_n)) ?_) fLe_P (brK_r (H := a_H A)) hA.2.1 ⟨⟨by omega, by have := H_pos hA.2.1.1; omega⟩, aNs_0 (wHs_z hA.2.1.1).2.2.2⟩ ⟨by rw [fUp_n (by first | decide | omega), fUp_s], by rw [fUp_n (by first | decide | omega), fUp_s]; omega, ?_, by rw [fUp_s]; omega, fun i i0 i1 => by rw [fUp_n i1, fUp_n i0]⟩) (fun j x hm => mw_b hm) (fun j x hm => by unfold rMb rMk at hm; unfold rWd9; omega) (fun i i0 _ => by rw [fUp_n (by omega), fUp_n (by omega)]) (fun S hS => ?_) (fun S hS => ?_)
    · have z := vG_a (T := a_T A) (n := n) (o := ((4, 0, -1, -1, -1, 0, []) : aO)) (x := 4) (Or.inl rfl) rfl
      rw [(brK_r (H := a_H A)).1] at z
      exact z
    · rw [fUp_s]
      omega
    · have u := cR_u hS
      refine wJ_mono (zb1n_215 (hc S hS).1 (hc S hS).2 hx1 hS.2.2.1.1 hS.2.2.1.2.1 hA.2.1 ⟨by omega, by have := hu.1.2; omega⟩ (by rw [u.2.2.2.2.1]; exact ⟨n4.1, n4.2.1⟩) hT8 (by have := c5_b hS hu.2.1.2.1; omega) hh hy (by omega)) (fun o Z z => ⟨z.1, z.2.1, z.2.2.1, z.2.2.2.1, z.2.2.2.2.1, z.2.2.2.2.2.2 hS.2.2.1.2.2, ?_⟩)
      exact cCw_4 hS hw0 z.2.2.1 z.2.2.2.2.2.1.1 (by rw [z.2.2.2.2.2.1.2.1]; omega) z.2.2.2.2.2.1.2.2 (fun hm => by unfold cMb cMk at hm; omega)
    · obtain ⟨sl, hW⟩ := hS.1.2.2.1.1
      have u := rR_u hS
      refine rtu_mo (rnb1n (hq S hS).1 (hq S hS).2.2 (hq S hS).2.1 hW hS.1.2.2.1.2 hA.2.1 ⟨by omega, by have := hu.1.2; omega⟩ (by rw [u.2.2.2.2.1]; exact n4) hh hy (by omega)) (fun Z dn z => ⟨z.1, z.2.1, z.2.2.1, ⟨_, z.2.2.2.1⟩, z.2.2.2.2.1, ?_⟩)
      exact rCw_4 hS z.2.2.2.2.2.1 (by rw [z.2.2.2.2.2.2.1]; omega) z.2.2.2.2.2.2.2
  · refine stO_W (ml := [228, 229, 127, 128, 129, 130, 131, 132, 133, 134, 135, 136, 141, 142]) (mk := cMb) (rk := rMb) (K2 := kP (a_K A 1) 1 (4, ((a_T A).length : Int), [])) (T2 := a_T A ++ [((4, 0, -1, -1, -1, 0, []) : aO)]) (L2 := a_L A) (G2 := a_G A) (H2 := a_H A) (c2 := (fUp (fUp (a_c A) 0 (a_c A 0 + 1)) 4 (a_c A 4 + 0))) hp hw0 (by first | decide | omega) hA (wf_ob hA hWw hw0 hB (tyt_P (m := 1) hx hk hr (by rw [ho]; decide) (by rw [ho, ha]; rfl) (by omega) (fun z => absurd z (by first | decide | omega))) (kv_P (kv_mo hv (tKp_tr (brK_t (brK_r (H := a_H A))) tKp_n)) ?_) fLe_P (brK_r (H := a_H A)) hA.2.1 ⟨⟨by omega, by have := H_pos hA.2.1.1; omega⟩, aNs_0 (wHs_z hA.2.1.1).2.2.2⟩ ⟨by rw [fUp_n (by first | decide | omega), fUp_s], by rw [fUp_n (by first | decide | omega), fUp_s]; omega, ?_, by rw [fUp_s]; omega, fun i i0 i1 => by rw [fUp_n i1, fUp_n i0]⟩) (fun j x hm => mw_b hm) (fun j x hm => by unfold rMb rMk at hm; unfold rWd9; omega) (fun i i0 _ => by rw [fUp_n (by omega), fUp_n (by omega)]) (fun S hS => ?_) (fun S hS => ?_)
    · have z := vG_a (T := a_T A) (n := n) (o := ((4, 0, -1, -1, -1, 0, []) : aO)) (x := 4) (Or.inl rfl) rfl
      rw [(brK_r (H := a_H A)).1] at z
      exact z
    · rw [fUp_s]
      omega
    · have u := cR_u hS
      refine wJ_mono (zb1n_226 (hc S hS).1 (hc S hS).2 hx1 hS.2.2.1.1 hS.2.2.1.2.1 hA.2.1 ⟨by omega, by have := hu.1.2; omega⟩ (by rw [u.2.2.2.2.1]; exact ⟨n4.1, n4.2.1⟩) hT8 (by have := c5_b hS hu.2.1.2.1; omega) hh hy (by omega)) (fun o Z z => ⟨z.1, z.2.1, z.2.2.1, z.2.2.2.1, z.2.2.2.2.1, z.2.2.2.2.2.2 hS.2.2.1.2.2, ?_⟩)
      exact cCw_4 hS hw0 z.2.2.1 z.2.2.2.2.2.1.1 (by rw [z.2.2.2.2.2.1.2.1]; omega) z.2.2.2.2.2.1.2.2 (fun hm => by unfold cMb cMk at hm; omega)
    · obtain ⟨sl, hW⟩ := hS.1.2.2.1.1
      have u := rR_u hS
      refine rtu_mo (rnb1n (hq S hS).1 (hq S hS).2.2 (hq S hS).2.1 hW hS.1.2.2.1.2 hA.2.1 ⟨by omega, by have := hu.1.2; omega⟩ (by rw [u.2.2.2.2.1]; exact n4) hh hy (by omega)) (fun Z dn z => ⟨z.1, z.2.1, z.2.2.1, ⟨_, z.2.2.2.1⟩, z.2.2.2.2.1, ?_⟩)
      exact rCw_4 hS z.2.2.2.2.2.1 (by rw [z.2.2.2.2.2.2.1]; omega) z.2.2.2.2.2.2.2

theorem sb_1o (h : hyS S0 p X fa ms n WE B B2 w t A) (hWw : WEw WE) (hx1 : pe_at (pe_GA xs).xs 1 = some (1, tx_1)) (ho : opI S0 (a_K A t) = 28) (ha : (opA S0 (a_K A t)) = 1) (hy : ((a_K A t).1.getD ((a_K A t).1.length - 1) (0, 0, [])).1 = 4 ∨ ((a_K A t).1.getD ((a_K A t).1.length - 1) (0, 0, [])).1 = 5) (hm : a_c A 0 < 8000 ∧ 0 ≤ (aFs (-1) ((a_K A t).1.getD ((a_K A t).1.length - 1) (0, 0, [])).2.1 (-1) (a_H A) 0)) : stO xs d S0 p HT cs ms os X mo fa n WE B2 w t A := by
  obtain ⟨hp, hw, hx, hA, hE, hB, hr⟩ := h
  have hk := wT_of hA hw
  have hv := wV_of hA hw
  have hc := fun (S : wS) (hS : cRel S0 p HT cs ms os X mo A S) => hcb_c hx hk hr hw ho ha hS
  have hq := fun {Sb : wS} (S : wS) (hS : rRun S0 Sb HT cs ms os X mo t A S) => hqb_r hx hk hr hw ho ha hS
  have hh := tyt_h hx hk hr
  rw [ho, ha] at hh
  replace hh : 1 ≤ (a_K A t).1.length := by have z : (1 : Int) ≤ ((a_K A t).1.length : Int) := hh; omega
  have hu := hA.2.2.2.2.1
  have hT8 : ((a_T A).length : Int) ≤ 8000 := by have := hu.1; omega
  have hTu : ((a_T A).length : Int) ≤ a_c A 0 := by have := hu.1; omega
  obtain ⟨n1, n2, n3, n4⟩ := wN_b hA
  have hqo := vG_o (hv.1 _ (tp_m (by omega))) hy
  have hw0 := hw
  rcases hw with ⟨rfl, rfl⟩ | ⟨rfl, rfl⟩
  · refine stO_W (ml := [217, 218, 127, 128, 129, 130, 131, 132, 133, 134, 135, 136, 141, 142, 144, 145, 146, 147, 148]) (mk := cMb) (rk := rMb) (K2 := kP (a_K A 0) 1 (4, ((a_T A).length : Int), [])) (T2 := a_T A ++ [((4, (aFs (-1) ((a_K A 0).1.getD ((a_K A 0).1.length - 1) (0, 0, [])).2.1 (-1) (a_H A) 0), -1, -1, -1, 0, []) : aO)]) (L2 := a_L A) (G2 := a_G A) (H2 := a_H A) (c2 := (fUp (fUp (a_c A) 0 (a_c A 0 + 1)) 4 (a_c A 4 + 0))) hp hw0 (by first | decide | omega) hA (wf_ob hA hWw hw0 hB (tyt_P (m := 1) hx hk hr (by rw [ho]; decide) (by rw [ho, ha]; rfl) (by omega) (fun z => absurd z (by first | decide | omega))) (kv_P (kv_mo hv (tKp_tr (brK_t (brK_r (H := a_H A))) tKp_n)) ?_) fLe_P (brK_r (H := a_H A)) hA.2.1 (br_s hA.2.1 hqo hm.2) ⟨by rw [fUp_n (by first | decide | omega), fUp_s], by rw [fUp_n (by first | decide | omega), fUp_s]; omega, ?_, by rw [fUp_s]; omega, fun i i0 i1 => by rw [fUp_n i1, fUp_n i0]⟩) (fun j x hm => mw_b hm) (fun j x hm => by unfold rMb rMk at hm; unfold rWd9; omega) (fun i i0 _ => by rw [fUp_n (by omega), fUp_n (by omega)]) (fun S hS => ?_) (fun S hS => ?_)
    · have z := vG_a (T := a_T A) (n := n) (o := ((4, (aFs (-1) ((a_K A 0).1.getD ((a_K A 0).1.length - 1) (0, 0, [])).2.1 (-1) (a_H A) 0), -1, -1, -1, 0, []) : aO)) (x := 4) (Or.inl rfl) rfl
      rw [(brK_r (H := a_H A)).1] at z
      exact z
    · rw [fUp_s]
      omega
    · have u := cR_u hS
      refine wJ_mono (zb1o_215 (hc S hS).1 (hc S hS).2 hx1 hS.2.2.1.1 hS.2.2.1.2.1 hA.2.1 ⟨by omega, by have := hu.1.2; omega⟩ (by rw [u.2.2.2.2.1]; exact ⟨n4.1, n4.2.1⟩) hT8 (by have := c5_b hS hu.2.1.2.1; omega) hh hy hqo rfl ⟨by omega, hm.2⟩) (fun o Z z => ⟨z.1, z.2.1, z.2.2.1, z.2.2.2.1, z.2.2.2.2.1, z.2.2.2.2.2.2 hS.2.2.1.2.2, ?_⟩)
      exact cCw_4 hS hw0 z.2.2.1 z.2.2.2.2.2.1.1 (by rw [z.2.2.2.2.2.1.2.1]; omega) z.2.2.2.2.2.1.2.2 (fun hm => by unfold cMb cMk at hm; omega)
    · obtain ⟨sl, hW⟩ := hS.1.2.2.1.1
      have u := rR_u hS
      refine rtu_mo (rnb1o (hq S hS).1 (hq S hS).2.2 (hq S hS).2.1 hW hS.1.2.2.1.2 hA.2.1 ⟨by omega, by have := hu.1.2; omega⟩ (by rw [u.2.2.2.2.1]; exact n4) hh hy hqo rfl ⟨by omega, hm.2⟩) (fun Z dn z => ⟨z.1, z.2.1, z.2.2.1, ⟨_, z.2.2.2.1⟩, z.2.2.2.2.1, ?_⟩)
      exact rCw_4 hS z.2.2.2.2.2.1 (by rw [z.2.2.2.2.2.2.1]; omega) z.2.2.2.2.2.2.2
  · refine stO_W (ml := [228, 229, 127, 128, 129, 130, 131, 132, 133, 134, 135, 136, 141, 142, 144, 145, 146, 147, 148]) (mk := cMb) (rk := rMb) (K2 := kP (a_K A 1) 1 (4, ((a_T A).length : Int), [])) (T2 := a_T A ++ [((4, (aFs (-1) ((a_K A 1).1.getD ((a_K A 1).1.length - 1) (0, 0, [])).2.1 (-1) (a_H A) 0), -1, -1, -1, 0, []) : aO)]) (L2 := a_L A) (G2 := a_G A) (H2 := a_H A) (c2 := (fUp (fUp (a_c A) 0 (a_c A 0 + 1)) 4 (a_c A 4 + 0))) hp hw0 (by first | decide | omega) hA (wf_ob hA hWw hw0 hB (tyt_P (m := 1) hx hk hr (by rw [ho]; decide) (by rw [ho, ha]; rfl) (by omega) (fun z => absurd z (by first | decide | omega))) (kv_P (kv_mo hv (tKp_tr (brK_t (brK_r (H := a_H A))) tKp_n)) ?_) fLe_P (brK_r (H := a_H A)) hA.2.1 (br_s hA.2.1 hqo hm.2) ⟨by rw [fUp_n (by first | decide | omega), fUp_s], by rw [fUp_n (by first | decide | omega), fUp_s]; omega, ?_, by rw [fUp_s]; omega, fun i i0 i1 => by rw [fUp_n i1, fUp_n i0]⟩) (fun j x hm => mw_b hm) (fun j x hm => by unfold rMb rMk at hm; unfold rWd9; omega) (fun i i0 _ => by rw [fUp_n (by omega), fUp_n (by omega)]) (fun S hS => ?_) (fun S hS => ?_)
    · have z := vG_a (T := a_T A) (n := n) (o := ((4, (aFs (-1) ((a_K A 1).1.getD ((a_K A 1).1.length - 1) (0, 0, [])).2.1 (-1) (a_H A) 0), -1, -1, -1, 0, []) : aO)) (x := 4) (Or.inl rfl) rfl
      rw [(brK_r (H := a_H A)).1] at z
      exact z
    · rw [fUp_s]
      omega
    · have u := cR_u hS
      refine wJ_mono (zb1o_226 (hc S hS).1 (hc S hS).2 hx1 hS.2.2.1.1 hS.2.2.1.2.1 hA.2.1 ⟨by omega, by have := hu.1.2; omega⟩ (by rw [u.2.2.2.2.1]; exact ⟨n4.1, n4.2.1⟩) hT8 (by have := c5_b hS hu.2.1.2.1; omega) hh hy hqo rfl ⟨by omega, hm.2⟩) (fun o Z z => ⟨z.1, z.2.1, z.2.2.1, z.2.2.2.1, z.2.2.2.2.1, z.2.2.2.2.2.2 hS.2.2.1.2.2, ?_⟩)
      exact cCw_4 hS hw0 z.2.2.1 z.2.2.2.2.2.1.1 (by rw [z.2.2.2.2.2.1.2.1]; omega) z.2.2.2.2.2.1.2.2 (fun hm => by unfold cMb cMk at hm; omega)
    · obtain ⟨sl, hW⟩ := hS.1.2.2.1.1
      have u := rR_u hS
      refine rtu_mo (rnb1o (hq S hS).1 (hq S hS).2.2 (hq S hS).2.1 hW hS.1.2.2.1.2 hA.2.1 ⟨by omega, by have := hu.1.2; omega⟩ (by rw [u.2.2.2.2.1]; exact n4) hh hy hqo rfl ⟨by omega, hm.2⟩) (fun Z dn z => ⟨z.1, z.2.1, z.2.2.1, ⟨_, z.2.2.2.1⟩, z.2.2.2.2.1, ?_⟩)
      exact rCw_4 hS z.2.2.2.2.2.1 (by rw [z.2.2.2.2.2.2.1]; omega) z.2.2.2.2.2.2.2

theorem sb_1p (h : hyS S0 p X fa ms n WE B B2 w t A) (hWw : WEw WE) (hx1 : pe_at (pe_GA xs).xs 1 = some (1, tx_1)) (ho : opI S0 (a_K A t) = 28) (ha : (opA S0 (a_K A t)) = 1) (hy : ((a_K A t).1.getD ((a_K A t).1.length - 1) (0, 0, [])).1 = 4 ∨ ((a_K A t).1.getD ((a_K A t).1.length - 1) (0, 0, [])).1 = 5) (hm : a_c A 0 < 8000 ∧ (aFs (-1) ((a_K A t).1.getD ((a_K A t).1.length - 1) (0, 0, [])).2.1 (-1) (a_H A) 0) = -1 ∧ a_c A 4 < 4000) : stO xs d S0 p HT cs ms os X mo fa n WE B2 w t A := by
  obtain ⟨hp, hw, hx, hA, hE, hB, hr⟩ := h
  have hk := wT_of hA hw
  have hv := wV_of hA hw
  have hc := fun (S : wS) (hS : cRel S0 p HT cs ms os X mo A S) => hcb_c hx hk hr hw ho ha hS
  have hq := fun {Sb : wS} (S : wS) (hS : rRun S0 Sb HT cs ms os X mo t A S) => hqb_r hx hk hr hw ho ha hS
  have hh := tyt_h hx hk hr
  rw [ho, ha] at hh
  replace hh : 1 ≤ (a_K A t).1.length := by have z : (1 : Int) ≤ ((a_K A t).1.length : Int) := hh; omega
  have hu := hA.2.2.2.2.1
  have hT8 : ((a_T A).length : Int) ≤ 8000 := by have := hu.1; omega
  have hTu : ((a_T A).length : Int) ≤ a_c A 0 := by have := hu.1; omega
  obtain ⟨n1, n2, n3, n4⟩ := wN_b hA
  have hqo := vG_o (hv.1 _ (tp_m (by omega))) hy
  have hl4 : ((a_H A).length : Int) ≤ 4000 := by omega
  have hw0 := hw
  rcases hw with ⟨rfl, rfl⟩ | ⟨rfl, rfl⟩
  · refine stO_W (ml := [217, 218, 127, 128, 129, 130, 131, 132, 133, 134, 135, 136, 141, 142, 144, 145, 146, 147, 148]) (mk := cMb) (rk := rMb) (K2 := kP (a_K A 0) 1 (4, ((a_T A).length : Int), [])) (T2 := (tEp (a_T A) ((a_K A 0).1.getD ((a_K A 0).1.length - 1) (0, 0, [])).2.1 0) ++ [((4, ((a_H A).length : Int), -1, -1, -1, 0, []) : aO)]) (L2 := a_L A) (G2 := a_G A) (H2 := (a_H A ++ [((((a_K A 0).1.getD ((a_K A 0).1.length - 1) (0, 0, [])).2.1, -1, -1, 0) : aH)])) (c2 := (fUp (fUp (a_c A) 0 (a_c A 0 + 1)) 4 (a_c A 4 + 1))) hp hw0 (by first | decide | omega) hA (wf_ob hA hWw hw0 hB (tyt_P (m := 1) hx hk hr (by rw [ho]; decide) (by rw [ho, ha]; rfl) (by omega) (fun z => absurd z (by first | decide | omega))) (kv_P (kv_mo hv (tKp_tr (brK_t (brK_e (H := a_H A) hqo)) tKp_n)) ?_) fLe_P (brK_e (H := a_H A) hqo) (br_l hA.2.1 hqo hm.2.1 hl4).1 (br_l hA.2.1 hqo hm.2.1 hl4).2 ⟨by rw [fUp_n (by first | decide | omega), fUp_s], by rw [fUp_n (by first | decide | omega), fUp_s]; omega, ?_, by rw [fUp_s]; omega, fun i i0 i1 => by rw [fUp_n i1, fUp_n i0]⟩) (fun j x hm => mw_b hm) (fun j x hm => by unfold rMb rMk at hm; unfold rWd9; omega) (fun i i0 _ => by rw [fUp_n (by omega), fUp_n (by omega)]) (fun S hS => ?_) (fun S hS => ?_)
    · have z := vG_a (T := (tEp (a_T A) ((a_K A 0).1.getD ((a_K A 0).1.length - 1) (0, 0, [])).2.1 0)) (n := n) (o := ((4, ((a_H A).length : Int), -1, -1, -1, 0, []) : aO)) (x := 4) (Or.inl rfl) rfl
      rw [(brK_e (H := a_H A) hqo).1] at z
      exact z
    · rw [fUp_s]
      rw [List.length_append]; simp only [List.length_cons, List.length_nil]; omega
    · have u := cR_u hS
      refine wJ_mono (zb1p_215 (hc S hS).1 (hc S hS).2 hx1 hS.2.2.1.1 hS.2.2.1.2.1 hA.2.1 ⟨by omega, by have := hu.1.2; omega⟩ (by rw [u.2.2.2.2.1]; exact ⟨n4.1, n4.2.1⟩) hT8 (by have := c5_b hS hu.2.1.2.1; omega) hh hy hqo rfl ⟨by omega, hm.2.1, by omega⟩ hl4) (fun o Z z => ⟨z.1, z.2.1, z.2.2.1, z.2.2.2.1, z.2.2.2.2.1, z.2.2.2.2.2.2 hS.2.2.1.2.2, ?_⟩)
      exact cCw_4 hS hw0 z.2.2.1 z.2.2.2.2.2.1.1 z.2.2.2.2.2.1.2.1 z.2.2.2.2.2.1.2.2 (fun hm => by unfold cMb cMk at hm; omega)
    · obtain ⟨sl, hW⟩ := hS.1.2.2.1.1
      have u := rR_u hS
      refine rtu_mo (rnb1p (hq S hS).1 (hq S hS).2.2 (hq S hS).2.1 hW hS.1.2.2.1.2 hA.2.1 ⟨by omega, by have := hu.1.2; omega⟩ (by rw [u.2.2.2.2.1]; exact n4) hh hy hqo rfl ⟨by omega, hm.2.1, by omega⟩) (fun Z dn z => ⟨z.1, z.2.1, z.2.2.1, ⟨_, z.2.2.2.1⟩, z.2.2.2.2.1, ?_⟩)
      exact rCw_4 hS z.2.2.2.2.2.1 z.2.2.2.2.2.2.1 z.2.2.2.2.2.2.2
  · refine stO_W (ml := [228, 229, 127, 128, 129, 130, 131, 132, 133, 134, 135, 136, 141, 142, 144, 145, 146, 147, 148]) (mk := cMb) (rk := rMb) (K2 := kP (a_K A 1) 1 (4, ((a_T A).length : Int), [])) (T2 := (tEp (a_T A) ((a_K A 1).1.getD ((a_K A 1).1.length - 1) (0, 0, [])).2.1 0) ++ [((4, ((a_H A).length : Int), -1, -1, -1, 0, []) : aO)]) (L2 := a_L A) (G2 := a_G A) (H2 := (a_H A ++ [((((a_K A 1).1.getD ((a_K A 1).1.length - 1) (0, 0, [])).2.1, -1, -1, 0) : aH)])) (c2 := (fUp (fUp (a_c A) 0 (a_c A 0 + 1)) 4 (a_c A 4 + 1))) hp hw0 (by first | decide | omega) hA (wf_ob hA hWw hw0 hB (tyt_P (m := 1) hx hk hr (by rw [ho]; decide) (by rw [ho, ha]; rfl) (by omega) (fun z => absurd z (by first | decide | omega))) (kv_P (kv_mo hv (tKp_tr (brK_t (brK_e (H := a_H A) hqo)) tKp_n)) ?_) fLe_P (brK_e (H := a_H A) hqo) (br_l hA.2.1 hqo hm.2.1 hl4).1 (br_l hA.2.1 hqo hm.2.1 hl4).2 ⟨by rw [fUp_n (by first | decide | omega), fUp_s], by rw [fUp_n (by first | decide | omega), fUp_s]; omega, ?_, by rw [fUp_s]; omega, fun i i0 i1 => by rw [fUp_n i1, fUp_n i0]⟩) (fun j x hm => mw_b hm) (fun j x hm => by unfold rMb rMk at hm; unfold rWd9; omega) (fun i i0 _ => by rw [fUp_n (by omega), fUp_n (by omega)]) (fun S hS => ?_) (fun S hS => ?_)
    · have z := vG_a (T := (tEp (a_T A) ((a_K A 1).1.getD ((a_K A 1).1.length - 1) (0, 0, [])).2.1 0)) (n := n) (o := ((4, ((a_H A).length : Int), -1, -1, -1, 0, []) : aO)) (x := 4) (Or.inl rfl) rfl
      rw [(brK_e (H := a_H A) hqo).1] at z
      exact z
    · rw [fUp_s]
      rw [List.length_append]; simp only [List.length_cons, List.length_nil]; omega
    · have u := cR_u hS
      refine wJ_mono (zb1p_226 (hc S hS).1 (hc S hS).2 hx1 hS.2.2.1.1 hS.2.2.1.2.1 hA.2.1 ⟨by omega, by have := hu.1.2; omega⟩ (by rw [u.2.2.2.2.1]; exact ⟨n4.1, n4.2.1⟩) hT8 (by have := c5_b hS hu.2.1.2.1; omega) hh hy hqo rfl ⟨by omega, hm.2.1, by omega⟩ hl4) (fun o Z z => ⟨z.1, z.2.1, z.2.2.1, z.2.2.2.1, z.2.2.2.2.1, z.2.2.2.2.2.2 hS.2.2.1.2.2, ?_⟩)
      exact cCw_4 hS hw0 z.2.2.1 z.2.2.2.2.2.1.1 z.2.2.2.2.2.1.2.1 z.2.2.2.2.2.1.2.2 (fun hm => by unfold cMb cMk at hm; omega)
    · obtain ⟨sl, hW⟩ := hS.1.2.2.1.1
      have u := rR_u hS
      refine rtu_mo (rnb1p (hq S hS).1 (hq S hS).2.2 (hq S hS).2.1 hW hS.1.2.2.1.2 hA.2.1 ⟨by omega, by have := hu.1.2; omega⟩ (by rw [u.2.2.2.2.1]; exact n4) hh hy hqo rfl ⟨by omega, hm.2.1, by omega⟩) (fun Z dn z => ⟨z.1, z.2.1, z.2.2.1, ⟨_, z.2.2.2.1⟩, z.2.2.2.2.1, ?_⟩)
      exact rCw_4 hS z.2.2.2.2.2.1 z.2.2.2.2.2.2.1 z.2.2.2.2.2.2.2

theorem sb_1nm (h : hyS S0 p X fa ms n WE B B2 w t A) (hx1 : pe_at (pe_GA xs).xs 1 = some (1, tx_1)) (ho : opI S0 (a_K A t) = 28) (ha : (opA S0 (a_K A t)) = 1) (hy : ((a_K A t).1.getD ((a_K A t).1.length - 1) (0, 0, [])).1 = 0) (hm : 8000 ≤ a_c A 0) : stO xs d S0 p HT cs ms os X mo fa n WE B2 w t A := by
  obtain ⟨hp, hw, hx, hA, hE, hB, hr⟩ := h
  have hk := wT_of hA hw
  have hv := wV_of hA hw
  have hc := fun (S : wS) (hS : cRel S0 p HT cs ms os X mo A S) => hcb_c hx hk hr hw ho ha hS
  have hq := fun {Sb : wS} (S : wS) (hS : rRun S0 Sb HT cs ms os X mo t A S) => hqb_r hx hk hr hw ho ha hS
  have hh := tyt_h hx hk hr
  rw [ho, ha] at hh
  replace hh : 1 ≤ (a_K A t).1.length := by have z : (1 : Int) ≤ ((a_K A t).1.length : Int) := hh; omega
  have hu := hA.2.2.2.2.1
  have hT8 : ((a_T A).length : Int) ≤ 8000 := by have := hu.1; omega
  have hTu : ((a_T A).length : Int) ≤ a_c A 0 := by have := hu.1; omega
  obtain ⟨n1, n2, n3, n4⟩ := wN_b hA
  have hw0 := hw
  rcases hw with ⟨rfl, rfl⟩ | ⟨rfl, rfl⟩
  · refine stO_S (ml := [217, 218, 127, 128, 129, 130, 131, 132, 133, 134, 135, 136, 141, 142]) hp hw0 (by first | decide | omega) hA hE hB (fun S hS => ?_) (fun S hS => ?_)
    · have u := cR_u hS
      exact zb1nm_215 (hc S hS).1 (hc S hS).2 hx1 hS.2.2.1.1 hS.2.2.1.2.1 hA.2.1 ⟨by omega, by have := hu.1.2; omega⟩ (by rw [u.2.2.2.2.1]; exact ⟨n4.1, n4.2.1⟩) hT8 (by have := c5_b hS hu.2.1.2.1; omega) hh hy (by omega)
    · obtain ⟨sl, hW⟩ := hS.1.2.2.1.1
      have u := rR_u hS
      exact rnb1nm (hq S hS).1 (hq S hS).2.2 (hq S hS).2.1 hW hS.1.2.2.1.2 hA.2.1 ⟨by omega, by have := hu.1.2; omega⟩ (by rw [u.2.2.2.2.1]; exact n4) hh hy (by omega)
  · refine stO_S (ml := [228, 229, 127, 128, 129, 130, 131, 132, 133, 134, 135, 136, 141, 142]) hp hw0 (by first | decide | omega) hA hE hB (fun S hS => ?_) (fun S hS => ?_)
    · have u := cR_u hS
      exact zb1nm_226 (hc S hS).1 (hc S hS).2 hx1 hS.2.2.1.1 hS.2.2.1.2.1 hA.2.1 ⟨by omega, by have := hu.1.2; omega⟩ (by rw [u.2.2.2.2.1]; exact ⟨n4.1, n4.2.1⟩) hT8 (by have := c5_b hS hu.2.1.2.1; omega) hh hy (by omega)
    · obtain ⟨sl, hW⟩ := hS.1.2.2.1.1
      have u := rR_u hS
      exact rnb1nm (hq S hS).1 (hq S hS).2.2 (hq S hS).2.1 hW hS.1.2.2.1.2 hA.2.1 ⟨by omega, by have := hu.1.2; omega⟩ (by rw [u.2.2.2.2.1]; exact n4) hh hy (by omega)

theorem sb_1m (h : hyS S0 p X fa ms n WE B B2 w t A) (hx1 : pe_at (pe_GA xs).xs 1 = some (1, tx_1)) (ho : opI S0 (a_K A t) = 28) (ha : (opA S0 (a_K A t)) = 1) (hy : ((a_K A t).1.getD ((a_K A t).1.length - 1) (0, 0, [])).1 = 4 ∨ ((a_K A t).1.getD ((a_K A t).1.length - 1) (0, 0, [])).1 = 5) (hm : 8000 ≤ a_c A 0 ∨ ((aFs (-1) ((a_K A t).1.getD ((a_K A t).1.length - 1) (0, 0, [])).2.1 (-1) (a_H A) 0) = -1 ∧ 4000 ≤ a_c A 4)) : stO xs d S0 p HT cs ms os X mo fa n WE B2 w t A := by
  obtain ⟨hp, hw, hx, hA, hE, hB, hr⟩ := h
  have hk := wT_of hA hw
  have hv := wV_of hA hw
  have hc := fun (S : wS) (hS : cRel S0 p HT cs ms os X mo A S) => hcb_c hx hk hr hw ho ha hS
  have hq := fun {Sb : wS} (S : wS) (hS : rRun S0 Sb HT cs ms os X mo t A S) => hqb_r hx hk hr hw ho ha hS
  have hh := tyt_h hx hk hr
  rw [ho, ha] at hh
  replace hh : 1 ≤ (a_K A t).1.length := by have z : (1 : Int) ≤ ((a_K A t).1.length : Int) := hh; omega
  have hu := hA.2.2.2.2.1
  have hT8 : ((a_T A).length : Int) ≤ 8000 := by have := hu.1; omega
  have hTu : ((a_T A).length : Int) ≤ a_c A 0 := by have := hu.1; omega
  obtain ⟨n1, n2, n3, n4⟩ := wN_b hA
  have hqo := vG_o (hv.1 _ (tp_m (by omega))) hy
  have hw0 := hw
  rcases hw with ⟨rfl, rfl⟩ | ⟨rfl, rfl⟩
  · refine stO_S (ml := [217, 218, 127, 128, 129, 130, 131, 132, 133, 134, 135, 136, 141, 142, 144, 145, 146, 147, 148]) hp hw0 (by first | decide | omega) hA hE hB (fun S hS => ?_) (fun S hS => ?_)
    · have u := cR_u hS
      exact zb1m_215 (hc S hS).1 (hc S hS).2 hx1 hS.2.2.1.1 hS.2.2.1.2.1 hA.2.1 ⟨by omega, by have := hu.1.2; omega⟩ (by rw [u.2.2.2.2.1]; exact ⟨n4.1, n4.2.1⟩) hT8 (by have := c5_b hS hu.2.1.2.1; omega) hh hy hqo rfl (by omega)
    · obtain ⟨sl, hW⟩ := hS.1.2.2.1.1
      have u := rR_u hS
      exact rnb1m (hq S hS).1 (hq S hS).2.2 (hq S hS).2.1 hW hS.1.2.2.1.2 hA.2.1 ⟨by omega, by have := hu.1.2; omega⟩ (by rw [u.2.2.2.2.1]; exact n4) hh hy hqo rfl (by omega)
  · refine stO_S (ml := [228, 229, 127, 128, 129, 130, 131, 132, 133, 134, 135, 136, 141, 142, 144, 145, 146, 147, 148]) hp hw0 (by first | decide | omega) hA hE hB (fun S hS => ?_) (fun S hS => ?_)
    · have u := cR_u hS
      exact zb1m_226 (hc S hS).1 (hc S hS).2 hx1 hS.2.2.1.1 hS.2.2.1.2.1 hA.2.1 ⟨by omega, by have := hu.1.2; omega⟩ (by rw [u.2.2.2.2.1]; exact ⟨n4.1, n4.2.1⟩) hT8 (by have := c5_b hS hu.2.1.2.1; omega) hh hy hqo rfl (by omega)
    · obtain ⟨sl, hW⟩ := hS.1.2.2.1.1
      have u := rR_u hS
      exact rnb1m (hq S hS).1 (hq S hS).2.2 (hq S hS).2.1 hW hS.1.2.2.1.2 hA.2.1 ⟨by omega, by have := hu.1.2; omega⟩ (by rw [u.2.2.2.2.1]; exact n4) hh hy hqo rfl (by omega)

end Wkh
