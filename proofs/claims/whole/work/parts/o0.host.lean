/-! PART o0: static fields at first; between two calls, behind a host that was read. -/
section Wo0
variable {xs : List (Nat × List Int32)} {S Z : wS} {m0 t0 w a9 b9 p q b b2 m9 : Nat} {T : Int → Int} {n : Int} {cs : List hCR} {ms : List hMR} {os : Int → List Int}
theorem sf_at (h : JX t0 m0 w a9 b9 T cs ms S) (hv : JV cs ms) {m : Int} (hm : isSf ms m) : S (m0 + 15) m = cS (ms.take m.toNat) ∧ S a9 (cS (ms.take m.toNat)) = an_ft (hmR ms m).2.2.2.1 ∧ S b9 (cS (ms.take m.toNat)) = 0 := by
  obtain ⟨hr, h0, h1⟩ := hm
  obtain ⟨k, hk, hmk, -⟩ := mG_of h hv hr
  obtain ⟨-, hr2, -⟩ := mG_in h hk hmk
  obtain ⟨⟨-, b1, -⟩, -, -, j2, -⟩ := h k.toNat _ (hcR_i hk.1 hk.2)
  obtain ⟨l1, -⟩ := j2 _ _ (slM_q b1 hr2)
  obtain ⟨u1, u2, u3⟩ := l1 h0 h1
  have e : cS (ms.take (hcR cs k).2.2.2.2.2.2.1.toNat) + cS ((slM ms (hcR cs k)).take (m - (hcR cs k).2.2.2.2.2.2.1).toNat) = cS (ms.take m.toNat) := by
    have z : ms.take m.toNat = ms.take (hcR cs k).2.2.2.2.2.2.1.toNat ++ (slM ms (hcR cs k)).take (m - (hcR cs k).2.2.2.2.2.2.1).toNat := by
      unfold slM
      rw [List.take_take, show min (m - (hcR cs k).2.2.2.2.2.2.1).toNat (hcR cs k).2.2.2.2.2.2.2.toNat = (m - (hcR cs k).2.2.2.2.2.2.1).toNat by omega, show m.toNat = (hcR cs k).2.2.2.2.2.2.1.toNat + (m - (hcR cs k).2.2.2.2.2.2.1).toNat by omega, List.take_add]
    rw [z, cS_ap]
  rw [e, show (hcR cs k).2.2.2.2.2.2.1 + ((m - (hcR cs k).2.2.2.2.2.2.1).toNat : Int) = m by omega] at u1
  rw [e] at u2 u3
  exact ⟨u1, u2, u3⟩
theorem cSt_0 (h : JX (q + 14) (q + 24) (q + 1) (q + 44) (q + 45) T cs ms S) (hv : JV cs ms) (hs : cS ms ≤ S (q + 44) (-1) ∧ S (q + 45) (-1) = S (q + 44) (-1) ∧ S (q + 44) (-1) ≤ 8388608) : cStc (q + 24) (q + 44) ms (sfZ ms) S := by
  have lt : ∀ m : Int, isSf ms m → cS (ms.take m.toNat) < cS ms := fun m hm => cS_tk ms m.toNat _ (hmR_i hm.1.1 hm.1.2) hm.2.1 hm.2.2
  have mo : ∀ m r : Int, isSf ms m → isSf ms r → m < r → cS (ms.take m.toNat) < cS (ms.take r.toNat) := fun m r hm hr hl => by
    have e : (ms.take r.toNat)[m.toNat]? = some (hmR ms m) := by
      rw [List.getElem?_take_of_lt (by have := hm.1.1; omega)]
      exact hmR_i hm.1.1 hm.1.2
    have z := cS_tk (ms.take r.toNat) m.toNat _ e hm.2.1 hm.2.2
    rw [List.take_take, show min m.toNat r.toNat = m.toNat by omega] at z
    exact z
  refine ⟨⟨hs.2.1, hs.2.2⟩, fun m hm => ?_, fun m r hm hr e => ?_⟩
  · obtain ⟨a1, a2, a3⟩ := sf_at h hv hm
    have l := lt m hm
    have g := (cS_rg (ms.take m.toNat)).1
    rw [a1]
    exact ⟨⟨g, by omega⟩, (cVl_s a2 a3).1⟩
  · rw [(sf_at h hv hm).1, (sf_at h hv hr).1] at e
    rcases Int.lt_trichotomy m r with z | z | z
    · have := mo m r hm hr z; omega
    · exact z
    · have := mo r m hr hm z; omega
/-- lengths that a host leaves -/
def lD (j : Nat) : Prop := j = 1 ∨ (3 ≤ j ∧ j ≤ 4) ∨ (31 ≤ j ∧ j ≤ 60) ∨ (63 ≤ j ∧ j ≤ 70) ∨ (120 ≤ j ∧ j ≤ 125) ∨ (127 ≤ j ∧ j ≤ 160) ∨ (209 ≤ j ∧ j ≤ 236)
theorem RM_0 (h : RM xs m9 S) (hm : m9 < 512) (hq : RMp q p b b2) (h72 : S 72 1 = (p : Int)) (hA : RA (q + 14) (q + 24) (q + 42) q p b b2 Z) (he : eC Z) (ha : an_va Z) (hcl : hoCl q T n cs ms os Z) (hrf : hoRf b T n cs ms Z) (hT : ∀ i : Int, 0 ≤ i → i < n → 0 ≤ T i ∧ T i ≤ 255) (h9 : rd_L Z) (e3 : Z 3 = S 3 ∧ Z 4 = S 4 ∧ Z 5 = S 5) (e63 : Z 63 = S 63) (el : ∀ j : Nat, lD j → Z j (-1) = S j (-1)) (e5 : ∀ i : Nat, i < 5 → Z 150 (i : Int) = S 150 (i : Int)) (r5 : ∀ i : Nat, i < 6 → Z 237 (62 + (i : Int)) = S 237 (62 + (i : Int))) (f16 : Z q 16 = 0 ∧ Z q 18 = 0) (fh : ∀ i : Int, 0 ≤ i → i < 128 → Z (q + 52) i = 0) (hw7 : Z (q + 1) 7 ≤ 1024) (e150 : Z 150 5 = S 150 5 + S p 16) (hst : cS ms ≤ Z (q + 44) (-1) ∧ Z (q + 45) (-1) = Z (q + 44) (-1) ∧ Z (q + 44) (-1) ≤ 8388608) (h340 : ∀ i : Int, 0 ≤ i → i < (ms.length : Int) → Z 340 i = an_ft (hmR ms i).2.2.2.1 ∧ Z 341 i = 0) (fr : ∀ (j : Nat) (x : Int), ((j = 237 ∧ x = 25) ∨ (286 ≤ j ∧ j ≤ 292) ∨ (2000000 ≤ j ∧ j < 4000000)) → Z j x = S j x) (hR : rmR S Z) (h01 : Z 0 1 = 0) (ho : Z 1000001 (-1) = 1) : RM xs (m9 + 1) Z := by
  have hk0 := RM_k (q := q) h
  obtain ⟨p', q', b', b2', pm, X, HT, nt, cs0, ms0, os0, mo0, fa, A, hp, hA0, ⟨⟨k1, ⟨k2, k3, k4, k5⟩, k6⟩, k7⟩, ⟨hC, hr⟩, hw, hT0, ⟨hX, hX2⟩, hv, hV, ho0, -⟩ := h
  have ep : p' = p := by have := hA0.2.1.1; omega
  subst ep
  have eq : q' = q := by
    unfold RMp at hp hq
    omega
  subst eq
  have hkq : kL q' S := hk0 hA0.2.1.2.1
  have hqq := RMq hp
  have hpp : p' = 73 ∨ p' = 162 := by unfold RMp at hq; omega
  have hL : lC Z := lC_ag (lC_of hC) (fun j hj => el j (by unfold lD; unfold lCd at hj; omega))
  have hkL : kL p' Z := by
    obtain ⟨⟨K, ⟨-, -, -, c4, c5⟩, -⟩, -, -, -, -, c6, -⟩ := hC.2.2.2.2.2.2.1.1
    have hh : kL p' S := ⟨c6, c4, c5.1, c5.2.1⟩
    exact kL_ag hh (fun j j0 j1 => el j (by unfold lD; omega))
  have hch := hA.2.1
  have c1 : S p' 16 = ((a_C A).length : Int) ∧ S p' 17 = mo0 := by
    obtain ⟨⟨K, c1, c2, -⟩, -, c3, -⟩ := hC.2.2.2.2.2.2.1.1
    exact ⟨c1.1.trans (by rw [c2]), c3⟩
  have c2 : S 237 67 = 2000 - mo0 + ((a_C A).length : Int) := hr.2.2.2.2.2.2.1.1.2.2.2.1
  have c3 := hA0.2.1.2.2.2.2.2
  have e67 : Z 237 67 = S 237 67 := r5 5 (by first | decide | omega)
  have hcn := hC.2.2.2.2.2.2.2.1.1
  have hrc := hr.2.2.2.2.2.2.2.1.1
  have hct := hw.2.2.2.2.1
  have hkk : cK [] [] Z := cK_0 k1 hA.1.2.2.1 he e3 e63 (fun j hj => el j (by unfold lD; omega))
  obtain ⟨m1, m2, m3, m4, m5⟩ := mK_0 (fa := fun _ => -1) he ha
  have s0 : S 150 0 = a_c A 0 := hcn 0 (by first | decide | omega)
  have s1 : S 150 1 = a_c A 1 := hcn 1 (by first | decide | omega)
  have s2 : S 150 2 = a_c A 2 := hcn 2 (by first | decide | omega)
  have s3 : S 150 3 = a_c A 3 := hcn 3 (by first | decide | omega)
  have s4 : S 150 4 = a_c A 4 := hcn 4 (by first | decide | omega)
  have cb : (0 ≤ a_c A 0 ∧ a_c A 0 ≤ 8000) ∧ (0 ≤ a_c A 1 ∧ a_c A 1 ≤ 60000) ∧ (0 ≤ a_c A 2 ∧ a_c A 2 ≤ 12000) ∧ (0 ≤ a_c A 3 ∧ a_c A 3 ≤ 200000) ∧ (0 ≤ a_c A 4 ∧ a_c A 4 ≤ 4000) := by
    obtain ⟨x1, x2, x3, x4, x5, -⟩ := hct
    exact ⟨⟨by omega, x1.2⟩, ⟨x2.1, x2.2.1⟩, x3, x4, ⟨x5.1, x5.2.1⟩⟩
  obtain ⟨c, cd⟩ : ∃ c : Int → Int, c = fun i => if 0 ≤ i ∧ i < 5 then a_c A i else 0 := ⟨_, rfl⟩
  have cl : ∀ i : Int, 0 ≤ i → i < 5 → c i = a_c A i := fun i i0 i1 => by rw [cd]; exact if_pos ⟨i0, i1⟩
  have ch : ∀ i : Int, 5 ≤ i → c i = 0 := fun i i0 => by rw [cd]; exact if_neg (by omega)
  have cn : ∀ i : Nat, i < 5 → 0 ≤ c (i : Int) := fun i hi => by
    rw [cl _ (by omega) (by omega)]
    have hi2 : i = 0 ∨ i = 1 ∨ i = 2 ∨ i = 3 ∨ i = 4 := by omega
    rcases hi2 with rfl | rfl | rfl | rfl | rfl
    · exact cb.1.1
    · exact cb.2.1.1
    · exact cb.2.2.1.1
    · exact cb.2.2.2.1.1
    · exact cb.2.2.2.2.1
  have hCC : cRel Z q' T cs ms os [] (Z q' 17) (aZ c (sfZ ms)) Z := by
    refine cRel_0 hA.1.1 hA.1.2.1 hL he hkk.1 h9 ?_ (cSt_0 hcl.1.1 hcl.1.2.1 hst) (fun i hi => ⟨by rw [e5 i hi, hcn i hi, cl _ (by omega) (by omega)], cn i hi⟩) ch
    have hk2 : kL q' Z := kL_ag hkq (fun j j0 j1 => el j (by unfold lD; omega))
    obtain ⟨g1, g2, g3⟩ := hk2
    refine ⟨⟨[], ⟨f16.1, fun i i0 i1 => absurd i1 (by show ¬ i < ((0 : Nat) : Int); omega), fun x x0 x1 => ?_, g2, g3.1, g3.2, ?_, Nat.zero_le _⟩, rfl, fun i hi => absurd hi (Nat.not_lt_zero _)⟩, f16.2, rfl, ⟨?_, ?_⟩, ⟨by decide, by decide⟩, g1, hw7⟩
    · exact fh x x0 x1
    · show ((0 : Nat) : Int) ≤ _; omega
    · have := hch.2.2; omega
    · have := hch.2.2; omega
  have hRR : rRel Z Z T cs ms os [] (Z q' 17) (aZ c (sfZ ms)) Z := by
    refine rRel_0 hA.2.2.1 ha ⟨ha.2.2.2.2.2.2.2.2.2.2.2.2.2.2.2.2.2.2.2.1, fun k hk => absurd hk (Nat.not_lt_zero _), ha.2.2.2.2.2.2.2.2.2.2.2.2.2.2.2.2.2.2.2.2.1, ?_, ⟨?_, ?_⟩, by decide, by decide⟩ (fun m hm => (cVl_s (h340 m hm.1.1 hm.1.2).1 (h340 m hm.1.1 hm.1.2).2).2) (fun i hi => ⟨by rw [r5 i (by omega), hrc i hi, cl _ (by omega) (by omega)], cn i hi⟩) ch
    · rw [e67, c2]
      show _ = _ + ((0 : Nat) : Int)
      have := hch.2.2
      omega
    · show ((0 : Nat) : Int) ≤ _
      have := hch.2.2
      omega
    · have := hch.2.2; omega
  have hho : hoT Z q' b T n cs ms os (cs.length : Int) := hoT_of (by unfold RMp at hq; omega) hcl hrf hch.1 ((el 159 (by unfold lD; omega)).trans hT0.2.2.1.1.2.2) hT
  have hV2 : rV pm (m9 + 1) Z := by
    have r1 := hR.1.1
    have r2 := hR.1.2
    have t0 := hA0.1.2.2.2.2.2.2.2.1.1
    unfold rV at hV ⊢
    rw [(rZ_ag k4 fr).2, h01]
    exact ⟨⟨by omega, by omega⟩, rX_tr hV.2.1 hR.2, by rw [el 1 (by unfold lD; omega)]; exact hV.2.2.1, by rw [h01, he.2.1.1.2.2.1]; omega, by rw [el 31 (by unfold lD; omega)]; have := hV.2.2.2.2; omega⟩
  refine ⟨q', p', b, b2, pm, [], T, n, cs, ms, os, Z q' 17, fun _ => -1, aZ c (sfZ ms), hq, hA, ⟨⟨hkk, ⟨m4, m5, (rZ_ag k4 fr).1, m3⟩, m1⟩, m2⟩, ⟨hCC, hRR⟩, wf_0 ha.2.2.2.2.2.2.1 ha.1 ⟨by omega, by omega⟩ ?_ ch, ⟨hT0.1, ⟨⟨WEs_w, WEs_o⟩, hT0.2.1.2.1, ⟨(el 156 (by unfold lD; omega)).trans hT0.2.1.2.2.1.1, (el 157 (by unfold lD; omega)).trans hT0.2.1.2.2.1.2⟩, hho.1.1⟩, hho, ⟨(el 34 (by unfold lD; omega)).trans hT0.2.2.2.1.1, (el 160 (by unfold lD; omega)).trans hT0.2.2.2.1.2.1, by rw [ha.1]; decide⟩, fun g g0 g1 => ?_⟩, ⟨fun k hk => absurd hk List.not_mem_nil, ?_⟩, ⟨pV_ge Z, ?_⟩, hV2, ⟨ho, hkL⟩, by omega⟩
  · rw [cl 0 (by first | decide | omega) (by first | decide | omega), cl 1 (by first | decide | omega) (by first | decide | omega), cl 2 (by first | decide | omega) (by first | decide | omega), cl 3 (by first | decide | omega) (by first | decide | omega), cl 4 (by first | decide | omega) (by first | decide | omega)]
    exact cb
  · rw [ha.2.2.2.2.1] at g1; omega
  · rw [h01]
    show ((0 : Nat) : Int) + 0 ≤ _
    omega
  · have z3 : 0 ≤ Z 150 3 := by
      rw [show Z 150 3 = S 150 3 from e5 3 (by first | decide | omega), s3]
      exact cb.2.2.2.1.1
    rw [pV_e he z3, h01]
    omega
end Wo0
