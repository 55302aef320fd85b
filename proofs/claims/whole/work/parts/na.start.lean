/-! PART na: a task begins. -/
section Wna
variable {S0 : wS} {w : Nat} {ms : List hMR} {X : List (List Int)} {t n B f n9 : Int} {fa : Int → Int} {WE : aA → Prop} {A : aA} {v : aV}
theorem wTk_bg (hg : 0 ≤ f ∧ f < S0 237 34) (h : mcF fa S0 f) : wTk fa S0 (kBg f n9 v) := by
  obtain ⟨H, D, m, h1, h2, h3, h4⟩ := h
  have z : ∀ i : Nat, i < (kBg f n9 v).2.1.length → i = 0 := fun i hi => by
    replace hi : i < 1 := hi
    omega
  refine ⟨⟨Nat.zero_le _, (show 1 ≤ 200 by decide)⟩, fun _ => ⟨⟨fun i hi => ?_, fun i hi => ?_, List.Pairwise.nil, fun y hy => absurd hy List.not_mem_nil, fun i j hij hj => ?_⟩, Nat.zero_lt_one⟩, fun f9 hf9 => ?_⟩
  · rw [z i hi]
    refine ⟨hg, H, D, m, ⟨h1, h2, h3, h4⟩, ⟨Int.le_refl _, (show (0 : Int) < (m : Int) by omega)⟩, ?_, ?_, fun j hj => absurd hj (Nat.not_lt_zero _)⟩
    · show (0 : Int) = 0 + H 0
      rw [h2.1]
      rfl
    · show (0 : Int) = D 0
      rw [h2.2]
  · rw [z i hi]
    rfl
  · rw [z j hj, z i (by omega)]
    exact Nat.le_refl _
  · replace hf9 : f9 ∈ [(f, (0 : Int), n9, (((0 : Int), (0 : Int), []) : aV), (-1 : Int), 0, 0)] := hf9
    rw [List.mem_singleton.mp hf9]
    exact Nat.zero_le _
/-- all that holds, when a task has begun -/
theorem wf_bg (hA : wfA S0 fa ms n WE B A) (hWw : WEw WE) (hw : isWt w t) (hg : 0 ≤ f ∧ f < S0 237 34) (hF : mcF fa S0 f) (hfa : fa f = -1) (hvn : S0 296 f = 0) (hmem : a_c A 0 + 1 ≤ 8000) : wfA S0 fa ms n WE B (u_W A t (kBg f ((a_L A).length : Int) v) (a_T A) (a_L A ++ [(-1, [])]) (a_G A) (a_H A) (fUp (a_c A) 0 (a_c A 0 + 1))) := by
  have e11 : (fUp (a_c A) 0 (a_c A 0 + 1)) 11 = a_c A 11 := by rw [fUp_n (by first | decide | omega)]
  have ll : ((((a_L A ++ [(-1, [])]) : List aC).length : Nat) : Int) = ((a_L A).length : Int) + 1 := by rw [List.length_append]; rfl
  refine wf_W (k := -1) hA hWw hw (wTk_bg hg hF) tKp_r hA.2.1 ⟨fun v hm => absurd hm List.not_mem_nil, fun f9 hf9 => ?_, fun hs => ?_⟩ hA.2.2.1.2.1 (fun c hc v hm => ?_) hA.2.2.1.2.2.2.1 (fun cf c1 c2 => ⟨fUp cf ((a_L A).length : Int) f, ?_, ?_, by rw [List.length_append]; omega, fun q hq => fUp_n (by omega)⟩) ?_ hA.2.2.2.2.2.1.2.1 (eCh_rfl hA.2.1) (by rw [e11]; exact Int.le_refl _)
  · replace hf9 : f9 ∈ [(f, (0 : Int), ((a_L A).length : Int), (((0 : Int), (0 : Int), []) : aV), (-1 : Int), 0, 0)] := hf9
    rw [List.mem_singleton.mp hf9]
    exact vG_0
  · replace hs : (1 : Int) = 2 ∨ (1 : Int) = 3 := hs
    omega
  · rcases List.mem_append.mp hc with z | z
    · exact hA.2.2.1.2.2.1 c z v hm
    · rw [List.mem_singleton.mp z] at hm
      exact absurd hm List.not_mem_nil
  · refine ⟨fun q hq => ?_, fun q q0 q1 h5 => ?_⟩
    · have hq2 : (q : Int) < (((a_L A ++ [(-1, [])]) : List aC).length : Int) := by exact_mod_cast hq
      by_cases e : q < (a_L A).length
      · obtain ⟨y1, y2, y3⟩ := c1.1 q e
        rw [gD_app e, fUp_n (show (q : Int) ≠ ((a_L A).length : Int) by omega)]
        refine ⟨y1, y2, y3.imp id (fun y => ⟨y.1, ?_⟩)⟩
        rw [fUp_n (show ((a_L A).getD q (0, [])).1 ≠ ((a_L A).length : Int) by have := y.1; omega)]
        exact y.2
      · have eq : q = (a_L A).length := by omega
        rw [gD_la eq, show (q : Int) = ((a_L A).length : Int) by omega, fUp_s]
        refine ⟨hg, ?_, Or.inl hfa⟩
        rw [hvn]
        rfl
    · obtain ⟨y1, y2⟩ := c1.2 q q0 q1 h5
      refine ⟨y1, y2.imp id (fun y => ⟨⟨y.1.1, by have := y.1.2; omega⟩, ?_⟩)⟩
      rw [fUp_n (show (tO (a_T A) q).2.2.2.1 ≠ ((a_L A).length : Int) by have := y.1.2; omega)]
      exact y.2
  · intro f9 hf9
    replace hf9 : f9 ∈ [(f, (0 : Int), ((a_L A).length : Int), (((0 : Int), (0 : Int), []) : aV), (-1 : Int), 0, 0)] := hf9
    rw [List.mem_singleton.mp hf9]
    refine ⟨⟨?_, ?_⟩, fUp_s, Or.inl rfl⟩
    · show (0 : Int) ≤ ((a_L A).length : Int)
      omega
    · show ((a_L A).length : Int) < (((a_L A ++ [(-1, [])]) : List aC).length : Int)
      omega
  · obtain ⟨b1, b2, b3, b4, b5, b6, b7, b8, b9⟩ := hA.2.2.2.2.1
    have e0 : (fUp (a_c A) 0 (a_c A 0 + 1)) 0 = a_c A 0 + 1 := fUp_s
    have en : ∀ i : Int, i ≠ 0 → (fUp (a_c A) 0 (a_c A 0 + 1)) i = a_c A i := fun i i0 => fUp_n i0
    generalize (fUp (a_c A) 0 (a_c A 0 + 1)) = cc at *
    have e1 := en 1 (by first | decide | omega)
    refine ⟨?_, ⟨(show 0 ≤ cc 1 by omega), (show cc 1 ≤ 60000 by omega), fun o hq => (show (o.2.2.2.2.2.2.length : Int) ≤ cc 1 by have := b2.2.2 o hq; omega)⟩, ?_, ?_, ?_, ⟨?_, ?_, fun i i0 i1 => ?_⟩, b7, fun q q0 q1 => ?_, b9⟩
    · show ((a_T A).length : Int) + (((a_L A ++ [(-1, [])]) : List aC).length : Int) ≤ cc 0 ∧ cc 0 ≤ 8000
      omega
    · show 0 ≤ cc 2 ∧ cc 2 ≤ 12000
      rw [en 2 (by first | decide | omega)]
      exact b3
    · show 0 ≤ cc 3 ∧ cc 3 ≤ 200000
      rw [en 3 (by first | decide | omega)]
      exact b4
    · show 0 ≤ cc 4 ∧ cc 4 ≤ 4000 ∧ ((a_H A).length : Int) ≤ cc 4 + 1
      rw [en 4 (by first | decide | omega)]
      exact b5
    · show 0 ≤ cc 11 ∧ cc 11 ≤ B
      rw [e11]
      exact b6.1
    · show 0 ≤ cc 19 ∧ cc 19 ≤ B
      rw [en 19 (by first | decide | omega)]
      exact b6.2.1
    · show 0 ≤ cc i ∧ cc i ≤ B
      rw [en i (by omega)]
      exact b6.2.2 i i0 i1
    · show (-1 ≤ (tO (a_T A) q).2.2.2.2.1 ∧ (tO (a_T A) q).2.2.2.2.1 ≤ cc 11) ∧ 0 ≤ (tO (a_T A) q).2.2.2.2.2.1 ∧ (tO (a_T A) q).2.2.2.2.2.1 ≤ cc 11
      rw [e11]
      exact b8 q q0 q1
end Wna
