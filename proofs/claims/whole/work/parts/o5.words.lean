/-! PART o5: a host that was read has at most 1024 words. -/
section Wo5
variable {S Z : wS} {T : Int → Int} {n : Int}
theorem pg_cov (L : List Int) (W : Nat) (h : ∀ k : Nat, k < W → (k : Int) ∈ L) : W ≤ L.length := by
  have hf : ∀ k : Nat, k < W → ∃ i : Nat, L[i]? = some (k : Int) := fun k hk => List.getElem?_of_mem (h k hk)
  have key := pg_hole L.length ((List.range W).map (fun k => if hk : k < W then ((hf k hk).choose : Int) else 0)) ?_ ?_
  · rw [List.length_map, List.length_range] at key
    exact key
  · refine List.pairwise_map.2 (List.Pairwise.imp_of_mem ?_ List.nodup_range)
    intro a b ha hb hab e
    have a1 := List.mem_range.1 ha
    have b1 := List.mem_range.1 hb
    rw [dif_pos a1, dif_pos b1] at e
    have ea := (hf a a1).choose_spec
    have eb := (hf b b1).choose_spec
    rw [show (hf a a1).choose = (hf b b1).choose by omega, eb] at ea
    have := Option.some.inj ea
    omega
  · intro x hx
    obtain ⟨k, k0, k1⟩ := List.mem_map.1 hx
    have b1 := List.mem_range.1 k0
    rw [dif_pos b1] at k1
    have eb := (hf k b1).choose_spec
    have hl := (List.getElem?_eq_some_iff.1 eb).1
    omega
theorem kh_5 {p : Int} (h : kh T n p = 5) : lx_tk T n 1 p = 1 := by
  unfold kh at h
  by_cases c1 : lx_tk T n 1 p = 1
  · exact c1
  · rw [if_neg c1] at h
    split at h
    · omega
    · split at h
      · omega
      · split at h
        · omega
        · have := sk_rg (lx_si T n 1 p); omega
theorem tpq_w {a e p e2 : Int} (h : tp_q T a e p e2 = true) : e2 - p = e - a ∧ ∀ i : Nat, i < (e2 - p).toNat → T (p + (i : Int)) = T (a + (i : Int)) := by
  unfold tp_q at h
  rw [decide_eq_true_iff] at h
  exact ⟨h.1.symm, fun i hi => (h.2 i (by omega)).symm⟩
/-- all words of a host that was read are words of the language, of a class or of a member -/
theorem w_cov {w t5 m0 b ho t0 c : Nat} {A : wS} {cs : List hCR} {ms : List hMR} {q : Int} (hx : hx_I b ho t0 t5 w T n c (hq_cn A b cs) Z) (hm : mr_all m0 w T Z ms) (hb : b = 241 ∨ b = 261) (hT : wTs w Z) (q0 : lx_tk T n 1 q = 0) (hN : nmP T n (uN T n cs ms) (tp T n 1 0) q) : Z w 7 ≤ 1024 := by
  obtain ⟨x1, ⟨x2, x3, -, -, -, -, -⟩, -, x4, x5, ⟨x6, x7⟩, ⟨y1, ⟨y2, y3⟩, -, y4⟩, -⟩ := hx
  have e1 : hq_cn A b cs b 1 = (cs.length : Int) := if_pos ⟨rfl, rfl⟩
  rw [e1] at y3 y4
  obtain ⟨m, -, hmq, hK⟩ := hN 0 rfl
  have cov : ∀ k : Nat, k < (Z w 7).toNat → (k : Int) ∈ (List.range 13).map (fun (k : Nat) => (k : Int)) ++ ((List.range 60).map (fun (k : Nat) => Z t5 (k : Int)) ++ (List.range 400).map (fun (k : Nat) => Z (m0 + 14) (k : Int))) := by
    intro k hk
    by_cases k13 : k < 13
    · exact List.mem_append_left _ (List.mem_map.2 ⟨k, List.mem_range.2 k13, rfl⟩)
    refine List.mem_append_right _ ?_
    obtain ⟨j, j0, j1, j2⟩ := hT (k : Int) (by omega) (by omega)
    have jc : j < c := by omega
    have t := (x3 j jc).1
    have tk1 := kh_5 (t.2.2.2.1.symm.trans j1)
    obtain ⟨t1, t2⟩ := t.2.2.2.2 tk1
    rw [j2] at t1 t2
    have jm : j < m := by
      rcases Nat.lt_or_ge j m with z | z
      · exact z
      · have tm := (x3 m (by omega)).1.1
        rw [hmq] at tm
        have := tk_n0 (T := T) (h := 1) tm
        omega
    rcases hK j (Nat.zero_le j) jm tk1 with ⟨v, v0, v1, v2⟩ | ⟨r, r0, r1⟩ | ⟨r, r0, r1, r2⟩
    · exfalso
      have := (wq_2 x4 t1 ⟨by omega, by omega⟩ t2 (x5 v v0)).2 ⟨v1, fun i hi => by
        rw [v2 i (by omega)]
        show w_tx (hwl v) (i : Int) = w_tx (hwl v) (0 + (i : Int))
        rw [Int.zero_add]⟩
      omega
    · refine List.mem_append_left _ ?_
      obtain ⟨i, hi⟩ := List.getElem?_of_mem r0
      have hl := (List.getElem?_eq_some_iff.1 hi).1
      have e9 : hq_cn A b cs (b + 9) (i : Int) = r.2.1 := by
        unfold hq_cn
        rw [if_neg (by omega), if_pos ⟨by omega, by omega⟩, if_neg (by omega), if_neg (by omega), if_neg (by omega), if_pos rfl, Int.toNat_natCast, List.getD_eq_getElem?_getD, hi]
        rfl
      have e10 : hq_cn A b cs (b + 10) (i : Int) = r.2.2.1 := by
        unfold hq_cn
        rw [if_neg (by omega), if_pos ⟨by omega, by omega⟩, if_neg (by omega), if_neg (by omega), if_neg (by omega), if_neg (by omega), if_pos rfl, Int.toNat_natCast, List.getD_eq_getElem?_getD, hi]
        rfl
      obtain ⟨-, z1, z2⟩ := y4 (i : Int) (by omega) (by omega)
      rw [e9, e10] at z2
      have := (wq_2 x4 t1 ⟨by omega, by omega⟩ t2 z2).2 (tpq_w r1)
      exact List.mem_map.2 ⟨i, List.mem_range.2 (by omega), this.symm⟩
    · refine List.mem_append_right _ ?_
      obtain ⟨i, hi⟩ := List.getElem?_of_mem r0
      have hl := (List.getElem?_eq_some_iff.1 hi).1
      obtain ⟨z1, z2⟩ := (hm.2 i r hi).2.2.2.2 r1
      have := (wq_2 x4 t1 ⟨by omega, by omega⟩ t2 z2).2 (tpq_w r2)
      exact List.mem_map.2 ⟨i, List.mem_range.2 (by have := hm.1; omega), this.symm⟩
  have := pg_cov _ _ cov
  rw [List.length_append, List.length_append, List.length_map, List.length_map, List.length_map, List.length_range, List.length_range, List.length_range] at this
  omega
theorem hb_T (S : wS) : zT (hb_0 S) (S 239) (S 237 3) := by
  refine ⟨?_, ?_, rfl⟩
  · show w_up (w_up S 237 4 (S 237 3)) 237 5 1 239 = S 239
    rw [w_up_row (by first | decide | omega), w_up_row (by first | decide | omega)]
  · show w_up (w_up S 237 4 (S 237 3)) 237 5 1 237 4 = S 237 3
    rw [w_up_at (by first | decide | omega), w_up_same]
theorem hwB_162_ok (S : wS) : hwB_162 S := fun c cs ms os Zr f1 j1 p1 => by
  obtain ⟨-, -, q, q0, q1⟩ := hof_K_261 (hb_T S) _ _ _ _ _ _ f1
  exact w_cov j1.1 j1.2.2.2.1 (Or.inr rfl) p1.2.2.2.2.2.2.2.2.2.2 q0 q1
theorem hwB_73_ok (S : wS) : hwB_73 S := fun c cs ms os Zr f1 j1 p1 => by
  obtain ⟨-, -, q, q0, q1⟩ := hof_K_241 (hb_T S) _ _ _ _ _ _ f1
  exact w_cov j1.1 j1.2.2.2.1 (Or.inl rfl) p1.2.2.2.2.2.2.2.2.2.2 q0 q1
end Wo5
