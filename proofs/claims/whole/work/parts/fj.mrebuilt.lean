/-! PART fj: rebuilt of the reference. -/
section Wfj
variable {xs : List (Nat × List Int32)} {M : Nat → Prop} {d : Nat} {S S0 Z A B : wS} {H : List aH} {T : List aO} {L : List aC} {G : Int → aV} {sl : Nat → List Int} {k n nm p wo sz th : Int} {l ls : List Int} {Q : wO → wS → Prop}
/-- what rebuilt may change -/
def rMr (p : Int) (j : Nat) (x : Int) : Prop := (329 ≤ j ∧ j ≤ 332) ∨ (j = 237 ∧ (x = 66 ∨ x = 87)) ∨ ((j = 322 ∨ j = 323) ∧ x = p)
def rIv (p u4 : Int) (sl : Nat → List Int) (T : List aO) (H : List aH) (L : List aC) (G : Int → aV) (S0 S : wS) : Prop := rHs S H ∧ rWd S sl T L G ∧ w_ML S ∧ S 237 66 = u4 + (H.length : Int) ∧ ∀ (j : Nat) (x : Int), ¬ rMr p j x → S j x = S0 j x
/-- a thing's names lie in its slots -/
def slN (S : wS) (th : Int) (ls l : List Int) : Prop := slC S th ls ∧ ls.length = l.length ∧ (∀ i : Nat, i < l.length → S 327 (ls.getD i 0) = l.getD i 0) ∧ l.length ≤ 64 ∧ 0 ≤ th ∧ th < 8000
theorem slN_f (h : slN S0 th ls l) (hp : th ≠ p ∨ True) (f : ∀ (j : Nat) (x : Int), ¬ rMr p j x → S j x = S0 j x) : slN S th ls l := by
  obtain ⟨⟨h1, h2, h3⟩, h4, h5, h6, h7⟩ := h
  have e : ∀ (j : Nat) (x : Int), 316 ≤ j → j ≤ 328 → j ≠ 322 → j ≠ 323 → S j x = S0 j x := fun j x j0 j1 j2 j3 => f j x (by unfold rMr; omega)
  refine ⟨⟨(e 317 th (by first | decide | omega) (by first | decide | omega) (by first | decide | omega) (by first | decide | omega)).trans h1, fun q => (e 316 th (by first | decide | omega) (by first | decide | omega) (by first | decide | omega) (by first | decide | omega)).trans (h2 q), fun i hi => ⟨(h3 i hi).1, fun q => (e 328 _ (by first | decide | omega) (by first | decide | omega) (by first | decide | omega) (by first | decide | omega)).trans ((h3 i hi).2 q)⟩⟩, h4, fun i hi => (e 327 _ (by first | decide | omega) (by first | decide | omega) (by first | decide | omega) (by first | decide | omega)).trans (h5 i hi), h6, h7⟩
theorem qm_l (hM : w_ML S) (h1 : rHs S H) (hw : wHs H n) (hn : slN S th ls l) (hpp : -1 ≤ p ∧ p < 8000) (hwo : -1 ≤ wo ∧ wo ≤ 100000) : ∀ (r : List Int) (k : Nat) (s kn ms : Int), k + r.length = l.length → (∀ j : Nat, j < r.length → l.getD (k + j) 0 = r.getD j 0) → (k < l.length → s = ls.getD k 0) → (∀ x ∈ r, 0 ≤ x ∧ x ≤ 100000) → (-1 ≤ kn ∧ kn < (H.length : Int)) → (0 ≤ ms ∧ ms ≤ 1 + (k : Int)) → (∀ kn2 s2 : Int, wJ (pe_GA xs) wY0 M (d + 1) t_M_rebuilt ((pe_at t_M_rebuilt.bl 9).getD (0, [])).2 [(0, (2, 237)), (1, (0, th)), (2, (0, p)), (3, (0, wo)), (4, (0, ms + aMs H p kn (fS wo r (k : Int)))), (5, (0, kn2)), (6, (0, s2)), (7, (0, (l.length : Int)))] [] S Q) → wJ (pe_GA xs) wY0 M (d + 1) t_M_rebuilt ((pe_at t_M_rebuilt.bl 3).getD (0, [])).2 [(0, (2, 237)), (1, (0, th)), (2, (0, p)), (3, (0, wo)), (4, (0, ms)), (5, (0, kn)), (6, (0, s)), (7, (0, (k : Int)))] [] S Q := by
  obtain ⟨⟨c1, c2, c3⟩, c4, c5, c6, c7, c8⟩ := id hn
  have hH := hw.2.1
  rw [c4] at c1
  intro r
  induction r with
  | nil =>
    intro k s kn ms hi hj hs hx hkn hms hk
    have hi2 : k = l.length := by have : ([] : List Int).length = 0 := rfl; omega
    refine wa_iload (n := 7) rfl ?_
    refine wa_aload_n (n := 0) rfl ?_
    refine wb_gf4 237 rfl (wy_pr rfl) wt_237 wf_15_73 (v := 317) wl_237_73 ?_
    refine wa_iload_n (n := 1) rfl ?_
    refine wb_iald 317 rfl (wy_pr rfl) wt_317 (n := 8000) ((ml_317 hM)) (by omega) (by omega) (v := (l.length : Int)) (c1) (fun r1 => ?_)
    refine wa_icmpge (w_rg0 (by omega) (by omega)) (w_rg0 (by omega) (by omega)) ⟨_, rfl⟩ (fun c2 => ?_) (fun c2 => ?_)
    · skip
      have e : ms + aMs H p kn (fS wo [] (k : Int)) = ms := by show ms + 0 = ms; omega
      have hk2 := hk kn s
      rw [e] at hk2
      rw [hi2]; exact wJ_S hk2 ⟨rfl, rfl, rfl, rfl, rfl, rfl, rfl, rfl, trivial⟩
    · skip
      exfalso; omega
  | cons nm r ih =>
    intro k s kn ms hi hj hs hx hkn hms hk
    rw [List.length_cons] at hi
    have hnm := hx nm (List.mem_cons.mpr (Or.inl rfl))
    have hs2 := hs (by omega)
    subst hs2
    obtain ⟨d1, d2⟩ := c3 k (by omega)
    have ej : S 327 (ls.getD k 0) = nm := by
      have := hj 0 (Nat.zero_lt_succ _)
      rw [Nat.add_zero] at this
      exact (c5 k (by omega)).trans this
    have hx2 : ∀ x ∈ r, 0 ≤ x ∧ x ≤ 100000 := fun x q => hx x (List.mem_cons.mpr (Or.inr q))
    have hj2 : ∀ j : Nat, j < r.length → l.getD (k + 1 + j) 0 = r.getD j 0 := fun j q => by
      have := hj (j + 1) (Nat.succ_lt_succ q)
      rw [show k + (j + 1) = k + 1 + j by omega, gD_cs] at this
      exact this
    have hrg := aFs_rg (be := kn) (pr := p) (nm := nm) (H := H)
    have hs3 : k + 1 < l.length → S 328 (ls.getD k 0) = ls.getD (k + 1) 0 := fun q => d2 (by omega)
    refine wa_iload (n := 7) rfl ?_
    refine wa_aload_n (n := 0) rfl ?_
    refine wb_gf4 237 rfl (wy_pr rfl) wt_237 wf_15_73 (v := 317) wl_237_73 ?_
    refine wa_iload_n (n := 1) rfl ?_
    refine wb_iald 317 rfl (wy_pr rfl) wt_317 (n := 8000) ((ml_317 hM)) (by omega) (by omega) (v := (l.length : Int)) (c1) (fun r201 => ?_)
    refine wa_icmpge (w_rg0 (by omega) (by omega)) (w_rg0 (by omega) (by omega)) ⟨_, rfl⟩ (fun c202 => ?_) (fun c202 => ?_)
    · skip
      exfalso; omega
    · skip
      refine wa_iload (n := 7) rfl ?_
      refine wa_iload_n (n := 3) rfl ?_
      refine wa_icmpeq (w_rg0 (by omega) (by omega)) (w_rg0 (by omega) (by omega)) ⟨_, rfl⟩ (fun c203 => ?_) (fun c203 => ?_)
      · skip
        refine wa_aload_n (n := 0) rfl ?_
        refine wb_gf4 237 rfl (wy_pr rfl) wt_237 wf_15_86 (v := 328) wl_237_86 ?_
        refine wa_iload (n := 6) rfl ?_
        refine wb_iald 328 rfl (wy_pr rfl) wt_328 (n := 60000) ((ml_328 hM)) (by omega) (by omega) (v := (S 328 (ls.getD k 0))) rfl (fun r204 => ?_)
        refine wa_istore (n := 6) rfl ?_
        refine wa_iinc rfl rfl ?_
        refine wa_goto ⟨_, rfl⟩ ?_
        rw [show ((k : Nat) : Int) + 1 = ((k + 1 : Nat) : Int) from rfl]
        have e : fS wo (nm :: r) (k : Int) = fS wo r (((k + 1 : Nat)) : Int) := fS_e nm r (by omega)
        rw [e] at hk
        exact wJ_S (ih (k + 1) (S 328 (ls.getD k 0)) kn ms (by omega) hj2 hs3 hx2 hkn ⟨by omega, by omega⟩ hk) ⟨rfl, rfl, rfl, rfl, rfl, rfl, rfl, rfl, trivial⟩
      · skip
        refine wa_iload (n := 5) rfl ?_
        refine wa_ifge (w_rg0 (by omega) (by omega)) ⟨_, rfl⟩ (fun c205 => ?_) (fun c205 => ?_)
        · skip
          refine wa_aload_n (n := 0) rfl ?_
          refine wa_iload (n := 5) rfl ?_
          refine wa_iload_n (n := 2) rfl ?_
          refine wa_aload_n (n := 0) rfl ?_
          refine wb_gf4 237 rfl (wy_pr rfl) wt_237 wf_15_85 (v := 327) wl_237_85 ?_
          refine wa_iload (n := 6) rfl ?_
          refine wb_iald 327 rfl (wy_pr rfl) wt_327 (n := 60000) ((ml_327 hM)) (by omega) (by omega) (v := nm) (ej) (fun r206 => ?_)
          refine wa_cv 237 rfl (wy_pr rfl) wt_237 (M2 := fun _ => False) rfl at_M_findShape ⟨_, rfl⟩ rfl rfl ⟨(Or.inr ⟨wy_pr rfl, fun q => q⟩), trivial, trivial, trivial, trivial, trivial, trivial, trivial, trivial⟩ trivial (fun _ _ q => False.elim q) (r_fs (be := kn) (pr := p) (nm := nm) hM h1 hw (fun q => by omega) ⟨by omega, by omega⟩ ⟨by omega, by omega⟩ ⟨by omega, by omega⟩) (fun oq207 Sq207 hp208 q207 => ?_)
          rcases q207 with ⟨rfl, rfl⟩
          show wJ _ _ _ _ _ _ _ _ _ _
          refine wa_fall ⟨_, rfl⟩ ?_
          refine wa_istore (n := 5) rfl ?_
          refine wa_iload (n := 4) rfl ?_
          refine wa_iload (n := 5) rfl ?_
          refine wa_ifge (w_rg0 (by omega) (by omega)) ⟨_, rfl⟩ (fun c209 => ?_) (fun c209 => ?_)
          · skip
            refine wa_iconst ?_
            refine wa_fall ⟨_, rfl⟩ ?_
            refine wa_iadd ?_
            refine wa_istore (n := 4) rfl ?_
            refine wa_fall ⟨_, rfl⟩ ?_
            refine wa_aload_n (n := 0) rfl ?_
            refine wb_gf4 237 rfl (wy_pr rfl) wt_237 wf_15_86 (v := 328) wl_237_86 ?_
            refine wa_iload (n := 6) rfl ?_
            refine wb_iald 328 rfl (wy_pr rfl) wt_328 (n := 60000) ((ml_328 hM)) (by omega) (by omega) (v := (S 328 (ls.getD k 0))) rfl (fun r210 => ?_)
            refine wa_istore (n := 6) rfl ?_
            refine wa_iinc rfl rfl ?_
            refine wa_goto ⟨_, rfl⟩ ?_
            rw [show ((k : Nat) : Int) + 1 = ((k + 1 : Nat) : Int) from rfl]
            have e : fS wo (nm :: r) (k : Int) = nm :: fS wo r (((k + 1 : Nat)) : Int) := fS_n nm r (by omega)
            rw [e] at hk
            have ex : aNx H p kn nm = aFs kn p nm H 0 := if_neg (by omega)
            have em : ms + aMs H p kn (nm :: fS wo r (((k + 1 : Nat)) : Int)) = (ms + 0) + aMs H p (aFs kn p nm H 0) (fS wo r (((k + 1 : Nat)) : Int)) := by
              show ms + ((if aNx H p kn nm = -1 then 1 else 0) + aMs H p (aNx H p kn nm) (fS wo r (((k + 1 : Nat)) : Int))) = _
              rw [ex]; first | rw [if_pos (by omega)] | rw [if_neg (by omega)]
              omega
            rw [em] at hk
            exact wJ_S (ih (k + 1) (S 328 (ls.getD k 0)) (aFs kn p nm H 0) (ms + 0) (by omega) hj2 hs3 hx2 ⟨by omega, by omega⟩ ⟨by omega, by omega⟩ hk) ⟨rfl, rfl, rfl, rfl, rfl, rfl, rfl, rfl, trivial⟩
          · skip
            refine wa_iconst ?_
            refine wa_goto ⟨_, rfl⟩ ?_
            refine wa_iadd ?_
            refine wa_istore (n := 4) rfl ?_
            refine wa_fall ⟨_, rfl⟩ ?_
            refine wa_aload_n (n := 0) rfl ?_
            refine wb_gf4 237 rfl (wy_pr rfl) wt_237 wf_15_86 (v := 328) wl_237_86 ?_
            refine wa_iload (n := 6) rfl ?_
            refine wb_iald 328 rfl (wy_pr rfl) wt_328 (n := 60000) ((ml_328 hM)) (by omega) (by omega) (v := (S 328 (ls.getD k 0))) rfl (fun r211 => ?_)
            refine wa_istore (n := 6) rfl ?_
            refine wa_iinc rfl rfl ?_
            refine wa_goto ⟨_, rfl⟩ ?_
            rw [show ((k : Nat) : Int) + 1 = ((k + 1 : Nat) : Int) from rfl]
            have e : fS wo (nm :: r) (k : Int) = nm :: fS wo r (((k + 1 : Nat)) : Int) := fS_n nm r (by omega)
            rw [e] at hk
            have ex : aNx H p kn nm = aFs kn p nm H 0 := if_neg (by omega)
            have em : ms + aMs H p kn (nm :: fS wo r (((k + 1 : Nat)) : Int)) = (ms + 1) + aMs H p (aFs kn p nm H 0) (fS wo r (((k + 1 : Nat)) : Int)) := by
              show ms + ((if aNx H p kn nm = -1 then 1 else 0) + aMs H p (aNx H p kn nm) (fS wo r (((k + 1 : Nat)) : Int))) = _
              rw [ex]; first | rw [if_pos (by omega)] | rw [if_neg (by omega)]
              omega
            rw [em] at hk
            exact wJ_S (ih (k + 1) (S 328 (ls.getD k 0)) (aFs kn p nm H 0) (ms + 1) (by omega) hj2 hs3 hx2 ⟨by omega, by omega⟩ ⟨by omega, by omega⟩ hk) ⟨rfl, rfl, rfl, rfl, rfl, rfl, rfl, rfl, trivial⟩
        · skip
          refine wa_iconst ?_
          refine wa_goto ⟨_, rfl⟩ ?_
          refine wa_istore (n := 5) rfl ?_
          refine wa_iload (n := 4) rfl ?_
          refine wa_iload (n := 5) rfl ?_
          refine wa_ifge (w_rg0 (by omega) (by omega)) ⟨_, rfl⟩ (fun c212 => ?_) (fun c212 => ?_)
          · skip
            exact absurd c212 (by omega)
          · skip
            refine wa_iconst ?_
            refine wa_goto ⟨_, rfl⟩ ?_
            refine wa_iadd ?_
            refine wa_istore (n := 4) rfl ?_
            refine wa_fall ⟨_, rfl⟩ ?_
            refine wa_aload_n (n := 0) rfl ?_
            refine wb_gf4 237 rfl (wy_pr rfl) wt_237 wf_15_86 (v := 328) wl_237_86 ?_
            refine wa_iload (n := 6) rfl ?_
            refine wb_iald 328 rfl (wy_pr rfl) wt_328 (n := 60000) ((ml_328 hM)) (by omega) (by omega) (v := (S 328 (ls.getD k 0))) rfl (fun r213 => ?_)
            refine wa_istore (n := 6) rfl ?_
            refine wa_iinc rfl rfl ?_
            refine wa_goto ⟨_, rfl⟩ ?_
            rw [show ((k : Nat) : Int) + 1 = ((k + 1 : Nat) : Int) from rfl]
            have e : fS wo (nm :: r) (k : Int) = nm :: fS wo r (((k + 1 : Nat)) : Int) := fS_n nm r (by omega)
            rw [e] at hk
            have ex : aNx H p kn nm = -1 := if_pos (by omega)
            have em : ms + aMs H p kn (nm :: fS wo r (((k + 1 : Nat)) : Int)) = (ms + 1) + aMs H p (-1) (fS wo r (((k + 1 : Nat)) : Int)) := by
              show ms + ((if aNx H p kn nm = -1 then 1 else 0) + aMs H p (aNx H p kn nm) (fS wo r (((k + 1 : Nat)) : Int))) = _
              rw [ex]; first | rw [if_pos (by omega)] | rw [if_neg (by omega)]
              omega
            rw [em] at hk
            exact wJ_S (ih (k + 1) (S 328 (ls.getD k 0)) (-1) (ms + 1) (by omega) hj2 hs3 hx2 ⟨by omega, by omega⟩ ⟨by omega, by omega⟩ hk) ⟨rfl, rfl, rfl, rfl, rfl, rfl, rfl, rfl, trivial⟩
theorem ms_ml {be pr nm m u4 : Int} (hM : w_ML S) (hm : 0 ≤ m) (hp : -1 ≤ pr) : w_ML (msZ be pr nm m u4 S) := by
  by_cases c : 0 ≤ pr ∧ S 322 pr = 0
  · rw [msZ_b c]
    exact w_ML_up (w_ML_up (w_ML_up (w_ML_up (w_ML_up (w_ML_up (w_ML_up (w_ML_up (hM) (by omega)) (by omega)) (by omega)) (by omega)) (by omega)) (by omega)) (by omega)) (by omega)
  · rw [msZ_n c]
    exact w_ML_up (w_ML_up (w_ML_up (w_ML_up (w_ML_up (w_ML_up (hM) (by omega)) (by omega)) (by omega)) (by omega)) (by omega)) (by omega)
theorem qb_l {ms u4 : Int} (hpp : -1 ≤ p ∧ p < 8000) (hn0 : slN S0 th ls l) (hwo : -1 ≤ wo ∧ wo ≤ 100000) : ∀ (r : List Int) (k : Nat) (s sh : Int) (H : List aH) (S : wS), k + r.length = l.length → (∀ j : Nat, j < r.length → l.getD (k + j) 0 = r.getD j 0) → (k < l.length → s = ls.getD k 0) → (∀ x ∈ r, 0 ≤ x ∧ x ≤ 100000) → nDs r → rIv p u4 sl T H L G S0 S → wSh T H → (0 ≤ sh ∧ sh < (H.length : Int) ∧ qPr H sh = p) → (∀ x ∈ r, x ∉ aNs H sh) → (-1 ≤ u4 ∧ u4 + (H.length : Int) + aMs H p sh (fS wo r (k : Int)) ≤ 4000) → (∀ (Z : wS) (s2 : Int), rIv p u4 sl T (aRb p (fS wo r (k : Int)) H sh).1 L G S0 Z → wJ (pe_GA xs) wY0 M (d + 3) t_M_rebuilt ((pe_at t_M_rebuilt.bl 14).getD (0, [])).2 [(0, (2, 237)), (1, (0, th)), (2, (0, p)), (3, (0, wo)), (4, (0, ms)), (5, (0, (aRb p (fS wo r (k : Int)) H sh).2)), (6, (0, s2)), (7, (0, (l.length : Int)))] [] Z Q) → wJ (pe_GA xs) wY0 M (d + 3) t_M_rebuilt ((pe_at t_M_rebuilt.bl 12).getD (0, [])).2 [(0, (2, 237)), (1, (0, th)), (2, (0, p)), (3, (0, wo)), (4, (0, ms)), (5, (0, sh)), (6, (0, s)), (7, (0, (k : Int)))] [] S Q := by
  intro r
  induction r with
  | nil =>
    intro k s sh H S hi hj hs hx hd hc hw hsh hnn hu hk
    obtain ⟨-, -, hM, -, hfr⟩ := id hc
    obtain ⟨⟨c1, c2, c3⟩, c4, c5, c6, c7, c8⟩ := slN_f hn0 (Or.inr trivial) hfr
    rw [c4] at c1
    have hi2 : k = l.length := by have : ([] : List Int).length = 0 := rfl; omega
    refine wa_iload (n := 7) rfl ?_
    refine wa_aload_n (n := 0) rfl ?_
    refine wb_gf4 237 rfl (wy_pr rfl) wt_237 wf_15_73 (v := 317) wl_237_73 ?_
    refine wa_iload_n (n := 1) rfl ?_
    refine wb_iald 317 rfl (wy_pr rfl) wt_317 (n := 8000) ((ml_317 hM)) (by omega) (by omega) (v := (l.length : Int)) (c1) (fun r1 => ?_)
    refine wa_icmpge (w_rg0 (by omega) (by omega)) (w_rg0 (by omega) (by omega)) ⟨_, rfl⟩ (fun c2 => ?_) (fun c2 => ?_)
    · skip
      rw [hi2] at hk ⊢; exact wJ_S (hk S s hc) ⟨rfl, rfl, rfl, rfl, rfl, rfl, rfl, rfl, trivial⟩
    · skip
      exfalso; omega
  | cons nm r ih =>
    intro k s sh H S hi hj hs hx hd hc hw hsh hnn hu hk
    obtain ⟨h1, hW, hM, hu4, hfr⟩ := id hc
    obtain ⟨⟨c1, c2, c3⟩, c4, c5, c6, c7, c8⟩ := slN_f hn0 (Or.inr trivial) hfr
    rw [c4] at c1
    have hH := hw.1.2.1
    rw [List.length_cons] at hi
    have hnm := hx nm (List.mem_cons.mpr (Or.inl rfl))
    have hs2 := hs (by omega)
    subst hs2
    obtain ⟨d1, d2⟩ := c3 k (by omega)
    have ej : S 327 (ls.getD k 0) = nm := by
      have := hj 0 (Nat.zero_lt_succ _)
      rw [Nat.add_zero] at this
      exact (c5 k (by omega)).trans this
    have hx2 : ∀ x ∈ r, 0 ≤ x ∧ x ≤ 100000 := fun x q => hx x (List.mem_cons.mpr (Or.inr q))
    have hj2 : ∀ j : Nat, j < r.length → l.getD (k + 1 + j) 0 = r.getD j 0 := fun j q => by
      have := hj (j + 1) (Nat.succ_lt_succ q)
      rw [show k + (j + 1) = k + 1 + j by omega, gD_cs] at this
      exact this
    have hmr := aMs_rg (H := H) (p := p) (fS wo (nm :: r) (k : Int)) sh
    have e8 : ∀ (Z : wS), (∀ (j : Nat) (x : Int), ¬ rMr p j x → Z j x = S0 j x) → k + 1 < l.length → Z 328 (ls.getD k 0) = ls.getD (k + 1) 0 := fun Z hf q => ((slN_f hn0 (Or.inr trivial) hf).1.2.2 k (by omega)).2 (by omega)
    obtain ⟨rr, hrr⟩ : ∃ rr : Int, rr = aFs sh p nm H 0 := ⟨_, rfl⟩
    have hrg := aFs_rg (be := sh) (pr := p) (nm := nm) (H := H)
    rw [← hrr] at hrg
    refine wa_iload (n := 7) rfl ?_
    refine wa_aload_n (n := 0) rfl ?_
    refine wb_gf4 237 rfl (wy_pr rfl) wt_237 wf_15_73 (v := 317) wl_237_73 ?_
    refine wa_iload_n (n := 1) rfl ?_
    refine wb_iald 317 rfl (wy_pr rfl) wt_317 (n := 8000) ((ml_317 hM)) (by omega) (by omega) (v := (l.length : Int)) (c1) (fun r301 => ?_)
    refine wa_icmpge (w_rg0 (by omega) (by omega)) (w_rg0 (by omega) (by omega)) ⟨_, rfl⟩ (fun c302 => ?_) (fun c302 => ?_)
    · skip
      exfalso; omega
    · skip
      refine wa_iload (n := 7) rfl ?_
      refine wa_iload_n (n := 3) rfl ?_
      refine wa_icmpeq (w_rg0 (by omega) (by omega)) (w_rg0 (by omega) (by omega)) ⟨_, rfl⟩ (fun c303 => ?_) (fun c303 => ?_)
      · skip
        refine wa_aload_n (n := 0) rfl ?_
        refine wb_gf4 237 rfl (wy_pr rfl) wt_237 wf_15_86 (v := 328) wl_237_86 ?_
        refine wa_iload (n := 6) rfl ?_
        refine wb_iald 328 rfl (wy_pr rfl) wt_328 (n := 60000) ((ml_328 hM)) (by omega) (by omega) (v := (S 328 (ls.getD k 0))) rfl (fun r304 => ?_)
        refine wa_istore (n := 6) rfl ?_
        refine wa_iinc rfl rfl ?_
        refine wa_goto ⟨_, rfl⟩ ?_
        rw [show ((k : Nat) : Int) + 1 = ((k + 1 : Nat) : Int) from rfl]
        have e : fS wo (nm :: r) (k : Int) = fS wo r (((k + 1 : Nat)) : Int) := fS_e nm r (by omega)
        rw [e] at hk hu
        exact wJ_S (ih (k + 1) (S 328 (ls.getD k 0)) sh H S (by omega) hj2 (e8 S hfr) hx2 hd.2 hc hw hsh (fun x q => hnn x (List.mem_cons.mpr (Or.inr q))) hu hk) ⟨rfl, rfl, rfl, rfl, rfl, rfl, rfl, rfl, trivial⟩
      · skip
        refine wa_aload_n (n := 0) rfl ?_
        refine wa_iload (n := 5) rfl ?_
        refine wa_iload_n (n := 2) rfl ?_
        refine wa_aload_n (n := 0) rfl ?_
        refine wb_gf4 237 rfl (wy_pr rfl) wt_237 wf_15_85 (v := 327) wl_237_85 ?_
        refine wa_iload (n := 6) rfl ?_
        refine wb_iald 327 rfl (wy_pr rfl) wt_327 (n := 60000) ((ml_327 hM)) (by omega) (by omega) (v := nm) (ej) (fun r305 => ?_)
        refine wa_cv 237 rfl (wy_pr rfl) wt_237 (M2 := fun _ => False) rfl at_M_madeShape ⟨_, rfl⟩ rfl rfl ⟨(Or.inr ⟨wy_pr rfl, fun q => q⟩), trivial, trivial, trivial, trivial, trivial, trivial, trivial, trivial⟩ trivial (fun _ _ q => False.elim q) (r_ms (be := sh) (pr := p) (nm := nm) (r := rr) (u4 := S 237 66) hM h1 hw.1 (fun q => by omega) ⟨by omega, by omega⟩ hpp ⟨by omega, by omega⟩ hrr rfl ⟨by omega, by omega, by omega⟩) (fun oq306 Sq306 hp307 q306 => ?_)
        rcases q306 with ⟨hr0, rfl, rfl⟩ | ⟨hr0, hr1, -, -⟩ | ⟨hr0, hr1, rfl, rfl⟩
        · skip
          show wJ _ _ _ _ _ _ _ _ _ _
          refine wa_istore (n := 5) rfl ?_
          refine wa_fall ⟨_, rfl⟩ ?_
          refine wa_aload_n (n := 0) rfl ?_
          refine wb_gf4 237 rfl (wy_pr rfl) wt_237 wf_15_86 (v := 328) wl_237_86 ?_
          refine wa_iload (n := 6) rfl ?_
          refine wb_iald 328 rfl (wy_pr rfl) wt_328 (n := 60000) ((ml_328 hM)) (by omega) (by omega) (v := (S 328 (ls.getD k 0))) rfl (fun r308 => ?_)
          refine wa_istore (n := 6) rfl ?_
          refine wa_iinc rfl rfl ?_
          refine wa_goto ⟨_, rfl⟩ ?_
          rw [show ((k : Nat) : Int) + 1 = ((k + 1 : Nat) : Int) from rfl]
          have e : fS wo (nm :: r) (k : Int) = nm :: fS wo r (((k + 1 : Nat)) : Int) := fS_n nm r (by omega)
          rw [e] at hk hu
          have em := aMs_c (H := H) (p := p) (s := sh) (nm := nm) (fS wo r (((k + 1 : Nat)) : Int)) (by omega)
          have hf : aFs sh p nm H 0 ≠ -1 := by rw [← hrr]; omega
          rw [aRb_f _ hf, ← hrr] at hk
          rw [if_neg hf, ← hrr] at em
          obtain ⟨f1, f2, f3⟩ := aFs_at (be := sh) (pr := p) (nm := nm) (H := H) (by rw [← hrr]; omega)
          rw [← hrr] at f1 f2 f3
          have en : aNs H rr = aNs H sh ++ [nm] := by
            have g := aNs_s hw.1 (k := rr) (by omega) (by omega) (by rw [f2]; exact hsh.1)
            rw [g.2.2.2.2, f2, f3]
          exact wJ_S (ih (k + 1) (S 328 (ls.getD k 0)) rr H S (by omega) hj2 (e8 S hfr) hx2 hd.2 hc hw ⟨by omega, by omega, f1⟩ (fun x q z => by
            rw [en] at z
            rcases List.mem_append.mp z with y | y
            · exact hnn x (List.mem_cons.mpr (Or.inr q)) y
            · rw [List.mem_singleton.mp y] at q; exact hd.1 q) (by omega) hk) ⟨rfl, rfl, rfl, rfl, rfl, rfl, rfl, rfl, trivial⟩
        · skip
          have em0 := aMs_c (H := H) (p := p) (s := sh) (nm := nm) (fS wo r (((k + 1 : Nat)) : Int)) (by omega)
          rw [show fS wo (nm :: r) (k : Int) = nm :: fS wo r (((k + 1 : Nat)) : Int) from fS_n nm r (by omega), em0, ← hrr, if_pos hr0, hr0, aMs_n] at hu
          omega
        · skip
          show wJ _ _ _ _ _ _ _ _ _ _
          refine wa_istore (n := 5) rfl ?_
          refine wa_fall ⟨_, rfl⟩ ?_
          refine wa_aload_n (n := 0) rfl ?_
          refine wb_gf4 237 rfl (wy_pr rfl) wt_237 wf_15_86 (v := 328) wl_237_86 ?_
          refine wa_iload (n := 6) rfl ?_
          refine wb_iald 328 rfl (wy_pr rfl) wt_328 (n := 60000) (((msZ_e 328 (-1) (by decide) (by decide)).trans ((ml_328 hM)))) (by omega) (by omega) (v := ((msZ sh p nm (H.length : Int) (S 237 66) S) 328 (ls.getD k 0))) rfl (fun r309 => ?_)
          refine wa_istore (n := 6) rfl ?_
          refine wa_iinc rfl rfl ?_
          refine wa_goto ⟨_, rfl⟩ ?_
          rw [show ((k : Nat) : Int) + 1 = ((k + 1 : Nat) : Int) from rfl]
          have e : fS wo (nm :: r) (k : Int) = nm :: fS wo r (((k + 1 : Nat)) : Int) := fS_n nm r (by omega)
          rw [e] at hk hu
          have em := aMs_c (H := H) (p := p) (s := sh) (nm := nm) (fS wo r (((k + 1 : Nat)) : Int)) (by omega)
          have hf : aFs sh p nm H 0 = -1 := by rw [← hrr]; omega
          have hf2 : aFs sh (qPr H sh) nm H 0 = -1 := by rw [hsh.2.2]; exact hf
          rw [aRb_n _ hf] at hk
          rw [if_pos hf, hf, aMs_n] at em
          have x1 := hnn nm (List.mem_cons.mpr (Or.inl rfl))
          have ws2 := wSh_ns hw ⟨hsh.1, hsh.2.1⟩ hnm.1 hf2 (by omega) x1
          obtain ⟨m1, m2, m3, m4⟩ := r_msn (nm := nm) (u4 := S 237 66) h1 hW ⟨hsh.1, hsh.2.1⟩ hw
          rw [hsh.2.2] at m1 m2 m3 m4 ws2
          have lt : (H ++ [((p, sh, nm, qSz H sh + 1) : aH)]).length = H.length + 1 := by rw [List.length_append]; rfl
          have eq : (H ++ [((p, sh, nm, qSz H sh + 1) : aH)]).getD (H.length : Int).toNat (0, 0, 0, 0) = (p, sh, nm, qSz H sh + 1) := gH_n
          have en : aNs (H ++ [(p, sh, nm, qSz H sh + 1)]) (H.length : Int) = aNs H sh ++ [nm] := by
            have g := aNs_s ws2.1 (k := (H.length : Int)) (by omega) (by rw [lt]; omega) (by show 0 ≤ ((H ++ [((p, sh, nm, qSz H sh + 1) : aH)]).getD (H.length : Int).toNat (0, 0, 0, 0)).2.1; rw [eq]; exact hsh.1)
            rw [g.2.2.2.2]
            show aNs (H ++ [(p, sh, nm, qSz H sh + 1)]) ((H ++ [((p, sh, nm, qSz H sh + 1) : aH)]).getD (H.length : Int).toNat (0, 0, 0, 0)).2.1 ++ [((H ++ [((p, sh, nm, qSz H sh + 1) : aH)]).getD (H.length : Int).toNat (0, 0, 0, 0)).2.2.1] = _
            rw [eq, aNs_ap hw.1 hsh.1 hsh.2.1]
          have hfr2 : ∀ (j : Nat) (x : Int), ¬ rMr p j x → (msZ sh p nm (H.length : Int) (S 237 66) S) j x = S0 j x := fun j x j2 => (m4 j x (by unfold rMr at j2; omega) (by unfold rMr at j2; omega)).trans (hfr j x j2)
          have hM2 : w_ML (msZ sh p nm (H.length : Int) (S 237 66) S) := ms_ml hM (by omega) (by omega)
          have hc2 : rIv p u4 sl T (H ++ [(p, sh, nm, qSz H sh + 1)]) L G S0 (msZ sh p nm (H.length : Int) (S 237 66) S) := ⟨m1, m2, hM2, by rw [m3, hu4, lt]; omega, hfr2⟩
          exact wJ_S (ih (k + 1) ((msZ sh p nm (H.length : Int) (S 237 66) S) 328 (ls.getD k 0)) (H.length : Int) (H ++ [(p, sh, nm, qSz H sh + 1)]) (msZ sh p nm (H.length : Int) (S 237 66) S) (by omega) hj2 (e8 _ hfr2) hx2 hd.2 hc2 ws2 ⟨by omega, by rw [lt]; omega, by show ((H ++ [((p, sh, nm, qSz H sh + 1) : aH)]).getD (H.length : Int).toNat (0, 0, 0, 0)).1 = p; rw [eq]⟩ (fun x q z => by
            rw [en] at z
            rcases List.mem_append.mp z with y | y
            · exact hnn x (List.mem_cons.mpr (Or.inr q)) y
            · rw [List.mem_singleton.mp y] at q; exact hd.1 q) (by rw [aMs_new hw.1 (by exact hsh.2.1), lt]; omega) hk) ⟨rfl, rfl, rfl, rfl, rfl, rfl, rfl, rfl, trivial⟩
end Wfj
