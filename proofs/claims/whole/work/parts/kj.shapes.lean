/-! PART kj: what holds, when an object turns or loses a property. -/
section Wkj
variable {xs : List (Nat × List Int32)} {d : Nat} {S0 S Z : wS} {p w m : Nat} {HT : Int → Int} {cs : List hCR} {ms : List hMR} {os : Int → List Int} {X : List (List Int)} {mo t n B B2 oq : Int} {fa : Int → Int} {WE : aA → Prop} {A A2 : aA} {K2 : aK} {ml : List Nat} {T2 : List aO} {L2 : List aC} {G2 : Int → aV} {H2 : List aH} {c2 : Int → Int} {mk rk : Nat → Int → Prop} {k : Int} {o : aO} {T T1 : List aO} {L : List aC} {H : List aH} {cf : Int → Int} {c : Int → Int} {q sh n9 : Int}

theorem nNm {m9 : Int} : ∀ (f : Nat) (k : Int), wHs H n9 → (∀ s : Int, 0 ≤ s → s < (H.length : Int) → qNm H s ≤ m9) → 0 ≤ k → k < (H.length : Int) → f = (qSz H k).toNat → ∀ x ∈ aNs H k, x ≤ m9
  | 0, k, hw, _, k0, k1, hf => by
    have hz : 0 ≤ qSz H k := (wHs_c hw k k0 k1).1.1
    rw [aNs_0 (by omega)]
    exact fun x hx => absurd hx List.not_mem_nil
  | f + 1, k, hw, hb, k0, k1, hf => by
    obtain ⟨b0, b1, b2⟩ := (wHs_c hw k k0 k1).2 (by show 0 < qSz H k; omega)
    replace b0 : 0 ≤ qBe H k := b0
    obtain ⟨g1, g2, g3, g4, g5⟩ := aNs_s hw k0 k1 b0
    rw [g5]
    intro x hx
    rcases List.mem_append.mp hx with z | z
    · exact nNm f (qBe H k) hw hb b0 (by omega) (by omega) x z
    · rw [List.mem_singleton.mp z]; exact hb k k0 k1


theorem fS_sub {wo : Int} : ∀ (l : List Int) (i : Int), ∀ y ∈ fS wo l i, y ∈ l
  | [], _, y, h => h
  | x :: l, i, y, h => by
    unfold fS at h
    by_cases e : i = wo
    · rw [if_pos e] at h
      exact List.mem_cons_of_mem _ (fS_sub l (i + 1) y h)
    · rw [if_neg e] at h
      rcases List.mem_cons.mp h with z | z
      · rw [z]
        exact List.mem_cons_self
      · exact List.mem_cons_of_mem _ (fS_sub l (i + 1) y z)
/-- names of shapes are names -/
def nmB (H : List aH) (m : Int) : Prop := ∀ s : Int, 0 ≤ s → s < (H.length : Int) → qNm H s = -1 ∨ (0 ≤ qNm H s ∧ qNm H s < m)
theorem nmB_a {m : Int} {h : aH} (hn : nmB H m) (hh : h.2.2.1 = -1 ∨ (0 ≤ h.2.2.1 ∧ h.2.2.1 < m)) : nmB (H ++ [h]) m := fun s s0 s1 => by
  unfold qNm
  by_cases e : s < (H.length : Int)
  · rw [gA_l (by omega)]
    exact hn s s0 e
  · rw [List.length_append] at s1
    simp only [List.length_cons, List.length_nil] at s1
    rw [show s.toNat = H.length by omega, gH_r]
    exact hh
theorem rb_nm {m p9 : Int} : ∀ (l : List Int) (H : List aH) (s : Int), (∀ y ∈ l, 0 ≤ y ∧ y < m) → nmB H m → nmB (aRb p9 l H s).1 m
  | [], H, s, _, h => h
  | nm :: l, H, s, hl, h => by
    by_cases e : aFs s p9 nm H 0 = -1
    · rw [aRb_n l e]
      exact rb_nm l _ _ (fun y hy => hl y (List.mem_cons_of_mem _ hy)) (nmB_a h (Or.inr (hl nm List.mem_cons_self)))
    · rw [aRb_f l e]
      exact rb_nm l _ _ (fun y hy => hl y (List.mem_cons_of_mem _ hy)) h
theorem brK_br (hw : wSh T H) (hq : q = -1 ∨ isO T q) : brK T H (aBr T H q).1 (aBr T H q).2.1 := by
  rcases hq with rfl | hq
  · unfold aBr
    rw [if_pos rfl]
    exact brK_r
  · by_cases e : aFs (-1) q (-1) H 0 = -1
    · rw [br_q hw hq e]
      exact brK_e hq
    · rw [br_p hw hq e]
      exact brK_r
theorem rs_nm {m wo : Int} {k : Int} (hw : wSh T H) (hq : q = -1 ∨ isO T q) (hn : nmB H m) (k0 : 0 ≤ k) (k1 : k < (H.length : Int)) (hm : 0 ≤ m) : nmB (rsH T H q (fS wo (aNs H k) 0)) m := by
  refine rb_nm _ _ _ (fun y hy => ?_) (brK_n (brK_br hw hq) hn)
  have z := fS_sub _ _ y hy
  have z1 := (nDs_H hw.1 hw.2.1 _ k k0 k1 rfl).2 y z
  have z2 := nNm (m9 := m - 1) _ k hw.1 (fun s s0 s1 => by have := hn s s0 s1; omega) k0 k1 rfl y z
  omega
/-- things as they are ahead of an object's new shape -/
def ncK (T T1 : List aO) (k : Int) : Prop := T1.length = T.length ∧ ∀ x : Int, 0 ≤ x → x < (T.length : Int) → ((tO T1 x).1 = (tO T x).1 ∧ (tO T1 x).2.1 = (tO T x).2.1 ∧ (tO T1 x).2.2.1 = (tO T x).2.2.1 ∧ (tO T1 x).2.2.2.1 = (tO T x).2.2.2.1) ∧ ((tO T1 x).2.2.2.2.1 = (tO T x).2.2.2.2.1 ∨ (tO T1 x).2.2.2.2.1 = 0) ∧ (tO T1 x).2.2.2.2.2.1 = (tO T x).2.2.2.2.2.1 ∧ (∀ y ∈ (tO T1 x).2.2.2.2.2.2, y ∈ (tO T x).2.2.2.2.2.2) ∧ (tO T1 x).2.2.2.2.2.2.length ≤ (tO T x).2.2.2.2.2.2.length ∧ (x ≠ k → (tO T1 x).2.2.2.2.2.2 = (tO T x).2.2.2.2.2.2)
theorem ncK_b (h : brK T H T1 H2) : ncK T T1 k := ⟨h.1, fun x x0 x1 => by
  obtain ⟨z1, z2, z3⟩ := h.2.2 x x0 x1
  refine ⟨z1, z2, by rw [z3], fun y hy => by rw [z3] at hy; exact hy, by rw [z3]; exact Nat.le_refl _, fun _ => by rw [z3]⟩⟩
theorem nc_o (hk : 0 ≤ k ∧ k < (T.length : Int)) {x ch : Int} (x0 : 0 ≤ x) : (tO (tNc T k sh ch) x).2.2.2.2.2.1 = (if x = k then (if (tO T k).2.2.2.2.1 = -1 then (tO T k).2.2.2.2.2.1 else ch + 1) else (tO T x).2.2.2.2.2.1) := by
  unfold tNc
  rw [tCo_o hk.1 hk.2 x0]
  by_cases e : x = k
  · rw [if_pos e, if_pos e]
  · rw [if_neg e, if_neg e]
/-- all that holds, when an object has a new shape -/
theorem wf_nc (hA : wfA S0 fa ms n WE B A) (hWw : WEw WE) (hw : isWt w t) (hB : B + 1 ≤ B2 ∧ B2 ≤ 600000) (hK : wTk fa S0 K2) (hKv : wKv (a_T A) n K2) (hfl : fLe K2.2.1 (a_K A t).2.1) (hk : isO (a_T A) k) (hn : ncK (a_T A) T1 k) (hH : ∃ l : List aH, H2 = a_H A ++ l) (hs : wSh (tNc T1 k sh (a_c A 11)) H2) (hN : nmB H2 ((a_N A).length : Int)) (hc : c2 4 = a_c A 4 + ((H2.length : Int) - ((a_H A).length : Int)) ∧ c2 4 ≤ 4000 ∧ c2 11 = a_c A 11 + (if (tO T1 k).2.2.2.2.1 = -1 then 0 else 1) ∧ ∀ i : Int, i ≠ 4 → i ≠ 11 → c2 i = a_c A i) : wfA S0 fa ms n WE B2 (u_W A t K2 (tNc T1 k sh (a_c A 11)) (a_L A) (a_G A) H2 c2) := by
  obtain ⟨d2, d3, d11, d4⟩ := hc
  obtain ⟨hl, hn⟩ := hn
  have l : ((tNc T1 k sh (a_c A 11))).length = (a_T A).length := by rw [tNc_l, hl]
  have hk1 : 0 ≤ k ∧ k < (T1.length : Int) := ⟨hk.1.1, by rw [hl]; exact hk.1.2⟩
  have c11 : a_c A 11 ≤ c2 11 ∧ c2 11 ≤ a_c A 11 + 1 := by
    rw [d11]
    by_cases e : (tO T1 k).2.2.2.2.1 = -1
    · rw [if_pos e]
      omega
    · rw [if_neg e]
      omega
  have f := fun (x : Int) (x0 : 0 ≤ x) => tNc_f (sh := sh) (ch := a_c A 11) hk1.1 hk1.2 x0
  have e2 : tKp (a_T A) (tNc T1 k sh (a_c A 11)) := ⟨by rw [l]; exact Nat.le_refl _, fun x x0 x1 => by
    obtain ⟨z1, -, z3, z4, -⟩ := f x x0
    obtain ⟨y1, -⟩ := hn x x0 x1
    exact ⟨z1.trans y1.1, z3.trans y1.2.2.1, z4.trans y1.2.2.2⟩⟩
  have hl2 : ((a_H A).length : Int) ≤ (H2.length : Int) := by
    obtain ⟨q, rfl⟩ := hH
    rw [List.length_append]
    omega
  obtain ⟨b1, b2, b3, b4, b5, b6, b7, b8, b9⟩ := wCt_B hA.2.2.2.2.1 (B2 := B2) ⟨by omega, hB.2⟩
  have b60 := hA.2.2.2.2.1.2.2.2.2.2.1.1
  have h79 : tK7 (a_T A) (tNc T1 k sh (a_c A 11)) := ⟨fun x x0 x1 x7 => by
    obtain ⟨-, -, -, -, z5, -⟩ := f x x0
    obtain ⟨y1, -, -, -, -, y6⟩ := hn x x0 x1
    rw [z5, y6 (fun e => by have := hk.2; rw [e] at x7; omega)], fun x x0 x1 => by rw [l] at x1; omega⟩
  refine wf_W (k := k) hA hWw hw hK e2 hs (kv_mo hKv e2) (fun x hx y hy => ?_) (fun c hc v hv => vG_mo (hA.2.2.1.2.2.1 c hc v hv) e2) (fun q hq => vG_mo (hA.2.2.1.2.2.2.1 q hq) e2) (fun cf c1 c2 => ⟨cf, wCl_k c1 l e2, kc_le (kc_k c2 e2) hfl, Nat.le_refl _, fun _ _ => rfl⟩) ?_ hN ?_ c11.1 (h20 := fun i hi => d4 i (by omega) (by omega)) (h7 := h79)
  · obtain ⟨q, ⟨q0, q1⟩, rfl⟩ := mem_tO hx
    rw [l] at q1
    rw [(f q q0).2.2.2.2.1] at hy
    exact vG_mo (hA.2.2.1.2.1 _ (tO_mem q0 q1) y ((hn q q0 q1).2.2.2.1 y hy)) e2
  · refine ⟨⟨?_, ?_⟩, ⟨?_, ?_, fun x hm => ?_⟩, ?_, ?_, ?_, ⟨?_, ?_, fun i i0 i1 => ?_⟩, b7, fun x x0 x1 => ?_, b9⟩
    · show (((tNc T1 k sh (a_c A 11))).length : Int) + ((a_L A).length : Int) ≤ c2 0
      rw [l, d4 0 (by first | decide | omega) (by first | decide | omega)]
      exact b1.1
    · show c2 0 ≤ 8000
      rw [d4 0 (by first | decide | omega) (by first | decide | omega)]
      exact b1.2
    · show 0 ≤ c2 1
      rw [d4 1 (by first | decide | omega) (by first | decide | omega)]
      exact b2.1
    · show c2 1 ≤ 60000
      rw [d4 1 (by first | decide | omega) (by first | decide | omega)]
      exact b2.2.1
    · show (x.2.2.2.2.2.2.length : Int) ≤ c2 1
      rw [d4 1 (by first | decide | omega) (by first | decide | omega)]
      replace hm : x ∈ (tNc T1 k sh (a_c A 11)) := hm
      obtain ⟨q, ⟨q0, q1⟩, rfl⟩ := mem_tO hm
      rw [l] at q1
      rw [(f q q0).2.2.2.2.1]
      have z1 := (hn q q0 q1).2.2.2.2.1
      have z2 := b2.2.2 _ (tO_mem q0 q1)
      omega
    · show 0 ≤ c2 2 ∧ c2 2 ≤ 12000
      rw [d4 2 (by first | decide | omega) (by first | decide | omega)]
      exact b3
    · show 0 ≤ c2 3 ∧ c2 3 ≤ 200000
      rw [d4 3 (by first | decide | omega) (by first | decide | omega)]
      exact b4
    · show 0 ≤ c2 4 ∧ c2 4 ≤ 4000 ∧ (H2.length : Int) ≤ c2 4 + 1
      omega
    · show 0 ≤ c2 11 ∧ c2 11 ≤ B2
      omega
    · show 0 ≤ c2 19 ∧ c2 19 ≤ B2
      rw [d4 19 (by first | decide | omega) (by first | decide | omega)]
      exact b6.2.1
    · show 0 ≤ c2 i ∧ c2 i ≤ B2
      rw [d4 i (by omega) (by omega)]
      exact b6.2.2 i i0 i1
    · show (-1 ≤ (tO (tNc T1 k sh (a_c A 11)) x).2.2.2.2.1 ∧ (tO (tNc T1 k sh (a_c A 11)) x).2.2.2.2.1 ≤ c2 11) ∧ 0 ≤ (tO (tNc T1 k sh (a_c A 11)) x).2.2.2.2.2.1 ∧ (tO (tNc T1 k sh (a_c A 11)) x).2.2.2.2.2.1 ≤ c2 11
      replace x1 : x < (((tNc T1 k sh (a_c A 11))).length : Int) := x1
      rw [l] at x1
      rw [(f x x0).2.2.2.2.2, nc_o hk1 x0]
      have z4 := b8 x x0 x1
      obtain ⟨-, y2, y3, -⟩ := hn x x0 x1
      by_cases e : x = k
      · rw [if_pos e, if_pos e]
        subst e
        by_cases e3 : (tO T1 x).2.2.2.2.1 = -1
        · rw [if_pos e3, if_pos e3, y3]
          omega
        · rw [if_neg e3, if_neg e3]
          rw [if_neg e3] at d11
          omega
      · rw [if_neg e, if_neg e, y3]
        omega
  · refine eCh_of hA.2.1 (by rw [l]; exact Nat.le_refl _) hH (fun x hx hn2 => ?_) (fun hp => ?_)
    · obtain ⟨y1, -, y3, -, -, y6⟩ := hn x hx.1.1 hx.1.2
      have z := f x hx.1.1
      refine ⟨?_, ?_, ?_⟩
      · rw [z.2.1, if_neg hn2]
        exact y1.2.1
      · unfold pNs
        rw [z.2.2.2.2.1, y6 hn2]
      · rw [nc_o hk1 hx.1.1, if_neg hn2]
        exact y3
    · have hne : (tO (a_T A) k).2.2.2.2.1 ≠ -1 := fun z => by
        obtain ⟨-, s, hs, hs2⟩ := hp
        exact (hA.2.1.2.2.2.2.2.2.1 k hk.1.1 hk.1.2).mp z s hs.1 hs.2 hs2
      have y2 := (hn k hk.1.1 hk.1.2).2.1
      unfold aCg
      rw [nc_o hk1 hk.1.1, if_pos rfl, if_neg (by omega)]
      exact Int.le_refl _
end Wkj
