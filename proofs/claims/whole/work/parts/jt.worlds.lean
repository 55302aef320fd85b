/-! PART jt: how worlds change, as far as lookups see it. -/
section Wjt
variable {T T1 T2 : List aO} {H H2 : List aH} {nm k c sh ch : Int} {u : aV} {l : List aH}
theorem gA_l {i : Nat} (h : i < H.length) : (H ++ l).getD i (0, 0, 0, 0) = H.getD i (0, 0, 0, 0) := by rw [List.getD_eq_getElem?_getD, List.getElem?_append_left h, ← List.getD_eq_getElem?_getD]
theorem aNs_al {n : Int} (hw : wHs H n) (k0 : 0 ≤ k) (k1 : k < (H.length : Int)) : aNs (H ++ l) k = aNs H k := by
  have hc := wHs_c hw
  have e : ∀ k : Int, 0 ≤ k → k < (H.length : Int) → (H ++ l).getD k.toNat (0, 0, 0, 0) = H.getD k.toNat (0, 0, 0, 0) := fun k k0 k1 => gA_l (by omega)
  have hz := (hc k k0 k1).1.1
  replace hz : 0 ≤ qSz H k := hz
  unfold aNs
  rw [show qSz (H ++ l) k = qSz H k by show ((H ++ l).getD k.toNat (0, 0, 0, 0)).2.2.2 = _; rw [e k k0 k1]]
  exact hNl_cg (C := qSz H) hc (fun k k0 k1 => ⟨by show ((H ++ l).getD k.toNat (0, 0, 0, 0)).2.1 = _; rw [e k k0 k1], by show ((H ++ l).getD k.toNat (0, 0, 0, 0)).2.2.1 = _; rw [e k k0 k1]⟩) _ k (fun q => ⟨k0, k1, by omega⟩)
theorem aFs_al {be pr : Int} : ∀ (H : List aH) (k : Int), 0 ≤ k → aFs be pr nm H k ≠ -1 → aFs be pr nm (H ++ l) k = aFs be pr nm H k
  | [], k, _, h => absurd rfl h
  | x :: H, k, k0, h => by
    show (if x.1 = pr ∧ x.2.1 = be ∧ x.2.2.1 = nm then k else aFs be pr nm (H ++ l) (k + 1)) = (if x.1 = pr ∧ x.2.1 = be ∧ x.2.2.1 = nm then k else aFs be pr nm H (k + 1))
    have h2 : (if x.1 = pr ∧ x.2.1 = be ∧ x.2.2.1 = nm then k else aFs be pr nm H (k + 1)) ≠ -1 := h
    by_cases c : x.1 = pr ∧ x.2.1 = be ∧ x.2.2.1 = nm
    · rw [if_pos c, if_pos c]
    · rw [if_neg c] at h2
      rw [if_neg c, if_neg c]
      exact aFs_al H (k + 1) (by omega) h2
theorem eCh_of (hw : wSh T H) (hl : T.length ≤ T2.length) (hH : ∃ l : List aH, H2 = H ++ l) (hq : ∀ q : Int, isO T q → q ≠ k → (tO T2 q).2.1 = (tO T q).2.1 ∧ pNs (tO T2 q) = pNs (tO T q) ∧ (tO T2 q).2.2.2.2.2.1 = (tO T q).2.2.2.2.2.1) (hk : isPt T H k → c ≤ aCg T2 k) : eCh T H T2 H2 k c := by
  obtain ⟨l, rfl⟩ := hH
  refine ⟨⟨hl, by rw [List.length_append]; omega⟩, fun g g0 g1 => ⟨?_, aNs_al hw.1 g0 g1, fun nm hn => aFs_al H 0 (Int.le_refl _) hn⟩, fun q hp hn => ?_, hk⟩
  · show ((H ++ l).getD g.toNat (0, 0, 0, 0)).1 = _
    rw [gA_l (by omega)]
  · obtain ⟨a1, a2, a3⟩ := hq q hp.1 hn
    obtain ⟨h1, h2⟩ := hp.1
    have hs := (hw.2.2.1 q.toNat (by omega)).2.1 h2
    replace hs : 0 ≤ (tO T q).2.1 ∧ (tO T q).2.1 < (H.length : Int) := hs
    refine ⟨?_, fun nm => ?_, a3⟩
    · show ((H ++ l).getD (tO T2 q).2.1.toNat (0, 0, 0, 0)).1 = _
      rw [a1, gA_l (by omega)]
      rfl
    · unfold aIx
      rw [a2]
theorem tO_s {x : aO} {q : Int} (k0 : 0 ≤ k) (q0 : 0 ≤ q) (h : q ≠ k) : tO (T.set k.toNat x) q = tO T q := by
  show (T.set k.toNat x).getD q.toNat _ = T.getD q.toNat _
  rw [List.getD_eq_getElem?_getD, List.getElem?_set_ne (by omega), ← List.getD_eq_getElem?_getD]
theorem tO_e {x : aO} (k0 : 0 ≤ k) (k1 : k < (T.length : Int)) : tO (T.set k.toNat x) k = x := by
  show (T.set k.toNat x).getD k.toNat _ = x
  rw [List.getD_eq_getElem?_getD, List.getElem?_set_self (by omega)]
  rfl
theorem eN_1 : isPt T H (-1) → c ≤ aCg T2 (-1) := fun h => absurd h.1.1.1 (by first | decide | omega)
theorem eH_0 : ∃ l : List aH, H = H ++ l := ⟨[], (List.append_nil H).symm⟩
theorem eCh_new {o : aO} (hw : wSh T H) : eCh T H (T ++ [o]) H (-1) c := eCh_of hw (by rw [List.length_append]; omega) eH_0 (fun q hq _ => by rw [tO_l hq.1.1 hq.1.2]; exact ⟨rfl, rfl, rfl⟩) eN_1
theorem eCh_ns {h : aH} (hw : wSh T H) : eCh T H T (H ++ [h]) (-1) c := eCh_of hw (Nat.le_refl _) ⟨[h], rfl⟩ (fun q hq _ => ⟨rfl, rfl, rfl⟩) eN_1
theorem eCh_rfl (hw : wSh T H) : eCh T H T H (-1) c := eCh_of hw (Nat.le_refl _) eH_0 (fun q hq _ => ⟨rfl, rfl, rfl⟩) eN_1
theorem eCh_bs {p ep : Int} {h : aH} (hw : wSh T H) (hp : 0 ≤ p ∧ p < (T.length : Int)) : eCh T H (tEp T p ep) (H ++ [h]) (-1) c := by
  refine eCh_of hw (by unfold tEp; rw [List.length_set]; exact Nat.le_refl _) ⟨[h], rfl⟩ (fun q hq _ => ?_) eN_1
  unfold tEp
  by_cases e : q = p
  · rw [e, tO_e hp.1 hp.2]; exact ⟨rfl, rfl, rfl⟩
  · rw [tO_s hp.1 hq.1.1 e]; exact ⟨rfl, rfl, rfl⟩
theorem eCh_sp {i : Nat} (hw : wSh T H) (hk : 0 ≤ k ∧ k < (T.length : Int)) : eCh T H (tSp T k i u) H (-1) c := by
  refine eCh_of hw (by unfold tSp; rw [List.length_set]; exact Nat.le_refl _) eH_0 (fun q hq _ => ?_) eN_1
  unfold tSp
  by_cases e : q = k
  · rw [e, tO_e hk.1 hk.2]
    refine ⟨rfl, ?_, rfl⟩
    show (List.map (fun x => x.1) ((tO T k).2.2.2.2.2.2.set i (((tO T k).2.2.2.2.2.2.getD i (0, (0, 0, []))).1, u))) = List.map (fun x => x.1) (tO T k).2.2.2.2.2.2
    rw [List.map_set]
    show (List.map (fun x => x.1) (tO T k).2.2.2.2.2.2).set i ((tO T k).2.2.2.2.2.2.getD i (0, (0, 0, []))).1 = _
    by_cases ci : i < (tO T k).2.2.2.2.2.2.length
    · have e2 : ((tO T k).2.2.2.2.2.2.getD i (0, (0, 0, []))).1 = (List.map (fun x => x.1) (tO T k).2.2.2.2.2.2)[i]'(by rw [List.length_map]; exact ci) := by
        rw [List.getElem_map, List.getD_eq_getElem?_getD, List.getElem?_eq_getElem ci]
        rfl
      rw [e2, List.set_getElem_self]
    · rw [List.set_eq_of_length_le (by rw [List.length_map]; omega)]
  · rw [tO_s hk.1 hq.1.1 e]; exact ⟨rfl, rfl, rfl⟩
/-- a list changes: no lookup sees it -/
theorem eCh_li {x : aO} (hw : wSh T H) (hk : 0 ≤ k ∧ k < (T.length : Int)) (h6 : (tO T k).1 ≠ 4 ∧ (tO T k).1 ≠ 5) : eCh T H (T.set k.toNat x) H (-1) c := by
  refine eCh_of hw (by rw [List.length_set]; exact Nat.le_refl _) eH_0 (fun q hq _ => ?_) eN_1
  have e : q ≠ k := fun z => by have := hq.2; rw [z] at this; omega
  rw [tO_s hk.1 hq.1.1 e]
  exact ⟨rfl, rfl, rfl⟩
theorem eCh_nc (hw : wSh T H) (hk : 0 ≤ k ∧ k < (T.length : Int)) (hl : T1.length = T.length) (hq : ∀ q : Int, 0 ≤ q → q ≠ k → tO T1 q = tO T q) (he : (tO T1 k).2.2.2.2.1 = (tO T k).2.2.2.2.1) (hH : ∃ l : List aH, H2 = H ++ l) : eCh T H (tNc T1 k sh ch) H2 k (ch + 1) := by
  have e1 : (tNc T1 k sh ch).length = T.length := by unfold tNc tCo; rw [List.length_set, hl]
  refine eCh_of hw (by rw [e1]; exact Nat.le_refl _) hH (fun q hp hn => ?_) (fun hp => ?_)
  · unfold tNc tCo
    rw [tO_s hk.1 hp.1.1 hn, hq q hp.1.1 hn]
    exact ⟨rfl, rfl, rfl⟩
  · have hne : (tO T k).2.2.2.2.1 ≠ -1 := fun z => by
      obtain ⟨-, s, hs, hs2⟩ := hp
      exact (hw.2.2.2.2.2.2.1 k hk.1 hk.2).mp z s hs.1 hs.2 hs2
    unfold aCg tNc tCo
    rw [tO_e hk.1 (by rw [hl]; exact hk.2)]
    show ch + 1 ≤ (if (tO T1 k).2.2.2.2.1 = -1 then (tO T1 k).2.2.2.2.2.1 else ch + 1)
    rw [if_neg (by rw [he]; exact hne)]
    exact Int.le_refl _
theorem eCh_ap (hw : wSh T H) (hk : 0 ≤ k ∧ k < (T.length : Int)) : eCh T H (tNc (tAp T k nm u) k sh ch) H k (ch + 1) := eCh_nc hw hk tAp_l (fun q q0 qn => by unfold tAp; exact tO_s hk.1 q0 qn) (by unfold tAp; rw [tO_e hk.1 hk.2]) eH_0
theorem eCh_tu (hw : wSh T H) (hk : 0 ≤ k ∧ k < (T.length : Int)) : eCh T H (tNc T k sh ch) H k (ch + 1) := eCh_nc hw hk rfl (fun q q0 qn => rfl) rfl eH_0
theorem eCh_dp {ix : Int} (hw : wSh T H) (hk : 0 ≤ k ∧ k < (T.length : Int)) : eCh T H (tNc (tDp T k ix) k sh ch) H k (ch + 1) := eCh_nc hw hk (by unfold tDp; rw [List.length_set]) (fun q q0 qn => by unfold tDp; exact tO_s hk.1 q0 qn) (by unfold tDp; rw [tO_e hk.1 hk.2]) eH_0
end Wjt
