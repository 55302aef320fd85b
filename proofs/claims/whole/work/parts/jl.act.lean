/-! PART jl: acting at a site by tasks: methods of hosts: of the class. -/
section Wjl0
variable {xs : List (Nat × List Int32)} {d : Nat} {Y : wS} {K : aK} {T : List aO} {H : List aH} {L : List aC} {G : Int → aV} {x kd ec gk gb es hd wh e50 l : Int} {ba : Nat} {HT : Int → Int} {cs : List hCR} {ms : List hMR} {os : Int → List Int} {SF : Int → aV} {tr : List Int} {A B V : wS} {w : Nat} {k v ky vy m en : Int} {a : aV} {R : wS → wS → Prop} {mk : Nat → Int → Prop} {ar : List aV}
/-- the trace as a list -/
def cTrc (S : wS) (tr : List Int) : Prop := S 72 15 = (tr.length : Int) ∧ (∀ k : Nat, k < tr.length → S 152 (k : Int) = tr.getD k 0) ∧ ((tr.length : Int) ≤ S 152 (-1) ∧ (tr.length : Int) ≤ 100000) ∧ (16 ≤ S 152 (-1) ∧ S 152 (-1) ≤ 262143)
def rTrc (S : wS) (tr : List Int) : Prop := S 237 106 = (tr.length : Int) ∧ (∀ k : Nat, k < tr.length → S 343 (k : Int) = tr.getD k 0) ∧ (tr.length : Int) ≤ 100000
theorem cTrc_ag {S Z : wS} (h : cTrc S tr) (f : ∀ x : Int, Z 152 x = S 152 x) (f2 : Z 72 15 = S 72 15) : cTrc Z tr := ⟨f2.trans h.1, fun k hk => (f _).trans (h.2.1 k hk), by rw [f]; exact h.2.2.1, by rw [f]; exact h.2.2.2⟩
theorem tr2_g {i : Nat} (hi : i < (tr ++ [m, en]).length) : (i < tr.length ∧ (tr ++ [m, en]).getD i 0 = tr.getD i 0) ∨ (i = tr.length ∧ (tr ++ [m, en]).getD i 0 = m) ∨ (i = tr.length + 1 ∧ (tr ++ [m, en]).getD i 0 = en) := by
  rw [List.length_append] at hi
  by_cases c : i < tr.length
  · exact Or.inl ⟨c, by rw [List.getD_eq_getElem?_getD, List.getElem?_append_left c, ← List.getD_eq_getElem?_getD]⟩
  · have hi2 : i < tr.length + 2 := hi
    by_cases c2 : i = tr.length
    · exact Or.inr (Or.inl ⟨c2, by rw [List.getD_eq_getElem?_getD, List.getElem?_append_right (by omega), c2, Nat.sub_self]; rfl⟩)
    · have e : i = tr.length + 1 := by omega
      exact Or.inr (Or.inr ⟨e, by rw [List.getD_eq_getElem?_getD, List.getElem?_append_right (by omega), e, Nat.add_sub_cancel_left]; rfl⟩)
theorem cTrc_t (h : cTrc Y tr) (hn : (tr.length : Int) + 2 ≤ 100000) (hr : trR m en Y A) : cTrc A (tr ++ [m, en]) := by
  obtain ⟨h1, h2, h3, h4⟩ := h
  obtain ⟨r1, ⟨r2, r3⟩, r4, -, r5, -, -⟩ := hr
  rw [h1] at r1 r2 r3 r4 r5
  have el : ((tr ++ [m, en]).length : Int) = (tr.length : Int) + 2 := by rw [List.length_append]; rfl
  refine ⟨by rw [el]; exact r1, fun k hk => ?_, ⟨by omega, by omega⟩, ⟨r5.1, r5.2.1⟩⟩
  rcases tr2_g hk with ⟨z1, z2⟩ | ⟨z1, z2⟩ | ⟨z1, z2⟩
  · rw [z2, r4 k (by omega) (by omega), h2 k z1]
  · rw [z2, z1, r2]
  · rw [z2, z1, ← r3]
    congr 1
/-- a member that is called changes beside its task -/
def cMh (j : Nat) (x : Int) : Prop := j = 152 ∨ (j = 72 ∧ x = 15) ∨ (j = 158 ∧ (x = 16 ∨ x = 17))
/-- what lies ahead of the value that is given -/
def cmF (mk : Nat → Int → Prop) (Y A B : wS) : Prop := cTx Y B ∧ gI B ∧ rmR Y B ∧ (∀ (j : Nat) (x : Int), j < 4000000 → j ≠ wG → ¬ (cMh j x ∨ mk j x) → B j x = Y j x) ∧ (∀ x : Int, B 152 x = A 152 x) ∧ B 72 15 = A 72 15
theorem cmF_g (hA : trR m en Y A) (hB : gvR A B) : cmF (fun _ _ => False) Y A B := by
  obtain ⟨r1, ⟨r2, r3⟩, r4, fr, r5, gA, rA⟩ := hA
  have fB : ∀ (j : Nat) (x : Int), j < 4000000 → j ≠ wG → ¬ (cMh j x ∨ False) → B j x = Y j x := fun j x j0 j1 j2 => by
    have j3 : ¬ cMh j x := fun z => j2 (Or.inl z)
    unfold cMh at j3
    exact (hB j x (by omega)).trans (fr j x j0 j1 (by omega) (by omega))
  exact ⟨cTx_of (fB 2 1 (by first | decide | omega) (by first | decide | omega) (fun z => z.elim (fun z => by unfold cMh at z; omega) id)) (fun i => fB 3 i (by first | decide | omega) (by first | decide | omega) (fun z => z.elim (fun z => by unfold cMh at z; omega) id)), gI_ag2 gA (fun j j0 => hB j (-1) (by omega)) (fun x hx => hB 238 _ (Or.inl (by first | decide | omega))) (hB 14 5 (Or.inl (by first | decide | omega))), rmR_ag rA (fun k hk => hB k (-1) (by omega)) (hB wG 0 (Or.inl (by first | decide | omega))) (hB wG 1 (Or.inl (by first | decide | omega))), fB, fun x => hB 152 x (Or.inl (by first | decide | omega)), hB 72 15 (Or.inl (by first | decide | omega))⟩
theorem cmF_s {j1 j2 : Nat} {i k1 v1 : Int} (hA : trR m en Y A) (hi : 0 ≤ i) (h1 : j1 < 237 ∧ j1 ≠ 14 ∧ j1 ≠ 2 ∧ j1 ≠ 3 ∧ j1 ≠ 152 ∧ j1 ≠ 72) (h2 : j2 < 237 ∧ j2 ≠ 14 ∧ j2 ≠ 2 ∧ j2 ≠ 3 ∧ j2 ≠ 152 ∧ j2 ≠ 72) (hB : gvR (w_up (w_up A j1 i k1) j2 i v1) B) : cmF (fun j x => (j = j1 ∨ j = j2) ∧ 0 ≤ x) Y A B := by
  obtain ⟨r1, ⟨r2, r3⟩, r4, fr, r5, gA, rA⟩ := hA
  have hg : wG = 1000000 := rfl
  have gA2 : gI (w_up (w_up A j1 i k1) j2 i v1) := gI_up (gI_up gA hi (by omega) (Or.inl (by omega))) hi (by omega) (Or.inl (by omega))
  have rA2 : rmR Y (w_up (w_up A j1 i k1) j2 i v1) := rmR_up (rmR_up rA hi (by omega)) hi (by omega)
  have fB : ∀ (j : Nat) (x : Int), j < 4000000 → j ≠ wG → ¬ (cMh j x ∨ ((j = j1 ∨ j = j2) ∧ 0 ≤ x)) → B j x = Y j x := fun j x q0 q1 q2 => by
    have q3 : ¬ cMh j x := fun z => q2 (Or.inl z)
    have q4 : ¬ ((j = j1 ∨ j = j2) ∧ 0 ≤ x) := fun z => q2 (Or.inr z)
    unfold cMh at q3
    exact (hB j x (by omega)).trans ((w_up_no (by omega)).trans ((w_up_no (by omega)).trans (fr j x q0 q1 (by omega) (by omega))))
  exact ⟨cTx_of (fB 2 1 (by first | decide | omega) (by first | decide | omega) (by unfold cMh; omega)) (fun i => fB 3 i (by first | decide | omega) (by first | decide | omega) (by unfold cMh; omega)), gI_ag2 gA2 (fun j j0 => hB j (-1) (by omega)) (fun x hx => hB 238 _ (Or.inl (by first | decide | omega))) (hB 14 5 (Or.inl (by first | decide | omega))), rmR_ag rA2 (fun k hk => hB k (-1) (by omega)) (hB wG 0 (Or.inl (by first | decide | omega))) (hB wG 1 (Or.inl (by first | decide | omega))), fB, fun x => (hB 152 x (Or.inl (by first | decide | omega))).trans ((w_up_slot (by omega)).trans (w_up_slot (by omega))), (hB 72 15 (Or.inl (by first | decide | omega))).trans ((w_up_slot (by omega)).trans (w_up_slot (by omega)))⟩
/-- what a member that is called comes to, but for what its own world becomes -/
def cmPt (w : Nat) (K : aK) (ba : Nat) (kd : Int) (a : aV) (m en : Int) (tr : List Int) (mk : Nat → Int → Prop) (Y V : wS) : Prop := V w 16 = 0 ∧ cTk w V (kP K (K.1.length - ba) (if kd = 1 then (K.1.getD (K.1.length - 1) (0, 0, [])) else a)) ∧ cTrc V (tr ++ [m, en]) ∧ cFm w (fun j x => cMh j x ∨ mk j x) Y V
theorem cmT (hw : w = 215 ∨ w = 226) (hK : cTk w Y K) (k0 : 0 < K.2.1.length) (hba : ba < K.1.length) (k1 : K.1.length ≤ 2001) (y16 : Y w 16 = 0) (htr : cTrc Y tr) (hn : (tr.length : Int) + 2 ≤ 100000) (hu : cVl Y ky vy (K.1.getD (K.1.length - 1) (0, 0, []))) (hmk : ∀ (j : Nat) (x : Int), mk j x → j < w ∨ w + 10 < j) (hR : ∀ A B : wS, trR m en Y A → R A B → cVl B k v a ∧ cmF mk Y A B) (hq : cmE w (K.1.length : Int) (K.2.1.length : Int) (K.2.1.getD (K.2.1.length - 1) (0, 0, 0, (0, 0, []), 0, 0, 0)).2.1 ((K.1.length : Int) - (ba : Int)) kd ky vy k v m en R Y V) : cmPt w K ba kd a m en tr mk Y V ∧ ∃ A B : wS, trR m en Y A ∧ R A B ∧ cFr w B V := by
  obtain ⟨A, B, hA, hB, hs⟩ := hq
  obtain ⟨b1, b2, b3, b4, b5, b6, b7⟩ := hR A B hA hB
  have hg : wG = 1000000 := rfl
  have hKB : cTk w B K := cTk_ag hK b2 (fun j x hj => b5 j x (by omega) (by omega) (fun z => z.elim (fun z => by unfold cMh at z; omega) (fun z => by have := hmk j x z; omega)))
  have e16 : B w 16 = Y w 16 := b5 w 16 (by omega) (by omega) (fun z => z.elim (fun z => by unfold cMh at z; omega) (fun z => by have := hmk w 16 z; omega))
  have hv : cVl B (if kd = 1 then ky else k) (if kd = 1 then vy else v) (if kd = 1 then (K.1.getD (K.1.length - 1) (0, 0, [])) else a) := by
    by_cases c : kd = 1
    · rw [if_pos c, if_pos c, if_pos c]; exact cVl_mo hu b2
    · rw [if_neg c, if_neg c, if_neg c]; exact b1
  obtain ⟨⟨r1, r2⟩, r3⟩ := cGv hw hKB b3 k0 hba k1 hs hv
  refine ⟨⟨r1.trans (e16.trans y16), r2, ?_, cFm_fr r3 (fun j x j0 j1 _ j3 => b5 j x j0 j1 j3) (fun j j0 j1 => b5 j (-1) (by omega) (by omega) (fun z => z.elim (fun z => by unfold cMh at z; omega) (fun z => by have := hmk j (-1) z; omega))) b4⟩, A, B, hA, hB, r3⟩
  exact cTrc_ag (cTrc_t htr hn hA) (fun x => (r3.1 152 x (by first | decide | omega) (by first | decide | omega) (by omega)).trans (b6 x)) ((r3.1 72 15 (by first | decide | omega) (by first | decide | omega) (by omega)).trans b7)
/-- the ES of a call as they lie on the class's pile -/
def pEs (S : wS) (jk jb : Nat) (at0 : Int) (n : Nat) : List (Int × Int) := (List.range n).map (fun (i : Nat) => (S jk (at0 + (i : Int)), S jb (at0 + (i : Int))))
theorem pEs_l {S : wS} {jk jb n : Nat} {at0 : Int} : (pEs S jk jb at0 n).length = n := by unfold pEs; rw [List.length_map, List.length_range]
theorem pEs_g {S : wS} {jk jb n : Nat} {at0 : Int} {i : Nat} (h : i < n) : (pEs S jk jb at0 n).getD i (0, 0) = (S jk (at0 + (i : Int)), S jb (at0 + (i : Int))) := by
  unfold pEs
  rw [List.getD_eq_getElem?_getD, List.getElem?_map, List.getElem?_range h]
  rfl
/-- values as kinds and numbers -/
def aEs (ar : List aV) : List (Int × Int) := ar.map (fun u => (u.1, u.2.1))
theorem anS_cg : ∀ (l1 l2 : List (Int × Int)) (s : Int), l1.length = l2.length → (∀ i : Nat, i < l1.length → (l1.getD i (0, 0)).1 = (l2.getD i (0, 0)).1 ∧ ((l1.getD i (0, 0)).1 = 2 → (l1.getD i (0, 0)).2 = (l2.getD i (0, 0)).2)) → anS s l1 = anS s l2
  | [], [], s, _, _ => rfl
  | [], _ :: _, s, h, _ => absurd h (by rw [List.length_cons, List.length_nil]; omega)
  | _ :: _, [], s, h, _ => absurd h (by rw [List.length_cons, List.length_nil]; omega)
  | e :: l, g :: q, s, h, f => by
    have f0 := f 0 (by rw [List.length_cons]; omega)
    replace f0 : e.1 = g.1 ∧ (e.1 = 2 → e.2 = g.2) := f0
    show anS (s + (if e.1 = 2 then e.2 else 0)) l = anS (s + (if g.1 = 2 then g.2 else 0)) q
    have ee : (if e.1 = 2 then e.2 else 0) = (if g.1 = 2 then g.2 else 0) := by
      by_cases c : e.1 = 2
      · rw [if_pos c, if_pos (f0.1 ▸ c), f0.2 c]
      · rw [if_neg c, if_neg (fun z => c (f0.1.trans z))]
    rw [ee]
    exact anS_cg l q _ (by rw [List.length_cons, List.length_cons] at h; omega) (fun i hi => f (i + 1) (by rw [List.length_cons]; omega))
/-- a value is of such a class, or of any -/
def isA (cs : List hCR) (T : List aO) (ty : Int) (u : aV) : Bool := decide (ty = 8) || (decide (u.1 = 7) && sbB cs (9 + (tO T u.2.1).2.2.1) ty)
/-- what a method of a thing's type gives -/
def anV (cs : List hCR) (T : List aO) (sb ty : Int) (rc : aV) (ar : List aV) : aV := if sb = 0 ∧ isA cs T ty rc = true then rc else (ar.find? (fun u => decide (u.1 ≠ 0) && isA cs T ty u)).getD (0, 0, [])
theorem find_pEs {p : Int × Int → Bool} {q : aV → Bool} {S : wS} {jk jb : Nat} : ∀ (ar : List aV) (at0 : Int), (∀ i : Nat, i < ar.length → cVl S (S jk (at0 + (i : Int))) (S jb (at0 + (i : Int))) (ar.getD i (0, 0, [])) ∧ p (S jk (at0 + (i : Int)), S jb (at0 + (i : Int))) = q (ar.getD i (0, 0, []))) → cVl S (((pEs S jk jb at0 ar.length).find? p).getD (0, 0)).1 (((pEs S jk jb at0 ar.length).find? p).getD (0, 0)).2 ((ar.find? q).getD (0, 0, []))
  | [], at0, _ => by
    show cVl S 0 0 (0, 0, [])
    exact cV_e (by first | decide | omega) rfl
  | u :: l, at0, h => by
    have h0 := h 0 (by rw [List.length_cons]; omega)
    rw [show at0 + ((0 : Nat) : Int) = at0 by omega] at h0
    replace h0 : cVl S (S jk at0) (S jb at0) u ∧ p (S jk at0, S jb at0) = q u := h0
    have e : pEs S jk jb at0 (u :: l).length = (S jk at0, S jb at0) :: pEs S jk jb (at0 + 1) l.length := by
      unfold pEs
      rw [List.length_cons, List.range_succ_eq_map, List.map_cons, List.map_map]
      have z0 : at0 + ((0 : Nat) : Int) = at0 := by omega
      show (S jk (at0 + ((0 : Nat) : Int)), S jb (at0 + ((0 : Nat) : Int))) :: _ = _
      rw [z0]
      refine congrArg (List.cons _) (List.map_congr_left (fun i _ => ?_))
      show (S jk (at0 + ((i + 1 : Nat) : Int)), S jb (at0 + ((i + 1 : Nat) : Int))) = _
      rw [show at0 + ((i + 1 : Nat) : Int) = at0 + 1 + (i : Int) by omega]
    rw [e, List.find?_cons, List.find?_cons, ← h0.2]
    cases hp : p (S jk at0, S jb at0) with
    | true => exact h0.1
    | false =>
      refine find_pEs l (at0 + 1) (fun i hi => ?_)
      have z := h (i + 1) (by rw [List.length_cons]; omega)
      rw [show at0 + ((i + 1 : Nat) : Int) = at0 + 1 + (i : Int) by omega] at z
      exact z
/-- the ES stand on the pile -/
def arG (K : aK) (ba : Nat) (ec : Int) (ar : List aV) : Prop := ((ar.length : Int) = ec ∧ ec ≤ 8 ∧ ba + 1 + ar.length ≤ K.1.length) ∧ ∀ i : Nat, i < ar.length → K.1.getD (ba + 1 + i) (0, 0, []) = ar.getD i (0, 0, [])
theorem ar_c (hK : cTk w Y K) (hg : arG K ba ec ar) {i : Nat} (hi : i < ar.length) : cVl Y (Y (w + 2) ((ba : Int) + 1 + (i : Int))) (Y (w + 3) ((ba : Int) + 1 + (i : Int))) (ar.getD i (0, 0, [])) := by
  rw [← hg.2 i hi]
  exact c_at hK (by have := hg.1.2.2; omega) (by omega)
end Wjl0
section Wjl
variable {xs : List (Nat × List Int32)} {d : Nat} {Y : wS} {K : aK} {T : List aO} {H : List aH} {L : List aC} {G : Int → aV} {x kd ec gk gb es hd wh e50 l : Int} {ba : Nat} {HT : Int → Int} {cs : List hCR} {ms : List hMR} {os : Int → List Int} {SF : Int → aV} {tr : List Int} {ar : List aV}
theorem amv_73_215 (h : rdC 215 kd ec ba gk gb es x l K T L G Y) (hKC : KC 87 97 93 114 115 74 73 HT cs ms os Y) (h72 : Y 72 1 = 73) (hl12 : l = 1 ∨ l = 2) (he51 : Y 51 x = wh) (hm : (0 ≤ wh ∧ wh < (ms.length : Int)) ∧ (hmR ms wh).2.1 = 1) (htr : cTrc Y tr) (hg : arG K ba ec ar) (hty : (hmR ms wh).2.2.2.1 = 0) (hmf : Y 112 wh = -1) : wJ (pe_GA xs) wY0 (mS [217, 218, 152]) (d + 7) t_XL_act ((pe_at t_XL_act.bl 0).getD (0, [])).2 [(0, (2, 158)), (1, (0, x))] [] Y (fun o V => o = .inl none ∧ ((100000 < (tr.length : Int) + 2 ∧ w_up Y 215 16 99 = V) ∨ ((tr.length : Int) + 2 ≤ 100000 ∧ cmPt 215 K ba kd (0, 0, []) wh ec tr (fun _ _ => False) Y V))) := wJ_E (fun hE => by
  obtain ⟨⟨h, hW, hl, hT⟩, ⟨l4, l5, l7, l8, l9, l10, l12, l13⟩, y16, ⟨hx, e48⟩, hba⟩ := h
  have hP := xP_of (w := 215) (by omega) h
  rw [← w_up_eta y16] at hP
  obtain ⟨hTh, hCa, -, ⟨⟨m1, m2, m3, m4⟩, hl14, ⟨c0, c1⟩, hz16, hz10⟩, ⟨t1, t2, t3, t4⟩, -⟩ := id hW
  obtain ⟨hK, ⟨hC, hI⟩, ⟨k0, k1, -⟩, -⟩ := id h
  have hn4 := hKC.2.2.2.2.1.1
  have hw4 : wh < 400 := by have := hm.1.2; omega
  obtain ⟨⟨-, a1, a2, a3⟩, ⟨a4, -⟩, -⟩ := mrA hKC.2.2.2.2.1 hm.1
  replace a1 : Y 98 wh = 1 := a1.trans hm.2
  have hg1 := hg.1
  have hu := c_at hK (i := K.1.length - 1) (by omega) (j := (K.1.length : Int) - 1) (by omega)
  replace hu : cVl Y (Y 217 ((K.1.length : Int) - 1)) (Y 218 ((K.1.length : Int) - 1)) (K.1.getD (K.1.length - 1) (0, 0, [])) := hu
  have p3 : (K.1.length : Int) ≤ Y 217 (-1) := hK.1.2.2.1
  have p4 : Y 218 (-1) = Y 217 (-1) := hK.1.2.2.2.1
  refine acha_73_215 (d := d + 6) hC hI hl h72 hx e48 hl12 he51 ⟨hm.1.1, hw4⟩ a1 (by omega) (R := fun V => ((100000 < (tr.length : Int) + 2 ∧ w_up Y 215 16 99 = V) ∨ ((tr.length : Int) + 2 ≤ 100000 ∧ cmPt 215 K ba kd (0, 0, []) wh ec tr (fun _ _ => False) Y V))) (wJ_mono (cmv_73_215 (d := d) (c := (K.2.1.length : Int)) (p := (K.2.1.getD (K.2.1.length - 1) (0, 0, 0, (0, 0, []), 0, 0, 0)).2.1) (h := (K.1.length : Int)) (kd := kd) (ba := (ba : Int)) (m := wh) (en := ec) (tn := (tr.length : Int)) (ky := Y 217 ((K.1.length : Int) - 1)) (vy := Y 218 ((K.1.length : Int) - 1)) hP l4 l5 l7 l8 l12 ⟨by omega, by omega⟩ ⟨by omega, by omega⟩ h72 ⟨hm.1.1, hw4⟩ a1 htr.1 ⟨by omega, htr.2.2.1.1, htr.2.2.1.2⟩ (by have := htr.2.2.2; have := htr.2.2.1.2; omega) rfl rfl (br_E hE ⟨Or.inl (by first | decide | omega), by decide⟩ rfl (by omega) (by omega)) (lr_E hE ⟨Or.inl (by first | decide | omega), by decide⟩ rfl (by omega) (by omega)) (a3.trans hty) hmf) (fun o V hq => ?_))
  obtain ⟨rfl, hq⟩ := hq
  refine ⟨rfl, ?_⟩
  rcases hq with hq | ⟨q1, hq⟩
  · exact Or.inl hq
  · obtain ⟨g1, A, B, hA, hB, hF⟩ := cmT (w := 215) (a := (0, 0, [])) (by omega) hK k0 hba k1 y16 htr (by omega) hu (fun _ _ z => z.elim) (fun A B hA hB => ⟨cV_e (by first | decide | omega) rfl, cmF_g hA hB⟩) hq
    exact Or.inr ⟨by omega, g1⟩)
theorem amb_73_215 (h : rdC 215 kd ec ba gk gb es x l K T L G Y) (hKC : KC 87 97 93 114 115 74 73 HT cs ms os Y) (h72 : Y 72 1 = 73) (hl12 : l = 1 ∨ l = 2) (he51 : Y 51 x = wh) (hm : (0 ≤ wh ∧ wh < (ms.length : Int)) ∧ (hmR ms wh).2.1 = 1) (htr : cTrc Y tr) (hg : arG K ba ec ar) (hty : 1 ≤ (hmR ms wh).2.2.2.1 ∧ (hmR ms wh).2.2.2.1 ≤ 6) (hmf : Y 112 wh = -1) : wJ (pe_GA xs) wY0 (mS [217, 218, 152]) (d + 7) t_XL_act ((pe_at t_XL_act.bl 0).getD (0, [])).2 [(0, (2, 158)), (1, (0, x))] [] Y (fun o V => o = .inl none ∧ ((100000 < (tr.length : Int) + 2 ∧ w_up Y 215 16 99 = V) ∨ ((tr.length : Int) + 2 ≤ 100000 ∧ cmPt 215 K ba kd (anK (hmR ms wh).2.2.2.1, anB (hmR ms wh).2.2.2.1 (anS wh (aEs ar)), []) wh ec tr (fun _ _ => False) Y V))) := wJ_E (fun hE => by
  obtain ⟨⟨h, hW, hl, hT⟩, ⟨l4, l5, l7, l8, l9, l10, l12, l13⟩, y16, ⟨hx, e48⟩, hba⟩ := h
  have hP := xP_of (w := 215) (by omega) h
  rw [← w_up_eta y16] at hP
  obtain ⟨hTh, hCa, -, ⟨⟨m1, m2, m3, m4⟩, hl14, ⟨c0, c1⟩, hz16, hz10⟩, ⟨t1, t2, t3, t4⟩, -⟩ := id hW
  obtain ⟨hK, ⟨hC, hI⟩, ⟨k0, k1, -⟩, -⟩ := id h
  have hn4 := hKC.2.2.2.2.1.1
  have hw4 : wh < 400 := by have := hm.1.2; omega
  obtain ⟨⟨-, a1, a2, a3⟩, ⟨a4, -⟩, -⟩ := mrA hKC.2.2.2.2.1 hm.1
  replace a1 : Y 98 wh = 1 := a1.trans hm.2
  have hg1 := hg.1
  have hu := c_at hK (i := K.1.length - 1) (by omega) (j := (K.1.length : Int) - 1) (by omega)
  replace hu : cVl Y (Y 217 ((K.1.length : Int) - 1)) (Y 218 ((K.1.length : Int) - 1)) (K.1.getD (K.1.length - 1) (0, 0, [])) := hu
  have p3 : (K.1.length : Int) ≤ Y 217 (-1) := hK.1.2.2.1
  have p4 : Y 218 (-1) = Y 217 (-1) := hK.1.2.2.2.1
  have eS : anS wh (pEs Y 217 218 ((ba : Int) + 1) ar.length) = anS wh (aEs ar) := anS_cg _ _ _ (by rw [pEs_l]; unfold aEs; rw [List.length_map]) (fun i hi => by
    rw [pEs_l] at hi
    have z := ar_c (w := 215) hK hg hi
    rw [pEs_g hi]
    have e : (aEs ar).getD i (0, 0) = ((ar.getD i (0, 0, [])).1, (ar.getD i (0, 0, [])).2.1) := by
      unfold aEs
      rw [List.getD_eq_getElem?_getD, List.getElem?_map, List.getD_eq_getElem?_getD, List.getElem?_eq_getElem hi]
      rfl
    rw [e]
    exact ⟨z.1, fun c => (z.2.1 (by have := z.1; replace c : Y 217 ((ba : Int) + 1 + (i : Int)) = 2 := c; have zz : Y (215 + 2) ((ba : Int) + 1 + (i : Int)) = Y 217 ((ba : Int) + 1 + (i : Int)) := rfl; omega)).1⟩)
  refine acha_73_215 (d := d + 6) hC hI hl h72 hx e48 hl12 he51 ⟨hm.1.1, hw4⟩ a1 (by omega) (R := fun V => ((100000 < (tr.length : Int) + 2 ∧ w_up Y 215 16 99 = V) ∨ ((tr.length : Int) + 2 ≤ 100000 ∧ cmPt 215 K ba kd (anK (hmR ms wh).2.2.2.1, anB (hmR ms wh).2.2.2.1 (anS wh (aEs ar)), []) wh ec tr (fun _ _ => False) Y V))) (wJ_mono (cmn_73_215 (d := d) (c := (K.2.1.length : Int)) (p := (K.2.1.getD (K.2.1.length - 1) (0, 0, 0, (0, 0, []), 0, 0, 0)).2.1) (h := (K.1.length : Int)) (kd := kd) (ba := (ba : Int)) (m := wh) (en := ec) (tn := (tr.length : Int)) (ky := Y 217 ((K.1.length : Int) - 1)) (vy := Y 218 ((K.1.length : Int) - 1)) (es := (pEs Y 217 218 ((ba : Int) + 1) ar.length)) hP l4 l5 l7 l8 l12 ⟨by omega, by omega⟩ ⟨by omega, by omega⟩ h72 ⟨hm.1.1, hw4⟩ a1 htr.1 ⟨by omega, htr.2.2.1.1, htr.2.2.1.2⟩ (by have := htr.2.2.2; have := htr.2.2.1.2; omega) rfl rfl (br_E hE ⟨Or.inl (by first | decide | omega), by decide⟩ rfl (by omega) (by omega)) (lr_E hE ⟨Or.inl (by first | decide | omega), by decide⟩ rfl (by omega) (by omega)) a3 hmf hty (by rw [pEs_l]; exact hg.1.1.symm) (by omega) (fun i hi => by rw [pEs_l] at hi; rw [pEs_g hi]; exact ⟨rfl, rfl⟩)) (fun o V hq => ?_))
  obtain ⟨rfl, hq⟩ := hq
  refine ⟨rfl, ?_⟩
  rcases hq with hq | ⟨q1, hq⟩
  · exact Or.inl hq
  · obtain ⟨g1, A, B, hA, hB, hF⟩ := cmT (w := 215) (a := (anK (hmR ms wh).2.2.2.1, anB (hmR ms wh).2.2.2.1 (anS wh (aEs ar)), [])) (by omega) hK k0 hba k1 y16 htr (by omega) hu (fun _ _ z => z.elim) (fun A B hA hB => ⟨by rw [eS]; exact cV_e (by unfold anK; split <;> decide) rfl, cmF_g hA hB⟩) hq
    exact Or.inr ⟨by omega, g1⟩)
theorem amg_73_215 {fl : Int} (h : rdC 215 kd ec ba gk gb es x l K T L G Y) (hKC : KC 87 97 93 114 115 74 73 HT cs ms os Y) (h72 : Y 72 1 = 73) (hl12 : l = 1 ∨ l = 2) (he51 : Y 51 x = wh) (hm : (0 ≤ wh ∧ wh < (ms.length : Int)) ∧ (hmR ms wh).2.1 = 1) (htr : cTrc Y tr) (hg : arG K ba ec ar) (hmf : Y 112 wh = fl) (hsf : isSf ms fl) (hst : cStc 97 117 ms SF Y) (hpc : (hmR ms wh).2.2.2.2.1.length = 0) : wJ (pe_GA xs) wY0 (mS [217, 218, 152]) (d + 7) t_XL_act ((pe_at t_XL_act.bl 0).getD (0, [])).2 [(0, (2, 158)), (1, (0, x))] [] Y (fun o V => o = .inl none ∧ ((100000 < (tr.length : Int) + 2 ∧ w_up Y 215 16 99 = V) ∨ ((tr.length : Int) + 2 ≤ 100000 ∧ cmPt 215 K ba kd (SF fl) wh ec tr (fun _ _ => False) Y V))) := wJ_E (fun hE => by
  obtain ⟨⟨h, hW, hl, hT⟩, ⟨l4, l5, l7, l8, l9, l10, l12, l13⟩, y16, ⟨hx, e48⟩, hba⟩ := h
  have hP := xP_of (w := 215) (by omega) h
  rw [← w_up_eta y16] at hP
  obtain ⟨hTh, hCa, -, ⟨⟨m1, m2, m3, m4⟩, hl14, ⟨c0, c1⟩, hz16, hz10⟩, ⟨t1, t2, t3, t4⟩, -⟩ := id hW
  obtain ⟨hK, ⟨hC, hI⟩, ⟨k0, k1, -⟩, -⟩ := id h
  have hn4 := hKC.2.2.2.2.1.1
  have hw4 : wh < 400 := by have := hm.1.2; omega
  obtain ⟨⟨-, a1, a2, a3⟩, ⟨a4, -⟩, -⟩ := mrA hKC.2.2.2.2.1 hm.1
  replace a1 : Y 98 wh = 1 := a1.trans hm.2
  have hg1 := hg.1
  have hu := c_at hK (i := K.1.length - 1) (by omega) (j := (K.1.length : Int) - 1) (by omega)
  replace hu : cVl Y (Y 217 ((K.1.length : Int) - 1)) (Y 218 ((K.1.length : Int) - 1)) (K.1.getD (K.1.length - 1) (0, 0, [])) := hu
  have p3 : (K.1.length : Int) ≤ Y 217 (-1) := hK.1.2.2.1
  have p4 : Y 218 (-1) = Y 217 (-1) := hK.1.2.2.2.1
  obtain ⟨⟨-, b1, b2, -⟩, -⟩ := mrA hKC.2.2.2.2.1 hsf.1
  replace b2 : Y 99 fl = _ := b2.trans hsf.2.2
  have hf4 : fl < 400 := by have := hsf.1.2; omega
  have hst0 := hst
  obtain ⟨⟨s1, s2⟩, s3, -⟩ := hst
  obtain ⟨s4, s5⟩ := s3 fl hsf
  replace s1 : Y 118 (-1) = Y 117 (-1) := s1
  replace s4 : 0 ≤ Y 112 fl ∧ Y 112 fl < Y 117 (-1) := s4
  refine acha_73_215 (d := d + 6) hC hI hl h72 hx e48 hl12 he51 ⟨hm.1.1, hw4⟩ a1 (by omega) (R := fun V => ((100000 < (tr.length : Int) + 2 ∧ w_up Y 215 16 99 = V) ∨ ((tr.length : Int) + 2 ≤ 100000 ∧ cmPt 215 K ba kd (SF fl) wh ec tr (fun _ _ => False) Y V))) (wJ_mono (cmg1_73_215 (d := d) (c := (K.2.1.length : Int)) (p := (K.2.1.getD (K.2.1.length - 1) (0, 0, 0, (0, 0, []), 0, 0, 0)).2.1) (h := (K.1.length : Int)) (kd := kd) (ba := (ba : Int)) (m := wh) (en := ec) (tn := (tr.length : Int)) (ky := Y 217 ((K.1.length : Int) - 1)) (vy := Y 218 ((K.1.length : Int) - 1)) (fl := fl) (fi := Y 112 fl) hP l4 l5 l7 l8 l12 ⟨by omega, by omega⟩ ⟨by omega, by omega⟩ h72 ⟨hm.1.1, hw4⟩ a1 htr.1 ⟨by omega, htr.2.2.1.1, htr.2.2.1.2⟩ (by have := htr.2.2.2; have := htr.2.2.1.2; omega) rfl rfl (br_E hE ⟨Or.inl (by first | decide | omega), by decide⟩ rfl (by omega) (by omega)) (lr_E hE ⟨Or.inl (by first | decide | omega), by decide⟩ rfl (by omega) (by omega)) hmf ⟨hsf.1.1, hf4⟩ b2 rfl l10 a3 (by rw [a4, hpc]; rfl) s1 ⟨s4.1, s4.2, s2⟩ rfl rfl (br_E hE ⟨Or.inl (by first | decide | omega), by decide⟩ rfl (by omega) (by omega)) (lr_E hE ⟨Or.inl (by first | decide | omega), by decide⟩ rfl (by omega) (by omega))) (fun o V hq => ?_))
  obtain ⟨rfl, hq⟩ := hq
  refine ⟨rfl, ?_⟩
  rcases hq with hq | ⟨q1, hq⟩
  · exact Or.inl hq
  · obtain ⟨g1, A, B, hA, hB, hF⟩ := cmT (w := 215) (a := SF fl) (by omega) hK k0 hba k1 y16 htr (by omega) hu (fun _ _ z => z.elim) (fun A B hA hB => ⟨cVl_mo s5 (cmF_g hA hB).1, cmF_g hA hB⟩) hq
    exact Or.inr ⟨by omega, g1⟩)
theorem ams_73_215 {fl : Int} (h : rdC 215 kd ec ba gk gb es x l K T L G Y) (hKC : KC 87 97 93 114 115 74 73 HT cs ms os Y) (h72 : Y 72 1 = 73) (hl12 : l = 1 ∨ l = 2) (he51 : Y 51 x = wh) (hm : (0 ≤ wh ∧ wh < (ms.length : Int)) ∧ (hmR ms wh).2.1 = 1) (htr : cTrc Y tr) (hg : arG K ba ec ar) (hmf : Y 112 wh = fl) (hsf : isSf ms fl) (hst : cStc 97 117 ms SF Y) (hpc : (hmR ms wh).2.2.2.2.1.length = 1) (hec : ec = 1) : wJ (pe_GA xs) wY0 (mS [217, 218, 152]) (d + 7) t_XL_act ((pe_at t_XL_act.bl 0).getD (0, [])).2 [(0, (2, 158)), (1, (0, x))] [] Y (fun o V => o = .inl none ∧ ((100000 < (tr.length : Int) + 2 ∧ w_up Y 215 16 99 = V) ∨ ((tr.length : Int) + 2 ≤ 100000 ∧ cmPt 215 K ba kd (0, 0, []) wh ec tr (cMf 117) Y V ∧ cStc 97 117 ms (sfU SF fl (K.1.getD (ba + 1) (0, 0, []))) V))) := wJ_E (fun hE => by
  obtain ⟨⟨h, hW, hl, hT⟩, ⟨l4, l5, l7, l8, l9, l10, l12, l13⟩, y16, ⟨hx, e48⟩, hba⟩ := h
  have hP := xP_of (w := 215) (by omega) h
  rw [← w_up_eta y16] at hP
  obtain ⟨hTh, hCa, -, ⟨⟨m1, m2, m3, m4⟩, hl14, ⟨c0, c1⟩, hz16, hz10⟩, ⟨t1, t2, t3, t4⟩, -⟩ := id hW
  obtain ⟨hK, ⟨hC, hI⟩, ⟨k0, k1, -⟩, -⟩ := id h
  have hn4 := hKC.2.2.2.2.1.1
  have hw4 : wh < 400 := by have := hm.1.2; omega
  obtain ⟨⟨-, a1, a2, a3⟩, ⟨a4, -⟩, -⟩ := mrA hKC.2.2.2.2.1 hm.1
  replace a1 : Y 98 wh = 1 := a1.trans hm.2
  have hg1 := hg.1
  have hu := c_at hK (i := K.1.length - 1) (by omega) (j := (K.1.length : Int) - 1) (by omega)
  replace hu : cVl Y (Y 217 ((K.1.length : Int) - 1)) (Y 218 ((K.1.length : Int) - 1)) (K.1.getD (K.1.length - 1) (0, 0, [])) := hu
  have p3 : (K.1.length : Int) ≤ Y 217 (-1) := hK.1.2.2.1
  have p4 : Y 218 (-1) = Y 217 (-1) := hK.1.2.2.2.1
  obtain ⟨⟨-, b1, b2, -⟩, -⟩ := mrA hKC.2.2.2.2.1 hsf.1
  replace b2 : Y 99 fl = _ := b2.trans hsf.2.2
  have hf4 : fl < 400 := by have := hsf.1.2; omega
  have hst0 := hst
  obtain ⟨⟨s1, s2⟩, s3, -⟩ := hst
  obtain ⟨s4, s5⟩ := s3 fl hsf
  replace s1 : Y 118 (-1) = Y 117 (-1) := s1
  replace s4 : 0 ≤ Y 112 fl ∧ Y 112 fl < Y 117 (-1) := s4
  have hb1 : ba + 1 < K.1.length := by omega
  have hu1 := c_at hK (i := ba + 1) hb1 (j := (ba : Int) + 1) (by omega)
  replace hu1 : cVl Y (Y 217 ((ba : Int) + 1)) (Y 218 ((ba : Int) + 1)) (K.1.getD (ba + 1) (0, 0, [])) := hu1
  refine acha_73_215 (d := d + 6) hC hI hl h72 hx e48 hl12 he51 ⟨hm.1.1, hw4⟩ a1 (by omega) (R := fun V => ((100000 < (tr.length : Int) + 2 ∧ w_up Y 215 16 99 = V) ∨ ((tr.length : Int) + 2 ≤ 100000 ∧ cmPt 215 K ba kd (0, 0, []) wh ec tr (cMf 117) Y V ∧ cStc 97 117 ms (sfU SF fl (K.1.getD (ba + 1) (0, 0, []))) V))) (wJ_mono (cms1_73_215 (d := d) (c := (K.2.1.length : Int)) (p := (K.2.1.getD (K.2.1.length - 1) (0, 0, 0, (0, 0, []), 0, 0, 0)).2.1) (h := (K.1.length : Int)) (kd := kd) (ba := (ba : Int)) (m := wh) (en := ec) (tn := (tr.length : Int)) (ky := Y 217 ((K.1.length : Int) - 1)) (vy := Y 218 ((K.1.length : Int) - 1)) (fl := fl) (fi := Y 112 fl) hP l4 l5 l7 l8 l12 ⟨by omega, by omega⟩ ⟨by omega, by omega⟩ h72 ⟨hm.1.1, hw4⟩ a1 htr.1 ⟨by omega, htr.2.2.1.1, htr.2.2.1.2⟩ (by have := htr.2.2.2; have := htr.2.2.1.2; omega) rfl rfl (br_E hE ⟨Or.inl (by first | decide | omega), by decide⟩ rfl (by omega) (by omega)) (lr_E hE ⟨Or.inl (by first | decide | omega), by decide⟩ rfl (by omega) (by omega)) hmf ⟨hsf.1.1, hf4⟩ b2 rfl l10 a3 (by rw [a4, hpc]; rfl) s1 ⟨s4.1, s4.2, s2⟩ (by omega) rfl rfl) (fun o V hq => ?_))
  obtain ⟨rfl, hq⟩ := hq
  refine ⟨rfl, ?_⟩
  rcases hq with hq | ⟨q1, hq⟩
  · exact Or.inl hq
  · obtain ⟨g1, A, B, hA, hB, hF⟩ := cmT (w := 215) (a := (0, 0, [])) (mk := cMf 117) (by omega) hK k0 hba k1 y16 htr (by omega) hu (fun j x z => by unfold cMf at z; omega) (fun A B hA hB => ⟨cV_e (by first | decide | omega) rfl, cmF_s hA s4.1 (by first | decide | omega) (by first | decide | omega) hB⟩) hq
    have eA : ∀ (j : Nat) (x : Int), j < 4000000 → j ≠ wG → j ≠ 152 → (j ≠ 72 ∨ x ≠ 15) → A j x = Y j x := hA.2.2.2.1
    have xA : cTx Y A := cTx_of (eA 2 1 (by first | decide | omega) (by first | decide | omega) (by first | decide | omega) (by first | decide | omega)) (fun i => eA 3 i (by first | decide | omega) (by first | decide | omega) (by first | decide | omega) (by omega))
    have hsA : cStc 97 117 ms SF A := cStc_ag hst0 xA (fun j i hj => eA j i (by omega) (by unfold wG; omega) (by omega) (by omega))
    have e15 : A 112 fl = Y 112 fl := eA 112 fl (by first | decide | omega) (by first | decide | omega) (by first | decide | omega) (by omega)
    have hsW := cStc_w (m0 := 97) (r1 := 117) (k := Y 217 ((ba : Int) + 1)) (v := Y 218 ((ba : Int) + 1)) hsA hsf (by first | decide | omega) (cVl_mo hu1 xA)
    rw [show (97 + 15 : Nat) = 112 from rfl, e15] at hsW
    have hsB := cStc_ag (Z := B) hsW (cTx_of (hB 2 1 (Or.inl (by first | decide | omega))) (fun i => hB 3 i (Or.inl (by first | decide | omega)))) (fun j i hj => hB j i (Or.inl (by omega)))
    exact Or.inr ⟨by omega, g1, cStc_ag hsB (cTx_of (hF.1 2 1 (by first | decide | omega) (by first | decide | omega) (by first | decide | omega)) (fun i => hF.1 3 i (by first | decide | omega) (by first | decide | omega) (by first | decide | omega))) (fun j i hj => hF.1 j i (by omega) (by unfold wG; omega) (by omega))⟩)
theorem ami_73_215 {fl fi : Int} (h : rdC 215 kd ec ba gk gb es x l K T L G Y) (hKC : KC 87 97 93 114 115 74 73 HT cs ms os Y) (h72 : Y 72 1 = 73) (hl12 : l = 1 ∨ l = 2) (he51 : Y 51 x = wh) (hm : (0 ≤ wh ∧ wh < (ms.length : Int)) ∧ (hmR ms wh).2.1 = 1) (htr : cTrc Y tr) (hg : arG K ba ec ar) (hmf : Y 112 wh = fl) (hsf : isIf ms fl) (hfi : Y 112 fl = fi) (hgb : 0 ≤ gb ∧ gb < (T.length : Int)) (hfr : 0 ≤ fi ∧ fi < ((tO T gb).2.2.2.2.2.2.length : Int) ∧ fi ≤ 1000) (hpc : (hmR ms wh).2.2.2.2.1.length = 0) : wJ (pe_GA xs) wY0 (mS [217, 218, 152]) (d + 7) t_XL_act ((pe_at t_XL_act.bl 0).getD (0, [])).2 [(0, (2, 158)), (1, (0, x))] [] Y (fun o V => o = .inl none ∧ ((100000 < (tr.length : Int) + 2 ∧ w_up Y 215 16 99 = V) ∨ ((tr.length : Int) + 2 ≤ 100000 ∧ cmPt 215 K ba kd (gvA T gb fi) wh ec tr (fun _ _ => False) Y V))) := wJ_E (fun hE => by
  obtain ⟨⟨h, hW, hl, hT⟩, ⟨l4, l5, l7, l8, l9, l10, l12, l13⟩, y16, ⟨hx, e48⟩, hba⟩ := h
  have hP := xP_of (w := 215) (by omega) h
  rw [← w_up_eta y16] at hP
  obtain ⟨hTh, hCa, -, ⟨⟨m1, m2, m3, m4⟩, hl14, ⟨c0, c1⟩, hz16, hz10⟩, ⟨t1, t2, t3, t4⟩, -⟩ := id hW
  obtain ⟨hK, ⟨hC, hI⟩, ⟨k0, k1, -⟩, -⟩ := id h
  have hn4 := hKC.2.2.2.2.1.1
  have hw4 : wh < 400 := by have := hm.1.2; omega
  obtain ⟨⟨-, a1, a2, a3⟩, ⟨a4, -⟩, -⟩ := mrA hKC.2.2.2.2.1 hm.1
  replace a1 : Y 98 wh = 1 := a1.trans hm.2
  have hg1 := hg.1
  have hu := c_at hK (i := K.1.length - 1) (by omega) (j := (K.1.length : Int) - 1) (by omega)
  replace hu : cVl Y (Y 217 ((K.1.length : Int) - 1)) (Y 218 ((K.1.length : Int) - 1)) (K.1.getD (K.1.length - 1) (0, 0, [])) := hu
  have p3 : (K.1.length : Int) ≤ Y 217 (-1) := hK.1.2.2.1
  have p4 : Y 218 (-1) = Y 217 (-1) := hK.1.2.2.2.1
  obtain ⟨⟨-, b1, b2, -⟩, -⟩ := mrA hKC.2.2.2.2.1 hsf.1
  replace b2 : Y 99 fl = _ := b2.trans hsf.2.2
  have hf4 : fl < 400 := by have := hsf.1.2; omega
  obtain ⟨⟨z1, z2⟩, z3⟩ := cell_v (hd := gb) (wh := fi) hW hgb ⟨hfr.1, hfr.2.1⟩
  refine acha_73_215 (d := d + 6) hC hI hl h72 hx e48 hl12 he51 ⟨hm.1.1, hw4⟩ a1 (by omega) (R := fun V => ((100000 < (tr.length : Int) + 2 ∧ w_up Y 215 16 99 = V) ∨ ((tr.length : Int) + 2 ≤ 100000 ∧ cmPt 215 K ba kd (gvA T gb fi) wh ec tr (fun _ _ => False) Y V))) (wJ_mono (cmg0_73_215 (d := d) (c := (K.2.1.length : Int)) (p := (K.2.1.getD (K.2.1.length - 1) (0, 0, 0, (0, 0, []), 0, 0, 0)).2.1) (h := (K.1.length : Int)) (kd := kd) (ba := (ba : Int)) (m := wh) (en := ec) (tn := (tr.length : Int)) (ky := Y 217 ((K.1.length : Int) - 1)) (vy := Y 218 ((K.1.length : Int) - 1)) (fl := fl) (fi := fi) (st := Y 133 gb) hP l4 l5 l7 l8 l12 ⟨by omega, by omega⟩ ⟨by omega, by omega⟩ h72 ⟨hm.1.1, hw4⟩ a1 htr.1 ⟨by omega, htr.2.2.1.1, htr.2.2.1.2⟩ (by have := htr.2.2.2; have := htr.2.2.1.2; omega) rfl rfl (br_E hE ⟨Or.inl (by first | decide | omega), by decide⟩ rfl (by omega) (by omega)) (lr_E hE ⟨Or.inl (by first | decide | omega), by decide⟩ rfl (by omega) (by omega)) hmf ⟨hsf.1.1, hf4⟩ b2 hfi l10 a3 (by rw [a4, hpc]; rfl) t1 t4 hl14 ⟨hz16, hz10⟩ ⟨hgb.1, by omega⟩ rfl ⟨z1, hfr.1, hfr.2.2, by omega⟩ rfl rfl (br_E hE ⟨Or.inl (by first | decide | omega), by decide⟩ rfl (by omega) (by omega)) (lr_E hE ⟨Or.inl (by first | decide | omega), by decide⟩ rfl (by omega) (by omega))) (fun o V hq => ?_))
  obtain ⟨rfl, hq⟩ := hq
  refine ⟨rfl, ?_⟩
  rcases hq with hq | ⟨q1, hq⟩
  · exact Or.inl hq
  · obtain ⟨g1, A, B, hA, hB, hF⟩ := cmT (w := 215) (a := gvA T gb fi) (by omega) hK k0 hba k1 y16 htr (by omega) hu (fun _ _ z => z.elim) (fun A B hA hB => ⟨cVl_mo z3 (cmF_g hA hB).1, cmF_g hA hB⟩) hq
    exact Or.inr ⟨by omega, g1⟩)
theorem amj_73_215 {fl fi : Int} (h : rdC 215 kd ec ba gk gb es x l K T L G Y) (hKC : KC 87 97 93 114 115 74 73 HT cs ms os Y) (h72 : Y 72 1 = 73) (hl12 : l = 1 ∨ l = 2) (he51 : Y 51 x = wh) (hm : (0 ≤ wh ∧ wh < (ms.length : Int)) ∧ (hmR ms wh).2.1 = 1) (htr : cTrc Y tr) (hg : arG K ba ec ar) (hmf : Y 112 wh = fl) (hsf : isIf ms fl) (hfi : Y 112 fl = fi) (hgb : 0 ≤ gb ∧ gb < (T.length : Int)) (hfr : 0 ≤ fi ∧ fi < ((tO T gb).2.2.2.2.2.2.length : Int) ∧ fi ≤ 1000) (hpc : (hmR ms wh).2.2.2.2.1.length = 1) (hec : ec = 1) : wJ (pe_GA xs) wY0 (mS [217, 218, 152]) (d + 7) t_XL_act ((pe_at t_XL_act.bl 0).getD (0, [])).2 [(0, (2, 158)), (1, (0, x))] [] Y (fun o V => o = .inl none ∧ ((100000 < (tr.length : Int) + 2 ∧ w_up Y 215 16 99 = V) ∨ ((tr.length : Int) + 2 ≤ 100000 ∧ cmPt 215 K ba kd (0, 0, []) wh ec tr cMv Y V ∧ cWd V (tSp T gb fi.toNat (K.1.getD (ba + 1) (0, 0, []))) L G))) := wJ_E (fun hE => by
  obtain ⟨⟨h, hW, hl, hT⟩, ⟨l4, l5, l7, l8, l9, l10, l12, l13⟩, y16, ⟨hx, e48⟩, hba⟩ := h
  have hP := xP_of (w := 215) (by omega) h
  rw [← w_up_eta y16] at hP
  obtain ⟨hTh, hCa, -, ⟨⟨m1, m2, m3, m4⟩, hl14, ⟨c0, c1⟩, hz16, hz10⟩, ⟨t1, t2, t3, t4⟩, -⟩ := id hW
  obtain ⟨hK, ⟨hC, hI⟩, ⟨k0, k1, -⟩, -⟩ := id h
  have hn4 := hKC.2.2.2.2.1.1
  have hw4 : wh < 400 := by have := hm.1.2; omega
  obtain ⟨⟨-, a1, a2, a3⟩, ⟨a4, -⟩, -⟩ := mrA hKC.2.2.2.2.1 hm.1
  replace a1 : Y 98 wh = 1 := a1.trans hm.2
  have hg1 := hg.1
  have hu := c_at hK (i := K.1.length - 1) (by omega) (j := (K.1.length : Int) - 1) (by omega)
  replace hu : cVl Y (Y 217 ((K.1.length : Int) - 1)) (Y 218 ((K.1.length : Int) - 1)) (K.1.getD (K.1.length - 1) (0, 0, [])) := hu
  have p3 : (K.1.length : Int) ≤ Y 217 (-1) := hK.1.2.2.1
  have p4 : Y 218 (-1) = Y 217 (-1) := hK.1.2.2.2.1
  obtain ⟨⟨-, b1, b2, -⟩, -⟩ := mrA hKC.2.2.2.2.1 hsf.1
  replace b2 : Y 99 fl = _ := b2.trans hsf.2.2
  have hf4 : fl < 400 := by have := hsf.1.2; omega
  obtain ⟨⟨z1, z2⟩, z3⟩ := cell_v (hd := gb) (wh := fi) hW hgb ⟨hfr.1, hfr.2.1⟩
  have hb1 : ba + 1 < K.1.length := by omega
  have hu1 := c_at hK (i := ba + 1) hb1 (j := (ba : Int) + 1) (by omega)
  replace hu1 : cVl Y (Y 217 ((ba : Int) + 1)) (Y 218 ((ba : Int) + 1)) (K.1.getD (ba + 1) (0, 0, [])) := hu1
  refine acha_73_215 (d := d + 6) hC hI hl h72 hx e48 hl12 he51 ⟨hm.1.1, hw4⟩ a1 (by omega) (R := fun V => ((100000 < (tr.length : Int) + 2 ∧ w_up Y 215 16 99 = V) ∨ ((tr.length : Int) + 2 ≤ 100000 ∧ cmPt 215 K ba kd (0, 0, []) wh ec tr cMv Y V ∧ cWd V (tSp T gb fi.toNat (K.1.getD (ba + 1) (0, 0, []))) L G))) (wJ_mono (cms0_73_215 (d := d) (c := (K.2.1.length : Int)) (p := (K.2.1.getD (K.2.1.length - 1) (0, 0, 0, (0, 0, []), 0, 0, 0)).2.1) (h := (K.1.length : Int)) (kd := kd) (ba := (ba : Int)) (m := wh) (en := ec) (tn := (tr.length : Int)) (ky := Y 217 ((K.1.length : Int) - 1)) (vy := Y 218 ((K.1.length : Int) - 1)) (fl := fl) (fi := fi) (st := Y 133 gb) hP l4 l5 l7 l8 l12 ⟨by omega, by omega⟩ ⟨by omega, by omega⟩ h72 ⟨hm.1.1, hw4⟩ a1 htr.1 ⟨by omega, htr.2.2.1.1, htr.2.2.1.2⟩ (by have := htr.2.2.2; have := htr.2.2.1.2; omega) rfl rfl (br_E hE ⟨Or.inl (by first | decide | omega), by decide⟩ rfl (by omega) (by omega)) (lr_E hE ⟨Or.inl (by first | decide | omega), by decide⟩ rfl (by omega) (by omega)) hmf ⟨hsf.1.1, hf4⟩ b2 hfi l10 a3 (by rw [a4, hpc]; rfl) t1 t4 hl14 ⟨hz16, hz10⟩ ⟨hgb.1, by omega⟩ rfl ⟨z1, hfr.1, hfr.2.2, by omega⟩ (by omega) rfl rfl) (fun o V hq => ?_))
  obtain ⟨rfl, hq⟩ := hq
  refine ⟨rfl, ?_⟩
  rcases hq with hq | ⟨q1, hq⟩
  · exact Or.inl hq
  · obtain ⟨g1, A, B, hA, hB, hF⟩ := cmT (w := 215) (a := (0, 0, [])) (mk := cMv) (by omega) hK k0 hba k1 y16 htr (by omega) hu (fun j x z => by unfold cMv at z; omega) (fun A B hA hB => ⟨cV_e (by first | decide | omega) rfl, cmF_s hA (by omega) (by first | decide | omega) (by first | decide | omega) hB⟩) hq
    have eA : ∀ (j : Nat) (x : Int), j < 4000000 → j ≠ wG → j ≠ 152 → (j ≠ 72 ∨ x ≠ 15) → A j x = Y j x := hA.2.2.2.1
    have xA : cTx Y A := cTx_of (eA 2 1 (by first | decide | omega) (by first | decide | omega) (by first | decide | omega) (by first | decide | omega)) (fun i => eA 3 i (by first | decide | omega) (by first | decide | omega) (by first | decide | omega) (by omega))
    have hWA : cWd A T L G := cWd_ag hW xA (fun j i hj => by unfold cWo at hj; exact eA j i (by omega) (by unfold wG; omega) (by omega) (by omega))
    have e13 : A 133 gb = Y 133 gb := eA 133 gb (by first | decide | omega) (by first | decide | omega) (by first | decide | omega) (by omega)
    have ew : ((fi.toNat : Nat) : Int) = fi := by omega
    have hWB := cWd_sp (k := gb) (i := fi.toNat) hWA hgb.1 hgb.2 (by omega) (cVl_mo hu1 xA)
    rw [ew, e13] at hWB
    have hWC := cWd_ag (Z := B) hWB (cTx_of (hB 2 1 (Or.inl (by first | decide | omega))) (fun i => hB 3 i (Or.inl (by first | decide | omega)))) (fun j i hj => hB j i (by unfold cWo at hj; omega))
    exact Or.inr ⟨by omega, g1, cWd_fr (w := 215) (by omega) hWC hF⟩)
theorem amt_73_215 (h : rdC 215 kd ec ba gk gb es x l K T L G Y) (hKC : KC 87 97 93 114 115 74 73 HT cs ms os Y) (h72 : Y 72 1 = 73) (hl12 : l = 1 ∨ l = 2) (he51 : Y 51 x = wh) (hm : (0 ≤ wh ∧ wh < (ms.length : Int)) ∧ (hmR ms wh).2.1 = 1) (htr : cTrc Y tr) (hg : arG K ba ec ar) (hwH : wHo cs ms os) (hty : 8 ≤ (hmR ms wh).2.2.2.1 ∧ (hmR ms wh).2.2.2.1 < 9 + (cs.length : Int)) (hmf : Y 112 wh = -1) (hsb : (hmR ms wh).2.2.1 = 0 ∨ (hmR ms wh).2.2.1 = 1) (hgv : cVl Y gk gb (K.1.getD ba (0, 0, []))) (hgr : -9223372036854775808 ≤ gb ∧ gb ≤ 9223372036854775807) (hrv : vOk T (K.1.getD ba (0, 0, [])) ∧ ((K.1.getD ba (0, 0, [])).1 = 7 → (tO T (K.1.getD ba (0, 0, [])).2.1).2.2.1 < (cs.length : Int))) (hav : ∀ u ∈ ar, vOk T u ∧ (u.1 = 7 → (tO T u.2.1).2.2.1 < (cs.length : Int))) : wJ (pe_GA xs) wY0 (mS [217, 218, 152]) (d + 7) t_XL_act ((pe_at t_XL_act.bl 0).getD (0, [])).2 [(0, (2, 158)), (1, (0, x))] [] Y (fun o V => o = .inl none ∧ ((100000 < (tr.length : Int) + 2 ∧ w_up Y 215 16 99 = V) ∨ ((tr.length : Int) + 2 ≤ 100000 ∧ cmPt 215 K ba kd (anV cs T (hmR ms wh).2.2.1 (hmR ms wh).2.2.2.1 (K.1.getD ba (0, 0, [])) ar) wh ec tr (fun _ _ => False) Y V))) := wJ_E (fun hE => by
  obtain ⟨⟨h, hW, hl, hT⟩, ⟨l4, l5, l7, l8, l9, l10, l12, l13⟩, y16, ⟨hx, e48⟩, hba⟩ := h
  have hP := xP_of (w := 215) (by omega) h
  rw [← w_up_eta y16] at hP
  obtain ⟨hTh, hCa, -, ⟨⟨m1, m2, m3, m4⟩, hl14, ⟨c0, c1⟩, hz16, hz10⟩, ⟨t1, t2, t3, t4⟩, -⟩ := id hW
  obtain ⟨hK, ⟨hC, hI⟩, ⟨k0, k1, -⟩, -⟩ := id h
  have hn4 := hKC.2.2.2.2.1.1
  have hw4 : wh < 400 := by have := hm.1.2; omega
  obtain ⟨⟨-, a1, a2, a3⟩, ⟨a4, -⟩, -⟩ := mrA hKC.2.2.2.2.1 hm.1
  replace a1 : Y 98 wh = 1 := a1.trans hm.2
  have hg1 := hg.1
  have hu := c_at hK (i := K.1.length - 1) (by omega) (j := (K.1.length : Int) - 1) (by omega)
  replace hu : cVl Y (Y 217 ((K.1.length : Int) - 1)) (Y 218 ((K.1.length : Int) - 1)) (K.1.getD (K.1.length - 1) (0, 0, [])) := hu
  have p3 : (K.1.length : Int) ≤ Y 217 (-1) := hK.1.2.2.1
  have p4 : Y 218 (-1) = Y 217 (-1) := hK.1.2.2.2.1
  have hok : ∀ i : Nat, i < (pEs Y 217 218 ((ba : Int) + 1) ar.length).length → okV (cs.length : Int) T Y ((pEs Y 217 218 ((ba : Int) + 1) ar.length).getD i (0, 0)) := fun i hi => by
    rw [pEs_l] at hi
    rw [pEs_g hi]
    have z := ar_c (w := 215) hK hg hi
    replace z : cVl Y (Y 217 ((ba : Int) + 1 + (i : Int))) (Y 218 ((ba : Int) + 1 + (i : Int))) (ar.getD i (0, 0, [])) := z
    obtain ⟨o1, o2⟩ := hav _ (show ar.getD i (0, 0, []) ∈ ar by rw [List.getD_eq_getElem?_getD, List.getElem?_eq_getElem hi]; exact List.getElem_mem _)
    refine ⟨by show 0 ≤ Y 217 _ ∧ Y 217 _ ≤ 8; rw [z.1]; exact o1.1, lr_E hE ⟨Or.inl (by first | decide | omega), by decide⟩ rfl (by omega) (by omega), fun c => ?_⟩
    replace c : Y 217 ((ba : Int) + 1 + (i : Int)) = 7 := c
    have c7 : (ar.getD i (0, 0, [])).1 = 7 := z.1.symm.trans c
    have eb := (z.2.1 (by omega)).1
    obtain ⟨x1, x2⟩ := o1.2.1 (by omega) (by omega)
    show 0 ≤ Y 218 _ ∧ Y 218 _ < _ ∧ 0 ≤ Y 129 (Y 218 _) ∧ Y 129 (Y 218 _) < _
    rw [eb]
    obtain ⟨⟨-, -, y3, -⟩, -⟩ := hTh.2 (ar.getD i (0, 0, [])).2.1.toNat (by omega)
    rw [show (((ar.getD i (0, 0, [])).2.1.toNat : Nat) : Int) = (ar.getD i (0, 0, [])).2.1 by omega] at y3
    replace y3 : Y 129 (ar.getD i (0, 0, [])).2.1 = (tO T (ar.getD i (0, 0, [])).2.1).2.2.1 := y3
    rw [y3]
    exact ⟨x1.1, x1.2, (o1.2.2.2.1 c7).1, o2 c7⟩
  have isE : ∀ (k b : Int) (u : aV), cVl Y k b u → vOk T u → isB cs Y k b (hmR ms wh).2.2.2.1 = isA cs T (hmR ms wh).2.2.2.1 u := fun k b u z o => by
    unfold isB isA
    rw [z.1]
    by_cases c7 : u.1 = 7
    · have eb := (z.2.1 (by omega)).1
      obtain ⟨x1, x2⟩ := o.2.1 (by omega) (by omega)
      obtain ⟨⟨-, -, y3, -⟩, -⟩ := hTh.2 u.2.1.toNat (by omega)
      rw [show ((u.2.1.toNat : Nat) : Int) = u.2.1 by omega] at y3
      replace y3 : Y 129 u.2.1 = (tO T u.2.1).2.2.1 := y3
      rw [eb, y3]
    · rw [decide_eq_false c7, Bool.false_and, Bool.false_and]
  have hrc := c_at hK (i := ba) hba (j := (ba : Int)) rfl
  replace hrc : cVl Y (Y 217 (ba : Int)) (Y 218 (ba : Int)) (K.1.getD ba (0, 0, [])) := hrc
  have hval : cVl Y ((anX cs Y (hmR ms wh).2.2.1 gk gb (hmR ms wh).2.2.2.1 (pEs Y 217 218 ((ba : Int) + 1) ar.length)).getD (0, 0)).1 ((anX cs Y (hmR ms wh).2.2.1 gk gb (hmR ms wh).2.2.2.1 (pEs Y 217 218 ((ba : Int) + 1) ar.length)).getD (0, 0)).2 (anV cs T (hmR ms wh).2.2.1 (hmR ms wh).2.2.2.1 (K.1.getD ba (0, 0, [])) ar) := by
    unfold anX anV
    rw [isE gk gb _ hgv hrv.1]
    split
    · exact hgv
    · refine find_pEs ar ((ba : Int) + 1) (fun i hi => ?_)
      have z := ar_c (w := 215) hK hg hi
      replace z : cVl Y (Y 217 ((ba : Int) + 1 + (i : Int))) (Y 218 ((ba : Int) + 1 + (i : Int))) (ar.getD i (0, 0, [])) := z
      refine ⟨z, ?_⟩
      obtain ⟨o1, -⟩ := hav _ (show ar.getD i (0, 0, []) ∈ ar by rw [List.getD_eq_getElem?_getD, List.getElem?_eq_getElem hi]; exact List.getElem_mem _)
      show (decide (Y 217 _ ≠ 0) && isB cs Y (Y 217 _) (Y 218 _) _) = _
      rw [isE _ _ _ z o1, z.1]
  have hgo : okV (cs.length : Int) T Y (gk, gb) := by
    refine ⟨by show 0 ≤ gk ∧ gk ≤ 8; rw [hgv.1]; exact hrv.1.1, hgr, fun c => ?_⟩
    replace c : gk = 7 := c
    have c7 : (K.1.getD ba (0, 0, [])).1 = 7 := hgv.1.symm.trans c
    have eb := (hgv.2.1 (by omega)).1
    obtain ⟨x1, x2⟩ := hrv.1.2.1 (by omega) (by omega)
    show 0 ≤ gb ∧ gb < _ ∧ 0 ≤ Y 129 gb ∧ Y 129 gb < _
    rw [eb]
    obtain ⟨⟨-, -, y3, -⟩, -⟩ := hTh.2 (K.1.getD ba (0, 0, [])).2.1.toNat (by omega)
    rw [show (((K.1.getD ba (0, 0, [])).2.1.toNat : Nat) : Int) = (K.1.getD ba (0, 0, [])).2.1 by omega] at y3
    replace y3 : Y 129 (K.1.getD ba (0, 0, [])).2.1 = (tO T (K.1.getD ba (0, 0, [])).2.1).2.2.1 := y3
    rw [y3]
    exact ⟨x1.1, x1.2, (hrv.1.2.2.2.1 c7).1, hrv.2 c7⟩
  refine acha_73_215 (d := d + 6) hC hI hl h72 hx e48 hl12 he51 ⟨hm.1.1, hw4⟩ a1 (by omega) (R := fun V => ((100000 < (tr.length : Int) + 2 ∧ w_up Y 215 16 99 = V) ∨ ((tr.length : Int) + 2 ≤ 100000 ∧ cmPt 215 K ba kd (anV cs T (hmR ms wh).2.2.1 (hmR ms wh).2.2.2.1 (K.1.getD ba (0, 0, [])) ar) wh ec tr (fun _ _ => False) Y V))) (wJ_mono (cmt_73_215 (d := d) (c := (K.2.1.length : Int)) (p := (K.2.1.getD (K.2.1.length - 1) (0, 0, 0, (0, 0, []), 0, 0, 0)).2.1) (h := (K.1.length : Int)) (kd := kd) (ba := (ba : Int)) (m := wh) (en := ec) (tn := (tr.length : Int)) (ky := Y 217 ((K.1.length : Int) - 1)) (vy := Y 218 ((K.1.length : Int) - 1)) (Th := T) (es := (pEs Y 217 218 ((ba : Int) + 1) ar.length)) (ty := (hmR ms wh).2.2.2.1) (sb := (hmR ms wh).2.2.1) (gk := gk) (gb := gb) hP l4 l5 l7 l8 l12 ⟨by omega, by omega⟩ ⟨by omega, by omega⟩ h72 ⟨hm.1.1, hw4⟩ a1 htr.1 ⟨by omega, htr.2.2.1.1, htr.2.2.1.2⟩ (by have := htr.2.2.2; have := htr.2.2.1.2; omega) rfl rfl (br_E hE ⟨Or.inl (by first | decide | omega), by decide⟩ rfl (by omega) (by omega)) (lr_E hE ⟨Or.inl (by first | decide | omega), by decide⟩ rfl (by omega) (by omega)) hKC hwH ⟨t1, t2, t3, t4⟩ hT hty a3 hmf a2 hsb (by rw [pEs_l]; exact hg.1.1.symm) (by omega) (fun i hi => by rw [pEs_l] at hi; rw [pEs_g hi]; exact ⟨rfl, rfl⟩) hok l9 l10 hgo) (fun o V hq => ?_))
  obtain ⟨rfl, hq⟩ := hq
  refine ⟨rfl, ?_⟩
  rcases hq with hq | ⟨q1, hq⟩
  · exact Or.inl hq
  · obtain ⟨g1, A, B, hA, hB, hF⟩ := cmT (w := 215) (a := (anV cs T (hmR ms wh).2.2.1 (hmR ms wh).2.2.2.1 (K.1.getD ba (0, 0, [])) ar)) (by omega) hK k0 hba k1 y16 htr (by omega) hu (fun _ _ z => z.elim) (fun A B hA hB => ⟨cVl_mo hval (cmF_g hA hB).1, cmF_g hA hB⟩) hq
    exact Or.inr ⟨by omega, g1⟩)
theorem amv_73_226 (h : rdC 226 kd ec ba gk gb es x l K T L G Y) (hKC : KC 87 97 93 114 115 74 73 HT cs ms os Y) (h72 : Y 72 1 = 73) (hl12 : l = 1 ∨ l = 2) (he51 : Y 51 x = wh) (hm : (0 ≤ wh ∧ wh < (ms.length : Int)) ∧ (hmR ms wh).2.1 = 1) (htr : cTrc Y tr) (hg : arG K ba ec ar) (hty : (hmR ms wh).2.2.2.1 = 0) (hmf : Y 112 wh = -1) : wJ (pe_GA xs) wY0 (mS [228, 229, 152]) (d + 7) t_XL_act ((pe_at t_XL_act.bl 0).getD (0, [])).2 [(0, (2, 158)), (1, (0, x))] [] Y (fun o V => o = .inl none ∧ ((100000 < (tr.length : Int) + 2 ∧ w_up Y 226 16 99 = V) ∨ ((tr.length : Int) + 2 ≤ 100000 ∧ cmPt 226 K ba kd (0, 0, []) wh ec tr (fun _ _ => False) Y V))) := wJ_E (fun hE => by
  obtain ⟨⟨h, hW, hl, hT⟩, ⟨l4, l5, l7, l8, l9, l10, l12, l13⟩, y16, ⟨hx, e48⟩, hba⟩ := h
  have hP := xP_of (w := 226) (by omega) h
  rw [← w_up_eta y16] at hP
  obtain ⟨hTh, hCa, -, ⟨⟨m1, m2, m3, m4⟩, hl14, ⟨c0, c1⟩, hz16, hz10⟩, ⟨t1, t2, t3, t4⟩, -⟩ := id hW
  obtain ⟨hK, ⟨hC, hI⟩, ⟨k0, k1, -⟩, -⟩ := id h
  have hn4 := hKC.2.2.2.2.1.1
  have hw4 : wh < 400 := by have := hm.1.2; omega
  obtain ⟨⟨-, a1, a2, a3⟩, ⟨a4, -⟩, -⟩ := mrA hKC.2.2.2.2.1 hm.1
  replace a1 : Y 98 wh = 1 := a1.trans hm.2
  have hg1 := hg.1
  have hu := c_at hK (i := K.1.length - 1) (by omega) (j := (K.1.length : Int) - 1) (by omega)
  replace hu : cVl Y (Y 228 ((K.1.length : Int) - 1)) (Y 229 ((K.1.length : Int) - 1)) (K.1.getD (K.1.length - 1) (0, 0, [])) := hu
  have p3 : (K.1.length : Int) ≤ Y 228 (-1) := hK.1.2.2.1
  have p4 : Y 229 (-1) = Y 228 (-1) := hK.1.2.2.2.1
  refine acha_73_226 (d := d + 6) hC hI hl h72 hx e48 hl12 he51 ⟨hm.1.1, hw4⟩ a1 (by omega) (R := fun V => ((100000 < (tr.length : Int) + 2 ∧ w_up Y 226 16 99 = V) ∨ ((tr.length : Int) + 2 ≤ 100000 ∧ cmPt 226 K ba kd (0, 0, []) wh ec tr (fun _ _ => False) Y V))) (wJ_mono (cmv_73_226 (d := d) (c := (K.2.1.length : Int)) (p := (K.2.1.getD (K.2.1.length - 1) (0, 0, 0, (0, 0, []), 0, 0, 0)).2.1) (h := (K.1.length : Int)) (kd := kd) (ba := (ba : Int)) (m := wh) (en := ec) (tn := (tr.length : Int)) (ky := Y 228 ((K.1.length : Int) - 1)) (vy := Y 229 ((K.1.length : Int) - 1)) hP l4 l5 l7 l8 l12 ⟨by omega, by omega⟩ ⟨by omega, by omega⟩ h72 ⟨hm.1.1, hw4⟩ a1 htr.1 ⟨by omega, htr.2.2.1.1, htr.2.2.1.2⟩ (by have := htr.2.2.2; have := htr.2.2.1.2; omega) rfl rfl (br_E hE ⟨Or.inl (by first | decide | omega), by decide⟩ rfl (by omega) (by omega)) (lr_E hE ⟨Or.inl (by first | decide | omega), by decide⟩ rfl (by omega) (by omega)) (a3.trans hty) hmf) (fun o V hq => ?_))
  obtain ⟨rfl, hq⟩ := hq
  refine ⟨rfl, ?_⟩
  rcases hq with hq | ⟨q1, hq⟩
  · exact Or.inl hq
  · obtain ⟨g1, A, B, hA, hB, hF⟩ := cmT (w := 226) (a := (0, 0, [])) (by omega) hK k0 hba k1 y16 htr (by omega) hu (fun _ _ z => z.elim) (fun A B hA hB => ⟨cV_e (by first | decide | omega) rfl, cmF_g hA hB⟩) hq
    exact Or.inr ⟨by omega, g1⟩)
theorem amb_73_226 (h : rdC 226 kd ec ba gk gb es x l K T L G Y) (hKC : KC 87 97 93 114 115 74 73 HT cs ms os Y) (h72 : Y 72 1 = 73) (hl12 : l = 1 ∨ l = 2) (he51 : Y 51 x = wh) (hm : (0 ≤ wh ∧ wh < (ms.length : Int)) ∧ (hmR ms wh).2.1 = 1) (htr : cTrc Y tr) (hg : arG K ba ec ar) (hty : 1 ≤ (hmR ms wh).2.2.2.1 ∧ (hmR ms wh).2.2.2.1 ≤ 6) (hmf : Y 112 wh = -1) : wJ (pe_GA xs) wY0 (mS [228, 229, 152]) (d + 7) t_XL_act ((pe_at t_XL_act.bl 0).getD (0, [])).2 [(0, (2, 158)), (1, (0, x))] [] Y (fun o V => o = .inl none ∧ ((100000 < (tr.length : Int) + 2 ∧ w_up Y 226 16 99 = V) ∨ ((tr.length : Int) + 2 ≤ 100000 ∧ cmPt 226 K ba kd (anK (hmR ms wh).2.2.2.1, anB (hmR ms wh).2.2.2.1 (anS wh (aEs ar)), []) wh ec tr (fun _ _ => False) Y V))) := wJ_E (fun hE => by
  obtain ⟨⟨h, hW, hl, hT⟩, ⟨l4, l5, l7, l8, l9, l10, l12, l13⟩, y16, ⟨hx, e48⟩, hba⟩ := h
  have hP := xP_of (w := 226) (by omega) h
  rw [← w_up_eta y16] at hP
  obtain ⟨hTh, hCa, -, ⟨⟨m1, m2, m3, m4⟩, hl14, ⟨c0, c1⟩, hz16, hz10⟩, ⟨t1, t2, t3, t4⟩, -⟩ := id hW
  obtain ⟨hK, ⟨hC, hI⟩, ⟨k0, k1, -⟩, -⟩ := id h
  have hn4 := hKC.2.2.2.2.1.1
  have hw4 : wh < 400 := by have := hm.1.2; omega
  obtain ⟨⟨-, a1, a2, a3⟩, ⟨a4, -⟩, -⟩ := mrA hKC.2.2.2.2.1 hm.1
  replace a1 : Y 98 wh = 1 := a1.trans hm.2
  have hg1 := hg.1
  have hu := c_at hK (i := K.1.length - 1) (by omega) (j := (K.1.length : Int) - 1) (by omega)
  replace hu : cVl Y (Y 228 ((K.1.length : Int) - 1)) (Y 229 ((K.1.length : Int) - 1)) (K.1.getD (K.1.length - 1) (0, 0, [])) := hu
  have p3 : (K.1.length : Int) ≤ Y 228 (-1) := hK.1.2.2.1
  have p4 : Y 229 (-1) = Y 228 (-1) := hK.1.2.2.2.1
  have eS : anS wh (pEs Y 228 229 ((ba : Int) + 1) ar.length) = anS wh (aEs ar) := anS_cg _ _ _ (by rw [pEs_l]; unfold aEs; rw [List.length_map]) (fun i hi => by
    rw [pEs_l] at hi
    have z := ar_c (w := 226) hK hg hi
    rw [pEs_g hi]
    have e : (aEs ar).getD i (0, 0) = ((ar.getD i (0, 0, [])).1, (ar.getD i (0, 0, [])).2.1) := by
      unfold aEs
      rw [List.getD_eq_getElem?_getD, List.getElem?_map, List.getD_eq_getElem?_getD, List.getElem?_eq_getElem hi]
      rfl
    rw [e]
    exact ⟨z.1, fun c => (z.2.1 (by have := z.1; replace c : Y 228 ((ba : Int) + 1 + (i : Int)) = 2 := c; have zz : Y (226 + 2) ((ba : Int) + 1 + (i : Int)) = Y 228 ((ba : Int) + 1 + (i : Int)) := rfl; omega)).1⟩)
  refine acha_73_226 (d := d + 6) hC hI hl h72 hx e48 hl12 he51 ⟨hm.1.1, hw4⟩ a1 (by omega) (R := fun V => ((100000 < (tr.length : Int) + 2 ∧ w_up Y 226 16 99 = V) ∨ ((tr.length : Int) + 2 ≤ 100000 ∧ cmPt 226 K ba kd (anK (hmR ms wh).2.2.2.1, anB (hmR ms wh).2.2.2.1 (anS wh (aEs ar)), []) wh ec tr (fun _ _ => False) Y V))) (wJ_mono (cmn_73_226 (d := d) (c := (K.2.1.length : Int)) (p := (K.2.1.getD (K.2.1.length - 1) (0, 0, 0, (0, 0, []), 0, 0, 0)).2.1) (h := (K.1.length : Int)) (kd := kd) (ba := (ba : Int)) (m := wh) (en := ec) (tn := (tr.length : Int)) (ky := Y 228 ((K.1.length : Int) - 1)) (vy := Y 229 ((K.1.length : Int) - 1)) (es := (pEs Y 228 229 ((ba : Int) + 1) ar.length)) hP l4 l5 l7 l8 l12 ⟨by omega, by omega⟩ ⟨by omega, by omega⟩ h72 ⟨hm.1.1, hw4⟩ a1 htr.1 ⟨by omega, htr.2.2.1.1, htr.2.2.1.2⟩ (by have := htr.2.2.2; have := htr.2.2.1.2; omega) rfl rfl (br_E hE ⟨Or.inl (by first | decide | omega), by decide⟩ rfl (by omega) (by omega)) (lr_E hE ⟨Or.inl (by first | decide | omega), by decide⟩ rfl (by omega) (by omega)) a3 hmf hty (by rw [pEs_l]; exact hg.1.1.symm) (by omega) (fun i hi => by rw [pEs_l] at hi; rw [pEs_g hi]; exact ⟨rfl, rfl⟩)) (fun o V hq => ?_))
  obtain ⟨rfl, hq⟩ := hq
  refine ⟨rfl, ?_⟩
  rcases hq with hq | ⟨q1, hq⟩
  · exact Or.inl hq
  · obtain ⟨g1, A, B, hA, hB, hF⟩ := cmT (w := 226) (a := (anK (hmR ms wh).2.2.2.1, anB (hmR ms wh).2.2.2.1 (anS wh (aEs ar)), [])) (by omega) hK k0 hba k1 y16 htr (by omega) hu (fun _ _ z => z.elim) (fun A B hA hB => ⟨by rw [eS]; exact cV_e (by unfold anK; split <;> decide) rfl, cmF_g hA hB⟩) hq
    exact Or.inr ⟨by omega, g1⟩)
theorem amg_73_226 {fl : Int} (h : rdC 226 kd ec ba gk gb es x l K T L G Y) (hKC : KC 87 97 93 114 115 74 73 HT cs ms os Y) (h72 : Y 72 1 = 73) (hl12 : l = 1 ∨ l = 2) (he51 : Y 51 x = wh) (hm : (0 ≤ wh ∧ wh < (ms.length : Int)) ∧ (hmR ms wh).2.1 = 1) (htr : cTrc Y tr) (hg : arG K ba ec ar) (hmf : Y 112 wh = fl) (hsf : isSf ms fl) (hst : cStc 97 117 ms SF Y) (hpc : (hmR ms wh).2.2.2.2.1.length = 0) : wJ (pe_GA xs) wY0 (mS [228, 229, 152]) (d + 7) t_XL_act ((pe_at t_XL_act.bl 0).getD (0, [])).2 [(0, (2, 158)), (1, (0, x))] [] Y (fun o V => o = .inl none ∧ ((100000 < (tr.length : Int) + 2 ∧ w_up Y 226 16 99 = V) ∨ ((tr.length : Int) + 2 ≤ 100000 ∧ cmPt 226 K ba kd (SF fl) wh ec tr (fun _ _ => False) Y V))) := wJ_E (fun hE => by
  obtain ⟨⟨h, hW, hl, hT⟩, ⟨l4, l5, l7, l8, l9, l10, l12, l13⟩, y16, ⟨hx, e48⟩, hba⟩ := h
  have hP := xP_of (w := 226) (by omega) h
  rw [← w_up_eta y16] at hP
  obtain ⟨hTh, hCa, -, ⟨⟨m1, m2, m3, m4⟩, hl14, ⟨c0, c1⟩, hz16, hz10⟩, ⟨t1, t2, t3, t4⟩, -⟩ := id hW
  obtain ⟨hK, ⟨hC, hI⟩, ⟨k0, k1, -⟩, -⟩ := id h
  have hn4 := hKC.2.2.2.2.1.1
  have hw4 : wh < 400 := by have := hm.1.2; omega
  obtain ⟨⟨-, a1, a2, a3⟩, ⟨a4, -⟩, -⟩ := mrA hKC.2.2.2.2.1 hm.1
  replace a1 : Y 98 wh = 1 := a1.trans hm.2
  have hg1 := hg.1
  have hu := c_at hK (i := K.1.length - 1) (by omega) (j := (K.1.length : Int) - 1) (by omega)
  replace hu : cVl Y (Y 228 ((K.1.length : Int) - 1)) (Y 229 ((K.1.length : Int) - 1)) (K.1.getD (K.1.length - 1) (0, 0, [])) := hu
  have p3 : (K.1.length : Int) ≤ Y 228 (-1) := hK.1.2.2.1
  have p4 : Y 229 (-1) = Y 228 (-1) := hK.1.2.2.2.1
  obtain ⟨⟨-, b1, b2, -⟩, -⟩ := mrA hKC.2.2.2.2.1 hsf.1
  replace b2 : Y 99 fl = _ := b2.trans hsf.2.2
  have hf4 : fl < 400 := by have := hsf.1.2; omega
  have hst0 := hst
  obtain ⟨⟨s1, s2⟩, s3, -⟩ := hst
  obtain ⟨s4, s5⟩ := s3 fl hsf
  replace s1 : Y 118 (-1) = Y 117 (-1) := s1
  replace s4 : 0 ≤ Y 112 fl ∧ Y 112 fl < Y 117 (-1) := s4
  refine acha_73_226 (d := d + 6) hC hI hl h72 hx e48 hl12 he51 ⟨hm.1.1, hw4⟩ a1 (by omega) (R := fun V => ((100000 < (tr.length : Int) + 2 ∧ w_up Y 226 16 99 = V) ∨ ((tr.length : Int) + 2 ≤ 100000 ∧ cmPt 226 K ba kd (SF fl) wh ec tr (fun _ _ => False) Y V))) (wJ_mono (cmg1_73_226 (d := d) (c := (K.2.1.length : Int)) (p := (K.2.1.getD (K.2.1.length - 1) (0, 0, 0, (0, 0, []), 0, 0, 0)).2.1) (h := (K.1.length : Int)) (kd := kd) (ba := (ba : Int)) (m := wh) (en := ec) (tn := (tr.length : Int)) (ky := Y 228 ((K.1.length : Int) - 1)) (vy := Y 229 ((K.1.length : Int) - 1)) (fl := fl) (fi := Y 112 fl) hP l4 l5 l7 l8 l12 ⟨by omega, by omega⟩ ⟨by omega, by omega⟩ h72 ⟨hm.1.1, hw4⟩ a1 htr.1 ⟨by omega, htr.2.2.1.1, htr.2.2.1.2⟩ (by have := htr.2.2.2; have := htr.2.2.1.2; omega) rfl rfl (br_E hE ⟨Or.inl (by first | decide | omega), by decide⟩ rfl (by omega) (by omega)) (lr_E hE ⟨Or.inl (by first | decide | omega), by decide⟩ rfl (by omega) (by omega)) hmf ⟨hsf.1.1, hf4⟩ b2 rfl l10 a3 (by rw [a4, hpc]; rfl) s1 ⟨s4.1, s4.2, s2⟩ rfl rfl (br_E hE ⟨Or.inl (by first | decide | omega), by decide⟩ rfl (by omega) (by omega)) (lr_E hE ⟨Or.inl (by first | decide | omega), by decide⟩ rfl (by omega) (by omega))) (fun o V hq => ?_))
  obtain ⟨rfl, hq⟩ := hq
  refine ⟨rfl, ?_⟩
  rcases hq with hq | ⟨q1, hq⟩
  · exact Or.inl hq
  · obtain ⟨g1, A, B, hA, hB, hF⟩ := cmT (w := 226) (a := SF fl) (by omega) hK k0 hba k1 y16 htr (by omega) hu (fun _ _ z => z.elim) (fun A B hA hB => ⟨cVl_mo s5 (cmF_g hA hB).1, cmF_g hA hB⟩) hq
    exact Or.inr ⟨by omega, g1⟩)
theorem ams_73_226 {fl : Int} (h : rdC 226 kd ec ba gk gb es x l K T L G Y) (hKC : KC 87 97 93 114 115 74 73 HT cs ms os Y) (h72 : Y 72 1 = 73) (hl12 : l = 1 ∨ l = 2) (he51 : Y 51 x = wh) (hm : (0 ≤ wh ∧ wh < (ms.length : Int)) ∧ (hmR ms wh).2.1 = 1) (htr : cTrc Y tr) (hg : arG K ba ec ar) (hmf : Y 112 wh = fl) (hsf : isSf ms fl) (hst : cStc 97 117 ms SF Y) (hpc : (hmR ms wh).2.2.2.2.1.length = 1) (hec : ec = 1) : wJ (pe_GA xs) wY0 (mS [228, 229, 152]) (d + 7) t_XL_act ((pe_at t_XL_act.bl 0).getD (0, [])).2 [(0, (2, 158)), (1, (0, x))] [] Y (fun o V => o = .inl none ∧ ((100000 < (tr.length : Int) + 2 ∧ w_up Y 226 16 99 = V) ∨ ((tr.length : Int) + 2 ≤ 100000 ∧ cmPt 226 K ba kd (0, 0, []) wh ec tr (cMf 117) Y V ∧ cStc 97 117 ms (sfU SF fl (K.1.getD (ba + 1) (0, 0, []))) V))) := wJ_E (fun hE => by
  obtain ⟨⟨h, hW, hl, hT⟩, ⟨l4, l5, l7, l8, l9, l10, l12, l13⟩, y16, ⟨hx, e48⟩, hba⟩ := h
  have hP := xP_of (w := 226) (by omega) h
  rw [← w_up_eta y16] at hP
  obtain ⟨hTh, hCa, -, ⟨⟨m1, m2, m3, m4⟩, hl14, ⟨c0, c1⟩, hz16, hz10⟩, ⟨t1, t2, t3, t4⟩, -⟩ := id hW
  obtain ⟨hK, ⟨hC, hI⟩, ⟨k0, k1, -⟩, -⟩ := id h
  have hn4 := hKC.2.2.2.2.1.1
  have hw4 : wh < 400 := by have := hm.1.2; omega
  obtain ⟨⟨-, a1, a2, a3⟩, ⟨a4, -⟩, -⟩ := mrA hKC.2.2.2.2.1 hm.1
  replace a1 : Y 98 wh = 1 := a1.trans hm.2
  have hg1 := hg.1
  have hu := c_at hK (i := K.1.length - 1) (by omega) (j := (K.1.length : Int) - 1) (by omega)
  replace hu : cVl Y (Y 228 ((K.1.length : Int) - 1)) (Y 229 ((K.1.length : Int) - 1)) (K.1.getD (K.1.length - 1) (0, 0, [])) := hu
  have p3 : (K.1.length : Int) ≤ Y 228 (-1) := hK.1.2.2.1
  have p4 : Y 229 (-1) = Y 228 (-1) := hK.1.2.2.2.1
  obtain ⟨⟨-, b1, b2, -⟩, -⟩ := mrA hKC.2.2.2.2.1 hsf.1
  replace b2 : Y 99 fl = _ := b2.trans hsf.2.2
  have hf4 : fl < 400 := by have := hsf.1.2; omega
  have hst0 := hst
  obtain ⟨⟨s1, s2⟩, s3, -⟩ := hst
  obtain ⟨s4, s5⟩ := s3 fl hsf
  replace s1 : Y 118 (-1) = Y 117 (-1) := s1
  replace s4 : 0 ≤ Y 112 fl ∧ Y 112 fl < Y 117 (-1) := s4
  have hb1 : ba + 1 < K.1.length := by omega
  have hu1 := c_at hK (i := ba + 1) hb1 (j := (ba : Int) + 1) (by omega)
  replace hu1 : cVl Y (Y 228 ((ba : Int) + 1)) (Y 229 ((ba : Int) + 1)) (K.1.getD (ba + 1) (0, 0, [])) := hu1
  refine acha_73_226 (d := d + 6) hC hI hl h72 hx e48 hl12 he51 ⟨hm.1.1, hw4⟩ a1 (by omega) (R := fun V => ((100000 < (tr.length : Int) + 2 ∧ w_up Y 226 16 99 = V) ∨ ((tr.length : Int) + 2 ≤ 100000 ∧ cmPt 226 K ba kd (0, 0, []) wh ec tr (cMf 117) Y V ∧ cStc 97 117 ms (sfU SF fl (K.1.getD (ba + 1) (0, 0, []))) V))) (wJ_mono (cms1_73_226 (d := d) (c := (K.2.1.length : Int)) (p := (K.2.1.getD (K.2.1.length - 1) (0, 0, 0, (0, 0, []), 0, 0, 0)).2.1) (h := (K.1.length : Int)) (kd := kd) (ba := (ba : Int)) (m := wh) (en := ec) (tn := (tr.length : Int)) (ky := Y 228 ((K.1.length : Int) - 1)) (vy := Y 229 ((K.1.length : Int) - 1)) (fl := fl) (fi := Y 112 fl) hP l4 l5 l7 l8 l12 ⟨by omega, by omega⟩ ⟨by omega, by omega⟩ h72 ⟨hm.1.1, hw4⟩ a1 htr.1 ⟨by omega, htr.2.2.1.1, htr.2.2.1.2⟩ (by have := htr.2.2.2; have := htr.2.2.1.2; omega) rfl rfl (br_E hE ⟨Or.inl (by first | decide | omega), by decide⟩ rfl (by omega) (by omega)) (lr_E hE ⟨Or.inl (by first | decide | omega), by decide⟩ rfl (by omega) (by omega)) hmf ⟨hsf.1.1, hf4⟩ b2 rfl l10 a3 (by rw [a4, hpc]; rfl) s1 ⟨s4.1, s4.2, s2⟩ (by omega) rfl rfl) (fun o V hq => ?_))
  obtain ⟨rfl, hq⟩ := hq
  refine ⟨rfl, ?_⟩
  rcases hq with hq | ⟨q1, hq⟩
  · exact Or.inl hq
  · obtain ⟨g1, A, B, hA, hB, hF⟩ := cmT (w := 226) (a := (0, 0, [])) (mk := cMf 117) (by omega) hK k0 hba k1 y16 htr (by omega) hu (fun j x z => by unfold cMf at z; omega) (fun A B hA hB => ⟨cV_e (by first | decide | omega) rfl, cmF_s hA s4.1 (by first | decide | omega) (by first | decide | omega) hB⟩) hq
    have eA : ∀ (j : Nat) (x : Int), j < 4000000 → j ≠ wG → j ≠ 152 → (j ≠ 72 ∨ x ≠ 15) → A j x = Y j x := hA.2.2.2.1
    have xA : cTx Y A := cTx_of (eA 2 1 (by first | decide | omega) (by first | decide | omega) (by first | decide | omega) (by first | decide | omega)) (fun i => eA 3 i (by first | decide | omega) (by first | decide | omega) (by first | decide | omega) (by omega))
    have hsA : cStc 97 117 ms SF A := cStc_ag hst0 xA (fun j i hj => eA j i (by omega) (by unfold wG; omega) (by omega) (by omega))
    have e15 : A 112 fl = Y 112 fl := eA 112 fl (by first | decide | omega) (by first | decide | omega) (by first | decide | omega) (by omega)
    have hsW := cStc_w (m0 := 97) (r1 := 117) (k := Y 228 ((ba : Int) + 1)) (v := Y 229 ((ba : Int) + 1)) hsA hsf (by first | decide | omega) (cVl_mo hu1 xA)
    rw [show (97 + 15 : Nat) = 112 from rfl, e15] at hsW
    have hsB := cStc_ag (Z := B) hsW (cTx_of (hB 2 1 (Or.inl (by first | decide | omega))) (fun i => hB 3 i (Or.inl (by first | decide | omega)))) (fun j i hj => hB j i (Or.inl (by omega)))
    exact Or.inr ⟨by omega, g1, cStc_ag hsB (cTx_of (hF.1 2 1 (by first | decide | omega) (by first | decide | omega) (by first | decide | omega)) (fun i => hF.1 3 i (by first | decide | omega) (by first | decide | omega) (by first | decide | omega))) (fun j i hj => hF.1 j i (by omega) (by unfold wG; omega) (by omega))⟩)
theorem ami_73_226 {fl fi : Int} (h : rdC 226 kd ec ba gk gb es x l K T L G Y) (hKC : KC 87 97 93 114 115 74 73 HT cs ms os Y) (h72 : Y 72 1 = 73) (hl12 : l = 1 ∨ l = 2) (he51 : Y 51 x = wh) (hm : (0 ≤ wh ∧ wh < (ms.length : Int)) ∧ (hmR ms wh).2.1 = 1) (htr : cTrc Y tr) (hg : arG K ba ec ar) (hmf : Y 112 wh = fl) (hsf : isIf ms fl) (hfi : Y 112 fl = fi) (hgb : 0 ≤ gb ∧ gb < (T.length : Int)) (hfr : 0 ≤ fi ∧ fi < ((tO T gb).2.2.2.2.2.2.length : Int) ∧ fi ≤ 1000) (hpc : (hmR ms wh).2.2.2.2.1.length = 0) : wJ (pe_GA xs) wY0 (mS [228, 229, 152]) (d + 7) t_XL_act ((pe_at t_XL_act.bl 0).getD (0, [])).2 [(0, (2, 158)), (1, (0, x))] [] Y (fun o V => o = .inl none ∧ ((100000 < (tr.length : Int) + 2 ∧ w_up Y 226 16 99 = V) ∨ ((tr.length : Int) + 2 ≤ 100000 ∧ cmPt 226 K ba kd (gvA T gb fi) wh ec tr (fun _ _ => False) Y V))) := wJ_E (fun hE => by
  obtain ⟨⟨h, hW, hl, hT⟩, ⟨l4, l5, l7, l8, l9, l10, l12, l13⟩, y16, ⟨hx, e48⟩, hba⟩ := h
  have hP := xP_of (w := 226) (by omega) h
  rw [← w_up_eta y16] at hP
  obtain ⟨hTh, hCa, -, ⟨⟨m1, m2, m3, m4⟩, hl14, ⟨c0, c1⟩, hz16, hz10⟩, ⟨t1, t2, t3, t4⟩, -⟩ := id hW
  obtain ⟨hK, ⟨hC, hI⟩, ⟨k0, k1, -⟩, -⟩ := id h
  have hn4 := hKC.2.2.2.2.1.1
  have hw4 : wh < 400 := by have := hm.1.2; omega
  obtain ⟨⟨-, a1, a2, a3⟩, ⟨a4, -⟩, -⟩ := mrA hKC.2.2.2.2.1 hm.1
  replace a1 : Y 98 wh = 1 := a1.trans hm.2
  have hg1 := hg.1
  have hu := c_at hK (i := K.1.length - 1) (by omega) (j := (K.1.length : Int) - 1) (by omega)
  replace hu : cVl Y (Y 228 ((K.1.length : Int) - 1)) (Y 229 ((K.1.length : Int) - 1)) (K.1.getD (K.1.length - 1) (0, 0, [])) := hu
  have p3 : (K.1.length : Int) ≤ Y 228 (-1) := hK.1.2.2.1
  have p4 : Y 229 (-1) = Y 228 (-1) := hK.1.2.2.2.1
  obtain ⟨⟨-, b1, b2, -⟩, -⟩ := mrA hKC.2.2.2.2.1 hsf.1
  replace b2 : Y 99 fl = _ := b2.trans hsf.2.2
  have hf4 : fl < 400 := by have := hsf.1.2; omega
  obtain ⟨⟨z1, z2⟩, z3⟩ := cell_v (hd := gb) (wh := fi) hW hgb ⟨hfr.1, hfr.2.1⟩
  refine acha_73_226 (d := d + 6) hC hI hl h72 hx e48 hl12 he51 ⟨hm.1.1, hw4⟩ a1 (by omega) (R := fun V => ((100000 < (tr.length : Int) + 2 ∧ w_up Y 226 16 99 = V) ∨ ((tr.length : Int) + 2 ≤ 100000 ∧ cmPt 226 K ba kd (gvA T gb fi) wh ec tr (fun _ _ => False) Y V))) (wJ_mono (cmg0_73_226 (d := d) (c := (K.2.1.length : Int)) (p := (K.2.1.getD (K.2.1.length - 1) (0, 0, 0, (0, 0, []), 0, 0, 0)).2.1) (h := (K.1.length : Int)) (kd := kd) (ba := (ba : Int)) (m := wh) (en := ec) (tn := (tr.length : Int)) (ky := Y 228 ((K.1.length : Int) - 1)) (vy := Y 229 ((K.1.length : Int) - 1)) (fl := fl) (fi := fi) (st := Y 133 gb) hP l4 l5 l7 l8 l12 ⟨by omega, by omega⟩ ⟨by omega, by omega⟩ h72 ⟨hm.1.1, hw4⟩ a1 htr.1 ⟨by omega, htr.2.2.1.1, htr.2.2.1.2⟩ (by have := htr.2.2.2; have := htr.2.2.1.2; omega) rfl rfl (br_E hE ⟨Or.inl (by first | decide | omega), by decide⟩ rfl (by omega) (by omega)) (lr_E hE ⟨Or.inl (by first | decide | omega), by decide⟩ rfl (by omega) (by omega)) hmf ⟨hsf.1.1, hf4⟩ b2 hfi l10 a3 (by rw [a4, hpc]; rfl) t1 t4 hl14 ⟨hz16, hz10⟩ ⟨hgb.1, by omega⟩ rfl ⟨z1, hfr.1, hfr.2.2, by omega⟩ rfl rfl (br_E hE ⟨Or.inl (by first | decide | omega), by decide⟩ rfl (by omega) (by omega)) (lr_E hE ⟨Or.inl (by first | decide | omega), by decide⟩ rfl (by omega) (by omega))) (fun o V hq => ?_))
  obtain ⟨rfl, hq⟩ := hq
  refine ⟨rfl, ?_⟩
  rcases hq with hq | ⟨q1, hq⟩
  · exact Or.inl hq
  · obtain ⟨g1, A, B, hA, hB, hF⟩ := cmT (w := 226) (a := gvA T gb fi) (by omega) hK k0 hba k1 y16 htr (by omega) hu (fun _ _ z => z.elim) (fun A B hA hB => ⟨cVl_mo z3 (cmF_g hA hB).1, cmF_g hA hB⟩) hq
    exact Or.inr ⟨by omega, g1⟩)
theorem amj_73_226 {fl fi : Int} (h : rdC 226 kd ec ba gk gb es x l K T L G Y) (hKC : KC 87 97 93 114 115 74 73 HT cs ms os Y) (h72 : Y 72 1 = 73) (hl12 : l = 1 ∨ l = 2) (he51 : Y 51 x = wh) (hm : (0 ≤ wh ∧ wh < (ms.length : Int)) ∧ (hmR ms wh).2.1 = 1) (htr : cTrc Y tr) (hg : arG K ba ec ar) (hmf : Y 112 wh = fl) (hsf : isIf ms fl) (hfi : Y 112 fl = fi) (hgb : 0 ≤ gb ∧ gb < (T.length : Int)) (hfr : 0 ≤ fi ∧ fi < ((tO T gb).2.2.2.2.2.2.length : Int) ∧ fi ≤ 1000) (hpc : (hmR ms wh).2.2.2.2.1.length = 1) (hec : ec = 1) : wJ (pe_GA xs) wY0 (mS [228, 229, 152]) (d + 7) t_XL_act ((pe_at t_XL_act.bl 0).getD (0, [])).2 [(0, (2, 158)), (1, (0, x))] [] Y (fun o V => o = .inl none ∧ ((100000 < (tr.length : Int) + 2 ∧ w_up Y 226 16 99 = V) ∨ ((tr.length : Int) + 2 ≤ 100000 ∧ cmPt 226 K ba kd (0, 0, []) wh ec tr cMv Y V ∧ cWd V (tSp T gb fi.toNat (K.1.getD (ba + 1) (0, 0, []))) L G))) := wJ_E (fun hE => by
  obtain ⟨⟨h, hW, hl, hT⟩, ⟨l4, l5, l7, l8, l9, l10, l12, l13⟩, y16, ⟨hx, e48⟩, hba⟩ := h
  have hP := xP_of (w := 226) (by omega) h
  rw [← w_up_eta y16] at hP
  obtain ⟨hTh, hCa, -, ⟨⟨m1, m2, m3, m4⟩, hl14, ⟨c0, c1⟩, hz16, hz10⟩, ⟨t1, t2, t3, t4⟩, -⟩ := id hW
  obtain ⟨hK, ⟨hC, hI⟩, ⟨k0, k1, -⟩, -⟩ := id h
  have hn4 := hKC.2.2.2.2.1.1
  have hw4 : wh < 400 := by have := hm.1.2; omega
  obtain ⟨⟨-, a1, a2, a3⟩, ⟨a4, -⟩, -⟩ := mrA hKC.2.2.2.2.1 hm.1
  replace a1 : Y 98 wh = 1 := a1.trans hm.2
  have hg1 := hg.1
  have hu := c_at hK (i := K.1.length - 1) (by omega) (j := (K.1.length : Int) - 1) (by omega)
  replace hu : cVl Y (Y 228 ((K.1.length : Int) - 1)) (Y 229 ((K.1.length : Int) - 1)) (K.1.getD (K.1.length - 1) (0, 0, [])) := hu
  have p3 : (K.1.length : Int) ≤ Y 228 (-1) := hK.1.2.2.1
  have p4 : Y 229 (-1) = Y 228 (-1) := hK.1.2.2.2.1
  obtain ⟨⟨-, b1, b2, -⟩, -⟩ := mrA hKC.2.2.2.2.1 hsf.1
  replace b2 : Y 99 fl = _ := b2.trans hsf.2.2
  have hf4 : fl < 400 := by have := hsf.1.2; omega
  obtain ⟨⟨z1, z2⟩, z3⟩ := cell_v (hd := gb) (wh := fi) hW hgb ⟨hfr.1, hfr.2.1⟩
  have hb1 : ba + 1 < K.1.length := by omega
  have hu1 := c_at hK (i := ba + 1) hb1 (j := (ba : Int) + 1) (by omega)
  replace hu1 : cVl Y (Y 228 ((ba : Int) + 1)) (Y 229 ((ba : Int) + 1)) (K.1.getD (ba + 1) (0, 0, [])) := hu1
  refine acha_73_226 (d := d + 6) hC hI hl h72 hx e48 hl12 he51 ⟨hm.1.1, hw4⟩ a1 (by omega) (R := fun V => ((100000 < (tr.length : Int) + 2 ∧ w_up Y 226 16 99 = V) ∨ ((tr.length : Int) + 2 ≤ 100000 ∧ cmPt 226 K ba kd (0, 0, []) wh ec tr cMv Y V ∧ cWd V (tSp T gb fi.toNat (K.1.getD (ba + 1) (0, 0, []))) L G))) (wJ_mono (cms0_73_226 (d := d) (c := (K.2.1.length : Int)) (p := (K.2.1.getD (K.2.1.length - 1) (0, 0, 0, (0, 0, []), 0, 0, 0)).2.1) (h := (K.1.length : Int)) (kd := kd) (ba := (ba : Int)) (m := wh) (en := ec) (tn := (tr.length : Int)) (ky := Y 228 ((K.1.length : Int) - 1)) (vy := Y 229 ((K.1.length : Int) - 1)) (fl := fl) (fi := fi) (st := Y 133 gb) hP l4 l5 l7 l8 l12 ⟨by omega, by omega⟩ ⟨by omega, by omega⟩ h72 ⟨hm.1.1, hw4⟩ a1 htr.1 ⟨by omega, htr.2.2.1.1, htr.2.2.1.2⟩ (by have := htr.2.2.2; have := htr.2.2.1.2; omega) rfl rfl (br_E hE ⟨Or.inl (by first | decide | omega), by decide⟩ rfl (by omega) (by omega)) (lr_E hE ⟨Or.inl (by first | decide | omega), by decide⟩ rfl (by omega) (by omega)) hmf ⟨hsf.1.1, hf4⟩ b2 hfi l10 a3 (by rw [a4, hpc]; rfl) t1 t4 hl14 ⟨hz16, hz10⟩ ⟨hgb.1, by omega⟩ rfl ⟨z1, hfr.1, hfr.2.2, by omega⟩ (by omega) rfl rfl) (fun o V hq => ?_))
  obtain ⟨rfl, hq⟩ := hq
  refine ⟨rfl, ?_⟩
  rcases hq with hq | ⟨q1, hq⟩
  · exact Or.inl hq
  · obtain ⟨g1, A, B, hA, hB, hF⟩ := cmT (w := 226) (a := (0, 0, [])) (mk := cMv) (by omega) hK k0 hba k1 y16 htr (by omega) hu (fun j x z => by unfold cMv at z; omega) (fun A B hA hB => ⟨cV_e (by first | decide | omega) rfl, cmF_s hA (by omega) (by first | decide | omega) (by first | decide | omega) hB⟩) hq
    have eA : ∀ (j : Nat) (x : Int), j < 4000000 → j ≠ wG → j ≠ 152 → (j ≠ 72 ∨ x ≠ 15) → A j x = Y j x := hA.2.2.2.1
    have xA : cTx Y A := cTx_of (eA 2 1 (by first | decide | omega) (by first | decide | omega) (by first | decide | omega) (by first | decide | omega)) (fun i => eA 3 i (by first | decide | omega) (by first | decide | omega) (by first | decide | omega) (by omega))
    have hWA : cWd A T L G := cWd_ag hW xA (fun j i hj => by unfold cWo at hj; exact eA j i (by omega) (by unfold wG; omega) (by omega) (by omega))
    have e13 : A 133 gb = Y 133 gb := eA 133 gb (by first | decide | omega) (by first | decide | omega) (by first | decide | omega) (by omega)
    have ew : ((fi.toNat : Nat) : Int) = fi := by omega
    have hWB := cWd_sp (k := gb) (i := fi.toNat) hWA hgb.1 hgb.2 (by omega) (cVl_mo hu1 xA)
    rw [ew, e13] at hWB
    have hWC := cWd_ag (Z := B) hWB (cTx_of (hB 2 1 (Or.inl (by first | decide | omega))) (fun i => hB 3 i (Or.inl (by first | decide | omega)))) (fun j i hj => hB j i (by unfold cWo at hj; omega))
    exact Or.inr ⟨by omega, g1, cWd_fr (w := 226) (by omega) hWC hF⟩)
theorem amt_73_226 (h : rdC 226 kd ec ba gk gb es x l K T L G Y) (hKC : KC 87 97 93 114 115 74 73 HT cs ms os Y) (h72 : Y 72 1 = 73) (hl12 : l = 1 ∨ l = 2) (he51 : Y 51 x = wh) (hm : (0 ≤ wh ∧ wh < (ms.length : Int)) ∧ (hmR ms wh).2.1 = 1) (htr : cTrc Y tr) (hg : arG K ba ec ar) (hwH : wHo cs ms os) (hty : 8 ≤ (hmR ms wh).2.2.2.1 ∧ (hmR ms wh).2.2.2.1 < 9 + (cs.length : Int)) (hmf : Y 112 wh = -1) (hsb : (hmR ms wh).2.2.1 = 0 ∨ (hmR ms wh).2.2.1 = 1) (hgv : cVl Y gk gb (K.1.getD ba (0, 0, []))) (hgr : -9223372036854775808 ≤ gb ∧ gb ≤ 9223372036854775807) (hrv : vOk T (K.1.getD ba (0, 0, [])) ∧ ((K.1.getD ba (0, 0, [])).1 = 7 → (tO T (K.1.getD ba (0, 0, [])).2.1).2.2.1 < (cs.length : Int))) (hav : ∀ u ∈ ar, vOk T u ∧ (u.1 = 7 → (tO T u.2.1).2.2.1 < (cs.length : Int))) : wJ (pe_GA xs) wY0 (mS [228, 229, 152]) (d + 7) t_XL_act ((pe_at t_XL_act.bl 0).getD (0, [])).2 [(0, (2, 158)), (1, (0, x))] [] Y (fun o V => o = .inl none ∧ ((100000 < (tr.length : Int) + 2 ∧ w_up Y 226 16 99 = V) ∨ ((tr.length : Int) + 2 ≤ 100000 ∧ cmPt 226 K ba kd (anV cs T (hmR ms wh).2.2.1 (hmR ms wh).2.2.2.1 (K.1.getD ba (0, 0, [])) ar) wh ec tr (fun _ _ => False) Y V))) := wJ_E (fun hE => by
  obtain ⟨⟨h, hW, hl, hT⟩, ⟨l4, l5, l7, l8, l9, l10, l12, l13⟩, y16, ⟨hx, e48⟩, hba⟩ := h
  have hP := xP_of (w := 226) (by omega) h
  rw [← w_up_eta y16] at hP
  obtain ⟨hTh, hCa, -, ⟨⟨m1, m2, m3, m4⟩, hl14, ⟨c0, c1⟩, hz16, hz10⟩, ⟨t1, t2, t3, t4⟩, -⟩ := id hW
  obtain ⟨hK, ⟨hC, hI⟩, ⟨k0, k1, -⟩, -⟩ := id h
  have hn4 := hKC.2.2.2.2.1.1
  have hw4 : wh < 400 := by have := hm.1.2; omega
  obtain ⟨⟨-, a1, a2, a3⟩, ⟨a4, -⟩, -⟩ := mrA hKC.2.2.2.2.1 hm.1
  replace a1 : Y 98 wh = 1 := a1.trans hm.2
  have hg1 := hg.1
  have hu := c_at hK (i := K.1.length - 1) (by omega) (j := (K.1.length : Int) - 1) (by omega)
  replace hu : cVl Y (Y 228 ((K.1.length : Int) - 1)) (Y 229 ((K.1.length : Int) - 1)) (K.1.getD (K.1.length - 1) (0, 0, [])) := hu
  have p3 : (K.1.length : Int) ≤ Y 228 (-1) := hK.1.2.2.1
  have p4 : Y 229 (-1) = Y 228 (-1) := hK.1.2.2.2.1
  have hok : ∀ i : Nat, i < (pEs Y 228 229 ((ba : Int) + 1) ar.length).length → okV (cs.length : Int) T Y ((pEs Y 228 229 ((ba : Int) + 1) ar.length).getD i (0, 0)) := fun i hi => by
    rw [pEs_l] at hi
    rw [pEs_g hi]
    have z := ar_c (w := 226) hK hg hi
    replace z : cVl Y (Y 228 ((ba : Int) + 1 + (i : Int))) (Y 229 ((ba : Int) + 1 + (i : Int))) (ar.getD i (0, 0, [])) := z
    obtain ⟨o1, o2⟩ := hav _ (show ar.getD i (0, 0, []) ∈ ar by rw [List.getD_eq_getElem?_getD, List.getElem?_eq_getElem hi]; exact List.getElem_mem _)
    refine ⟨by show 0 ≤ Y 228 _ ∧ Y 228 _ ≤ 8; rw [z.1]; exact o1.1, lr_E hE ⟨Or.inl (by first | decide | omega), by decide⟩ rfl (by omega) (by omega), fun c => ?_⟩
    replace c : Y 228 ((ba : Int) + 1 + (i : Int)) = 7 := c
    have c7 : (ar.getD i (0, 0, [])).1 = 7 := z.1.symm.trans c
    have eb := (z.2.1 (by omega)).1
    obtain ⟨x1, x2⟩ := o1.2.1 (by omega) (by omega)
    show 0 ≤ Y 229 _ ∧ Y 229 _ < _ ∧ 0 ≤ Y 129 (Y 229 _) ∧ Y 129 (Y 229 _) < _
    rw [eb]
    obtain ⟨⟨-, -, y3, -⟩, -⟩ := hTh.2 (ar.getD i (0, 0, [])).2.1.toNat (by omega)
    rw [show (((ar.getD i (0, 0, [])).2.1.toNat : Nat) : Int) = (ar.getD i (0, 0, [])).2.1 by omega] at y3
    replace y3 : Y 129 (ar.getD i (0, 0, [])).2.1 = (tO T (ar.getD i (0, 0, [])).2.1).2.2.1 := y3
    rw [y3]
    exact ⟨x1.1, x1.2, (o1.2.2.2.1 c7).1, o2 c7⟩
  have isE : ∀ (k b : Int) (u : aV), cVl Y k b u → vOk T u → isB cs Y k b (hmR ms wh).2.2.2.1 = isA cs T (hmR ms wh).2.2.2.1 u := fun k b u z o => by
    unfold isB isA
    rw [z.1]
    by_cases c7 : u.1 = 7
    · have eb := (z.2.1 (by omega)).1
      obtain ⟨x1, x2⟩ := o.2.1 (by omega) (by omega)
      obtain ⟨⟨-, -, y3, -⟩, -⟩ := hTh.2 u.2.1.toNat (by omega)
      rw [show ((u.2.1.toNat : Nat) : Int) = u.2.1 by omega] at y3
      replace y3 : Y 129 u.2.1 = (tO T u.2.1).2.2.1 := y3
      rw [eb, y3]
    · rw [decide_eq_false c7, Bool.false_and, Bool.false_and]
  have hrc := c_at hK (i := ba) hba (j := (ba : Int)) rfl
  replace hrc : cVl Y (Y 228 (ba : Int)) (Y 229 (ba : Int)) (K.1.getD ba (0, 0, [])) := hrc
  have hval : cVl Y ((anX cs Y (hmR ms wh).2.2.1 gk gb (hmR ms wh).2.2.2.1 (pEs Y 228 229 ((ba : Int) + 1) ar.length)).getD (0, 0)).1 ((anX cs Y (hmR ms wh).2.2.1 gk gb (hmR ms wh).2.2.2.1 (pEs Y 228 229 ((ba : Int) + 1) ar.length)).getD (0, 0)).2 (anV cs T (hmR ms wh).2.2.1 (hmR ms wh).2.2.2.1 (K.1.getD ba (0, 0, [])) ar) := by
    unfold anX anV
    rw [isE gk gb _ hgv hrv.1]
    split
    · exact hgv
    · refine find_pEs ar ((ba : Int) + 1) (fun i hi => ?_)
      have z := ar_c (w := 226) hK hg hi
      replace z : cVl Y (Y 228 ((ba : Int) + 1 + (i : Int))) (Y 229 ((ba : Int) + 1 + (i : Int))) (ar.getD i (0, 0, [])) := z
      refine ⟨z, ?_⟩
      obtain ⟨o1, -⟩ := hav _ (show ar.getD i (0, 0, []) ∈ ar by rw [List.getD_eq_getElem?_getD, List.getElem?_eq_getElem hi]; exact List.getElem_mem _)
      show (decide (Y 228 _ ≠ 0) && isB cs Y (Y 228 _) (Y 229 _) _) = _
      rw [isE _ _ _ z o1, z.1]
  have hgo : okV (cs.length : Int) T Y (gk, gb) := by
    refine ⟨by show 0 ≤ gk ∧ gk ≤ 8; rw [hgv.1]; exact hrv.1.1, hgr, fun c => ?_⟩
    replace c : gk = 7 := c
    have c7 : (K.1.getD ba (0, 0, [])).1 = 7 := hgv.1.symm.trans c
    have eb := (hgv.2.1 (by omega)).1
    obtain ⟨x1, x2⟩ := hrv.1.2.1 (by omega) (by omega)
    show 0 ≤ gb ∧ gb < _ ∧ 0 ≤ Y 129 gb ∧ Y 129 gb < _
    rw [eb]
    obtain ⟨⟨-, -, y3, -⟩, -⟩ := hTh.2 (K.1.getD ba (0, 0, [])).2.1.toNat (by omega)
    rw [show (((K.1.getD ba (0, 0, [])).2.1.toNat : Nat) : Int) = (K.1.getD ba (0, 0, [])).2.1 by omega] at y3
    replace y3 : Y 129 (K.1.getD ba (0, 0, [])).2.1 = (tO T (K.1.getD ba (0, 0, [])).2.1).2.2.1 := y3
    rw [y3]
    exact ⟨x1.1, x1.2, (hrv.1.2.2.2.1 c7).1, hrv.2 c7⟩
  refine acha_73_226 (d := d + 6) hC hI hl h72 hx e48 hl12 he51 ⟨hm.1.1, hw4⟩ a1 (by omega) (R := fun V => ((100000 < (tr.length : Int) + 2 ∧ w_up Y 226 16 99 = V) ∨ ((tr.length : Int) + 2 ≤ 100000 ∧ cmPt 226 K ba kd (anV cs T (hmR ms wh).2.2.1 (hmR ms wh).2.2.2.1 (K.1.getD ba (0, 0, [])) ar) wh ec tr (fun _ _ => False) Y V))) (wJ_mono (cmt_73_226 (d := d) (c := (K.2.1.length : Int)) (p := (K.2.1.getD (K.2.1.length - 1) (0, 0, 0, (0, 0, []), 0, 0, 0)).2.1) (h := (K.1.length : Int)) (kd := kd) (ba := (ba : Int)) (m := wh) (en := ec) (tn := (tr.length : Int)) (ky := Y 228 ((K.1.length : Int) - 1)) (vy := Y 229 ((K.1.length : Int) - 1)) (Th := T) (es := (pEs Y 228 229 ((ba : Int) + 1) ar.length)) (ty := (hmR ms wh).2.2.2.1) (sb := (hmR ms wh).2.2.1) (gk := gk) (gb := gb) hP l4 l5 l7 l8 l12 ⟨by omega, by omega⟩ ⟨by omega, by omega⟩ h72 ⟨hm.1.1, hw4⟩ a1 htr.1 ⟨by omega, htr.2.2.1.1, htr.2.2.1.2⟩ (by have := htr.2.2.2; have := htr.2.2.1.2; omega) rfl rfl (br_E hE ⟨Or.inl (by first | decide | omega), by decide⟩ rfl (by omega) (by omega)) (lr_E hE ⟨Or.inl (by first | decide | omega), by decide⟩ rfl (by omega) (by omega)) hKC hwH ⟨t1, t2, t3, t4⟩ hT hty a3 hmf a2 hsb (by rw [pEs_l]; exact hg.1.1.symm) (by omega) (fun i hi => by rw [pEs_l] at hi; rw [pEs_g hi]; exact ⟨rfl, rfl⟩) hok l9 l10 hgo) (fun o V hq => ?_))
  obtain ⟨rfl, hq⟩ := hq
  refine ⟨rfl, ?_⟩
  rcases hq with hq | ⟨q1, hq⟩
  · exact Or.inl hq
  · obtain ⟨g1, A, B, hA, hB, hF⟩ := cmT (w := 226) (a := (anV cs T (hmR ms wh).2.2.1 (hmR ms wh).2.2.2.1 (K.1.getD ba (0, 0, [])) ar)) (by omega) hK k0 hba k1 y16 htr (by omega) hu (fun _ _ z => z.elim) (fun A B hA hB => ⟨cVl_mo hval (cmF_g hA hB).1, cmF_g hA hB⟩) hq
    exact Or.inr ⟨by omega, g1⟩)
theorem amv_162_215 (h : rdC 215 kd ec ba gk gb es x l K T L G Y) (hKC : KC 176 186 182 203 204 163 162 HT cs ms os Y) (h72 : Y 72 1 = 162) (hl12 : l = 1 ∨ l = 2) (he51 : Y 51 x = wh) (hm : (0 ≤ wh ∧ wh < (ms.length : Int)) ∧ (hmR ms wh).2.1 = 1) (htr : cTrc Y tr) (hg : arG K ba ec ar) (hty : (hmR ms wh).2.2.2.1 = 0) (hmf : Y 201 wh = -1) : wJ (pe_GA xs) wY0 (mS [217, 218, 152]) (d + 7) t_XL_act ((pe_at t_XL_act.bl 0).getD (0, [])).2 [(0, (2, 158)), (1, (0, x))] [] Y (fun o V => o = .inl none ∧ ((100000 < (tr.length : Int) + 2 ∧ w_up Y 215 16 99 = V) ∨ ((tr.length : Int) + 2 ≤ 100000 ∧ cmPt 215 K ba kd (0, 0, []) wh ec tr (fun _ _ => False) Y V))) := wJ_E (fun hE => by
  obtain ⟨⟨h, hW, hl, hT⟩, ⟨l4, l5, l7, l8, l9, l10, l12, l13⟩, y16, ⟨hx, e48⟩, hba⟩ := h
  have hP := xP_of (w := 215) (by omega) h
  rw [← w_up_eta y16] at hP
  obtain ⟨hTh, hCa, -, ⟨⟨m1, m2, m3, m4⟩, hl14, ⟨c0, c1⟩, hz16, hz10⟩, ⟨t1, t2, t3, t4⟩, -⟩ := id hW
  obtain ⟨hK, ⟨hC, hI⟩, ⟨k0, k1, -⟩, -⟩ := id h
  have hn4 := hKC.2.2.2.2.1.1
  have hw4 : wh < 400 := by have := hm.1.2; omega
  obtain ⟨⟨-, a1, a2, a3⟩, ⟨a4, -⟩, -⟩ := mrA hKC.2.2.2.2.1 hm.1
  replace a1 : Y 187 wh = 1 := a1.trans hm.2
  have hg1 := hg.1
  have hu := c_at hK (i := K.1.length - 1) (by omega) (j := (K.1.length : Int) - 1) (by omega)
  replace hu : cVl Y (Y 217 ((K.1.length : Int) - 1)) (Y 218 ((K.1.length : Int) - 1)) (K.1.getD (K.1.length - 1) (0, 0, [])) := hu
  have p3 : (K.1.length : Int) ≤ Y 217 (-1) := hK.1.2.2.1
  have p4 : Y 218 (-1) = Y 217 (-1) := hK.1.2.2.2.1
  refine acha_162_215 (d := d + 6) hC hI hl h72 hx e48 hl12 he51 ⟨hm.1.1, hw4⟩ a1 (by omega) (R := fun V => ((100000 < (tr.length : Int) + 2 ∧ w_up Y 215 16 99 = V) ∨ ((tr.length : Int) + 2 ≤ 100000 ∧ cmPt 215 K ba kd (0, 0, []) wh ec tr (fun _ _ => False) Y V))) (wJ_mono (cmv_162_215 (d := d) (c := (K.2.1.length : Int)) (p := (K.2.1.getD (K.2.1.length - 1) (0, 0, 0, (0, 0, []), 0, 0, 0)).2.1) (h := (K.1.length : Int)) (kd := kd) (ba := (ba : Int)) (m := wh) (en := ec) (tn := (tr.length : Int)) (ky := Y 217 ((K.1.length : Int) - 1)) (vy := Y 218 ((K.1.length : Int) - 1)) hP l4 l5 l7 l8 l12 ⟨by omega, by omega⟩ ⟨by omega, by omega⟩ h72 ⟨hm.1.1, hw4⟩ a1 htr.1 ⟨by omega, htr.2.2.1.1, htr.2.2.1.2⟩ (by have := htr.2.2.2; have := htr.2.2.1.2; omega) rfl rfl (br_E hE ⟨Or.inl (by first | decide | omega), by decide⟩ rfl (by omega) (by omega)) (lr_E hE ⟨Or.inl (by first | decide | omega), by decide⟩ rfl (by omega) (by omega)) (a3.trans hty) hmf) (fun o V hq => ?_))
  obtain ⟨rfl, hq⟩ := hq
  refine ⟨rfl, ?_⟩
  rcases hq with hq | ⟨q1, hq⟩
  · exact Or.inl hq
  · obtain ⟨g1, A, B, hA, hB, hF⟩ := cmT (w := 215) (a := (0, 0, [])) (by omega) hK k0 hba k1 y16 htr (by omega) hu (fun _ _ z => z.elim) (fun A B hA hB => ⟨cV_e (by first | decide | omega) rfl, cmF_g hA hB⟩) hq
    exact Or.inr ⟨by omega, g1⟩)
theorem amb_162_215 (h : rdC 215 kd ec ba gk gb es x l K T L G Y) (hKC : KC 176 186 182 203 204 163 162 HT cs ms os Y) (h72 : Y 72 1 = 162) (hl12 : l = 1 ∨ l = 2) (he51 : Y 51 x = wh) (hm : (0 ≤ wh ∧ wh < (ms.length : Int)) ∧ (hmR ms wh).2.1 = 1) (htr : cTrc Y tr) (hg : arG K ba ec ar) (hty : 1 ≤ (hmR ms wh).2.2.2.1 ∧ (hmR ms wh).2.2.2.1 ≤ 6) (hmf : Y 201 wh = -1) : wJ (pe_GA xs) wY0 (mS [217, 218, 152]) (d + 7) t_XL_act ((pe_at t_XL_act.bl 0).getD (0, [])).2 [(0, (2, 158)), (1, (0, x))] [] Y (fun o V => o = .inl none ∧ ((100000 < (tr.length : Int) + 2 ∧ w_up Y 215 16 99 = V) ∨ ((tr.length : Int) + 2 ≤ 100000 ∧ cmPt 215 K ba kd (anK (hmR ms wh).2.2.2.1, anB (hmR ms wh).2.2.2.1 (anS wh (aEs ar)), []) wh ec tr (fun _ _ => False) Y V))) := wJ_E (fun hE => by
  obtain ⟨⟨h, hW, hl, hT⟩, ⟨l4, l5, l7, l8, l9, l10, l12, l13⟩, y16, ⟨hx, e48⟩, hba⟩ := h
  have hP := xP_of (w := 215) (by omega) h
  rw [← w_up_eta y16] at hP
  obtain ⟨hTh, hCa, -, ⟨⟨m1, m2, m3, m4⟩, hl14, ⟨c0, c1⟩, hz16, hz10⟩, ⟨t1, t2, t3, t4⟩, -⟩ := id hW
  obtain ⟨hK, ⟨hC, hI⟩, ⟨k0, k1, -⟩, -⟩ := id h
  have hn4 := hKC.2.2.2.2.1.1
  have hw4 : wh < 400 := by have := hm.1.2; omega
  obtain ⟨⟨-, a1, a2, a3⟩, ⟨a4, -⟩, -⟩ := mrA hKC.2.2.2.2.1 hm.1
  replace a1 : Y 187 wh = 1 := a1.trans hm.2
  have hg1 := hg.1
  have hu := c_at hK (i := K.1.length - 1) (by omega) (j := (K.1.length : Int) - 1) (by omega)
  replace hu : cVl Y (Y 217 ((K.1.length : Int) - 1)) (Y 218 ((K.1.length : Int) - 1)) (K.1.getD (K.1.length - 1) (0, 0, [])) := hu
  have p3 : (K.1.length : Int) ≤ Y 217 (-1) := hK.1.2.2.1
  have p4 : Y 218 (-1) = Y 217 (-1) := hK.1.2.2.2.1
  have eS : anS wh (pEs Y 217 218 ((ba : Int) + 1) ar.length) = anS wh (aEs ar) := anS_cg _ _ _ (by rw [pEs_l]; unfold aEs; rw [List.length_map]) (fun i hi => by
    rw [pEs_l] at hi
    have z := ar_c (w := 215) hK hg hi
    rw [pEs_g hi]
    have e : (aEs ar).getD i (0, 0) = ((ar.getD i (0, 0, [])).1, (ar.getD i (0, 0, [])).2.1) := by
      unfold aEs
      rw [List.getD_eq_getElem?_getD, List.getElem?_map, List.getD_eq_getElem?_getD, List.getElem?_eq_getElem hi]
      rfl
    rw [e]
    exact ⟨z.1, fun c => (z.2.1 (by have := z.1; replace c : Y 217 ((ba : Int) + 1 + (i : Int)) = 2 := c; have zz : Y (215 + 2) ((ba : Int) + 1 + (i : Int)) = Y 217 ((ba : Int) + 1 + (i : Int)) := rfl; omega)).1⟩)
  refine acha_162_215 (d := d + 6) hC hI hl h72 hx e48 hl12 he51 ⟨hm.1.1, hw4⟩ a1 (by omega) (R := fun V => ((100000 < (tr.length : Int) + 2 ∧ w_up Y 215 16 99 = V) ∨ ((tr.length : Int) + 2 ≤ 100000 ∧ cmPt 215 K ba kd (anK (hmR ms wh).2.2.2.1, anB (hmR ms wh).2.2.2.1 (anS wh (aEs ar)), []) wh ec tr (fun _ _ => False) Y V))) (wJ_mono (cmn_162_215 (d := d) (c := (K.2.1.length : Int)) (p := (K.2.1.getD (K.2.1.length - 1) (0, 0, 0, (0, 0, []), 0, 0, 0)).2.1) (h := (K.1.length : Int)) (kd := kd) (ba := (ba : Int)) (m := wh) (en := ec) (tn := (tr.length : Int)) (ky := Y 217 ((K.1.length : Int) - 1)) (vy := Y 218 ((K.1.length : Int) - 1)) (es := (pEs Y 217 218 ((ba : Int) + 1) ar.length)) hP l4 l5 l7 l8 l12 ⟨by omega, by omega⟩ ⟨by omega, by omega⟩ h72 ⟨hm.1.1, hw4⟩ a1 htr.1 ⟨by omega, htr.2.2.1.1, htr.2.2.1.2⟩ (by have := htr.2.2.2; have := htr.2.2.1.2; omega) rfl rfl (br_E hE ⟨Or.inl (by first | decide | omega), by decide⟩ rfl (by omega) (by omega)) (lr_E hE ⟨Or.inl (by first | decide | omega), by decide⟩ rfl (by omega) (by omega)) a3 hmf hty (by rw [pEs_l]; exact hg.1.1.symm) (by omega) (fun i hi => by rw [pEs_l] at hi; rw [pEs_g hi]; exact ⟨rfl, rfl⟩)) (fun o V hq => ?_))
  obtain ⟨rfl, hq⟩ := hq
  refine ⟨rfl, ?_⟩
  rcases hq with hq | ⟨q1, hq⟩
  · exact Or.inl hq
  · obtain ⟨g1, A, B, hA, hB, hF⟩ := cmT (w := 215) (a := (anK (hmR ms wh).2.2.2.1, anB (hmR ms wh).2.2.2.1 (anS wh (aEs ar)), [])) (by omega) hK k0 hba k1 y16 htr (by omega) hu (fun _ _ z => z.elim) (fun A B hA hB => ⟨by rw [eS]; exact cV_e (by unfold anK; split <;> decide) rfl, cmF_g hA hB⟩) hq
    exact Or.inr ⟨by omega, g1⟩)
theorem amg_162_215 {fl : Int} (h : rdC 215 kd ec ba gk gb es x l K T L G Y) (hKC : KC 176 186 182 203 204 163 162 HT cs ms os Y) (h72 : Y 72 1 = 162) (hl12 : l = 1 ∨ l = 2) (he51 : Y 51 x = wh) (hm : (0 ≤ wh ∧ wh < (ms.length : Int)) ∧ (hmR ms wh).2.1 = 1) (htr : cTrc Y tr) (hg : arG K ba ec ar) (hmf : Y 201 wh = fl) (hsf : isSf ms fl) (hst : cStc 186 206 ms SF Y) (hpc : (hmR ms wh).2.2.2.2.1.length = 0) : wJ (pe_GA xs) wY0 (mS [217, 218, 152]) (d + 7) t_XL_act ((pe_at t_XL_act.bl 0).getD (0, [])).2 [(0, (2, 158)), (1, (0, x))] [] Y (fun o V => o = .inl none ∧ ((100000 < (tr.length : Int) + 2 ∧ w_up Y 215 16 99 = V) ∨ ((tr.length : Int) + 2 ≤ 100000 ∧ cmPt 215 K ba kd (SF fl) wh ec tr (fun _ _ => False) Y V))) := wJ_E (fun hE => by
  obtain ⟨⟨h, hW, hl, hT⟩, ⟨l4, l5, l7, l8, l9, l10, l12, l13⟩, y16, ⟨hx, e48⟩, hba⟩ := h
  have hP := xP_of (w := 215) (by omega) h
  rw [← w_up_eta y16] at hP
  obtain ⟨hTh, hCa, -, ⟨⟨m1, m2, m3, m4⟩, hl14, ⟨c0, c1⟩, hz16, hz10⟩, ⟨t1, t2, t3, t4⟩, -⟩ := id hW
  obtain ⟨hK, ⟨hC, hI⟩, ⟨k0, k1, -⟩, -⟩ := id h
  have hn4 := hKC.2.2.2.2.1.1
  have hw4 : wh < 400 := by have := hm.1.2; omega
  obtain ⟨⟨-, a1, a2, a3⟩, ⟨a4, -⟩, -⟩ := mrA hKC.2.2.2.2.1 hm.1
  replace a1 : Y 187 wh = 1 := a1.trans hm.2
  have hg1 := hg.1
  have hu := c_at hK (i := K.1.length - 1) (by omega) (j := (K.1.length : Int) - 1) (by omega)
  replace hu : cVl Y (Y 217 ((K.1.length : Int) - 1)) (Y 218 ((K.1.length : Int) - 1)) (K.1.getD (K.1.length - 1) (0, 0, [])) := hu
  have p3 : (K.1.length : Int) ≤ Y 217 (-1) := hK.1.2.2.1
  have p4 : Y 218 (-1) = Y 217 (-1) := hK.1.2.2.2.1
  obtain ⟨⟨-, b1, b2, -⟩, -⟩ := mrA hKC.2.2.2.2.1 hsf.1
  replace b2 : Y 188 fl = _ := b2.trans hsf.2.2
  have hf4 : fl < 400 := by have := hsf.1.2; omega
  have hst0 := hst
  obtain ⟨⟨s1, s2⟩, s3, -⟩ := hst
  obtain ⟨s4, s5⟩ := s3 fl hsf
  replace s1 : Y 207 (-1) = Y 206 (-1) := s1
  replace s4 : 0 ≤ Y 201 fl ∧ Y 201 fl < Y 206 (-1) := s4
  refine acha_162_215 (d := d + 6) hC hI hl h72 hx e48 hl12 he51 ⟨hm.1.1, hw4⟩ a1 (by omega) (R := fun V => ((100000 < (tr.length : Int) + 2 ∧ w_up Y 215 16 99 = V) ∨ ((tr.length : Int) + 2 ≤ 100000 ∧ cmPt 215 K ba kd (SF fl) wh ec tr (fun _ _ => False) Y V))) (wJ_mono (cmg1_162_215 (d := d) (c := (K.2.1.length : Int)) (p := (K.2.1.getD (K.2.1.length - 1) (0, 0, 0, (0, 0, []), 0, 0, 0)).2.1) (h := (K.1.length : Int)) (kd := kd) (ba := (ba : Int)) (m := wh) (en := ec) (tn := (tr.length : Int)) (ky := Y 217 ((K.1.length : Int) - 1)) (vy := Y 218 ((K.1.length : Int) - 1)) (fl := fl) (fi := Y 201 fl) hP l4 l5 l7 l8 l12 ⟨by omega, by omega⟩ ⟨by omega, by omega⟩ h72 ⟨hm.1.1, hw4⟩ a1 htr.1 ⟨by omega, htr.2.2.1.1, htr.2.2.1.2⟩ (by have := htr.2.2.2; have := htr.2.2.1.2; omega) rfl rfl (br_E hE ⟨Or.inl (by first | decide | omega), by decide⟩ rfl (by omega) (by omega)) (lr_E hE ⟨Or.inl (by first | decide | omega), by decide⟩ rfl (by omega) (by omega)) hmf ⟨hsf.1.1, hf4⟩ b2 rfl l10 a3 (by rw [a4, hpc]; rfl) s1 ⟨s4.1, s4.2, s2⟩ rfl rfl (br_E hE ⟨Or.inl (by first | decide | omega), by decide⟩ rfl (by omega) (by omega)) (lr_E hE ⟨Or.inl (by first | decide | omega), by decide⟩ rfl (by omega) (by omega))) (fun o V hq => ?_))
  obtain ⟨rfl, hq⟩ := hq
  refine ⟨rfl, ?_⟩
  rcases hq with hq | ⟨q1, hq⟩
  · exact Or.inl hq
  · obtain ⟨g1, A, B, hA, hB, hF⟩ := cmT (w := 215) (a := SF fl) (by omega) hK k0 hba k1 y16 htr (by omega) hu (fun _ _ z => z.elim) (fun A B hA hB => ⟨cVl_mo s5 (cmF_g hA hB).1, cmF_g hA hB⟩) hq
    exact Or.inr ⟨by omega, g1⟩)
theorem ams_162_215 {fl : Int} (h : rdC 215 kd ec ba gk gb es x l K T L G Y) (hKC : KC 176 186 182 203 204 163 162 HT cs ms os Y) (h72 : Y 72 1 = 162) (hl12 : l = 1 ∨ l = 2) (he51 : Y 51 x = wh) (hm : (0 ≤ wh ∧ wh < (ms.length : Int)) ∧ (hmR ms wh).2.1 = 1) (htr : cTrc Y tr) (hg : arG K ba ec ar) (hmf : Y 201 wh = fl) (hsf : isSf ms fl) (hst : cStc 186 206 ms SF Y) (hpc : (hmR ms wh).2.2.2.2.1.length = 1) (hec : ec = 1) : wJ (pe_GA xs) wY0 (mS [217, 218, 152]) (d + 7) t_XL_act ((pe_at t_XL_act.bl 0).getD (0, [])).2 [(0, (2, 158)), (1, (0, x))] [] Y (fun o V => o = .inl none ∧ ((100000 < (tr.length : Int) + 2 ∧ w_up Y 215 16 99 = V) ∨ ((tr.length : Int) + 2 ≤ 100000 ∧ cmPt 215 K ba kd (0, 0, []) wh ec tr (cMf 206) Y V ∧ cStc 186 206 ms (sfU SF fl (K.1.getD (ba + 1) (0, 0, []))) V))) := wJ_E (fun hE => by
  obtain ⟨⟨h, hW, hl, hT⟩, ⟨l4, l5, l7, l8, l9, l10, l12, l13⟩, y16, ⟨hx, e48⟩, hba⟩ := h
  have hP := xP_of (w := 215) (by omega) h
  rw [← w_up_eta y16] at hP
  obtain ⟨hTh, hCa, -, ⟨⟨m1, m2, m3, m4⟩, hl14, ⟨c0, c1⟩, hz16, hz10⟩, ⟨t1, t2, t3, t4⟩, -⟩ := id hW
  obtain ⟨hK, ⟨hC, hI⟩, ⟨k0, k1, -⟩, -⟩ := id h
  have hn4 := hKC.2.2.2.2.1.1
  have hw4 : wh < 400 := by have := hm.1.2; omega
  obtain ⟨⟨-, a1, a2, a3⟩, ⟨a4, -⟩, -⟩ := mrA hKC.2.2.2.2.1 hm.1
  replace a1 : Y 187 wh = 1 := a1.trans hm.2
  have hg1 := hg.1
  have hu := c_at hK (i := K.1.length - 1) (by omega) (j := (K.1.length : Int) - 1) (by omega)
  replace hu : cVl Y (Y 217 ((K.1.length : Int) - 1)) (Y 218 ((K.1.length : Int) - 1)) (K.1.getD (K.1.length - 1) (0, 0, [])) := hu
  have p3 : (K.1.length : Int) ≤ Y 217 (-1) := hK.1.2.2.1
  have p4 : Y 218 (-1) = Y 217 (-1) := hK.1.2.2.2.1
  obtain ⟨⟨-, b1, b2, -⟩, -⟩ := mrA hKC.2.2.2.2.1 hsf.1
  replace b2 : Y 188 fl = _ := b2.trans hsf.2.2
  have hf4 : fl < 400 := by have := hsf.1.2; omega
  have hst0 := hst
  obtain ⟨⟨s1, s2⟩, s3, -⟩ := hst
  obtain ⟨s4, s5⟩ := s3 fl hsf
  replace s1 : Y 207 (-1) = Y 206 (-1) := s1
  replace s4 : 0 ≤ Y 201 fl ∧ Y 201 fl < Y 206 (-1) := s4
  have hb1 : ba + 1 < K.1.length := by omega
  have hu1 := c_at hK (i := ba + 1) hb1 (j := (ba : Int) + 1) (by omega)
  replace hu1 : cVl Y (Y 217 ((ba : Int) + 1)) (Y 218 ((ba : Int) + 1)) (K.1.getD (ba + 1) (0, 0, [])) := hu1
  refine acha_162_215 (d := d + 6) hC hI hl h72 hx e48 hl12 he51 ⟨hm.1.1, hw4⟩ a1 (by omega) (R := fun V => ((100000 < (tr.length : Int) + 2 ∧ w_up Y 215 16 99 = V) ∨ ((tr.length : Int) + 2 ≤ 100000 ∧ cmPt 215 K ba kd (0, 0, []) wh ec tr (cMf 206) Y V ∧ cStc 186 206 ms (sfU SF fl (K.1.getD (ba + 1) (0, 0, []))) V))) (wJ_mono (cms1_162_215 (d := d) (c := (K.2.1.length : Int)) (p := (K.2.1.getD (K.2.1.length - 1) (0, 0, 0, (0, 0, []), 0, 0, 0)).2.1) (h := (K.1.length : Int)) (kd := kd) (ba := (ba : Int)) (m := wh) (en := ec) (tn := (tr.length : Int)) (ky := Y 217 ((K.1.length : Int) - 1)) (vy := Y 218 ((K.1.length : Int) - 1)) (fl := fl) (fi := Y 201 fl) hP l4 l5 l7 l8 l12 ⟨by omega, by omega⟩ ⟨by omega, by omega⟩ h72 ⟨hm.1.1, hw4⟩ a1 htr.1 ⟨by omega, htr.2.2.1.1, htr.2.2.1.2⟩ (by have := htr.2.2.2; have := htr.2.2.1.2; omega) rfl rfl (br_E hE ⟨Or.inl (by first | decide | omega), by decide⟩ rfl (by omega) (by omega)) (lr_E hE ⟨Or.inl (by first | decide | omega), by decide⟩ rfl (by omega) (by omega)) hmf ⟨hsf.1.1, hf4⟩ b2 rfl l10 a3 (by rw [a4, hpc]; rfl) s1 ⟨s4.1, s4.2, s2⟩ (by omega) rfl rfl) (fun o V hq => ?_))
  obtain ⟨rfl, hq⟩ := hq
  refine ⟨rfl, ?_⟩
  rcases hq with hq | ⟨q1, hq⟩
  · exact Or.inl hq
  · obtain ⟨g1, A, B, hA, hB, hF⟩ := cmT (w := 215) (a := (0, 0, [])) (mk := cMf 206) (by omega) hK k0 hba k1 y16 htr (by omega) hu (fun j x z => by unfold cMf at z; omega) (fun A B hA hB => ⟨cV_e (by first | decide | omega) rfl, cmF_s hA s4.1 (by first | decide | omega) (by first | decide | omega) hB⟩) hq
    have eA : ∀ (j : Nat) (x : Int), j < 4000000 → j ≠ wG → j ≠ 152 → (j ≠ 72 ∨ x ≠ 15) → A j x = Y j x := hA.2.2.2.1
    have xA : cTx Y A := cTx_of (eA 2 1 (by first | decide | omega) (by first | decide | omega) (by first | decide | omega) (by first | decide | omega)) (fun i => eA 3 i (by first | decide | omega) (by first | decide | omega) (by first | decide | omega) (by omega))
    have hsA : cStc 186 206 ms SF A := cStc_ag hst0 xA (fun j i hj => eA j i (by omega) (by unfold wG; omega) (by omega) (by omega))
    have e15 : A 201 fl = Y 201 fl := eA 201 fl (by first | decide | omega) (by first | decide | omega) (by first | decide | omega) (by omega)
    have hsW := cStc_w (m0 := 186) (r1 := 206) (k := Y 217 ((ba : Int) + 1)) (v := Y 218 ((ba : Int) + 1)) hsA hsf (by first | decide | omega) (cVl_mo hu1 xA)
    rw [show (186 + 15 : Nat) = 201 from rfl, e15] at hsW
    have hsB := cStc_ag (Z := B) hsW (cTx_of (hB 2 1 (Or.inl (by first | decide | omega))) (fun i => hB 3 i (Or.inl (by first | decide | omega)))) (fun j i hj => hB j i (Or.inl (by omega)))
    exact Or.inr ⟨by omega, g1, cStc_ag hsB (cTx_of (hF.1 2 1 (by first | decide | omega) (by first | decide | omega) (by first | decide | omega)) (fun i => hF.1 3 i (by first | decide | omega) (by first | decide | omega) (by first | decide | omega))) (fun j i hj => hF.1 j i (by omega) (by unfold wG; omega) (by omega))⟩)
theorem ami_162_215 {fl fi : Int} (h : rdC 215 kd ec ba gk gb es x l K T L G Y) (hKC : KC 176 186 182 203 204 163 162 HT cs ms os Y) (h72 : Y 72 1 = 162) (hl12 : l = 1 ∨ l = 2) (he51 : Y 51 x = wh) (hm : (0 ≤ wh ∧ wh < (ms.length : Int)) ∧ (hmR ms wh).2.1 = 1) (htr : cTrc Y tr) (hg : arG K ba ec ar) (hmf : Y 201 wh = fl) (hsf : isIf ms fl) (hfi : Y 201 fl = fi) (hgb : 0 ≤ gb ∧ gb < (T.length : Int)) (hfr : 0 ≤ fi ∧ fi < ((tO T gb).2.2.2.2.2.2.length : Int) ∧ fi ≤ 1000) (hpc : (hmR ms wh).2.2.2.2.1.length = 0) : wJ (pe_GA xs) wY0 (mS [217, 218, 152]) (d + 7) t_XL_act ((pe_at t_XL_act.bl 0).getD (0, [])).2 [(0, (2, 158)), (1, (0, x))] [] Y (fun o V => o = .inl none ∧ ((100000 < (tr.length : Int) + 2 ∧ w_up Y 215 16 99 = V) ∨ ((tr.length : Int) + 2 ≤ 100000 ∧ cmPt 215 K ba kd (gvA T gb fi) wh ec tr (fun _ _ => False) Y V))) := wJ_E (fun hE => by
  obtain ⟨⟨h, hW, hl, hT⟩, ⟨l4, l5, l7, l8, l9, l10, l12, l13⟩, y16, ⟨hx, e48⟩, hba⟩ := h
  have hP := xP_of (w := 215) (by omega) h
  rw [← w_up_eta y16] at hP
  obtain ⟨hTh, hCa, -, ⟨⟨m1, m2, m3, m4⟩, hl14, ⟨c0, c1⟩, hz16, hz10⟩, ⟨t1, t2, t3, t4⟩, -⟩ := id hW
  obtain ⟨hK, ⟨hC, hI⟩, ⟨k0, k1, -⟩, -⟩ := id h
  have hn4 := hKC.2.2.2.2.1.1
  have hw4 : wh < 400 := by have := hm.1.2; omega
  obtain ⟨⟨-, a1, a2, a3⟩, ⟨a4, -⟩, -⟩ := mrA hKC.2.2.2.2.1 hm.1
  replace a1 : Y 187 wh = 1 := a1.trans hm.2
  have hg1 := hg.1
  have hu := c_at hK (i := K.1.length - 1) (by omega) (j := (K.1.length : Int) - 1) (by omega)
  replace hu : cVl Y (Y 217 ((K.1.length : Int) - 1)) (Y 218 ((K.1.length : Int) - 1)) (K.1.getD (K.1.length - 1) (0, 0, [])) := hu
  have p3 : (K.1.length : Int) ≤ Y 217 (-1) := hK.1.2.2.1
  have p4 : Y 218 (-1) = Y 217 (-1) := hK.1.2.2.2.1
  obtain ⟨⟨-, b1, b2, -⟩, -⟩ := mrA hKC.2.2.2.2.1 hsf.1
  replace b2 : Y 188 fl = _ := b2.trans hsf.2.2
  have hf4 : fl < 400 := by have := hsf.1.2; omega
  obtain ⟨⟨z1, z2⟩, z3⟩ := cell_v (hd := gb) (wh := fi) hW hgb ⟨hfr.1, hfr.2.1⟩
  refine acha_162_215 (d := d + 6) hC hI hl h72 hx e48 hl12 he51 ⟨hm.1.1, hw4⟩ a1 (by omega) (R := fun V => ((100000 < (tr.length : Int) + 2 ∧ w_up Y 215 16 99 = V) ∨ ((tr.length : Int) + 2 ≤ 100000 ∧ cmPt 215 K ba kd (gvA T gb fi) wh ec tr (fun _ _ => False) Y V))) (wJ_mono (cmg0_162_215 (d := d) (c := (K.2.1.length : Int)) (p := (K.2.1.getD (K.2.1.length - 1) (0, 0, 0, (0, 0, []), 0, 0, 0)).2.1) (h := (K.1.length : Int)) (kd := kd) (ba := (ba : Int)) (m := wh) (en := ec) (tn := (tr.length : Int)) (ky := Y 217 ((K.1.length : Int) - 1)) (vy := Y 218 ((K.1.length : Int) - 1)) (fl := fl) (fi := fi) (st := Y 133 gb) hP l4 l5 l7 l8 l12 ⟨by omega, by omega⟩ ⟨by omega, by omega⟩ h72 ⟨hm.1.1, hw4⟩ a1 htr.1 ⟨by omega, htr.2.2.1.1, htr.2.2.1.2⟩ (by have := htr.2.2.2; have := htr.2.2.1.2; omega) rfl rfl (br_E hE ⟨Or.inl (by first | decide | omega), by decide⟩ rfl (by omega) (by omega)) (lr_E hE ⟨Or.inl (by first | decide | omega), by decide⟩ rfl (by omega) (by omega)) hmf ⟨hsf.1.1, hf4⟩ b2 hfi l10 a3 (by rw [a4, hpc]; rfl) t1 t4 hl14 ⟨hz16, hz10⟩ ⟨hgb.1, by omega⟩ rfl ⟨z1, hfr.1, hfr.2.2, by omega⟩ rfl rfl (br_E hE ⟨Or.inl (by first | decide | omega), by decide⟩ rfl (by omega) (by omega)) (lr_E hE ⟨Or.inl (by first | decide | omega), by decide⟩ rfl (by omega) (by omega))) (fun o V hq => ?_))
  obtain ⟨rfl, hq⟩ := hq
  refine ⟨rfl, ?_⟩
  rcases hq with hq | ⟨q1, hq⟩
  · exact Or.inl hq
  · obtain ⟨g1, A, B, hA, hB, hF⟩ := cmT (w := 215) (a := gvA T gb fi) (by omega) hK k0 hba k1 y16 htr (by omega) hu (fun _ _ z => z.elim) (fun A B hA hB => ⟨cVl_mo z3 (cmF_g hA hB).1, cmF_g hA hB⟩) hq
    exact Or.inr ⟨by omega, g1⟩)
theorem amj_162_215 {fl fi : Int} (h : rdC 215 kd ec ba gk gb es x l K T L G Y) (hKC : KC 176 186 182 203 204 163 162 HT cs ms os Y) (h72 : Y 72 1 = 162) (hl12 : l = 1 ∨ l = 2) (he51 : Y 51 x = wh) (hm : (0 ≤ wh ∧ wh < (ms.length : Int)) ∧ (hmR ms wh).2.1 = 1) (htr : cTrc Y tr) (hg : arG K ba ec ar) (hmf : Y 201 wh = fl) (hsf : isIf ms fl) (hfi : Y 201 fl = fi) (hgb : 0 ≤ gb ∧ gb < (T.length : Int)) (hfr : 0 ≤ fi ∧ fi < ((tO T gb).2.2.2.2.2.2.length : Int) ∧ fi ≤ 1000) (hpc : (hmR ms wh).2.2.2.2.1.length = 1) (hec : ec = 1) : wJ (pe_GA xs) wY0 (mS [217, 218, 152]) (d + 7) t_XL_act ((pe_at t_XL_act.bl 0).getD (0, [])).2 [(0, (2, 158)), (1, (0, x))] [] Y (fun o V => o = .inl none ∧ ((100000 < (tr.length : Int) + 2 ∧ w_up Y 215 16 99 = V) ∨ ((tr.length : Int) + 2 ≤ 100000 ∧ cmPt 215 K ba kd (0, 0, []) wh ec tr cMv Y V ∧ cWd V (tSp T gb fi.toNat (K.1.getD (ba + 1) (0, 0, []))) L G))) := wJ_E (fun hE => by
  obtain ⟨⟨h, hW, hl, hT⟩, ⟨l4, l5, l7, l8, l9, l10, l12, l13⟩, y16, ⟨hx, e48⟩, hba⟩ := h
  have hP := xP_of (w := 215) (by omega) h
  rw [← w_up_eta y16] at hP
  obtain ⟨hTh, hCa, -, ⟨⟨m1, m2, m3, m4⟩, hl14, ⟨c0, c1⟩, hz16, hz10⟩, ⟨t1, t2, t3, t4⟩, -⟩ := id hW
  obtain ⟨hK, ⟨hC, hI⟩, ⟨k0, k1, -⟩, -⟩ := id h
  have hn4 := hKC.2.2.2.2.1.1
  have hw4 : wh < 400 := by have := hm.1.2; omega
  obtain ⟨⟨-, a1, a2, a3⟩, ⟨a4, -⟩, -⟩ := mrA hKC.2.2.2.2.1 hm.1
  replace a1 : Y 187 wh = 1 := a1.trans hm.2
  have hg1 := hg.1
  have hu := c_at hK (i := K.1.length - 1) (by omega) (j := (K.1.length : Int) - 1) (by omega)
  replace hu : cVl Y (Y 217 ((K.1.length : Int) - 1)) (Y 218 ((K.1.length : Int) - 1)) (K.1.getD (K.1.length - 1) (0, 0, [])) := hu
  have p3 : (K.1.length : Int) ≤ Y 217 (-1) := hK.1.2.2.1
  have p4 : Y 218 (-1) = Y 217 (-1) := hK.1.2.2.2.1
  obtain ⟨⟨-, b1, b2, -⟩, -⟩ := mrA hKC.2.2.2.2.1 hsf.1
  replace b2 : Y 188 fl = _ := b2.trans hsf.2.2
  have hf4 : fl < 400 := by have := hsf.1.2; omega
  obtain ⟨⟨z1, z2⟩, z3⟩ := cell_v (hd := gb) (wh := fi) hW hgb ⟨hfr.1, hfr.2.1⟩
  have hb1 : ba + 1 < K.1.length := by omega
  have hu1 := c_at hK (i := ba + 1) hb1 (j := (ba : Int) + 1) (by omega)
  replace hu1 : cVl Y (Y 217 ((ba : Int) + 1)) (Y 218 ((ba : Int) + 1)) (K.1.getD (ba + 1) (0, 0, [])) := hu1
  refine acha_162_215 (d := d + 6) hC hI hl h72 hx e48 hl12 he51 ⟨hm.1.1, hw4⟩ a1 (by omega) (R := fun V => ((100000 < (tr.length : Int) + 2 ∧ w_up Y 215 16 99 = V) ∨ ((tr.length : Int) + 2 ≤ 100000 ∧ cmPt 215 K ba kd (0, 0, []) wh ec tr cMv Y V ∧ cWd V (tSp T gb fi.toNat (K.1.getD (ba + 1) (0, 0, []))) L G))) (wJ_mono (cms0_162_215 (d := d) (c := (K.2.1.length : Int)) (p := (K.2.1.getD (K.2.1.length - 1) (0, 0, 0, (0, 0, []), 0, 0, 0)).2.1) (h := (K.1.length : Int)) (kd := kd) (ba := (ba : Int)) (m := wh) (en := ec) (tn := (tr.length : Int)) (ky := Y 217 ((K.1.length : Int) - 1)) (vy := Y 218 ((K.1.length : Int) - 1)) (fl := fl) (fi := fi) (st := Y 133 gb) hP l4 l5 l7 l8 l12 ⟨by omega, by omega⟩ ⟨by omega, by omega⟩ h72 ⟨hm.1.1, hw4⟩ a1 htr.1 ⟨by omega, htr.2.2.1.1, htr.2.2.1.2⟩ (by have := htr.2.2.2; have := htr.2.2.1.2; omega) rfl rfl (br_E hE ⟨Or.inl (by first | decide | omega), by decide⟩ rfl (by omega) (by omega)) (lr_E hE ⟨Or.inl (by first | decide | omega), by decide⟩ rfl (by omega) (by omega)) hmf ⟨hsf.1.1, hf4⟩ b2 hfi l10 a3 (by rw [a4, hpc]; rfl) t1 t4 hl14 ⟨hz16, hz10⟩ ⟨hgb.1, by omega⟩ rfl ⟨z1, hfr.1, hfr.2.2, by omega⟩ (by omega) rfl rfl) (fun o V hq => ?_))
  obtain ⟨rfl, hq⟩ := hq
  refine ⟨rfl, ?_⟩
  rcases hq with hq | ⟨q1, hq⟩
  · exact Or.inl hq
  · obtain ⟨g1, A, B, hA, hB, hF⟩ := cmT (w := 215) (a := (0, 0, [])) (mk := cMv) (by omega) hK k0 hba k1 y16 htr (by omega) hu (fun j x z => by unfold cMv at z; omega) (fun A B hA hB => ⟨cV_e (by first | decide | omega) rfl, cmF_s hA (by omega) (by first | decide | omega) (by first | decide | omega) hB⟩) hq
    have eA : ∀ (j : Nat) (x : Int), j < 4000000 → j ≠ wG → j ≠ 152 → (j ≠ 72 ∨ x ≠ 15) → A j x = Y j x := hA.2.2.2.1
    have xA : cTx Y A := cTx_of (eA 2 1 (by first | decide | omega) (by first | decide | omega) (by first | decide | omega) (by first | decide | omega)) (fun i => eA 3 i (by first | decide | omega) (by first | decide | omega) (by first | decide | omega) (by omega))
    have hWA : cWd A T L G := cWd_ag hW xA (fun j i hj => by unfold cWo at hj; exact eA j i (by omega) (by unfold wG; omega) (by omega) (by omega))
    have e13 : A 133 gb = Y 133 gb := eA 133 gb (by first | decide | omega) (by first | decide | omega) (by first | decide | omega) (by omega)
    have ew : ((fi.toNat : Nat) : Int) = fi := by omega
    have hWB := cWd_sp (k := gb) (i := fi.toNat) hWA hgb.1 hgb.2 (by omega) (cVl_mo hu1 xA)
    rw [ew, e13] at hWB
    have hWC := cWd_ag (Z := B) hWB (cTx_of (hB 2 1 (Or.inl (by first | decide | omega))) (fun i => hB 3 i (Or.inl (by first | decide | omega)))) (fun j i hj => hB j i (by unfold cWo at hj; omega))
    exact Or.inr ⟨by omega, g1, cWd_fr (w := 215) (by omega) hWC hF⟩)
theorem amt_162_215 (h : rdC 215 kd ec ba gk gb es x l K T L G Y) (hKC : KC 176 186 182 203 204 163 162 HT cs ms os Y) (h72 : Y 72 1 = 162) (hl12 : l = 1 ∨ l = 2) (he51 : Y 51 x = wh) (hm : (0 ≤ wh ∧ wh < (ms.length : Int)) ∧ (hmR ms wh).2.1 = 1) (htr : cTrc Y tr) (hg : arG K ba ec ar) (hwH : wHo cs ms os) (hty : 8 ≤ (hmR ms wh).2.2.2.1 ∧ (hmR ms wh).2.2.2.1 < 9 + (cs.length : Int)) (hmf : Y 201 wh = -1) (hsb : (hmR ms wh).2.2.1 = 0 ∨ (hmR ms wh).2.2.1 = 1) (hgv : cVl Y gk gb (K.1.getD ba (0, 0, []))) (hgr : -9223372036854775808 ≤ gb ∧ gb ≤ 9223372036854775807) (hrv : vOk T (K.1.getD ba (0, 0, [])) ∧ ((K.1.getD ba (0, 0, [])).1 = 7 → (tO T (K.1.getD ba (0, 0, [])).2.1).2.2.1 < (cs.length : Int))) (hav : ∀ u ∈ ar, vOk T u ∧ (u.1 = 7 → (tO T u.2.1).2.2.1 < (cs.length : Int))) : wJ (pe_GA xs) wY0 (mS [217, 218, 152]) (d + 7) t_XL_act ((pe_at t_XL_act.bl 0).getD (0, [])).2 [(0, (2, 158)), (1, (0, x))] [] Y (fun o V => o = .inl none ∧ ((100000 < (tr.length : Int) + 2 ∧ w_up Y 215 16 99 = V) ∨ ((tr.length : Int) + 2 ≤ 100000 ∧ cmPt 215 K ba kd (anV cs T (hmR ms wh).2.2.1 (hmR ms wh).2.2.2.1 (K.1.getD ba (0, 0, [])) ar) wh ec tr (fun _ _ => False) Y V))) := wJ_E (fun hE => by
  obtain ⟨⟨h, hW, hl, hT⟩, ⟨l4, l5, l7, l8, l9, l10, l12, l13⟩, y16, ⟨hx, e48⟩, hba⟩ := h
  have hP := xP_of (w := 215) (by omega) h
  rw [← w_up_eta y16] at hP
  obtain ⟨hTh, hCa, -, ⟨⟨m1, m2, m3, m4⟩, hl14, ⟨c0, c1⟩, hz16, hz10⟩, ⟨t1, t2, t3, t4⟩, -⟩ := id hW
  obtain ⟨hK, ⟨hC, hI⟩, ⟨k0, k1, -⟩, -⟩ := id h
  have hn4 := hKC.2.2.2.2.1.1
  have hw4 : wh < 400 := by have := hm.1.2; omega
  obtain ⟨⟨-, a1, a2, a3⟩, ⟨a4, -⟩, -⟩ := mrA hKC.2.2.2.2.1 hm.1
  replace a1 : Y 187 wh = 1 := a1.trans hm.2
  have hg1 := hg.1
  have hu := c_at hK (i := K.1.length - 1) (by omega) (j := (K.1.length : Int) - 1) (by omega)
  replace hu : cVl Y (Y 217 ((K.1.length : Int) - 1)) (Y 218 ((K.1.length : Int) - 1)) (K.1.getD (K.1.length - 1) (0, 0, [])) := hu
  have p3 : (K.1.length : Int) ≤ Y 217 (-1) := hK.1.2.2.1
  have p4 : Y 218 (-1) = Y 217 (-1) := hK.1.2.2.2.1
  have hok : ∀ i : Nat, i < (pEs Y 217 218 ((ba : Int) + 1) ar.length).length → okV (cs.length : Int) T Y ((pEs Y 217 218 ((ba : Int) + 1) ar.length).getD i (0, 0)) := fun i hi => by
    rw [pEs_l] at hi
    rw [pEs_g hi]
    have z := ar_c (w := 215) hK hg hi
    replace z : cVl Y (Y 217 ((ba : Int) + 1 + (i : Int))) (Y 218 ((ba : Int) + 1 + (i : Int))) (ar.getD i (0, 0, [])) := z
    obtain ⟨o1, o2⟩ := hav _ (show ar.getD i (0, 0, []) ∈ ar by rw [List.getD_eq_getElem?_getD, List.getElem?_eq_getElem hi]; exact List.getElem_mem _)
    refine ⟨by show 0 ≤ Y 217 _ ∧ Y 217 _ ≤ 8; rw [z.1]; exact o1.1, lr_E hE ⟨Or.inl (by first | decide | omega), by decide⟩ rfl (by omega) (by omega), fun c => ?_⟩
    replace c : Y 217 ((ba : Int) + 1 + (i : Int)) = 7 := c
    have c7 : (ar.getD i (0, 0, [])).1 = 7 := z.1.symm.trans c
    have eb := (z.2.1 (by omega)).1
    obtain ⟨x1, x2⟩ := o1.2.1 (by omega) (by omega)
    show 0 ≤ Y 218 _ ∧ Y 218 _ < _ ∧ 0 ≤ Y 129 (Y 218 _) ∧ Y 129 (Y 218 _) < _
    rw [eb]
    obtain ⟨⟨-, -, y3, -⟩, -⟩ := hTh.2 (ar.getD i (0, 0, [])).2.1.toNat (by omega)
    rw [show (((ar.getD i (0, 0, [])).2.1.toNat : Nat) : Int) = (ar.getD i (0, 0, [])).2.1 by omega] at y3
    replace y3 : Y 129 (ar.getD i (0, 0, [])).2.1 = (tO T (ar.getD i (0, 0, [])).2.1).2.2.1 := y3
    rw [y3]
    exact ⟨x1.1, x1.2, (o1.2.2.2.1 c7).1, o2 c7⟩
  have isE : ∀ (k b : Int) (u : aV), cVl Y k b u → vOk T u → isB cs Y k b (hmR ms wh).2.2.2.1 = isA cs T (hmR ms wh).2.2.2.1 u := fun k b u z o => by
    unfold isB isA
    rw [z.1]
    by_cases c7 : u.1 = 7
    · have eb := (z.2.1 (by omega)).1
      obtain ⟨x1, x2⟩ := o.2.1 (by omega) (by omega)
      obtain ⟨⟨-, -, y3, -⟩, -⟩ := hTh.2 u.2.1.toNat (by omega)
      rw [show ((u.2.1.toNat : Nat) : Int) = u.2.1 by omega] at y3
      replace y3 : Y 129 u.2.1 = (tO T u.2.1).2.2.1 := y3
      rw [eb, y3]
    · rw [decide_eq_false c7, Bool.false_and, Bool.false_and]
  have hrc := c_at hK (i := ba) hba (j := (ba : Int)) rfl
  replace hrc : cVl Y (Y 217 (ba : Int)) (Y 218 (ba : Int)) (K.1.getD ba (0, 0, [])) := hrc
  have hval : cVl Y ((anX cs Y (hmR ms wh).2.2.1 gk gb (hmR ms wh).2.2.2.1 (pEs Y 217 218 ((ba : Int) + 1) ar.length)).getD (0, 0)).1 ((anX cs Y (hmR ms wh).2.2.1 gk gb (hmR ms wh).2.2.2.1 (pEs Y 217 218 ((ba : Int) + 1) ar.length)).getD (0, 0)).2 (anV cs T (hmR ms wh).2.2.1 (hmR ms wh).2.2.2.1 (K.1.getD ba (0, 0, [])) ar) := by
    unfold anX anV
    rw [isE gk gb _ hgv hrv.1]
    split
    · exact hgv
    · refine find_pEs ar ((ba : Int) + 1) (fun i hi => ?_)
      have z := ar_c (w := 215) hK hg hi
      replace z : cVl Y (Y 217 ((ba : Int) + 1 + (i : Int))) (Y 218 ((ba : Int) + 1 + (i : Int))) (ar.getD i (0, 0, [])) := z
      refine ⟨z, ?_⟩
      obtain ⟨o1, -⟩ := hav _ (show ar.getD i (0, 0, []) ∈ ar by rw [List.getD_eq_getElem?_getD, List.getElem?_eq_getElem hi]; exact List.getElem_mem _)
      show (decide (Y 217 _ ≠ 0) && isB cs Y (Y 217 _) (Y 218 _) _) = _
      rw [isE _ _ _ z o1, z.1]
  have hgo : okV (cs.length : Int) T Y (gk, gb) := by
    refine ⟨by show 0 ≤ gk ∧ gk ≤ 8; rw [hgv.1]; exact hrv.1.1, hgr, fun c => ?_⟩
    replace c : gk = 7 := c
    have c7 : (K.1.getD ba (0, 0, [])).1 = 7 := hgv.1.symm.trans c
    have eb := (hgv.2.1 (by omega)).1
    obtain ⟨x1, x2⟩ := hrv.1.2.1 (by omega) (by omega)
    show 0 ≤ gb ∧ gb < _ ∧ 0 ≤ Y 129 gb ∧ Y 129 gb < _
    rw [eb]
    obtain ⟨⟨-, -, y3, -⟩, -⟩ := hTh.2 (K.1.getD ba (0, 0, [])).2.1.toNat (by omega)
    rw [show (((K.1.getD ba (0, 0, [])).2.1.toNat : Nat) : Int) = (K.1.getD ba (0, 0, [])).2.1 by omega] at y3
    replace y3 : Y 129 (K.1.getD ba (0, 0, [])).2.1 = (tO T (K.1.getD ba (0, 0, [])).2.1).2.2.1 := y3
    rw [y3]
    exact ⟨x1.1, x1.2, (hrv.1.2.2.2.1 c7).1, hrv.2 c7⟩
  refine acha_162_215 (d := d + 6) hC hI hl h72 hx e48 hl12 he51 ⟨hm.1.1, hw4⟩ a1 (by omega) (R := fun V => ((100000 < (tr.length : Int) + 2 ∧ w_up Y 215 16 99 = V) ∨ ((tr.length : Int) + 2 ≤ 100000 ∧ cmPt 215 K ba kd (anV cs T (hmR ms wh).2.2.1 (hmR ms wh).2.2.2.1 (K.1.getD ba (0, 0, [])) ar) wh ec tr (fun _ _ => False) Y V))) (wJ_mono (cmt_162_215 (d := d) (c := (K.2.1.length : Int)) (p := (K.2.1.getD (K.2.1.length - 1) (0, 0, 0, (0, 0, []), 0, 0, 0)).2.1) (h := (K.1.length : Int)) (kd := kd) (ba := (ba : Int)) (m := wh) (en := ec) (tn := (tr.length : Int)) (ky := Y 217 ((K.1.length : Int) - 1)) (vy := Y 218 ((K.1.length : Int) - 1)) (Th := T) (es := (pEs Y 217 218 ((ba : Int) + 1) ar.length)) (ty := (hmR ms wh).2.2.2.1) (sb := (hmR ms wh).2.2.1) (gk := gk) (gb := gb) hP l4 l5 l7 l8 l12 ⟨by omega, by omega⟩ ⟨by omega, by omega⟩ h72 ⟨hm.1.1, hw4⟩ a1 htr.1 ⟨by omega, htr.2.2.1.1, htr.2.2.1.2⟩ (by have := htr.2.2.2; have := htr.2.2.1.2; omega) rfl rfl (br_E hE ⟨Or.inl (by first | decide | omega), by decide⟩ rfl (by omega) (by omega)) (lr_E hE ⟨Or.inl (by first | decide | omega), by decide⟩ rfl (by omega) (by omega)) hKC hwH ⟨t1, t2, t3, t4⟩ hT hty a3 hmf a2 hsb (by rw [pEs_l]; exact hg.1.1.symm) (by omega) (fun i hi => by rw [pEs_l] at hi; rw [pEs_g hi]; exact ⟨rfl, rfl⟩) hok l9 l10 hgo) (fun o V hq => ?_))
  obtain ⟨rfl, hq⟩ := hq
  refine ⟨rfl, ?_⟩
  rcases hq with hq | ⟨q1, hq⟩
  · exact Or.inl hq
  · obtain ⟨g1, A, B, hA, hB, hF⟩ := cmT (w := 215) (a := (anV cs T (hmR ms wh).2.2.1 (hmR ms wh).2.2.2.1 (K.1.getD ba (0, 0, [])) ar)) (by omega) hK k0 hba k1 y16 htr (by omega) hu (fun _ _ z => z.elim) (fun A B hA hB => ⟨cVl_mo hval (cmF_g hA hB).1, cmF_g hA hB⟩) hq
    exact Or.inr ⟨by omega, g1⟩)
theorem amv_162_226 (h : rdC 226 kd ec ba gk gb es x l K T L G Y) (hKC : KC 176 186 182 203 204 163 162 HT cs ms os Y) (h72 : Y 72 1 = 162) (hl12 : l = 1 ∨ l = 2) (he51 : Y 51 x = wh) (hm : (0 ≤ wh ∧ wh < (ms.length : Int)) ∧ (hmR ms wh).2.1 = 1) (htr : cTrc Y tr) (hg : arG K ba ec ar) (hty : (hmR ms wh).2.2.2.1 = 0) (hmf : Y 201 wh = -1) : wJ (pe_GA xs) wY0 (mS [228, 229, 152]) (d + 7) t_XL_act ((pe_at t_XL_act.bl 0).getD (0, [])).2 [(0, (2, 158)), (1, (0, x))] [] Y (fun o V => o = .inl none ∧ ((100000 < (tr.length : Int) + 2 ∧ w_up Y 226 16 99 = V) ∨ ((tr.length : Int) + 2 ≤ 100000 ∧ cmPt 226 K ba kd (0, 0, []) wh ec tr (fun _ _ => False) Y V))) := wJ_E (fun hE => by
  obtain ⟨⟨h, hW, hl, hT⟩, ⟨l4, l5, l7, l8, l9, l10, l12, l13⟩, y16, ⟨hx, e48⟩, hba⟩ := h
  have hP := xP_of (w := 226) (by omega) h
  rw [← w_up_eta y16] at hP
  obtain ⟨hTh, hCa, -, ⟨⟨m1, m2, m3, m4⟩, hl14, ⟨c0, c1⟩, hz16, hz10⟩, ⟨t1, t2, t3, t4⟩, -⟩ := id hW
  obtain ⟨hK, ⟨hC, hI⟩, ⟨k0, k1, -⟩, -⟩ := id h
  have hn4 := hKC.2.2.2.2.1.1
  have hw4 : wh < 400 := by have := hm.1.2; omega
  obtain ⟨⟨-, a1, a2, a3⟩, ⟨a4, -⟩, -⟩ := mrA hKC.2.2.2.2.1 hm.1
  replace a1 : Y 187 wh = 1 := a1.trans hm.2
  have hg1 := hg.1
  have hu := c_at hK (i := K.1.length - 1) (by omega) (j := (K.1.length : Int) - 1) (by omega)
  replace hu : cVl Y (Y 228 ((K.1.length : Int) - 1)) (Y 229 ((K.1.length : Int) - 1)) (K.1.getD (K.1.length - 1) (0, 0, [])) := hu
  have p3 : (K.1.length : Int) ≤ Y 228 (-1) := hK.1.2.2.1
  have p4 : Y 229 (-1) = Y 228 (-1) := hK.1.2.2.2.1
  refine acha_162_226 (d := d + 6) hC hI hl h72 hx e48 hl12 he51 ⟨hm.1.1, hw4⟩ a1 (by omega) (R := fun V => ((100000 < (tr.length : Int) + 2 ∧ w_up Y 226 16 99 = V) ∨ ((tr.length : Int) + 2 ≤ 100000 ∧ cmPt 226 K ba kd (0, 0, []) wh ec tr (fun _ _ => False) Y V))) (wJ_mono (cmv_162_226 (d := d) (c := (K.2.1.length : Int)) (p := (K.2.1.getD (K.2.1.length - 1) (0, 0, 0, (0, 0, []), 0, 0, 0)).2.1) (h := (K.1.length : Int)) (kd := kd) (ba := (ba : Int)) (m := wh) (en := ec) (tn := (tr.length : Int)) (ky := Y 228 ((K.1.length : Int) - 1)) (vy := Y 229 ((K.1.length : Int) - 1)) hP l4 l5 l7 l8 l12 ⟨by omega, by omega⟩ ⟨by omega, by omega⟩ h72 ⟨hm.1.1, hw4⟩ a1 htr.1 ⟨by omega, htr.2.2.1.1, htr.2.2.1.2⟩ (by have := htr.2.2.2; have := htr.2.2.1.2; omega) rfl rfl (br_E hE ⟨Or.inl (by first | decide | omega), by decide⟩ rfl (by omega) (by omega)) (lr_E hE ⟨Or.inl (by first | decide | omega), by decide⟩ rfl (by omega) (by omega)) (a3.trans hty) hmf) (fun o V hq => ?_))
  obtain ⟨rfl, hq⟩ := hq
  refine ⟨rfl, ?_⟩
  rcases hq with hq | ⟨q1, hq⟩
  · exact Or.inl hq
  · obtain ⟨g1, A, B, hA, hB, hF⟩ := cmT (w := 226) (a := (0, 0, [])) (by omega) hK k0 hba k1 y16 htr (by omega) hu (fun _ _ z => z.elim) (fun A B hA hB => ⟨cV_e (by first | decide | omega) rfl, cmF_g hA hB⟩) hq
    exact Or.inr ⟨by omega, g1⟩)
theorem amb_162_226 (h : rdC 226 kd ec ba gk gb es x l K T L G Y) (hKC : KC 176 186 182 203 204 163 162 HT cs ms os Y) (h72 : Y 72 1 = 162) (hl12 : l = 1 ∨ l = 2) (he51 : Y 51 x = wh) (hm : (0 ≤ wh ∧ wh < (ms.length : Int)) ∧ (hmR ms wh).2.1 = 1) (htr : cTrc Y tr) (hg : arG K ba ec ar) (hty : 1 ≤ (hmR ms wh).2.2.2.1 ∧ (hmR ms wh).2.2.2.1 ≤ 6) (hmf : Y 201 wh = -1) : wJ (pe_GA xs) wY0 (mS [228, 229, 152]) (d + 7) t_XL_act ((pe_at t_XL_act.bl 0).getD (0, [])).2 [(0, (2, 158)), (1, (0, x))] [] Y (fun o V => o = .inl none ∧ ((100000 < (tr.length : Int) + 2 ∧ w_up Y 226 16 99 = V) ∨ ((tr.length : Int) + 2 ≤ 100000 ∧ cmPt 226 K ba kd (anK (hmR ms wh).2.2.2.1, anB (hmR ms wh).2.2.2.1 (anS wh (aEs ar)), []) wh ec tr (fun _ _ => False) Y V))) := wJ_E (fun hE => by
  obtain ⟨⟨h, hW, hl, hT⟩, ⟨l4, l5, l7, l8, l9, l10, l12, l13⟩, y16, ⟨hx, e48⟩, hba⟩ := h
  have hP := xP_of (w := 226) (by omega) h
  rw [← w_up_eta y16] at hP
  obtain ⟨hTh, hCa, -, ⟨⟨m1, m2, m3, m4⟩, hl14, ⟨c0, c1⟩, hz16, hz10⟩, ⟨t1, t2, t3, t4⟩, -⟩ := id hW
  obtain ⟨hK, ⟨hC, hI⟩, ⟨k0, k1, -⟩, -⟩ := id h
  have hn4 := hKC.2.2.2.2.1.1
  have hw4 : wh < 400 := by have := hm.1.2; omega
  obtain ⟨⟨-, a1, a2, a3⟩, ⟨a4, -⟩, -⟩ := mrA hKC.2.2.2.2.1 hm.1
  replace a1 : Y 187 wh = 1 := a1.trans hm.2
  have hg1 := hg.1
  have hu := c_at hK (i := K.1.length - 1) (by omega) (j := (K.1.length : Int) - 1) (by omega)
  replace hu : cVl Y (Y 228 ((K.1.length : Int) - 1)) (Y 229 ((K.1.length : Int) - 1)) (K.1.getD (K.1.length - 1) (0, 0, [])) := hu
  have p3 : (K.1.length : Int) ≤ Y 228 (-1) := hK.1.2.2.1
  have p4 : Y 229 (-1) = Y 228 (-1) := hK.1.2.2.2.1
  have eS : anS wh (pEs Y 228 229 ((ba : Int) + 1) ar.length) = anS wh (aEs ar) := anS_cg _ _ _ (by rw [pEs_l]; unfold aEs; rw [List.length_map]) (fun i hi => by
    rw [pEs_l] at hi
    have z := ar_c (w := 226) hK hg hi
    rw [pEs_g hi]
    have e : (aEs ar).getD i (0, 0) = ((ar.getD i (0, 0, [])).1, (ar.getD i (0, 0, [])).2.1) := by
      unfold aEs
      rw [List.getD_eq_getElem?_getD, List.getElem?_map, List.getD_eq_getElem?_getD, List.getElem?_eq_getElem hi]
      rfl
    rw [e]
    exact ⟨z.1, fun c => (z.2.1 (by have := z.1; replace c : Y 228 ((ba : Int) + 1 + (i : Int)) = 2 := c; have zz : Y (226 + 2) ((ba : Int) + 1 + (i : Int)) = Y 228 ((ba : Int) + 1 + (i : Int)) := rfl; omega)).1⟩)
  refine acha_162_226 (d := d + 6) hC hI hl h72 hx e48 hl12 he51 ⟨hm.1.1, hw4⟩ a1 (by omega) (R := fun V => ((100000 < (tr.length : Int) + 2 ∧ w_up Y 226 16 99 = V) ∨ ((tr.length : Int) + 2 ≤ 100000 ∧ cmPt 226 K ba kd (anK (hmR ms wh).2.2.2.1, anB (hmR ms wh).2.2.2.1 (anS wh (aEs ar)), []) wh ec tr (fun _ _ => False) Y V))) (wJ_mono (cmn_162_226 (d := d) (c := (K.2.1.length : Int)) (p := (K.2.1.getD (K.2.1.length - 1) (0, 0, 0, (0, 0, []), 0, 0, 0)).2.1) (h := (K.1.length : Int)) (kd := kd) (ba := (ba : Int)) (m := wh) (en := ec) (tn := (tr.length : Int)) (ky := Y 228 ((K.1.length : Int) - 1)) (vy := Y 229 ((K.1.length : Int) - 1)) (es := (pEs Y 228 229 ((ba : Int) + 1) ar.length)) hP l4 l5 l7 l8 l12 ⟨by omega, by omega⟩ ⟨by omega, by omega⟩ h72 ⟨hm.1.1, hw4⟩ a1 htr.1 ⟨by omega, htr.2.2.1.1, htr.2.2.1.2⟩ (by have := htr.2.2.2; have := htr.2.2.1.2; omega) rfl rfl (br_E hE ⟨Or.inl (by first | decide | omega), by decide⟩ rfl (by omega) (by omega)) (lr_E hE ⟨Or.inl (by first | decide | omega), by decide⟩ rfl (by omega) (by omega)) a3 hmf hty (by rw [pEs_l]; exact hg.1.1.symm) (by omega) (fun i hi => by rw [pEs_l] at hi; rw [pEs_g hi]; exact ⟨rfl, rfl⟩)) (fun o V hq => ?_))
  obtain ⟨rfl, hq⟩ := hq
  refine ⟨rfl, ?_⟩
  rcases hq with hq | ⟨q1, hq⟩
  · exact Or.inl hq
  · obtain ⟨g1, A, B, hA, hB, hF⟩ := cmT (w := 226) (a := (anK (hmR ms wh).2.2.2.1, anB (hmR ms wh).2.2.2.1 (anS wh (aEs ar)), [])) (by omega) hK k0 hba k1 y16 htr (by omega) hu (fun _ _ z => z.elim) (fun A B hA hB => ⟨by rw [eS]; exact cV_e (by unfold anK; split <;> decide) rfl, cmF_g hA hB⟩) hq
    exact Or.inr ⟨by omega, g1⟩)
theorem amg_162_226 {fl : Int} (h : rdC 226 kd ec ba gk gb es x l K T L G Y) (hKC : KC 176 186 182 203 204 163 162 HT cs ms os Y) (h72 : Y 72 1 = 162) (hl12 : l = 1 ∨ l = 2) (he51 : Y 51 x = wh) (hm : (0 ≤ wh ∧ wh < (ms.length : Int)) ∧ (hmR ms wh).2.1 = 1) (htr : cTrc Y tr) (hg : arG K ba ec ar) (hmf : Y 201 wh = fl) (hsf : isSf ms fl) (hst : cStc 186 206 ms SF Y) (hpc : (hmR ms wh).2.2.2.2.1.length = 0) : wJ (pe_GA xs) wY0 (mS [228, 229, 152]) (d + 7) t_XL_act ((pe_at t_XL_act.bl 0).getD (0, [])).2 [(0, (2, 158)), (1, (0, x))] [] Y (fun o V => o = .inl none ∧ ((100000 < (tr.length : Int) + 2 ∧ w_up Y 226 16 99 = V) ∨ ((tr.length : Int) + 2 ≤ 100000 ∧ cmPt 226 K ba kd (SF fl) wh ec tr (fun _ _ => False) Y V))) := wJ_E (fun hE => by
  obtain ⟨⟨h, hW, hl, hT⟩, ⟨l4, l5, l7, l8, l9, l10, l12, l13⟩, y16, ⟨hx, e48⟩, hba⟩ := h
  have hP := xP_of (w := 226) (by omega) h
  rw [← w_up_eta y16] at hP
  obtain ⟨hTh, hCa, -, ⟨⟨m1, m2, m3, m4⟩, hl14, ⟨c0, c1⟩, hz16, hz10⟩, ⟨t1, t2, t3, t4⟩, -⟩ := id hW
  obtain ⟨hK, ⟨hC, hI⟩, ⟨k0, k1, -⟩, -⟩ := id h
  have hn4 := hKC.2.2.2.2.1.1
  have hw4 : wh < 400 := by have := hm.1.2; omega
  obtain ⟨⟨-, a1, a2, a3⟩, ⟨a4, -⟩, -⟩ := mrA hKC.2.2.2.2.1 hm.1
  replace a1 : Y 187 wh = 1 := a1.trans hm.2
  have hg1 := hg.1
  have hu := c_at hK (i := K.1.length - 1) (by omega) (j := (K.1.length : Int) - 1) (by omega)
  replace hu : cVl Y (Y 228 ((K.1.length : Int) - 1)) (Y 229 ((K.1.length : Int) - 1)) (K.1.getD (K.1.length - 1) (0, 0, [])) := hu
  have p3 : (K.1.length : Int) ≤ Y 228 (-1) := hK.1.2.2.1
  have p4 : Y 229 (-1) = Y 228 (-1) := hK.1.2.2.2.1
  obtain ⟨⟨-, b1, b2, -⟩, -⟩ := mrA hKC.2.2.2.2.1 hsf.1
  replace b2 : Y 188 fl = _ := b2.trans hsf.2.2
  have hf4 : fl < 400 := by have := hsf.1.2; omega
  have hst0 := hst
  obtain ⟨⟨s1, s2⟩, s3, -⟩ := hst
  obtain ⟨s4, s5⟩ := s3 fl hsf
  replace s1 : Y 207 (-1) = Y 206 (-1) := s1
  replace s4 : 0 ≤ Y 201 fl ∧ Y 201 fl < Y 206 (-1) := s4
  refine acha_162_226 (d := d + 6) hC hI hl h72 hx e48 hl12 he51 ⟨hm.1.1, hw4⟩ a1 (by omega) (R := fun V => ((100000 < (tr.length : Int) + 2 ∧ w_up Y 226 16 99 = V) ∨ ((tr.length : Int) + 2 ≤ 100000 ∧ cmPt 226 K ba kd (SF fl) wh ec tr (fun _ _ => False) Y V))) (wJ_mono (cmg1_162_226 (d := d) (c := (K.2.1.length : Int)) (p := (K.2.1.getD (K.2.1.length - 1) (0, 0, 0, (0, 0, []), 0, 0, 0)).2.1) (h := (K.1.length : Int)) (kd := kd) (ba := (ba : Int)) (m := wh) (en := ec) (tn := (tr.length : Int)) (ky := Y 228 ((K.1.length : Int) - 1)) (vy := Y 229 ((K.1.length : Int) - 1)) (fl := fl) (fi := Y 201 fl) hP l4 l5 l7 l8 l12 ⟨by omega, by omega⟩ ⟨by omega, by omega⟩ h72 ⟨hm.1.1, hw4⟩ a1 htr.1 ⟨by omega, htr.2.2.1.1, htr.2.2.1.2⟩ (by have := htr.2.2.2; have := htr.2.2.1.2; omega) rfl rfl (br_E hE ⟨Or.inl (by first | decide | omega), by decide⟩ rfl (by omega) (by omega)) (lr_E hE ⟨Or.inl (by first | decide | omega), by decide⟩ rfl (by omega) (by omega)) hmf ⟨hsf.1.1, hf4⟩ b2 rfl l10 a3 (by rw [a4, hpc]; rfl) s1 ⟨s4.1, s4.2, s2⟩ rfl rfl (br_E hE ⟨Or.inl (by first | decide | omega), by decide⟩ rfl (by omega) (by omega)) (lr_E hE ⟨Or.inl (by first | decide | omega), by decide⟩ rfl (by omega) (by omega))) (fun o V hq => ?_))
  obtain ⟨rfl, hq⟩ := hq
  refine ⟨rfl, ?_⟩
  rcases hq with hq | ⟨q1, hq⟩
  · exact Or.inl hq
  · obtain ⟨g1, A, B, hA, hB, hF⟩ := cmT (w := 226) (a := SF fl) (by omega) hK k0 hba k1 y16 htr (by omega) hu (fun _ _ z => z.elim) (fun A B hA hB => ⟨cVl_mo s5 (cmF_g hA hB).1, cmF_g hA hB⟩) hq
    exact Or.inr ⟨by omega, g1⟩)
theorem ams_162_226 {fl : Int} (h : rdC 226 kd ec ba gk gb es x l K T L G Y) (hKC : KC 176 186 182 203 204 163 162 HT cs ms os Y) (h72 : Y 72 1 = 162) (hl12 : l = 1 ∨ l = 2) (he51 : Y 51 x = wh) (hm : (0 ≤ wh ∧ wh < (ms.length : Int)) ∧ (hmR ms wh).2.1 = 1) (htr : cTrc Y tr) (hg : arG K ba ec ar) (hmf : Y 201 wh = fl) (hsf : isSf ms fl) (hst : cStc 186 206 ms SF Y) (hpc : (hmR ms wh).2.2.2.2.1.length = 1) (hec : ec = 1) : wJ (pe_GA xs) wY0 (mS [228, 229, 152]) (d + 7) t_XL_act ((pe_at t_XL_act.bl 0).getD (0, [])).2 [(0, (2, 158)), (1, (0, x))] [] Y (fun o V => o = .inl none ∧ ((100000 < (tr.length : Int) + 2 ∧ w_up Y 226 16 99 = V) ∨ ((tr.length : Int) + 2 ≤ 100000 ∧ cmPt 226 K ba kd (0, 0, []) wh ec tr (cMf 206) Y V ∧ cStc 186 206 ms (sfU SF fl (K.1.getD (ba + 1) (0, 0, []))) V))) := wJ_E (fun hE => by
  obtain ⟨⟨h, hW, hl, hT⟩, ⟨l4, l5, l7, l8, l9, l10, l12, l13⟩, y16, ⟨hx, e48⟩, hba⟩ := h
  have hP := xP_of (w := 226) (by omega) h
  rw [← w_up_eta y16] at hP
  obtain ⟨hTh, hCa, -, ⟨⟨m1, m2, m3, m4⟩, hl14, ⟨c0, c1⟩, hz16, hz10⟩, ⟨t1, t2, t3, t4⟩, -⟩ := id hW
  obtain ⟨hK, ⟨hC, hI⟩, ⟨k0, k1, -⟩, -⟩ := id h
  have hn4 := hKC.2.2.2.2.1.1
  have hw4 : wh < 400 := by have := hm.1.2; omega
  obtain ⟨⟨-, a1, a2, a3⟩, ⟨a4, -⟩, -⟩ := mrA hKC.2.2.2.2.1 hm.1
  replace a1 : Y 187 wh = 1 := a1.trans hm.2
  have hg1 := hg.1
  have hu := c_at hK (i := K.1.length - 1) (by omega) (j := (K.1.length : Int) - 1) (by omega)
  replace hu : cVl Y (Y 228 ((K.1.length : Int) - 1)) (Y 229 ((K.1.length : Int) - 1)) (K.1.getD (K.1.length - 1) (0, 0, [])) := hu
  have p3 : (K.1.length : Int) ≤ Y 228 (-1) := hK.1.2.2.1
  have p4 : Y 229 (-1) = Y 228 (-1) := hK.1.2.2.2.1
  obtain ⟨⟨-, b1, b2, -⟩, -⟩ := mrA hKC.2.2.2.2.1 hsf.1
  replace b2 : Y 188 fl = _ := b2.trans hsf.2.2
  have hf4 : fl < 400 := by have := hsf.1.2; omega
  have hst0 := hst
  obtain ⟨⟨s1, s2⟩, s3, -⟩ := hst
  obtain ⟨s4, s5⟩ := s3 fl hsf
  replace s1 : Y 207 (-1) = Y 206 (-1) := s1
  replace s4 : 0 ≤ Y 201 fl ∧ Y 201 fl < Y 206 (-1) := s4
  have hb1 : ba + 1 < K.1.length := by omega
  have hu1 := c_at hK (i := ba + 1) hb1 (j := (ba : Int) + 1) (by omega)
  replace hu1 : cVl Y (Y 228 ((ba : Int) + 1)) (Y 229 ((ba : Int) + 1)) (K.1.getD (ba + 1) (0, 0, [])) := hu1
  refine acha_162_226 (d := d + 6) hC hI hl h72 hx e48 hl12 he51 ⟨hm.1.1, hw4⟩ a1 (by omega) (R := fun V => ((100000 < (tr.length : Int) + 2 ∧ w_up Y 226 16 99 = V) ∨ ((tr.length : Int) + 2 ≤ 100000 ∧ cmPt 226 K ba kd (0, 0, []) wh ec tr (cMf 206) Y V ∧ cStc 186 206 ms (sfU SF fl (K.1.getD (ba + 1) (0, 0, []))) V))) (wJ_mono (cms1_162_226 (d := d) (c := (K.2.1.length : Int)) (p := (K.2.1.getD (K.2.1.length - 1) (0, 0, 0, (0, 0, []), 0, 0, 0)).2.1) (h := (K.1.length : Int)) (kd := kd) (ba := (ba : Int)) (m := wh) (en := ec) (tn := (tr.length : Int)) (ky := Y 228 ((K.1.length : Int) - 1)) (vy := Y 229 ((K.1.length : Int) - 1)) (fl := fl) (fi := Y 201 fl) hP l4 l5 l7 l8 l12 ⟨by omega, by omega⟩ ⟨by omega, by omega⟩ h72 ⟨hm.1.1, hw4⟩ a1 htr.1 ⟨by omega, htr.2.2.1.1, htr.2.2.1.2⟩ (by have := htr.2.2.2; have := htr.2.2.1.2; omega) rfl rfl (br_E hE ⟨Or.inl (by first | decide | omega), by decide⟩ rfl (by omega) (by omega)) (lr_E hE ⟨Or.inl (by first | decide | omega), by decide⟩ rfl (by omega) (by omega)) hmf ⟨hsf.1.1, hf4⟩ b2 rfl l10 a3 (by rw [a4, hpc]; rfl) s1 ⟨s4.1, s4.2, s2⟩ (by omega) rfl rfl) (fun o V hq => ?_))
  obtain ⟨rfl, hq⟩ := hq
  refine ⟨rfl, ?_⟩
  rcases hq with hq | ⟨q1, hq⟩
  · exact Or.inl hq
  · obtain ⟨g1, A, B, hA, hB, hF⟩ := cmT (w := 226) (a := (0, 0, [])) (mk := cMf 206) (by omega) hK k0 hba k1 y16 htr (by omega) hu (fun j x z => by unfold cMf at z; omega) (fun A B hA hB => ⟨cV_e (by first | decide | omega) rfl, cmF_s hA s4.1 (by first | decide | omega) (by first | decide | omega) hB⟩) hq
    have eA : ∀ (j : Nat) (x : Int), j < 4000000 → j ≠ wG → j ≠ 152 → (j ≠ 72 ∨ x ≠ 15) → A j x = Y j x := hA.2.2.2.1
    have xA : cTx Y A := cTx_of (eA 2 1 (by first | decide | omega) (by first | decide | omega) (by first | decide | omega) (by first | decide | omega)) (fun i => eA 3 i (by first | decide | omega) (by first | decide | omega) (by first | decide | omega) (by omega))
    have hsA : cStc 186 206 ms SF A := cStc_ag hst0 xA (fun j i hj => eA j i (by omega) (by unfold wG; omega) (by omega) (by omega))
    have e15 : A 201 fl = Y 201 fl := eA 201 fl (by first | decide | omega) (by first | decide | omega) (by first | decide | omega) (by omega)
    have hsW := cStc_w (m0 := 186) (r1 := 206) (k := Y 228 ((ba : Int) + 1)) (v := Y 229 ((ba : Int) + 1)) hsA hsf (by first | decide | omega) (cVl_mo hu1 xA)
    rw [show (186 + 15 : Nat) = 201 from rfl, e15] at hsW
    have hsB := cStc_ag (Z := B) hsW (cTx_of (hB 2 1 (Or.inl (by first | decide | omega))) (fun i => hB 3 i (Or.inl (by first | decide | omega)))) (fun j i hj => hB j i (Or.inl (by omega)))
    exact Or.inr ⟨by omega, g1, cStc_ag hsB (cTx_of (hF.1 2 1 (by first | decide | omega) (by first | decide | omega) (by first | decide | omega)) (fun i => hF.1 3 i (by first | decide | omega) (by first | decide | omega) (by first | decide | omega))) (fun j i hj => hF.1 j i (by omega) (by unfold wG; omega) (by omega))⟩)
theorem ami_162_226 {fl fi : Int} (h : rdC 226 kd ec ba gk gb es x l K T L G Y) (hKC : KC 176 186 182 203 204 163 162 HT cs ms os Y) (h72 : Y 72 1 = 162) (hl12 : l = 1 ∨ l = 2) (he51 : Y 51 x = wh) (hm : (0 ≤ wh ∧ wh < (ms.length : Int)) ∧ (hmR ms wh).2.1 = 1) (htr : cTrc Y tr) (hg : arG K ba ec ar) (hmf : Y 201 wh = fl) (hsf : isIf ms fl) (hfi : Y 201 fl = fi) (hgb : 0 ≤ gb ∧ gb < (T.length : Int)) (hfr : 0 ≤ fi ∧ fi < ((tO T gb).2.2.2.2.2.2.length : Int) ∧ fi ≤ 1000) (hpc : (hmR ms wh).2.2.2.2.1.length = 0) : wJ (pe_GA xs) wY0 (mS [228, 229, 152]) (d + 7) t_XL_act ((pe_at t_XL_act.bl 0).getD (0, [])).2 [(0, (2, 158)), (1, (0, x))] [] Y (fun o V => o = .inl none ∧ ((100000 < (tr.length : Int) + 2 ∧ w_up Y 226 16 99 = V) ∨ ((tr.length : Int) + 2 ≤ 100000 ∧ cmPt 226 K ba kd (gvA T gb fi) wh ec tr (fun _ _ => False) Y V))) := wJ_E (fun hE => by
  obtain ⟨⟨h, hW, hl, hT⟩, ⟨l4, l5, l7, l8, l9, l10, l12, l13⟩, y16, ⟨hx, e48⟩, hba⟩ := h
  have hP := xP_of (w := 226) (by omega) h
  rw [← w_up_eta y16] at hP
  obtain ⟨hTh, hCa, -, ⟨⟨m1, m2, m3, m4⟩, hl14, ⟨c0, c1⟩, hz16, hz10⟩, ⟨t1, t2, t3, t4⟩, -⟩ := id hW
  obtain ⟨hK, ⟨hC, hI⟩, ⟨k0, k1, -⟩, -⟩ := id h
  have hn4 := hKC.2.2.2.2.1.1
  have hw4 : wh < 400 := by have := hm.1.2; omega
  obtain ⟨⟨-, a1, a2, a3⟩, ⟨a4, -⟩, -⟩ := mrA hKC.2.2.2.2.1 hm.1
  replace a1 : Y 187 wh = 1 := a1.trans hm.2
  have hg1 := hg.1
  have hu := c_at hK (i := K.1.length - 1) (by omega) (j := (K.1.length : Int) - 1) (by omega)
  replace hu : cVl Y (Y 228 ((K.1.length : Int) - 1)) (Y 229 ((K.1.length : Int) - 1)) (K.1.getD (K.1.length - 1) (0, 0, [])) := hu
  have p3 : (K.1.length : Int) ≤ Y 228 (-1) := hK.1.2.2.1
  have p4 : Y 229 (-1) = Y 228 (-1) := hK.1.2.2.2.1
  obtain ⟨⟨-, b1, b2, -⟩, -⟩ := mrA hKC.2.2.2.2.1 hsf.1
  replace b2 : Y 188 fl = _ := b2.trans hsf.2.2
  have hf4 : fl < 400 := by have := hsf.1.2; omega
  obtain ⟨⟨z1, z2⟩, z3⟩ := cell_v (hd := gb) (wh := fi) hW hgb ⟨hfr.1, hfr.2.1⟩
  refine acha_162_226 (d := d + 6) hC hI hl h72 hx e48 hl12 he51 ⟨hm.1.1, hw4⟩ a1 (by omega) (R := fun V => ((100000 < (tr.length : Int) + 2 ∧ w_up Y 226 16 99 = V) ∨ ((tr.length : Int) + 2 ≤ 100000 ∧ cmPt 226 K ba kd (gvA T gb fi) wh ec tr (fun _ _ => False) Y V))) (wJ_mono (cmg0_162_226 (d := d) (c := (K.2.1.length : Int)) (p := (K.2.1.getD (K.2.1.length - 1) (0, 0, 0, (0, 0, []), 0, 0, 0)).2.1) (h := (K.1.length : Int)) (kd := kd) (ba := (ba : Int)) (m := wh) (en := ec) (tn := (tr.length : Int)) (ky := Y 228 ((K.1.length : Int) - 1)) (vy := Y 229 ((K.1.length : Int) - 1)) (fl := fl) (fi := fi) (st := Y 133 gb) hP l4 l5 l7 l8 l12 ⟨by omega, by omega⟩ ⟨by omega, by omega⟩ h72 ⟨hm.1.1, hw4⟩ a1 htr.1 ⟨by omega, htr.2.2.1.1, htr.2.2.1.2⟩ (by have := htr.2.2.2; have := htr.2.2.1.2; omega) rfl rfl (br_E hE ⟨Or.inl (by first | decide | omega), by decide⟩ rfl (by omega) (by omega)) (lr_E hE ⟨Or.inl (by first | decide | omega), by decide⟩ rfl (by omega) (by omega)) hmf ⟨hsf.1.1, hf4⟩ b2 hfi l10 a3 (by rw [a4, hpc]; rfl) t1 t4 hl14 ⟨hz16, hz10⟩ ⟨hgb.1, by omega⟩ rfl ⟨z1, hfr.1, hfr.2.2, by omega⟩ rfl rfl (br_E hE ⟨Or.inl (by first | decide | omega), by decide⟩ rfl (by omega) (by omega)) (lr_E hE ⟨Or.inl (by first | decide | omega), by decide⟩ rfl (by omega) (by omega))) (fun o V hq => ?_))
  obtain ⟨rfl, hq⟩ := hq
  refine ⟨rfl, ?_⟩
  rcases hq with hq | ⟨q1, hq⟩
  · exact Or.inl hq
  · obtain ⟨g1, A, B, hA, hB, hF⟩ := cmT (w := 226) (a := gvA T gb fi) (by omega) hK k0 hba k1 y16 htr (by omega) hu (fun _ _ z => z.elim) (fun A B hA hB => ⟨cVl_mo z3 (cmF_g hA hB).1, cmF_g hA hB⟩) hq
    exact Or.inr ⟨by omega, g1⟩)
theorem amj_162_226 {fl fi : Int} (h : rdC 226 kd ec ba gk gb es x l K T L G Y) (hKC : KC 176 186 182 203 204 163 162 HT cs ms os Y) (h72 : Y 72 1 = 162) (hl12 : l = 1 ∨ l = 2) (he51 : Y 51 x = wh) (hm : (0 ≤ wh ∧ wh < (ms.length : Int)) ∧ (hmR ms wh).2.1 = 1) (htr : cTrc Y tr) (hg : arG K ba ec ar) (hmf : Y 201 wh = fl) (hsf : isIf ms fl) (hfi : Y 201 fl = fi) (hgb : 0 ≤ gb ∧ gb < (T.length : Int)) (hfr : 0 ≤ fi ∧ fi < ((tO T gb).2.2.2.2.2.2.length : Int) ∧ fi ≤ 1000) (hpc : (hmR ms wh).2.2.2.2.1.length = 1) (hec : ec = 1) : wJ (pe_GA xs) wY0 (mS [228, 229, 152]) (d + 7) t_XL_act ((pe_at t_XL_act.bl 0).getD (0, [])).2 [(0, (2, 158)), (1, (0, x))] [] Y (fun o V => o = .inl none ∧ ((100000 < (tr.length : Int) + 2 ∧ w_up Y 226 16 99 = V) ∨ ((tr.length : Int) + 2 ≤ 100000 ∧ cmPt 226 K ba kd (0, 0, []) wh ec tr cMv Y V ∧ cWd V (tSp T gb fi.toNat (K.1.getD (ba + 1) (0, 0, []))) L G))) := wJ_E (fun hE => by
  obtain ⟨⟨h, hW, hl, hT⟩, ⟨l4, l5, l7, l8, l9, l10, l12, l13⟩, y16, ⟨hx, e48⟩, hba⟩ := h
  have hP := xP_of (w := 226) (by omega) h
  rw [← w_up_eta y16] at hP
  obtain ⟨hTh, hCa, -, ⟨⟨m1, m2, m3, m4⟩, hl14, ⟨c0, c1⟩, hz16, hz10⟩, ⟨t1, t2, t3, t4⟩, -⟩ := id hW
  obtain ⟨hK, ⟨hC, hI⟩, ⟨k0, k1, -⟩, -⟩ := id h
  have hn4 := hKC.2.2.2.2.1.1
  have hw4 : wh < 400 := by have := hm.1.2; omega
  obtain ⟨⟨-, a1, a2, a3⟩, ⟨a4, -⟩, -⟩ := mrA hKC.2.2.2.2.1 hm.1
  replace a1 : Y 187 wh = 1 := a1.trans hm.2
  have hg1 := hg.1
  have hu := c_at hK (i := K.1.length - 1) (by omega) (j := (K.1.length : Int) - 1) (by omega)
  replace hu : cVl Y (Y 228 ((K.1.length : Int) - 1)) (Y 229 ((K.1.length : Int) - 1)) (K.1.getD (K.1.length - 1) (0, 0, [])) := hu
  have p3 : (K.1.length : Int) ≤ Y 228 (-1) := hK.1.2.2.1
  have p4 : Y 229 (-1) = Y 228 (-1) := hK.1.2.2.2.1
  obtain ⟨⟨-, b1, b2, -⟩, -⟩ := mrA hKC.2.2.2.2.1 hsf.1
  replace b2 : Y 188 fl = _ := b2.trans hsf.2.2
  have hf4 : fl < 400 := by have := hsf.1.2; omega
  obtain ⟨⟨z1, z2⟩, z3⟩ := cell_v (hd := gb) (wh := fi) hW hgb ⟨hfr.1, hfr.2.1⟩
  have hb1 : ba + 1 < K.1.length := by omega
  have hu1 := c_at hK (i := ba + 1) hb1 (j := (ba : Int) + 1) (by omega)
  replace hu1 : cVl Y (Y 228 ((ba : Int) + 1)) (Y 229 ((ba : Int) + 1)) (K.1.getD (ba + 1) (0, 0, [])) := hu1
  refine acha_162_226 (d := d + 6) hC hI hl h72 hx e48 hl12 he51 ⟨hm.1.1, hw4⟩ a1 (by omega) (R := fun V => ((100000 < (tr.length : Int) + 2 ∧ w_up Y 226 16 99 = V) ∨ ((tr.length : Int) + 2 ≤ 100000 ∧ cmPt 226 K ba kd (0, 0, []) wh ec tr cMv Y V ∧ cWd V (tSp T gb fi.toNat (K.1.getD (ba + 1) (0, 0, []))) L G))) (wJ_mono (cms0_162_226 (d := d) (c := (K.2.1.length : Int)) (p := (K.2.1.getD (K.2.1.length - 1) (0, 0, 0, (0, 0, []), 0, 0, 0)).2.1) (h := (K.1.length : Int)) (kd := kd) (ba := (ba : Int)) (m := wh) (en := ec) (tn := (tr.length : Int)) (ky := Y 228 ((K.1.length : Int) - 1)) (vy := Y 229 ((K.1.length : Int) - 1)) (fl := fl) (fi := fi) (st := Y 133 gb) hP l4 l5 l7 l8 l12 ⟨by omega, by omega⟩ ⟨by omega, by omega⟩ h72 ⟨hm.1.1, hw4⟩ a1 htr.1 ⟨by omega, htr.2.2.1.1, htr.2.2.1.2⟩ (by have := htr.2.2.2; have := htr.2.2.1.2; omega) rfl rfl (br_E hE ⟨Or.inl (by first | decide | omega), by decide⟩ rfl (by omega) (by omega)) (lr_E hE ⟨Or.inl (by first | decide | omega), by decide⟩ rfl (by omega) (by omega)) hmf ⟨hsf.1.1, hf4⟩ b2 hfi l10 a3 (by rw [a4, hpc]; rfl) t1 t4 hl14 ⟨hz16, hz10⟩ ⟨hgb.1, by omega⟩ rfl ⟨z1, hfr.1, hfr.2.2, by omega⟩ (by omega) rfl rfl) (fun o V hq => ?_))
  obtain ⟨rfl, hq⟩ := hq
  refine ⟨rfl, ?_⟩
  rcases hq with hq | ⟨q1, hq⟩
  · exact Or.inl hq
  · obtain ⟨g1, A, B, hA, hB, hF⟩ := cmT (w := 226) (a := (0, 0, [])) (mk := cMv) (by omega) hK k0 hba k1 y16 htr (by omega) hu (fun j x z => by unfold cMv at z; omega) (fun A B hA hB => ⟨cV_e (by first | decide | omega) rfl, cmF_s hA (by omega) (by first | decide | omega) (by first | decide | omega) hB⟩) hq
    have eA : ∀ (j : Nat) (x : Int), j < 4000000 → j ≠ wG → j ≠ 152 → (j ≠ 72 ∨ x ≠ 15) → A j x = Y j x := hA.2.2.2.1
    have xA : cTx Y A := cTx_of (eA 2 1 (by first | decide | omega) (by first | decide | omega) (by first | decide | omega) (by first | decide | omega)) (fun i => eA 3 i (by first | decide | omega) (by first | decide | omega) (by first | decide | omega) (by omega))
    have hWA : cWd A T L G := cWd_ag hW xA (fun j i hj => by unfold cWo at hj; exact eA j i (by omega) (by unfold wG; omega) (by omega) (by omega))
    have e13 : A 133 gb = Y 133 gb := eA 133 gb (by first | decide | omega) (by first | decide | omega) (by first | decide | omega) (by omega)
    have ew : ((fi.toNat : Nat) : Int) = fi := by omega
    have hWB := cWd_sp (k := gb) (i := fi.toNat) hWA hgb.1 hgb.2 (by omega) (cVl_mo hu1 xA)
    rw [ew, e13] at hWB
    have hWC := cWd_ag (Z := B) hWB (cTx_of (hB 2 1 (Or.inl (by first | decide | omega))) (fun i => hB 3 i (Or.inl (by first | decide | omega)))) (fun j i hj => hB j i (by unfold cWo at hj; omega))
    exact Or.inr ⟨by omega, g1, cWd_fr (w := 226) (by omega) hWC hF⟩)
theorem amt_162_226 (h : rdC 226 kd ec ba gk gb es x l K T L G Y) (hKC : KC 176 186 182 203 204 163 162 HT cs ms os Y) (h72 : Y 72 1 = 162) (hl12 : l = 1 ∨ l = 2) (he51 : Y 51 x = wh) (hm : (0 ≤ wh ∧ wh < (ms.length : Int)) ∧ (hmR ms wh).2.1 = 1) (htr : cTrc Y tr) (hg : arG K ba ec ar) (hwH : wHo cs ms os) (hty : 8 ≤ (hmR ms wh).2.2.2.1 ∧ (hmR ms wh).2.2.2.1 < 9 + (cs.length : Int)) (hmf : Y 201 wh = -1) (hsb : (hmR ms wh).2.2.1 = 0 ∨ (hmR ms wh).2.2.1 = 1) (hgv : cVl Y gk gb (K.1.getD ba (0, 0, []))) (hgr : -9223372036854775808 ≤ gb ∧ gb ≤ 9223372036854775807) (hrv : vOk T (K.1.getD ba (0, 0, [])) ∧ ((K.1.getD ba (0, 0, [])).1 = 7 → (tO T (K.1.getD ba (0, 0, [])).2.1).2.2.1 < (cs.length : Int))) (hav : ∀ u ∈ ar, vOk T u ∧ (u.1 = 7 → (tO T u.2.1).2.2.1 < (cs.length : Int))) : wJ (pe_GA xs) wY0 (mS [228, 229, 152]) (d + 7) t_XL_act ((pe_at t_XL_act.bl 0).getD (0, [])).2 [(0, (2, 158)), (1, (0, x))] [] Y (fun o V => o = .inl none ∧ ((100000 < (tr.length : Int) + 2 ∧ w_up Y 226 16 99 = V) ∨ ((tr.length : Int) + 2 ≤ 100000 ∧ cmPt 226 K ba kd (anV cs T (hmR ms wh).2.2.1 (hmR ms wh).2.2.2.1 (K.1.getD ba (0, 0, [])) ar) wh ec tr (fun _ _ => False) Y V))) := wJ_E (fun hE => by
  obtain ⟨⟨h, hW, hl, hT⟩, ⟨l4, l5, l7, l8, l9, l10, l12, l13⟩, y16, ⟨hx, e48⟩, hba⟩ := h
  have hP := xP_of (w := 226) (by omega) h
  rw [← w_up_eta y16] at hP
  obtain ⟨hTh, hCa, -, ⟨⟨m1, m2, m3, m4⟩, hl14, ⟨c0, c1⟩, hz16, hz10⟩, ⟨t1, t2, t3, t4⟩, -⟩ := id hW
  obtain ⟨hK, ⟨hC, hI⟩, ⟨k0, k1, -⟩, -⟩ := id h
  have hn4 := hKC.2.2.2.2.1.1
  have hw4 : wh < 400 := by have := hm.1.2; omega
  obtain ⟨⟨-, a1, a2, a3⟩, ⟨a4, -⟩, -⟩ := mrA hKC.2.2.2.2.1 hm.1
  replace a1 : Y 187 wh = 1 := a1.trans hm.2
  have hg1 := hg.1
  have hu := c_at hK (i := K.1.length - 1) (by omega) (j := (K.1.length : Int) - 1) (by omega)
  replace hu : cVl Y (Y 228 ((K.1.length : Int) - 1)) (Y 229 ((K.1.length : Int) - 1)) (K.1.getD (K.1.length - 1) (0, 0, [])) := hu
  have p3 : (K.1.length : Int) ≤ Y 228 (-1) := hK.1.2.2.1
  have p4 : Y 229 (-1) = Y 228 (-1) := hK.1.2.2.2.1
  have hok : ∀ i : Nat, i < (pEs Y 228 229 ((ba : Int) + 1) ar.length).length → okV (cs.length : Int) T Y ((pEs Y 228 229 ((ba : Int) + 1) ar.length).getD i (0, 0)) := fun i hi => by
    rw [pEs_l] at hi
    rw [pEs_g hi]
    have z := ar_c (w := 226) hK hg hi
    replace z : cVl Y (Y 228 ((ba : Int) + 1 + (i : Int))) (Y 229 ((ba : Int) + 1 + (i : Int))) (ar.getD i (0, 0, [])) := z
    obtain ⟨o1, o2⟩ := hav _ (show ar.getD i (0, 0, []) ∈ ar by rw [List.getD_eq_getElem?_getD, List.getElem?_eq_getElem hi]; exact List.getElem_mem _)
    refine ⟨by show 0 ≤ Y 228 _ ∧ Y 228 _ ≤ 8; rw [z.1]; exact o1.1, lr_E hE ⟨Or.inl (by first | decide | omega), by decide⟩ rfl (by omega) (by omega), fun c => ?_⟩
    replace c : Y 228 ((ba : Int) + 1 + (i : Int)) = 7 := c
    have c7 : (ar.getD i (0, 0, [])).1 = 7 := z.1.symm.trans c
    have eb := (z.2.1 (by omega)).1
    obtain ⟨x1, x2⟩ := o1.2.1 (by omega) (by omega)
    show 0 ≤ Y 229 _ ∧ Y 229 _ < _ ∧ 0 ≤ Y 129 (Y 229 _) ∧ Y 129 (Y 229 _) < _
    rw [eb]
    obtain ⟨⟨-, -, y3, -⟩, -⟩ := hTh.2 (ar.getD i (0, 0, [])).2.1.toNat (by omega)
    rw [show (((ar.getD i (0, 0, [])).2.1.toNat : Nat) : Int) = (ar.getD i (0, 0, [])).2.1 by omega] at y3
    replace y3 : Y 129 (ar.getD i (0, 0, [])).2.1 = (tO T (ar.getD i (0, 0, [])).2.1).2.2.1 := y3
    rw [y3]
    exact ⟨x1.1, x1.2, (o1.2.2.2.1 c7).1, o2 c7⟩
  have isE : ∀ (k b : Int) (u : aV), cVl Y k b u → vOk T u → isB cs Y k b (hmR ms wh).2.2.2.1 = isA cs T (hmR ms wh).2.2.2.1 u := fun k b u z o => by
    unfold isB isA
    rw [z.1]
    by_cases c7 : u.1 = 7
    · have eb := (z.2.1 (by omega)).1
      obtain ⟨x1, x2⟩ := o.2.1 (by omega) (by omega)
      obtain ⟨⟨-, -, y3, -⟩, -⟩ := hTh.2 u.2.1.toNat (by omega)
      rw [show ((u.2.1.toNat : Nat) : Int) = u.2.1 by omega] at y3
      replace y3 : Y 129 u.2.1 = (tO T u.2.1).2.2.1 := y3
      rw [eb, y3]
    · rw [decide_eq_false c7, Bool.false_and, Bool.false_and]
  have hrc := c_at hK (i := ba) hba (j := (ba : Int)) rfl
  replace hrc : cVl Y (Y 228 (ba : Int)) (Y 229 (ba : Int)) (K.1.getD ba (0, 0, [])) := hrc
  have hval : cVl Y ((anX cs Y (hmR ms wh).2.2.1 gk gb (hmR ms wh).2.2.2.1 (pEs Y 228 229 ((ba : Int) + 1) ar.length)).getD (0, 0)).1 ((anX cs Y (hmR ms wh).2.2.1 gk gb (hmR ms wh).2.2.2.1 (pEs Y 228 229 ((ba : Int) + 1) ar.length)).getD (0, 0)).2 (anV cs T (hmR ms wh).2.2.1 (hmR ms wh).2.2.2.1 (K.1.getD ba (0, 0, [])) ar) := by
    unfold anX anV
    rw [isE gk gb _ hgv hrv.1]
    split
    · exact hgv
    · refine find_pEs ar ((ba : Int) + 1) (fun i hi => ?_)
      have z := ar_c (w := 226) hK hg hi
      replace z : cVl Y (Y 228 ((ba : Int) + 1 + (i : Int))) (Y 229 ((ba : Int) + 1 + (i : Int))) (ar.getD i (0, 0, [])) := z
      refine ⟨z, ?_⟩
      obtain ⟨o1, -⟩ := hav _ (show ar.getD i (0, 0, []) ∈ ar by rw [List.getD_eq_getElem?_getD, List.getElem?_eq_getElem hi]; exact List.getElem_mem _)
      show (decide (Y 228 _ ≠ 0) && isB cs Y (Y 228 _) (Y 229 _) _) = _
      rw [isE _ _ _ z o1, z.1]
  have hgo : okV (cs.length : Int) T Y (gk, gb) := by
    refine ⟨by show 0 ≤ gk ∧ gk ≤ 8; rw [hgv.1]; exact hrv.1.1, hgr, fun c => ?_⟩
    replace c : gk = 7 := c
    have c7 : (K.1.getD ba (0, 0, [])).1 = 7 := hgv.1.symm.trans c
    have eb := (hgv.2.1 (by omega)).1
    obtain ⟨x1, x2⟩ := hrv.1.2.1 (by omega) (by omega)
    show 0 ≤ gb ∧ gb < _ ∧ 0 ≤ Y 129 gb ∧ Y 129 gb < _
    rw [eb]
    obtain ⟨⟨-, -, y3, -⟩, -⟩ := hTh.2 (K.1.getD ba (0, 0, [])).2.1.toNat (by omega)
    rw [show (((K.1.getD ba (0, 0, [])).2.1.toNat : Nat) : Int) = (K.1.getD ba (0, 0, [])).2.1 by omega] at y3
    replace y3 : Y 129 (K.1.getD ba (0, 0, [])).2.1 = (tO T (K.1.getD ba (0, 0, [])).2.1).2.2.1 := y3
    rw [y3]
    exact ⟨x1.1, x1.2, (hrv.1.2.2.2.1 c7).1, hrv.2 c7⟩
  refine acha_162_226 (d := d + 6) hC hI hl h72 hx e48 hl12 he51 ⟨hm.1.1, hw4⟩ a1 (by omega) (R := fun V => ((100000 < (tr.length : Int) + 2 ∧ w_up Y 226 16 99 = V) ∨ ((tr.length : Int) + 2 ≤ 100000 ∧ cmPt 226 K ba kd (anV cs T (hmR ms wh).2.2.1 (hmR ms wh).2.2.2.1 (K.1.getD ba (0, 0, [])) ar) wh ec tr (fun _ _ => False) Y V))) (wJ_mono (cmt_162_226 (d := d) (c := (K.2.1.length : Int)) (p := (K.2.1.getD (K.2.1.length - 1) (0, 0, 0, (0, 0, []), 0, 0, 0)).2.1) (h := (K.1.length : Int)) (kd := kd) (ba := (ba : Int)) (m := wh) (en := ec) (tn := (tr.length : Int)) (ky := Y 228 ((K.1.length : Int) - 1)) (vy := Y 229 ((K.1.length : Int) - 1)) (Th := T) (es := (pEs Y 228 229 ((ba : Int) + 1) ar.length)) (ty := (hmR ms wh).2.2.2.1) (sb := (hmR ms wh).2.2.1) (gk := gk) (gb := gb) hP l4 l5 l7 l8 l12 ⟨by omega, by omega⟩ ⟨by omega, by omega⟩ h72 ⟨hm.1.1, hw4⟩ a1 htr.1 ⟨by omega, htr.2.2.1.1, htr.2.2.1.2⟩ (by have := htr.2.2.2; have := htr.2.2.1.2; omega) rfl rfl (br_E hE ⟨Or.inl (by first | decide | omega), by decide⟩ rfl (by omega) (by omega)) (lr_E hE ⟨Or.inl (by first | decide | omega), by decide⟩ rfl (by omega) (by omega)) hKC hwH ⟨t1, t2, t3, t4⟩ hT hty a3 hmf a2 hsb (by rw [pEs_l]; exact hg.1.1.symm) (by omega) (fun i hi => by rw [pEs_l] at hi; rw [pEs_g hi]; exact ⟨rfl, rfl⟩) hok l9 l10 hgo) (fun o V hq => ?_))
  obtain ⟨rfl, hq⟩ := hq
  refine ⟨rfl, ?_⟩
  rcases hq with hq | ⟨q1, hq⟩
  · exact Or.inl hq
  · obtain ⟨g1, A, B, hA, hB, hF⟩ := cmT (w := 226) (a := (anV cs T (hmR ms wh).2.2.1 (hmR ms wh).2.2.2.1 (K.1.getD ba (0, 0, [])) ar)) (by omega) hK k0 hba k1 y16 htr (by omega) hu (fun _ _ z => z.elim) (fun A B hA hB => ⟨cVl_mo hval (cmF_g hA hB).1, cmF_g hA hB⟩) hq
    exact Or.inr ⟨by omega, g1⟩)
end Wjl
