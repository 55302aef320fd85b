/-! PART lv: A SITE'S STEP, of what is no host's. -/
section Wlv
variable {Sb : wS} {r9 : List aE × Int × Option aE} {xs : List (Nat × List Int32)} {d : Nat} {S0 S Z : wS} {p w m : Nat} {HT : Int → Int} {cs : List hCR} {ms : List hMR} {os : Int → List Int} {X : List (List Int)} {mo t n B B2 oq : Int} {fa : Int → Int} {WE : aA → Prop} {A A2 : aA} {K2 : aK} {ml : List Nat} {k c s kd nms ne ec bh nm en : Int} {b ba : Nat} {ar : List aV} {e : aE} {V Z2 Y : wS} {o : wO} {dn : Int} {H2 : List aH} {N2 : List (List Int)} {E2 : Int → List aE} {C2 : List aQ} {W2 : Int} {c2 : Int → Int} {k2 : Int → Int → Int} {mk rk : Nat → Int → Prop} {K : aK} {T : List aO} {H : List aH} {E : Int → List aE} {gk gb es lo hi a : Int} {r : List aE × Int × Option aE} {A1 : aA} {tl cl : List Int} {sl : Nat → List Int} {L : List aC} {G : Int → aV} {u : aV} {x : List Int} {T2 : List aO} {L2 : List aC} {G2 : Int → aV} {H2 : List aH} {c2 : Int → Int} {y : Int} {Q : wO → wS → Prop} {ps : List (Int × aV)} {k hd wh : Int} {f a9 pn fn md : Int} {vn m9 : Nat} {th : aV} {g : Int} {lp : List aV} {l ds fo g : Int} {mk : Nat → Int → Prop} {C2 : List aQ} {W2 : Int} {RZ : wS → Prop} {N3 : Nat} {SB : wS} {r r0 : Int} {sh : Int} {K9 : aK}
/-- looking at what is a host's -/
def hoLk (xs : List (Nat × List Int32)) (d : Nat) (S0 : wS) (p : Nat) (HT : Int → Int) (cs : List hCR) (ms : List hMR) (os : Int → List Int) (X : List (List Int)) (mo : Int) (fa : Int → Int) (n B2 : Int) (w : Nat) (t : Int) : Prop := ∀ (A3 : aA) (s kd nms ne ec bh nm en : Int) (ba : Nat) (ar : List aV), hyA S0 p HT cs ms os X fa n B2 w t A3 s kd nms ne ec bh ba ar → nmO A3 (a_K A3 t) kd nms ba nm en → (a_c A3 21 + 1 ≤ B2 ∧ a_c A3 22 + 1 ≤ B2) → (((a_K A3 t).1.getD ba (0, 0, [])).1 = 7 ∨ ((a_K A3 t).1.getD ba (0, 0, [])).1 = 8) → lOut xs d S0 p HT cs ms os X mo fa n B2 w t A3 s kd nms ec bh ba nm en (esV (ar.map (clO (a_T A3))))
/-- an entry of a host's value that holds -/
def hoAc (xs : List (Nat × List Int32)) (d : Nat) (S0 : wS) (p : Nat) (HT : Int → Int) (cs : List hCR) (ms : List hMR) (os : Int → List Int) (X : List (List Int)) (mo : Int) (fa : Int → Int) (n B2 : Int) (w : Nat) (t : Int) : Prop := ∀ (A3 : aA) (s kd nms ne ec bh nm en : Int) (ba : Nat) (ar : List aV) (e : aE), hyA S0 p HT cs ms os X fa n B2 w t A3 s kd nms ne ec bh ba ar → nmO A3 (a_K A3 t) kd nms ba nm en → (e.1 = 1 ∨ e.1 = 2) → eOk S0 HT cs ms os A3 s e → eSt (a_T A3) (a_H A3) kd e = 0 → hoE (a_T A3) kd nms ((a_K A3 t).1.getD ba (0, 0, [])).1 ((a_K A3 t).1.getD ba (0, 0, [])).2.1 nm (wb_l2i (esV (ar.map (clO (a_T A3))))) (wb_l2i (wb_lushr (esV (ar.map (clO (a_T A3)))) 32)) e → aOut xs d S0 p HT cs ms os X mo fa n B2 w t A3 s kd nms ec bh ba nm en (esV (ar.map (clO (a_T A3)))) e ∧ ∀ {Sb : wS} (Y : wS), rRun S0 Sb HT cs ms os X mo t A3 Y → rAim t (a_K A3 t) ba bh en Y → wJ (pe_GA xs) wY0 (fun _ => False) (d + 89) t_M_looks ((pe_at t_M_looks.bl 0).getD (0, [])).2 [(0, (2, 237)), (1, (0, s)), (2, (0, 0))] [] Y (fun o Z => o = .inl none ∧ (Z 237 169 = e.2.2.2.1 ∧ Z 237 170 = e.2.2.2.2.1 ∧ Z 237 171 = e.2.2.2.2.2.1) ∧ (∀ (j : Nat) (x : Int), (j ≠ 237 ∨ x < 166 ∨ 172 < x) → ¬ lhP j x → Z j x = Y j x) ∧ rCh HT cs ms os (a_N A3) (a_C A3) (a_W A3) mo Z)
theorem hlF_sm : ∀ l : List aE, (hlF T H kd nms gk gb nm lo hi l).2.1 + ((hlF T H kd nms gk gb nm lo hi l).1.length : Int) = (l.length : Int)
  | [] => rfl
  | x :: l => by
    have h1 := hlF_sm l
    have hl : (((x :: l).length : Nat) : Int) = (l.length : Int) + 1 := rfl
    unfold hlF
    by_cases c : eSt T H kd x ≠ 0
    · rw [if_pos c]
      show (hlF T H kd nms gk gb nm lo hi l).2.1 + 1 + ((hlF T H kd nms gk gb nm lo hi l).1.length : Int) = ((x :: l).length : Int)
      omega
    · rw [if_neg c]
      by_cases c2 : hoE T kd nms gk gb nm lo hi x
      · rw [if_pos c2]
        show (0 : Int) + ((x :: l).length : Int) = ((x :: l).length : Int)
        omega
      · rw [if_neg c2]
        show (hlF T H kd nms gk gb nm lo hi l).2.1 + (((hlF T H kd nms gk gb nm lo hi l).1.length + 1 : Nat) : Int) = ((x :: l).length : Int)
        omega
/-- all that holds, when a site's entries were gone through -/
theorem wf_H (h : wfA S0 fa ms n (WEs S0 HT cs ms os) B A) (hB : B + 1 ≤ B2 ∧ B2 ≤ 600000) (hs : 0 ≤ s ∧ s < S0 237 47) (ha : 0 ≤ a ∧ a ≤ 1) (hr : r9 = hlF (a_T A) (a_H A) kd nms gk gb nm lo hi (a_E A s)) : wfA S0 fa ms n (WEs S0 HT cs ms os) B2 (u_H A s a r9) := by
  have hle := hlF_le (T := a_T A) (H := a_H A) (kd := kd) (nms := nms) (gk := gk) (gb := gb) (nm := nm) (lo := lo) (hi := hi) (a_E A s)
  have hsm := hlF_sm (T := a_T A) (H := a_H A) (kd := kd) (nms := nms) (gk := gk) (gb := gb) (nm := nm) (lo := lo) (hi := hi) (a_E A s)
  have hme := hlF_me (T := a_T A) (H := a_H A) (kd := kd) (nms := nms) (gk := gk) (gb := gb) (nm := nm) (lo := lo) (hi := hi) (a_E A s)
  rw [← hr] at hle hsm hme
  obtain ⟨a1, a3, a4, a5, a0, a6, a7, a8x⟩ := h
  have zb := a0.2.2.2.2.2.2.1
  obtain ⟨b1, b2, b3, b4, b5, b6, b7, b8, b9⟩ := wCt_B a0 (B2 := B2) ⟨by omega, hB.2⟩
  have zE := a7 s hs.1 hs.2
  refine ⟨a1, a3, a4, a5, ⟨b1, b2, b3, b4, b5, b6, fun q q0 q1 => ?_, b8, b9⟩, a6, ⟨fun q q0 q1 => ?_, a8x⟩⟩
  · show (0 ≤ kHl (a_k A) s a r9.2.1 q 0 ∧ kHl (a_k A) s a r9.2.1 q 0 ≤ 9) ∧ (0 ≤ kHl (a_k A) s a r9.2.1 q 1 ∧ kHl (a_k A) s a r9.2.1 q 1 ≤ B2) ∧ (0 ≤ kHl (a_k A) s a r9.2.1 q 2 ∧ kHl (a_k A) s a r9.2.1 q 2 + ((fUp (a_E A) s r9.1 q).length : Int) ≤ kHl (a_k A) s a r9.2.1 q 0) ∧ ((kHl (a_k A) s a r9.2.1 q 3 = 0 ∧ kHl (a_k A) s a r9.2.1 q 0 ≤ 8) ∨ (kHl (a_k A) s a r9.2.1 q 3 = 1 ∧ fUp (a_E A) s r9.1 q = []))
    by_cases e9 : q = s
    · rw [e9, kHl_0, kHl_1, kHl_2, kHl_3, fUp_s]
      obtain ⟨y1, y2, y3, y4⟩ := zb s hs.1 hs.2
      refine ⟨y1, by omega, by omega, ?_⟩
      rcases y4 with z | z
      · exact Or.inl z
      · refine Or.inr ⟨z.1, ?_⟩
        have e0 := hle.1
        rw [z.2] at e0
        exact List.length_eq_zero_iff.mp (Nat.le_zero.mp e0)
    · rw [kHl_n e9, fUp_n e9]
      exact b7 q q0 q1
  · show (fUp (a_E A) s r9.1 q).length ≤ 4 ∧ ∀ e9 ∈ fUp (a_E A) s r9.1 q, eOk S0 HT cs ms os A q e9
    by_cases e9 : q = s
    · rw [e9, fUp_s]
      exact ⟨by have := hle.1; have := zE.1; omega, fun y hy => zE.2 y (hme y hy)⟩
    · rw [fUp_n e9]
      exact a7 q q0 q1
/-- acting by an entry that holds -/
theorem ac_all (h : hyA S0 p HT cs ms os X fa n B2 w t A s kd nms ne ec bh ba ar) (hx1 : pe_at (pe_GA xs).xs 1 = some (1, tx_1)) (h97 : pe_at (pe_GA xs).xs 97 = some (3, tx_97)) (hq9 : stQ S0) (hX : w_X xs) (hHA : hoAc xs d S0 p HT cs ms os X mo fa n B2 w t) (hno : nmO A (a_K A t) kd nms ba nm en) (he : eOk S0 HT cs ms os A s e) (hst : eSt (a_T A) (a_H A) kd e = 0) (hho : hoE (a_T A) kd nms ((a_K A t).1.getD ba (0, 0, [])).1 ((a_K A t).1.getD ba (0, 0, [])).2.1 nm (wb_l2i (esV (ar.map (clO (a_T A))))) (wb_l2i (wb_lushr (esV (ar.map (clO (a_T A)))) 32)) e) : aOut xs d S0 p HT cs ms os X mo fa n B2 w t A s kd nms ec bh ba nm en (esV (ar.map (clO (a_T A)))) e ∧ ∀ {Sb : wS} (Y : wS), rRun S0 Sb HT cs ms os X mo t A Y → rAim t (a_K A t) ba bh en Y → wJ (pe_GA xs) wY0 (fun _ => False) (d + 89) t_M_looks ((pe_at t_M_looks.bl 0).getD (0, [])).2 [(0, (2, 237)), (1, (0, s)), (2, (0, 0))] [] Y (fun o Z => o = .inl none ∧ (Z 237 169 = e.2.2.2.1 ∧ Z 237 170 = e.2.2.2.2.1 ∧ Z 237 171 = e.2.2.2.2.2.1) ∧ (∀ (j : Nat) (x : Int), (j ≠ 237 ∨ x < 166 ∨ 172 < x) → ¬ lhP j x → Z j x = Y j x) ∧ rCh HT cs ms os (a_N A) (a_C A) (a_W A) mo Z) := by
  have e3 := he.1.1
  by_cases e0 : e.1 = 0
  · obtain ⟨p1, p2, p3⟩ := ap_of h hno he hst hho e0
    refine ⟨ao_0 h hx1 h97 hq9 p2 (fun z => ?_), hk_0 h hno he hst hho e0⟩
    rcases hno with ⟨n1, n2, n3⟩ | ⟨n1, n2, n3⟩
    · have k1 : kd = 1 := by
        rcases z with z | z
        · exact z
        · exact absurd ⟨Or.inr z, p1⟩ n1
      rw [if_pos k1]
      exact n2
    · rw [if_neg (by omega)]
      exact n2
  by_cases e1 : e.1 = 3
  · obtain ⟨p1, p2, p3⟩ := hk_3 (d := d) (en := en) h hX he hst hho e1
    exact ⟨ao_3 h hx1 p1 e1 p2, p3⟩
  exact hHA A s kd nms ne ec bh nm en ba ar e h hno (by omega) he hst hho
/-- looking -/
theorem lo_all (h : hyA S0 p HT cs ms os X fa n B2 w t A s kd nms ne ec bh ba ar) (hL9 : stL S0) (hx1 : pe_at (pe_GA xs).xs 1 = some (1, tx_1)) (h97 : pe_at (pe_GA xs).xs 97 = some (3, tx_97)) (hq9 : stQ S0) (hb : a_c A 20 + 1 ≤ B2) (hX : w_X xs) (hb3 : a_c A 23 + 1 ≤ B2) (hb1 : a_c A 21 + 1 ≤ B2 ∧ a_c A 22 + 1 ≤ B2) (hHL : hoLk xs d S0 p HT cs ms os X mo fa n B2 w t) (hno : nmO A (a_K A t) kd nms ba nm en) : lOut xs d S0 p HT cs ms os X mo fa n B2 w t A s kd nms ec bh ba nm en (esV (ar.map (clO (a_T A)))) := by
  have k8 := (gv_G h).1.1
  by_cases g2 : ((a_K A t).1.getD ba (0, 0, [])).1 ≤ 2
  · exact lo_x h ⟨k8.1, g2⟩
  by_cases g4 : ((a_K A t).1.getD ba (0, 0, [])).1 = 4 ∨ ((a_K A t).1.getD ba (0, 0, [])).1 = 5
  · exact lo_0 h hL9 hx1 h97 hq9 hb g4 hno
  by_cases g3 : ((a_K A t).1.getD ba (0, 0, [])).1 = 3 ∨ ((a_K A t).1.getD ba (0, 0, [])).1 = 6
  · exact lo_3 h hL9 hx1 hX hb3 g3 hno
  exact hHL A s kd nms ne ec bh nm en ba ar h hno hb1 (by omega)
/-- A SITE'S STEP, given what is to be said of hosts -/
theorem st_27 (h : hyS S0 p X fa ms n (WEs S0 HT cs ms os) B B2 w t A) (ho : opI S0 (a_K A t) = 27) (hB1 : B + 1 ≤ B2) (hL9 : stL S0) (hx1 : pe_at (pe_GA xs).xs 1 = some (1, tx_1)) (h97 : pe_at (pe_GA xs).xs 97 = some (3, tx_97)) (hq9 : stQ S0) (hX : w_X xs) (hHL : hoLk xs d S0 p HT cs ms os X mo fa n B2 w t) (hHA : hoAc xs d S0 p HT cs ms os X mo fa n B2 w t) : stO xs (d + 80) S0 p HT cs ms os X mo fa n (WEs S0 HT cs ms os) B2 w t A := by
  refine st_si h ho (fun A1 s kd nms ne ec bh nm en ba ar hsi hme hA1 hK hno => ?_)
  obtain ⟨hp, hw, hx, hA, hWk, hB, hrun⟩ := h
  have hKt : a_K A1 t = a_K A t := congrFun hK t
  rw [← hKt] at hsi hno hrun ho ⊢
  have ssb : 0 ≤ s ∧ s < S0 237 47 := ⟨hsi.2.2.1.1.1, hsi.2.2.1.1.2.1⟩
  have hct := hA1.2.2.2.2.1
  have b6 := hct.2.2.2.2.2.1
  have b7 := hct.2.2.2.2.2.2.1 s ssb.1 ssb.2
  have c20 := b6.2.2 20 (by first | decide | omega) (by first | decide | omega)
  have c21 := b6.2.2 21 (by first | decide | omega) (by first | decide | omega)
  have c22 := b6.2.2 22 (by first | decide | omega) (by first | decide | omega)
  have c23 := b6.2.2 23 (by first | decide | omega) (by first | decide | omega)
  generalize hr9 : rHl A1 (a_K A1 t) s kd nms nm ba ar = r9
  have hr8 : r9 = hlF (a_T A1) (a_H A1) kd nms ((a_K A1 t).1.getD ba (0, 0, [])).1 ((a_K A1 t).1.getD ba (0, 0, [])).2.1 nm (wb_l2i (esV (ar.map (clO (a_T A1))))) (wb_l2i (wb_lushr (esV (ar.map (clO (a_T A1)))) 32)) (a_E A1 s) := hr9.symm
  have hyH : ∀ a : Int, 0 ≤ a ∧ a ≤ 1 → hyA S0 p HT cs ms os X fa n B2 w t (u_H A1 s a r9) s kd nms ne ec bh ba ar := fun a ha => ⟨⟨hp, hw, hx⟩, wf_H hA1 ⟨hB1, hB.2⟩ ssb ha hr8, ⟨by show a_c A1 11 + 1 ≤ B2; omega, hB.2⟩, ⟨hrun, ho⟩, hsi, hme⟩
  unfold siO
  rw [hr9]
  cases h9 : r9.2.2 with
  | none =>
    have h3 := hyH 0 (by first | decide | omega)
    obtain ⟨c, A2, y1, y2, y3, y4, y5⟩ := lo_all (d := d) (mo := mo) (nm := nm) (en := en) h3 hL9 hx1 h97 hq9 (by show a_c A1 20 + 1 ≤ B2; omega) hX (by show a_c A1 23 + 1 ≤ B2; omega) ⟨by show a_c A1 21 + 1 ≤ B2; omega, by show a_c A1 22 + 1 ≤ B2; omega⟩ hHL hno
    exact ⟨c, A2, y1, y2, y3, (fun e he => by cases he), fun _ => ⟨y4, y5⟩⟩
  | some e =>
    have h3 := hyH 1 (by first | decide | omega)
    obtain ⟨m1, m2, m3⟩ := hlF_so (T := a_T A1) (H := a_H A1) (kd := kd) (nms := nms) (gk := ((a_K A1 t).1.getD ba (0, 0, [])).1) (gb := ((a_K A1 t).1.getD ba (0, 0, [])).2.1) (nm := nm) (lo := wb_l2i (esV (ar.map (clO (a_T A1))))) (hi := wb_l2i (wb_lushr (esV (ar.map (clO (a_T A1)))) 32)) (e := e) (a_E A1 s) (by rw [← hr8]; exact h9)
    have hok := (hA1.2.2.2.2.2.2.1 s ssb.1 ssb.2).2 e m1
    have hok3 : eOk S0 HT cs ms os (u_H A1 s 1 r9) s e := eOk_2 hok rfl rfl rfl rfl
    obtain ⟨⟨c, A2, y1, y2, y3, y4, y5⟩, hlk⟩ := ac_all (d := d) (mo := mo) h3 hx1 h97 hq9 hX hHA hno hok3 m2 m3
    have hl9 := hl_A h3
    refine ⟨c, A2, y1, y2, y3, fun e2 he2 => ?_, (fun z => by cases z)⟩
    obtain rfl : e = e2 := Option.some.inj he2
    exact ⟨y4, fun Z hit hZ9 ha hh hec => rh_of (A := A1) (r := r9) (wt_t hw) hl9 rfl ⟨ssb.1, by have := hsi.2.2.1.1.2.2; omega, ssb.2⟩ (by omega) (by omega) hZ9 ha hh hec hlk y5⟩
end Wlv
