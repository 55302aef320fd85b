/-! PART j1: invokes at an element of a thing, by tasks: of the reference. -/
section Wj1
variable {xs : List (Nat × List Int32)} {M : Nat → Prop} {d : Nat} {S Z : wS} {K : aK} {T : List aO} {H : List aH} {L : List aC} {G : Int → aV} {sl : Nat → List Int} {E : Int → List aE} {t s kd ne ec bh nms lo hi : Int} {ba : Nat} {ar : List aV} {Q : wO → wS → Prop} {PB : wS → Int → Prop} {N : List (List Int)}
/-- what must hold of the state that is aimed from: of the reference -/
def rsB (s gk gb en r : Int) (T : List aO) (H : List aH) (sl : Nat → List Int) (L : List aC) (G : Int → aV) (cl : List Int) (E : Int → List aE) (B : wS) : Prop := (w_ML B ∧ rWd B sl T L G ∧ rHs B H ∧ B 237 82 ≤ 60000) ∧ (B 237 173 = r ∧ B 237 174 = gk ∧ B 237 175 = gb ∧ B 237 177 = en) ∧ rCl B r cl ∧ rSe B E ∧ s < B 237 47 ∧ 0 ≤ B 312 s ∧ B 312 s + 4 ≤ 1000000
theorem rviG (h : stR t S K) (hwS : wSh T H) (hT : (T.length : Int) ≤ 8000) (hs : 0 ≤ s ∧ s < 4000) (hkd : S 304 s = kd) (hne : S 306 s = ne) (hg : siG K kd ne ec bh ba ar) (hv : ∀ v ∈ K.1, vOk T v) (hc : (kd = 2 ∨ kd = 3) ∧ ((K.1.getD ba (0, 0, [])).1 = 4 ∨ (K.1.getD ba (0, 0, [])).1 = 5)) (hcal : wJ (pe_GA xs) wY0 (fun _ => False) (d + 5) t_M_namesElement ((pe_at t_M_namesElement.bl 0).getD (0, [])).2 [(0, (2, 237))] [] (ivZ (if kd = 0 then 0 else if kd < 4 then 1 else ne) bh (2100 * t + (ba : Int)) (K.1.getD ba (0, 0, [])).1 (S 364 (2100 * t + (ba : Int))) (w_up (w_up S 237 154 (200 * t + (K.2.1.length : Int) - 1)) 237 155 ((K.2.1.getD (K.2.1.length - 1) (0, 0, 0, (0, 0, []), 0, 0, 0)).2.1 + 1))) (fun o Z => (o = .inl none ∧ ∃ en : Int, PB Z en) ∨ (o = .inr 238 ∧ Q (.inr 238) Z))) (hPB : ∀ (B : wS) (en : Int), PB B en → rsB s (K.1.getD ba (0, 0, [])).1 (S 364 (2100 * t + (ba : Int))) en (2100 * t + (ba : Int)) T H sl L G (ar.map (clO T)) E B ∧ ∀ e ∈ E s, wEr T H kd nms (K.1.getD ba (0, 0, [])).1 (S 364 (2100 * t + (ba : Int))) en en lo hi (ar.map (clO T)) e) (hk : ∀ (B : wS) (en : Int) (Z : wS) (hit kk : Int), PB B en → ivR s kd nms (K.1.getD ba (0, 0, [])).1 (S 364 (2100 * t + (ba : Int))) en en lo hi (2100 * t + (ba : Int)) T H sl L G (ar.map (clO T)) E [] (E s) B B hit Z → wJ (pe_GA xs) wY0 M (d + 6) t_M_invokes ((pe_at t_M_invokes.bl 15).getD (0, [])).2 [(0, (2, 237)), (1, (0, s)), (2, (0, kd)), (3, (0, 1)), (4, (0, hit)), (5, (0, kk))] [] Z Q) : wJ (pe_GA xs) wY0 M (d + 6) t_M_invokes ((pe_at t_M_invokes.bl 0).getD (0, [])).2 [(0, (2, 237)), (1, (0, s))] [] (w_up (w_up S 237 154 (200 * t + (K.2.1.length : Int) - 1)) 237 155 ((K.2.1.getD (K.2.1.length - 1) (0, 0, 0, (0, 0, []), 0, 0, 0)).2.1 + 1)) Q := by
  obtain ⟨⟨g1, g2⟩, ⟨g3, g4⟩, ⟨g5, g6⟩, g7, g8⟩ := id hg
  obtain ⟨⟨⟨a1, a2⟩, -⟩, hM, ⟨t0, t1⟩, -, ⟨-, -, a5, -⟩, -⟩ := id h
  have hbh : 0 ≤ bh := by omega
  have es : ∀ (j : Nat) (x : Int), j ≠ 237 → (w_up (w_up S 237 154 (200 * t + (K.2.1.length : Int) - 1)) 237 155 ((K.2.1.getD (K.2.1.length - 1) (0, 0, 0, (0, 0, []), 0, 0, 0)).2.1 + 1)) j x = S j x := fun j x hj => (w_up_slot hj).trans (w_up_slot hj)
  have hku := a2 ba (by omega)
  have hvu := vOk_get hv (show ba < K.1.length by omega)
  have hgb : (K.1.getD ba (0, 0, [])).1 ≠ 3 → (S 364 (2100 * t + (ba : Int))) = (K.1.getD ba (0, 0, [])).2.1 := fun z => (hku.2.1 z).1
  have hal : (ar.map (clO T)).length = ar.length := List.length_map _
  refine iv0e_ok (es := bh) (e0 := if kd = 0 then 0 else if kd < 4 then 1 else ne) (ba := (ba : Int)) (gk := (K.1.getD ba (0, 0, [])).1) (gb := (S 364 (2100 * t + (ba : Int)))) (kd := kd) (ne := ne) (mP_of h) hs ((es 304 _ (by first | decide | omega)).trans hkd) g1 ((es 306 _ (by first | decide | omega)).trans hne) ⟨by omega, by omega⟩ rfl ?_ ⟨by omega, by omega⟩ ((es 363 _ (by first | decide | omega)).trans hku.1) (es 364 _ (by first | decide | omega)) hvu.1 hc hcal (fun o Z hz => ?_)
  · rw [g4]
    by_cases c3 : kd = 3
    · rw [if_neg (by omega), if_pos c3, if_pos c3]
    · have k2 : kd = 2 := by omega
      rw [if_pos k2, if_neg c3, if_neg (show ¬ kd = 0 by omega), if_pos (show kd < 4 by omega)]
  · rcases hz with ⟨rfl, en, hb⟩ | ⟨rfl, hz⟩
    · refine Or.inl ⟨rfl, ?_⟩
      obtain ⟨⟨b1, b2, b3, b4, b5, b6, b7⟩, hwe⟩ := hPB Z en hb
      refine iv_l (d := d + 2) (S0 := Z) (H := H) (T := T) (sl := sl) (L := L) (Gl := G) (cl := (ar.map (clO T))) (nms := nms) (nm := en) (en := en) (lo := lo) (hi := hi) (r := 2100 * t + (ba : Int)) (gk := (K.1.getD ba (0, 0, [])).1) (gb := (S 364 (2100 * t + (ba : Int)))) hs.1 hwS hT g1 ⟨by omega, by rw [hal]; omega⟩ hvu.1 (fun z => ?_) (fun z => ?_) (fun z => ?_) (E s) [] E Z b4 b5 ⟨b1, b2, b3, fun j x => Or.inr (Or.inr rfl)⟩ rfl ?_ hwe (fun Z2 hit kk hr => hk Z en Z2 hit kk hb hr)
      · rw [hgb (by omega)]
        obtain ⟨y1, y2⟩ := hvu.2.1 (by omega) (by omega)
        exact ⟨⟨y1, by rw [y2]; exact z⟩, y2⟩
      · rw [hgb (by omega)]
        obtain ⟨y1, y2⟩ := hvu.2.1 (by omega) (by omega)
        exact ⟨y1, by rw [y2]; exact z⟩
      · rw [hgb (by omega)]
        exact hvu.2.2.1 z
      · have := (b4.2 s hs.1 b5).2.1
        omega
    · exact Or.inr ⟨rfl, hz⟩
end Wj1
