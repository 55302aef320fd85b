/-! PART mma: a host's method gives a text. -/
section Wmma
variable {Sb : wS} {xs : List (Nat × List Int32)} {d : Nat} {S0 S Z : wS} {p w m : Nat} {HT : Int → Int} {cs : List hCR} {ms : List hMR} {os : Int → List Int} {X : List (List Int)} {mo t n B B2 oq : Int} {fa : Int → Int} {WE : aA → Prop} {A A2 : aA} {K2 : aK} {ml : List Nat} {k c s kd nms ne ec bh nm en : Int} {b ba : Nat} {ar : List aV} {e : aE} {V Z2 Y : wS} {o : wO} {dn : Int} {H2 : List aH} {N2 : List (List Int)} {E2 : Int → List aE} {C2 : List aQ} {W2 : Int} {c2 : Int → Int} {k2 : Int → Int → Int} {mk rk : Nat → Int → Prop} {K : aK} {T : List aO} {H : List aH} {E : Int → List aE} {gk gb es lo hi a : Int} {r : List aE × Int × Option aE} {A1 : aA} {tl cl : List Int} {sl : Nat → List Int} {L : List aC} {G : Int → aV} {u : aV} {x : List Int} {T2 : List aO} {L2 : List aC} {G2 : Int → aV} {H2 : List aH} {c2 : Int → Int} {y : Int} {Q : wO → wS → Prop} {ps : List (Int × aV)} {k hd wh : Int} {f a9 pn fn md : Int} {vn m9 : Nat} {th : aV} {g : Int} {lp : List aV} {l ds fo g : Int} {mk : Nat → Int → Prop} {C2 : List aQ} {W2 : Int} {RZ : wS → Prop} {N3 : Nat} {SB : wS} {r r0 : Int} {sh : Int} {K9 : aK} {nt : Int} {R2 : List Int} {S2 : Int → aV} {wh en9 : Int}
/-- the names of members, as the class's words have them -/
def stHx (S0 : wS) (p : Nat) (HT : Int → Int) (ms : List hMR) : Prop := ∀ m : Int, 0 ≤ m → m < (ms.length : Int) → (hmR ms m).2.1 = 1 → wdS (p + 1) (S0 (p + 38) m) (nmR HT (hmR ms m)) S0 ∧ ∀ y ∈ nmR HT (hmR ms m), 0 ≤ y ∧ y ≤ 255
theorem hx_c (hp : p = 73 ∨ p = 162) (h : stHx S0 p HT ms) (hY : cRel S0 p HT cs ms os X mo A Y) {m : Int} (hm : (0 ≤ m ∧ m < (ms.length : Int)) ∧ (hmR ms m).2.1 = 1) : wdS (p + 1) (Y (p + 38) m) (nmR HT (hmR ms m)) Y := by
  have f := fun (j : Nat) (x : Int) (hj : p + 2 ≤ j ∧ j ≤ p + 43) => hY.2.2.2.2.2.2.2.2 j x (by unfold cSta; omega)
  obtain ⟨z1, z2, z3, z4, z5⟩ := (h m hm.1.1 hm.1.2 hm.2).1
  unfold wdS
  rw [f (p + 38) m (by omega), f (p + 1 + 3) _ (by omega), f (p + 1 + 2) _ (by omega), f (p + 1 + 3) _ (by omega), f (p + 1 + 2) _ (by omega), f (p + 1 + 1) _ (by omega)]
  exact ⟨z1, z2, z3, z4, fun i hi => (f (p + 1 + 1) _ (by omega)).trans (z5 i hi)⟩
theorem mx_c (h : hyA S0 p HT cs ms os X fa n B2 w t A s kd nms ne ec bh ba ar) (hY : cRel S0 p HT cs ms os X mo A Y) : ∀ (o : wO) (V : wS), (o = .inl none ∧ (((100000 < ((a_R A).length : Int) + 2 ∨ 12000 ≤ Y 150 2 ∨ 200000 < Y 150 3 + ((nmR HT (hmR ms e.2.2.2.2.1)).length : Int)) ∧ w_up Y w 16 99 = V) ∨ (¬ (100000 < ((a_R A).length : Int) + 2 ∨ 12000 ≤ Y 150 2 ∨ 200000 < Y 150 3 + ((nmR HT (hmR ms e.2.2.2.2.1)).length : Int)) ∧ cmPt w (a_K A t) ba kd (3, 0, (nmR HT (hmR ms e.2.2.2.2.1))) e.2.2.2.2.1 ec (a_R A) cMu Y V ∧ plG ((nmR HT (hmR ms e.2.2.2.2.1)).length : Int) Y V ∧ V 150 2 = Y 150 2 + 1 ∧ V 150 3 = Y 150 3 + ((nmR HT (hmR ms e.2.2.2.2.1)).length : Int)))) → (o = .inl none ∧ (((100000 < ((a_R A).length : Int) + 2 ∨ 12000 ≤ a_c A 2 ∨ 200000 < a_c A 3 + ((nmR HT (hmR ms e.2.2.2.2.1)).length : Int)) ∧ w_up Y w 16 99 = V) ∨ (¬ (100000 < ((a_R A).length : Int) + 2 ∨ 12000 ≤ a_c A 2 ∨ 200000 < a_c A 3 + ((nmR HT (hmR ms e.2.2.2.2.1)).length : Int)) ∧ cmPt w (a_K A t) ba kd (3, 0, (nmR HT (hmR ms e.2.2.2.2.1))) e.2.2.2.2.1 ec (a_R A) cMu Y V ∧ (cTx Y V ∧ cNt (a_N A) X V) ∧ (cWd V (a_T A) (a_L A) (a_G A) ∧ cSw V (a_T A) (a_H A) ∧ cPo V) ∧ cCw (fUp (fUp (a_c A) 2 (a_c A 2 + 1)) 3 (a_c A 3 + ((nmR HT (hmR ms e.2.2.2.2.1)).length : Int))) V ∧ cPl (pV S0) ((fUp (fUp (a_c A) 2 (a_c A 2 + 1)) 3 (a_c A 3 + ((nmR HT (hmR ms e.2.2.2.2.1)).length : Int))) 3) (a_N A) V))) := fun o V hz => ⟨hz.1, by
      obtain ⟨⟨hp, hw, hx⟩, hA, hB, ⟨hr, ho⟩, hsi, hme⟩ := id h
      have hcu := hA.2.2.2.2.1
      have u := cR_u hY
      have g21 := h21_c hA hY
      have htt := cR_tt hY
      rcases hz.2 with z | z
      · rw [u.2.2.1, u.2.2.2.1] at z
        exact Or.inl z
      · obtain ⟨y1, y2, y3, y4, y5⟩ := z
        rw [u.2.2.1, u.2.2.2.1] at y1
        have hF := y2.2.2.2
        obtain ⟨q1, q2, q3, q4, q5⟩ := y3
        have hcx : cTx Y V := ⟨by omega, q2⟩
        have c3 := hcu.2.2.2.1
        refine Or.inr ⟨y1, y2, ⟨hcx, ?_⟩, ⟨cR_W (A := A) hY hF hw hcx (fun j x hj hm => by unfold cWo at hj; unfold cMh cMu at hm; omega), cR_Sw (A := A) hY hF hw (fun j x hj hm => by unfold shD at hj; unfold cMh cMu at hm; omega), cR_Po (A := A) hY hF hw (fun j x hj hm => by unfold poD at hj; unfold cMh cMu at hm; omega)⟩, cCw_t hY hw hF y4 y5 (fun j x hj hm => by unfold cMh cMu at hm; omega), ?_⟩
        · exact cNt_g hY.2.2.2.1 (fun j x hj h3 h2 => fmG hF hw j x (by omega) (fun hm => by unfold cMh cMu at hm; omega)) ⟨by omega, q4⟩ q3 q2 ⟨by omega, by omega⟩
        · have qn := hA.2.2.2.2.2.1.1.1
          have q := hY.2.2.2.2.2.2.2.1.2.1.2
          have e7 := fmG hF hw 2 7 (by first | decide | omega) (fun hm => by unfold cMh cMu at hm; omega)
          have e4 := fmG hF hw 4 (-1) (by first | decide | omega) (fun hm => by unfold cMh cMu at hm; omega)
          unfold cPl at q ⊢
          rw [fUp_s]
          omega⟩
theorem mx_r (h : hyA S0 p HT cs ms os X fa n B2 w t A s kd nms ne ec bh ba ar) (hbe : bh = ec) (hY : rRun S0 Sb HT cs ms os X mo t A Y) : ∀ (o : wO) (V : wS), (((100000 < ((a_R A).length : Int) + 2 ∨ 12000 ≤ Y 237 64 ∨ 200000 < Y 237 65 + ((nmR HT (hmR ms e.2.2.2.2.1)).length : Int)) ∧ o = .inr 238 ∧ ∃ B : wS, (∀ (j : Nat) (x : Int), ¬ txM j x → B j x = Y j x) ∧ hZ 99 B = V) ∨ (¬ (100000 < ((a_R A).length : Int) + 2 ∨ 12000 ≤ Y 237 64 ∨ 200000 < Y 237 65 + ((nmR HT (hmR ms e.2.2.2.2.1)).length : Int)) ∧ o = .inl none ∧ rmO t (a_K A t) ba kd (3, 0, (nmR HT (hmR ms e.2.2.2.2.1))) (a_T A) (a_L A) (a_G A) e.2.2.2.2.1 bh (a_R A) rMu Y V ∧ (rTt V ∧ rTb V) ∧ (V 237 102 = Y 237 102 + 1 ∧ V 237 103 = Y 237 103 + ((nmR HT (hmR ms e.2.2.2.2.1)).length : Int) ∧ V 237 64 = Y 237 64 + 1 ∧ V 237 65 = Y 237 65 + ((nmR HT (hmR ms e.2.2.2.2.1)).length : Int)) ∧ rTx Y V)) → (((100000 < ((a_R A).length : Int) + 2 ∨ 12000 ≤ a_c A 2 ∨ 200000 < a_c A 3 + ((nmR HT (hmR ms e.2.2.2.2.1)).length : Int)) ∧ o = .inr 238 ∧ ∃ B : wS, (∀ (j : Nat) (x : Int), ¬ (txM j x ∨ flM j x) → B j x = Y j x) ∧ hZ 99 B = V) ∨ (¬ (100000 < ((a_R A).length : Int) + 2 ∨ 12000 ≤ a_c A 2 ∨ 200000 < a_c A 3 + ((nmR HT (hmR ms e.2.2.2.2.1)).length : Int)) ∧ o = .inl none ∧ rmO t (a_K A t) ba kd (3, 0, (nmR HT (hmR ms e.2.2.2.2.1))) (a_T A) (a_L A) (a_G A) e.2.2.2.2.1 ec (a_R A) rMu Y V ∧ rTx Y V ∧ (rTt V ∧ rTb V) ∧ rHs V (a_H A) ∧ rCw (fUp (fUp (a_c A) 2 (a_c A 2 + 1)) 3 (a_c A 3 + ((nmR HT (hmR ms e.2.2.2.2.1)).length : Int))) V)) := fun o V hz => by
      have u := rR_u hY
      rw [hbe] at hz
      rcases hz with z | z
      · obtain ⟨y1, y2, B, y3, y4⟩ := z
        rw [u.2.2.1, u.2.2.2.1] at y1
        exact Or.inl ⟨y1, y2, B, fun j x hm => y3 j x (fun q => hm (Or.inl q)), y4⟩
      · obtain ⟨y1, y2, y3, y4, y5, y6⟩ := z
        rw [u.2.2.1, u.2.2.2.1] at y1
        have hF := y3.2.2.2
        exact Or.inr ⟨y1, y2, y3, y6, y4, rR_H (A := A) hY.1 hF (fun j x hj hm => by unfold rMh rMu at hm; omega), rCw_t hY hF y5.2.2.1 y5.2.2.2 (fun x hx hm => by unfold rMh rMu at hm; omega)⟩
theorem ao_mx (h : hyA S0 p HT cs ms os X fa n B2 w t A s kd nms ne ec bh ba ar) (hX : w_X xs) (hx1 : pe_at (pe_GA xs).xs 1 = some (1, tx_1)) {b9 : Nat} (hH : stHo S0 p b9 HT nt cs ms os n) (hC9 : stHc S0 p HT cs ms os) (hF9 : stHf S0 p HT cs ms os) (hX9 : stHx S0 p HT ms) (e12 : e.1 = 1 ∨ e.1 = 2) (hm : (0 ≤ e.2.2.2.2.1 ∧ e.2.2.2.2.1 < (ms.length : Int)) ∧ (hmR ms e.2.2.2.2.1).2.1 = 1) (hff : ffA HT cs ms e.2.2.2.2.1 = -1) (hty : (hmR ms e.2.2.2.2.1).2.2.2.1 = 7) (hbe : bh = ec) : aOut xs d S0 p HT cs ms os X mo fa n B2 w t A s kd nms ec bh ba nm en es e := by
  have hg := ar_g h
  have hbl := (hA_ba h).2.1
  obtain ⟨⟨hp, hw, hx⟩, hA, hB, ⟨hr, ho⟩, hsi, hme⟩ := id h
  have hwH := hH.2.2.2.2.2.2.2.1
  have hcu := hA.2.2.2.2.1
  have hnl := (hX9 e.2.2.2.2.1 hm.1.1 hm.1.2 hm.2).1.2.2.1.2
  have hu : vG (a_T A) n (3, 0, (nmR HT (hmR ms e.2.2.2.2.1))) := vG_x ⟨(hX9 e.2.2.2.2.1 hm.1.1 hm.1.2 hm.2).2, by omega⟩
  refine ao_M (ml := [w + 2, w + 3, 152, 3]) (mk := cMu) (rk := rMu) (u := (3, 0, (nmR HT (hmR ms e.2.2.2.2.1)))) (wh := e.2.2.2.2.1) (en9 := ec) (F := (100000 < ((a_R A).length : Int) + 2 ∨ 12000 ≤ a_c A 2 ∨ 200000 < a_c A 3 + ((nmR HT (hmR ms e.2.2.2.2.1)).length : Int))) (T2 := a_T A) (L2 := a_L A) (G2 := a_G A) (H2 := a_H A) (c2 := (fUp (fUp (a_c A) 2 (a_c A 2 + 1)) 3 (a_c A 3 + ((nmR HT (hmR ms e.2.2.2.2.1)).length : Int)))) h e12 (by rcases hw with ⟨rfl, rfl⟩ | ⟨rfl, rfl⟩ <;> decide) (fun j x hm => Or.inr (Or.inl (by unfold cMu at hm; unfold mTx; omega))) (fun j x hm => Or.inr (Or.inl (by unfold rMu at hm; unfold rTx9; omega))) (fun i i0 i1 => by rw [fUp_n (by omega), fUp_n (by omega)]) (fun hF => ?_) (fun Y y hY ha hd9 he => ?_) (fun Y sl hY ha hW hd9 => ?_)
  · exact wf_T hA WEs_w hw ⟨Int.le_refl _, hB.2⟩ (tyv_A h) (kv_P (wV_of hA hw) (if_G h hu)) fLe_P ⟨by rw [fUp_n (by first | decide | omega), fUp_s]; have := hcu.2.2.1; omega, by rw [fUp_s]; have := hcu.2.2.2.1; omega, fun i i0 i1 => by rw [fUp_n i1, fUp_n i0]⟩
  · have hKC := (hkc_c hp hC9 hY).1
    have h72 := (ho_c hH hY).1
    have htr := hY.2.2.2.2.2.1.2
    have hmf := (hf_c hp hF9 hY hm).trans hff
    have u := cR_u hY
    have g21 := h21_c hA hY
    have hws := hx_c hp hX9 hY hm
    have htt := cR_tt hY
    have h10 : 0 ≤ Y 2 1 ∧ Y 2 1 ≤ Y 3 (-1) ∧ 1024 ≤ Y 3 (-1) ∧ Y 3 (-1) ≤ 16777216 := ⟨htt.1, htt.2.1, (cR_n hY).1.2.1.2.2.2.2.2.2.1, by omega⟩
    have hu2 : 0 ≤ Y 150 2 ∧ Y 150 2 ≤ 12000 := by rw [u.2.2.1]; exact hcu.2.2.1
    have hu3 : 0 ≤ Y 150 3 ∧ Y 150 3 ≤ 200000 := by rw [u.2.2.2.1]; exact hcu.2.2.2.1
    rcases hp with rfl | rfl
    · rcases hw with ⟨rfl, rfl⟩ | ⟨rfl, rfl⟩
      · exact wJ_mono (amx_73_215 (d := d + 84) hx1 hd9 hKC h72 e12 he.1.2.2.2.1 hm htr hg hty hmf hws h10 hu2 hu3) (mx_c h hY)
      · exact wJ_mono (amx_73_226 (d := d + 84) hx1 hd9 hKC h72 e12 he.1.2.2.2.1 hm htr hg hty hmf hws h10 hu2 hu3) (mx_c h hY)
    · rcases hw with ⟨rfl, rfl⟩ | ⟨rfl, rfl⟩
      · exact wJ_mono (amx_162_215 (d := d + 84) hx1 hd9 hKC h72 e12 he.1.2.2.2.1 hm htr hg hty hmf hws h10 hu2 hu3) (mx_c h hY)
      · exact wJ_mono (amx_162_226 (d := d + 84) hx1 hd9 hKC h72 e12 he.1.2.2.2.1 hm htr hg hty hmf hws h10 hu2 hu3) (mx_c h hY)
  · have hKR := ho_r hH hY
    have htr := hY.1.2.2.2.2.2.1.2
    have u := rR_u hY
    have hg2 : arG (a_K A t) ba bh ar := by rw [hbe]; exact hg
    have hb1 : kd = 1 → ba + 2 = (a_K A t).1.length := fun k1 => by
      have := hsi.2.1.2.1.1
      rw [if_pos k1] at this
      omega
    have hu2 : Y 237 64 ≤ 12000 := by rw [u.2.2.1]; exact hcu.2.2.1.2
    have hu3 : Y 237 65 ≤ 200000 := by rw [u.2.2.2.1]; exact hcu.2.2.2.1.2
    rcases hH.1 with ⟨q1, q2⟩ | ⟨q1, q2⟩
    · rw [q2] at hKR
      exact wJ_mono (rnx_241 (d := d + 80) hd9 hKR hwH hX hm htr hg2 hsi.2.1.1.1 hb1 hff hty hY.1.2.2.2.1.2.2.1 hY.1.2.2.2.1.2.2.2 hu2 hu3) (mx_r h hbe hY)
    · rw [q2] at hKR
      exact wJ_mono (rnx_261 (d := d + 80) hd9 hKR hwH hX hm htr hg2 hsi.2.1.1.1 hb1 hff hty hY.1.2.2.2.1.2.2.1 hY.1.2.2.2.1.2.2.2 hu2 hu3) (mx_r h hbe hY)
end Wmma
