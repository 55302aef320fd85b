/-! PART mj: hosts' fields of instances are read; a host's method gives one, or a thing. -/
section Wmj
variable {xs : List (Nat × List Int32)} {d : Nat} {S0 S Z : wS} {p w m : Nat} {HT : Int → Int} {cs : List hCR} {ms : List hMR} {os : Int → List Int} {X : List (List Int)} {mo t n B B2 oq : Int} {fa : Int → Int} {WE : aA → Prop} {A A2 : aA} {K2 : aK} {ml : List Nat} {k c s kd nms ne ec bh nm en : Int} {b ba : Nat} {ar : List aV} {e : aE} {V Z2 Y : wS} {o : wO} {dn : Int} {H2 : List aH} {N2 : List (List Int)} {E2 : Int → List aE} {C2 : List aQ} {W2 : Int} {c2 : Int → Int} {k2 : Int → Int → Int} {mk rk : Nat → Int → Prop} {K : aK} {T : List aO} {H : List aH} {E : Int → List aE} {gk gb es lo hi a : Int} {r : List aE × Int × Option aE} {A1 : aA} {tl cl : List Int} {sl : Nat → List Int} {L : List aC} {G : Int → aV} {u : aV} {x : List Int} {T2 : List aO} {L2 : List aC} {G2 : Int → aV} {H2 : List aH} {c2 : Int → Int} {y : Int} {Q : wO → wS → Prop} {ps : List (Int × aV)} {k hd wh : Int} {f a9 pn fn md : Int} {vn m9 : Nat} {th : aV} {g : Int} {lp : List aV} {l ds fo g : Int} {mk : Nat → Int → Prop} {C2 : List aQ} {W2 : Int} {RZ : wS → Prop} {N3 : Nat} {SB : wS} {r r0 : Int} {sh : Int} {K9 : aK} {nt : Int} {R2 : List Int} {S2 : Int → aV} {wh en9 : Int}
/-- where the class's tables have an instance's field -/
def stHi (S0 : wS) (p : Nat) (cs : List hCR) (ms : List hMR) : Prop := ∀ m : Int, isIf ms m → ∀ c : Int, 0 ≤ c → c < (cs.length : Int) → m ∈ flA cs ms c → fPl cs ms c m (S0 (p + 39) m)
/-- an instance, and a field of it -/
def hIn (S0 : wS) (p : Nat) (cs : List hCR) (ms : List hMR) (A : aA) (v : aV) (fl fi : Int) : Prop := v.1 = 7 ∧ isIf ms fl ∧ S0 (p + 39) fl = fi ∧ fPl cs ms (tO (a_T A) v.2.1).2.2.1 fl fi
theorem in_of (h : hyA S0 p HT cs ms os X fa n B2 w t A s kd nms ne ec bh ba ar) (hn : n = (cs.length : Int)) (hi : stHi S0 p cs ms) {fl : Int} (hg : ((a_K A t).1.getD ba (0, 0, [])).1 = 7) (hif : isIf ms fl) (hm : fl ∈ flA cs ms (tO (a_T A) ((a_K A t).1.getD ba (0, 0, [])).2.1).2.2.1) : hIn S0 p cs ms A ((a_K A t).1.getD ba (0, 0, [])) fl (S0 (p + 39) fl) := by
  have hv := gv_G h
  exact ⟨hg, hif, rfl, hi fl hif _ (hv.1.2.2.2.1 hg).1 (by have := hv.2.1 hg; omega) hm⟩
theorem in_r (h : hyA S0 p HT cs ms os X fa n B2 w t A s kd nms ne ec bh ba ar) {fl fi : Int} (hI : hIn S0 p cs ms A ((a_K A t).1.getD ba (0, 0, [])) fl fi) : (0 ≤ ((a_K A t).1.getD ba (0, 0, [])).2.1 ∧ ((a_K A t).1.getD ba (0, 0, [])).2.1 < ((a_T A).length : Int)) ∧ (tO (a_T A) ((a_K A t).1.getD ba (0, 0, [])).2.1).1 = 7 ∧ (0 ≤ fi ∧ fi < ((tO (a_T A) ((a_K A t).1.getD ba (0, 0, [])).2.1).2.2.2.2.2.2.length : Int)) ∧ fi ≤ 1000 := by
  have hv := gv_G h
  obtain ⟨x1, x2⟩ := hv.1.2.1 (by have := hI.1; omega) (by have := hI.1; omega)
  have x3 := x2.trans hI.1
  have hl := h.2.1.2.2.2.2.2.2.2.2 _ x1.1 x1.2 x3
  obtain ⟨-, y1, y2, -⟩ := hI.2.2.2
  exact ⟨x1, x3, ⟨y2.1, by omega⟩, by omega⟩
theorem hi_c (hp : p = 73 ∨ p = 162) (hY : cRel S0 p HT cs ms os X mo A Y) {m : Int} : Y (p + 39) m = S0 (p + 39) m := hY.2.2.2.2.2.2.2.2 (p + 39) m (by unfold cSta; omega)
theorem ao_hi (h : hyA S0 p HT cs ms os X fa n B2 w t A s kd nms ne ec bh ba ar) {b9 : Nat} (hH : stHo S0 p b9 HT nt cs ms os n) (hC9 : stHc S0 p HT cs ms os) (e12 : e.1 = 1 ∨ e.1 = 2) (hkd : kd = 0) {fi : Int} (hI : hIn S0 p cs ms A ((a_K A t).1.getD ba (0, 0, [])) e.2.2.2.2.1 fi) : aOut xs d S0 p HT cs ms os X mo fa n B2 w t A s kd nms ec bh ba nm en es e := by
  obtain ⟨⟨hp, hw, hx⟩, hA, hB, ⟨hr, ho⟩, hsi, hme⟩ := id h
  obtain ⟨i1, i2, i3, i4⟩ := in_r h hI
  have hu := gvA_G (wh := fi) hA i1 (Or.inr i3)
  have hwH := hH.2.2.2.2.2.2.2.1
  have g3 : ((a_K A t).1.getD ba (0, 0, [])).1 ≠ 3 := by have := hI.1; omega
  refine aO_v (u := gvA (a_T A) ((a_K A t).1.getD ba (0, 0, [])).2.1 fi) h hu (cA_K (ml := [w + 2, w + 3]) h (by rcases hw with ⟨rfl, rfl⟩ | ⟨rfl, rfl⟩ <;> decide) (fun Y y hY ha hd9 he => ?_)) (rA_1 h e12 (fun Y sl hY ha hW hd9 => ?_))
  · rw [gb_c h hY g3] at hd9
    have hKC := (hkc_c hp hC9 hY).1
    have h72 := (ho_c hH hY).1
    have hfi := (hi_c hp hY (m := e.2.2.2.2.1)).trans hI.2.2.1
    rcases hp with rfl | rfl
    · rcases hw with ⟨rfl, rfl⟩ | ⟨rfl, rfl⟩
      · exact ahi_73_215 (d := d + 82) hd9 hKC h72 e12 he.1.2.2.2.1 hI.2.1 hfi i1 ⟨i3.1, i3.2, i4⟩ hkd
      · exact ahi_73_226 (d := d + 82) hd9 hKC h72 e12 he.1.2.2.2.1 hI.2.1 hfi i1 ⟨i3.1, i3.2, i4⟩ hkd
    · rcases hw with ⟨rfl, rfl⟩ | ⟨rfl, rfl⟩
      · exact ahi_162_215 (d := d + 82) hd9 hKC h72 e12 he.1.2.2.2.1 hI.2.1 hfi i1 ⟨i3.1, i3.2, i4⟩ hkd
      · exact ahi_162_226 (d := d + 82) hd9 hKC h72 e12 he.1.2.2.2.1 hI.2.1 hfi i1 ⟨i3.1, i3.2, i4⟩ hkd
  · rw [gb_r h hY g3] at hd9
    have hKR := ho_r hH hY
    rcases hH.1 with ⟨q1, q2⟩ | ⟨q1, q2⟩
    · rw [q2] at hKR
      exact wJ_mono (rhiT_241 (d := d + 85) hd9 hKR hwH hI.2.1 i1 ⟨i2, rfl⟩ hI.2.2.2 i3 hkd) (fun o Z hz hM => rQ_K h hY hM ⟨hz.1, hz.2.1, hz.2.2.2⟩)
    · rw [q2] at hKR
      exact wJ_mono (rhiT_261 (d := d + 85) hd9 hKR hwH hI.2.1 i1 ⟨i2, rfl⟩ hI.2.2.2 i3 hkd) (fun o Z hz hM => rQ_K h hY hM ⟨hz.1, hz.2.1, hz.2.2.2⟩)

theorem ao_mi (h : hyA S0 p HT cs ms os X fa n B2 w t A s kd nms ne ec bh ba ar) (hX : w_X xs) {b9 : Nat} (hH : stHo S0 p b9 HT nt cs ms os n) (hC9 : stHc S0 p HT cs ms os) (hF9 : stHf S0 p HT cs ms os) (e12 : e.1 = 1 ∨ e.1 = 2) (hm : (0 ≤ e.2.2.2.2.1 ∧ e.2.2.2.2.1 < (ms.length : Int)) ∧ (hmR ms e.2.2.2.2.1).2.1 = 1) {fl fi : Int} (hff : ffA HT cs ms e.2.2.2.2.1 = fl) (hI : hIn S0 p cs ms A ((a_K A t).1.getD ba (0, 0, [])) fl fi) (hpc : (hmR ms e.2.2.2.2.1).2.2.2.2.1.length = 0) (hty : (hmR ms e.2.2.2.2.1).2.2.2.1 ≠ 0) (hbe : bh = ec) : aOut xs d S0 p HT cs ms os X mo fa n B2 w t A s kd nms ec bh ba nm en es e := by
  have hg := ar_g h
  have hav := ar_v h hH.2.2.2.1.2.2
  have hbl := (hA_ba h).2.1
  obtain ⟨⟨hp, hw, hx⟩, hA, hB, ⟨hr, ho⟩, hsi, hme⟩ := id h
  have hwH := hH.2.2.2.2.2.2.2.1
  obtain ⟨i1, i2, i3, i4⟩ := in_r h hI
  have g3 : ((a_K A t).1.getD ba (0, 0, [])).1 ≠ 3 := by have := hI.1; omega
  refine ao_m (ml := [w + 2, w + 3, 152]) (mk := fun _ _ => False) (rk := fun _ _ => False) (S2 := a_S A) (u := (gvA (a_T A) ((a_K A t).1.getD ba (0, 0, [])).2.1 fi)) (wh := e.2.2.2.2.1) (en9 := ec) h e12 (by rcases hw with ⟨rfl, rfl⟩ | ⟨rfl, rfl⟩ <;> decide) (fun _ _ z => z.elim) (fun _ _ z => z.elim) (gvA_G (wh := fi) hA i1 (Or.inr i3)) hA.2.2.1.2.2.2.2 (fun Y y hY ha hd9 he => ?_) (fun Y sl hY ha hW hd9 => ?_)
  · rw [gb_c h hY g3] at hd9
    have hfi := (hi_c hp hY (m := fl)).trans hI.2.2.1
    have hKC := (hkc_c hp hC9 hY).1
    have h72 := (ho_c hH hY).1
    have hst := hY.2.2.2.2.2.2.1.2
    have htr := hY.2.2.2.2.2.1.2
    have hmf := (hf_c hp hF9 hY hm).trans hff
    have fin : ∀ V : wS, cmPt w (a_K A t) ba kd (gvA (a_T A) ((a_K A t).1.getD ba (0, 0, [])).2.1 fi) e.2.2.2.2.1 ec (a_R A) (fun _ _ => False) Y V → cStc (p + 24) (p + 44) ms (a_S A) V := fun V hv => by
      have ww := isWt_w hw
      exact cStc_ag hst (fr_tx hv.2.2.2 hw (fun x hm => by rcases hm with z | z; (unfold cMh at z; omega); exact z) (fun hm => by rcases hm with z | z; (unfold cMh at z; omega); exact z)) (fun j x hj => fmG hv.2.2.2 hw j x (by omega) (fun hm => by rcases hm with z | z; (unfold cMh at z; omega); exact z))
    have go : ∀ (o : wO) (V : wS), (o = .inl none ∧ ((100000 < ((a_R A).length : Int) + 2 ∧ w_up Y w 16 99 = V) ∨ (((a_R A).length : Int) + 2 ≤ 100000 ∧ cmPt w (a_K A t) ba kd (gvA (a_T A) ((a_K A t).1.getD ba (0, 0, [])).2.1 fi) e.2.2.2.2.1 ec (a_R A) (fun _ _ => False) Y V))) → (o = .inl none ∧ ((100000 < ((a_R A).length : Int) + 2 ∧ w_up Y w 16 99 = V) ∨ (((a_R A).length : Int) + 2 ≤ 100000 ∧ cmPt w (a_K A t) ba kd (gvA (a_T A) ((a_K A t).1.getD ba (0, 0, [])).2.1 fi) e.2.2.2.2.1 ec (a_R A) (fun _ _ => False) Y V ∧ cStc (p + 24) (p + 44) ms (a_S A) V))) := fun o V hz => ⟨hz.1, by
      rcases hz.2 with z | z
      · exact Or.inl z
      · exact Or.inr ⟨z.1, z.2, fin V z.2⟩⟩
    rcases hp with rfl | rfl
    · rcases hw with ⟨rfl, rfl⟩ | ⟨rfl, rfl⟩
      · exact wJ_mono (ami_73_215 (d := d + 84) hd9 hKC h72 e12 he.1.2.2.2.1 hm htr hg hmf hI.2.1 hfi i1 ⟨i3.1, i3.2, i4⟩ hpc) go
      · exact wJ_mono (ami_73_226 (d := d + 84) hd9 hKC h72 e12 he.1.2.2.2.1 hm htr hg hmf hI.2.1 hfi i1 ⟨i3.1, i3.2, i4⟩ hpc) go
    · rcases hw with ⟨rfl, rfl⟩ | ⟨rfl, rfl⟩
      · exact wJ_mono (ami_162_215 (d := d + 84) hd9 hKC h72 e12 he.1.2.2.2.1 hm htr hg hmf hI.2.1 hfi i1 ⟨i3.1, i3.2, i4⟩ hpc) go
      · exact wJ_mono (ami_162_226 (d := d + 84) hd9 hKC h72 e12 he.1.2.2.2.1 hm htr hg hmf hI.2.1 hfi i1 ⟨i3.1, i3.2, i4⟩ hpc) go
  · rw [gb_r h hY g3] at hd9
    have hKR := ho_r hH hY
    have hst := hY.1.2.2.2.2.2.2.1.2
    have htr := hY.1.2.2.2.2.2.1.2
    have hg2 : arG (a_K A t) ba bh ar := by rw [hbe]; exact hg
    have go : ∀ (o : wO) (V : wS), ((100000 < ((a_R A).length : Int) + 2 ∧ o = .inr 238 ∧ hZ 99 Y = V) ∨ (((a_R A).length : Int) + 2 ≤ 100000 ∧ o = .inl none ∧ rmO t (a_K A t) ba kd (gvA (a_T A) ((a_K A t).1.getD ba (0, 0, [])).2.1 fi) (a_T A) (a_L A) (a_G A) e.2.2.2.2.1 bh (a_R A) (fun _ _ => False) Y V)) → ((100000 < ((a_R A).length : Int) + 2 ∧ o = .inr 238 ∧ hZ 99 Y = V) ∨ (((a_R A).length : Int) + 2 ≤ 100000 ∧ o = .inl none ∧ rmO t (a_K A t) ba kd (gvA (a_T A) ((a_K A t).1.getD ba (0, 0, [])).2.1 fi) (a_T A) (a_L A) (a_G A) e.2.2.2.2.1 ec (a_R A) (fun _ _ => False) Y V ∧ rStc ms (a_S A) V)) := fun o V hz => by
      rw [hbe] at hz
      rcases hz with z | z
      · exact Or.inl z
      · exact Or.inr ⟨z.1, z.2.1, z.2.2, rR_S hY.1 z.2.2.2.2.2 (tf_tx z.2.2.2.2.2 (fun j x hj hm => by rcases hm with q | q; (unfold rMh at q; omega); exact q)) (fun j x hj hm => by rcases hm with q | q; (unfold rMh at q; omega); exact q)⟩
    have hb1 : kd = 1 → ba + 2 = (a_K A t).1.length := fun k1 => by
      have := hsi.2.1.2.1.1
      rw [if_pos k1] at this
      omega
    rcases hH.1 with ⟨q1, q2⟩ | ⟨q1, q2⟩
    · rw [q2] at hKR
      exact wJ_mono (rni_241 (d := d + 80) hd9 hKR hwH hX hm htr hg2 hsi.2.1.1.1 hb1 hff hI.2.1 i1 ⟨i2, rfl⟩ hI.2.2.2 i3 hty) go
    · rw [q2] at hKR
      exact wJ_mono (rni_261 (d := d + 80) hd9 hKR hwH hX hm htr hg2 hsi.2.1.1.1 hb1 hff hI.2.1 i1 ⟨i2, rfl⟩ hI.2.2.2 i3 hty) go

theorem anV_G {T : List aO} {sb ty : Int} {rc : aV} {ar : List aV} (h1 : vG T n rc) (h2 : ∀ u ∈ ar, vG T n u) : vG T n (anV cs T sb ty rc ar) := by
  unfold anV
  split
  · exact h1
  · cases hf : ar.find? (fun u => decide (u.1 ≠ 0) && isA cs T ty u) with
    | none => exact vG_0
    | some u => exact h2 u (List.mem_of_find?_eq_some hf)
theorem ar_G (h : hyA S0 p HT cs ms os X fa n B2 w t A s kd nms ne ec bh ba ar) : ∀ v ∈ ar, vG (a_T A) n v := fun v hv => by
  obtain ⟨i, hi, he⟩ := List.mem_iff_getElem.mp hv
  have e1 : ar.getD i (0, 0, []) = v := by rw [gD_ix hi]; exact he
  have e2 := h.2.2.2.2.1.2.1.2.2.2.2 i hi
  have hG := gD_G (fun x hx => (wV_of h.2.1 h.1.2.1).1 x hx) (ba + 1 + i)
  rw [e2, e1] at hG
  exact hG

theorem ao_mt (h : hyA S0 p HT cs ms os X fa n B2 w t A s kd nms ne ec bh ba ar) (hX : w_X xs) {b9 : Nat} (hH : stHo S0 p b9 HT nt cs ms os n) (hC9 : stHc S0 p HT cs ms os) (hF9 : stHf S0 p HT cs ms os) (e12 : e.1 = 1 ∨ e.1 = 2) (hm : (0 ≤ e.2.2.2.2.1 ∧ e.2.2.2.2.1 < (ms.length : Int)) ∧ (hmR ms e.2.2.2.2.1).2.1 = 1) (hff : ffA HT cs ms e.2.2.2.2.1 = -1) (hty : 8 ≤ (hmR ms e.2.2.2.2.1).2.2.2.1 ∧ (hmR ms e.2.2.2.2.1).2.2.2.1 < 9 + (cs.length : Int)) (hsb : ((hmR ms e.2.2.2.2.1).2.2.1 = 0 ∧ ((a_K A t).1.getD ba (0, 0, [])).1 = 7) ∨ ((hmR ms e.2.2.2.2.1).2.2.1 = 1 ∧ ((a_K A t).1.getD ba (0, 0, [])).1 ≠ 7)) (hbe : bh = ec) : aOut xs d S0 p HT cs ms os X mo fa n B2 w t A s kd nms ec bh ba nm en es e := by
  have hg := ar_g h
  have hav := ar_v h hH.2.2.2.1.2.2
  have hbl := (hA_ba h).2.1
  obtain ⟨⟨hp, hw, hx⟩, hA, hB, ⟨hr, ho⟩, hsi, hme⟩ := id h
  have hwH := hH.2.2.2.2.2.2.2.1
  have hrv : vOk (a_T A) ((a_K A t).1.getD ba (0, 0, [])) ∧ (((a_K A t).1.getD ba (0, 0, [])).1 = 7 → (tO (a_T A) ((a_K A t).1.getD ba (0, 0, [])).2.1).2.2.1 < (cs.length : Int)) := ⟨(gv_G h).1, fun z => by have := (gv_G h).2.1 z; have := hH.2.2.2.1.2.2; omega⟩
  have hba := hA_ba h
  refine ao_m (ml := [w + 2, w + 3, 152]) (mk := fun _ _ => False) (rk := fun _ _ => False) (S2 := a_S A) (u := (anV cs (a_T A) (hmR ms e.2.2.2.2.1).2.2.1 (hmR ms e.2.2.2.2.1).2.2.2.1 ((a_K A t).1.getD ba (0, 0, [])) ar)) (wh := e.2.2.2.2.1) (en9 := ec) h e12 (by rcases hw with ⟨rfl, rfl⟩ | ⟨rfl, rfl⟩ <;> decide) (fun _ _ z => z.elim) (fun _ _ z => z.elim) (anV_G (gv_G h) (ar_G h)) hA.2.2.1.2.2.2.2 (fun Y y hY ha hd9 he => ?_) (fun Y sl hY ha hW hd9 => ?_)
  · refine wJ_E (fun hE => ?_)
    have pv := pv_w hE hd9.1.1 (isWt_w hw) (i := (ba : Int)) ⟨by omega, by omega⟩
    have hKC := (hkc_c hp hC9 hY).1
    have h72 := (ho_c hH hY).1
    have hst := hY.2.2.2.2.2.2.1.2
    have htr := hY.2.2.2.2.2.1.2
    have hmf := (hf_c hp hF9 hY hm).trans hff
    have fin : ∀ V : wS, cmPt w (a_K A t) ba kd (anV cs (a_T A) (hmR ms e.2.2.2.2.1).2.2.1 (hmR ms e.2.2.2.2.1).2.2.2.1 ((a_K A t).1.getD ba (0, 0, [])) ar) e.2.2.2.2.1 ec (a_R A) (fun _ _ => False) Y V → cStc (p + 24) (p + 44) ms (a_S A) V := fun V hv => by
      have ww := isWt_w hw
      exact cStc_ag hst (fr_tx hv.2.2.2 hw (fun x hm => by rcases hm with z | z; (unfold cMh at z; omega); exact z) (fun hm => by rcases hm with z | z; (unfold cMh at z; omega); exact z)) (fun j x hj => fmG hv.2.2.2 hw j x (by omega) (fun hm => by rcases hm with z | z; (unfold cMh at z; omega); exact z))
    have go : ∀ (o : wO) (V : wS), (o = .inl none ∧ ((100000 < ((a_R A).length : Int) + 2 ∧ w_up Y w 16 99 = V) ∨ (((a_R A).length : Int) + 2 ≤ 100000 ∧ cmPt w (a_K A t) ba kd (anV cs (a_T A) (hmR ms e.2.2.2.2.1).2.2.1 (hmR ms e.2.2.2.2.1).2.2.2.1 ((a_K A t).1.getD ba (0, 0, [])) ar) e.2.2.2.2.1 ec (a_R A) (fun _ _ => False) Y V))) → (o = .inl none ∧ ((100000 < ((a_R A).length : Int) + 2 ∧ w_up Y w 16 99 = V) ∨ (((a_R A).length : Int) + 2 ≤ 100000 ∧ cmPt w (a_K A t) ba kd (anV cs (a_T A) (hmR ms e.2.2.2.2.1).2.2.1 (hmR ms e.2.2.2.2.1).2.2.2.1 ((a_K A t).1.getD ba (0, 0, [])) ar) e.2.2.2.2.1 ec (a_R A) (fun _ _ => False) Y V ∧ cStc (p + 24) (p + 44) ms (a_S A) V))) := fun o V hz => ⟨hz.1, by
      rcases hz.2 with z | z
      · exact Or.inl z
      · exact Or.inr ⟨z.1, z.2, fin V z.2⟩⟩
    rcases hp with rfl | rfl
    · rcases hw with ⟨rfl, rfl⟩ | ⟨rfl, rfl⟩
      · exact wJ_mono (amt_73_215 (d := d + 84) hd9 hKC h72 e12 he.1.2.2.2.1 hm htr hg hwH hty hmf (by omega) (gv_c h hY) pv hrv hav) go
      · exact wJ_mono (amt_73_226 (d := d + 84) hd9 hKC h72 e12 he.1.2.2.2.1 hm htr hg hwH hty hmf (by omega) (gv_c h hY) pv hrv hav) go
    · rcases hw with ⟨rfl, rfl⟩ | ⟨rfl, rfl⟩
      · exact wJ_mono (amt_162_215 (d := d + 84) hd9 hKC h72 e12 he.1.2.2.2.1 hm htr hg hwH hty hmf (by omega) (gv_c h hY) pv hrv hav) go
      · exact wJ_mono (amt_162_226 (d := d + 84) hd9 hKC h72 e12 he.1.2.2.2.1 hm htr hg hwH hty hmf (by omega) (gv_c h hY) pv hrv hav) go
  · refine wJ_E (fun hE => ?_)
    have pv := pv_r (t := t) (K := a_K A t) hE hY.1.1 (wt_t hw) (i := (ba : Int)) ⟨by omega, by omega⟩
    have hKR := ho_r hH hY
    have hst := hY.1.2.2.2.2.2.2.1.2
    have htr := hY.1.2.2.2.2.2.1.2
    have hg2 : arG (a_K A t) ba bh ar := by rw [hbe]; exact hg
    have go : ∀ (o : wO) (V : wS), ((100000 < ((a_R A).length : Int) + 2 ∧ o = .inr 238 ∧ hZ 99 Y = V) ∨ (((a_R A).length : Int) + 2 ≤ 100000 ∧ o = .inl none ∧ rmO t (a_K A t) ba kd (anV cs (a_T A) (hmR ms e.2.2.2.2.1).2.2.1 (hmR ms e.2.2.2.2.1).2.2.2.1 ((a_K A t).1.getD ba (0, 0, [])) ar) (a_T A) (a_L A) (a_G A) e.2.2.2.2.1 bh (a_R A) (fun _ _ => False) Y V)) → ((100000 < ((a_R A).length : Int) + 2 ∧ o = .inr 238 ∧ hZ 99 Y = V) ∨ (((a_R A).length : Int) + 2 ≤ 100000 ∧ o = .inl none ∧ rmO t (a_K A t) ba kd (anV cs (a_T A) (hmR ms e.2.2.2.2.1).2.2.1 (hmR ms e.2.2.2.2.1).2.2.2.1 ((a_K A t).1.getD ba (0, 0, [])) ar) (a_T A) (a_L A) (a_G A) e.2.2.2.2.1 ec (a_R A) (fun _ _ => False) Y V ∧ rStc ms (a_S A) V)) := fun o V hz => by
      rw [hbe] at hz
      rcases hz with z | z
      · exact Or.inl z
      · exact Or.inr ⟨z.1, z.2.1, z.2.2, rR_S hY.1 z.2.2.2.2.2 (tf_tx z.2.2.2.2.2 (fun j x hj hm => by rcases hm with q | q; (unfold rMh at q; omega); exact q)) (fun j x hj hm => by rcases hm with q | q; (unfold rMh at q; omega); exact q)⟩
    have hb1 : kd = 1 → ba + 2 = (a_K A t).1.length := fun k1 => by
      have := hsi.2.1.2.1.1
      rw [if_pos k1] at this
      omega
    rcases hH.1 with ⟨q1, q2⟩ | ⟨q1, q2⟩
    · rw [q2] at hKR
      exact wJ_mono (rnt_241 (d := d + 80) hd9 hKR hwH hX hm htr hg2 hsi.2.1.1.1 hb1 hff hav hty (by omega) (gv_r h hY) pv hrv) go
    · rw [q2] at hKR
      exact wJ_mono (rnt_261 (d := d + 80) hd9 hKR hwH hX hm htr hg2 hsi.2.1.1.1 hb1 hff hav hty (by omega) (gv_r h hY) pv hrv) go

end Wmj
