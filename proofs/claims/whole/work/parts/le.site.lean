/-! PART le: a step at a site, from what acting and looking come to. -/
section Wle
variable {Sb : wS} {xs : List (Nat × List Int32)} {d : Nat} {S0 S Z : wS} {p w m : Nat} {HT : Int → Int} {cs : List hCR} {ms : List hMR} {os : Int → List Int} {X : List (List Int)} {mo t n B B2 oq : Int} {fa : Int → Int} {WE : aA → Prop} {A A2 : aA} {K2 : aK} {ml : List Nat} {k c s kd nms ne ec bh nm en : Int} {b ba : Nat} {ar : List aV} {e : aE} {V Z2 Y : wS} {o : wO} {dn : Int} {H2 : List aH} {N2 : List (List Int)} {E2 : Int → List aE} {C2 : List aQ} {W2 : Int} {c2 : Int → Int} {k2 : Int → Int → Int} {mk rk : Nat → Int → Prop} {K : aK} {T : List aO} {H : List aH} {E : Int → List aE} {gk gb es lo hi a : Int} {r : List aE × Int × Option aE} {A1 : aA} {tl cl : List Int} {sl : Nat → List Int} {L : List aC} {G : Int → aV} {u : aV} {x : List Int}
/-- what a visit comes to, once aim is taken: by an entry that holds, or by looking -/
def siO (xs : List (Nat × List Int32)) (d : Nat) (S0 : wS) (p : Nat) (HT : Int → Int) (cs : List hCR) (ms : List hMR) (os : Int → List Int) (X : List (List Int)) (mo : Int) (fa : Int → Int) (n B : Int) (w : Nat) (t : Int) (A1 : aA) (K : aK) (s kd nms ec bh : Int) (ba : Nat) (ar : List aV) (nm en : Int) : Prop := ∃ (c : Int) (A2 : aA), wfA S0 fa ms n (WEs S0 HT cs ms os) B A2 ∧ (∀ t2 : Int, t2 ≠ t → a_K A2 t2 = a_K A1 t2) ∧ (c ≠ 0 → a_K A2 t = a_K A1 t) ∧ (∀ e : aE, (rHl A1 K s kd nms nm ba ar).2.2 = some e → cAct xs d S0 p HT cs ms os X mo w (u_H A1 s 1 (rHl A1 K s kd nms nm ba ar)) s kd nms ec ba (K.1.getD ba (0, 0, [])).1 nm (esV (ar.map (clO (a_T A1)))) e c A2 ∧ ∀ {Sb : wS} (Z : wS) (hit : Int), rRun S0 Sb HT cs ms os X mo t (u_H A1 s 0 (rHl A1 K s kd nms nm ba ar)) Z → rAim t K ba bh en Z → (0 ≤ hit ∧ hit < 20000) → rEc Z e hit → rI15 xs d S0 Sb HT cs ms os X mo t s kd hit c A2 Z) ∧ ((rHl A1 K s kd nms nm ba ar).2.2 = none → cLook xs d S0 p HT cs ms os X mo w (u_H A1 s 0 (rHl A1 K s kd nms nm ba ar)) s kd ec ba (K.1.getD ba (0, 0, [])).1 nm (esV (ar.map (clO (a_T A1)))) c A2 ∧ ∀ {Sb : wS} (Z : wS), rRun S0 Sb HT cs ms os X mo t (u_H A1 s 0 (rHl A1 K s kd nms nm ba ar)) Z → rAim t K ba bh en Z → rI15 xs d S0 Sb HT cs ms os X mo t s kd (-1) c A2 Z)

theorem st_C (h : hyS S0 p X fa ms n (WEs S0 HT cs ms os) B B2 w t A) (ho : opI S0 (a_K A t) = 27) (hsi : siH S0 (a_K A t) s kd nms ne ec bh ba ar) (hc : ¬ ((kd = 2 ∨ kd = 3) ∧ (((a_K A t).1.getD ba (0, 0, [])).1 = 4 ∨ ((a_K A t).1.getD ba (0, 0, [])).1 = 5))) (hO : siO xs d S0 p HT cs ms os X mo fa n B2 w t A (a_K A t) s kd nms ec bh ba ar nms (-1)) : stO xs (d + 80) S0 p HT cs ms os X mo fa n (WEs S0 HT cs ms os) B2 w t A := by
  obtain ⟨hp, hw, hx, hA, hE, hB, hr⟩ := h
  obtain ⟨c, A2, o1, o2, o3, o4, o5⟩ := hO
  have hk2 : c ≠ 0 → wTk fa S0 (a_K A2 t) ∧ (a_K A2 t).2.2.2.1 = 1 := fun c0 => by
    rw [o3 c0]
    exact ⟨wT_of hA hw, hr⟩
  refine stO_I (d := d + 80) ⟨hp, hw, hx, hA, hE, hB, hr⟩ ho o1 o2 o3 (fun S hS => ?_) (fun S hS => ?_)
  · rcases hw with ⟨rfl, rfl⟩ | ⟨rfl, rfl⟩
    · exact vi_215 (A1 := A) hp hx hA hr ho hsi hA rfl (fun S hS => aC_215 hp hx hA hr ho hsi hc hS) (fun e he => (o4 e he).1) (fun hn => (o5 hn).1) hk2 hS
    · exact vi_226 (A1 := A) hp hx hA hr ho hsi hA rfl (fun S hS => aC_226 hp hx hA hr ho hsi hc hS) (fun e he => (o4 e he).1) (fun hn => (o5 hn).1) hk2 hS
  · exact rv_C hx hw hA hr ho hsi hc (fun e he => (o4 e he).2) (fun hn => (o5 hn).2) hS

theorem st_E (h : hyS S0 p X fa ms n (WEs S0 HT cs ms os) B B2 w t A) (ho : opI S0 (a_K A t) = 27) (hsi : siH S0 (a_K A t) s kd nms ne ec bh ba ar) (hc : ((kd = 2 ∨ kd = 3) ∧ (((a_K A t).1.getD ba (0, 0, [])).1 = 4 ∨ ((a_K A t).1.getD ba (0, 0, [])).1 = 5))) (hk3 : ((a_K A t).1.getD (ba + 1) (0, 0, [])).1 ≠ 3) (hO : siO xs d S0 p HT cs ms os X mo fa n B2 w t A (a_K A t) s kd nms ec bh ba ar (-1) (-1)) : stO xs (d + 80) S0 p HT cs ms os X mo fa n (WEs S0 HT cs ms os) B2 w t A := by
  obtain ⟨hp, hw, hx, hA, hE, hB, hr⟩ := h
  obtain ⟨c, A2, o1, o2, o3, o4, o5⟩ := hO
  have hk2 : c ≠ 0 → wTk fa S0 (a_K A2 t) ∧ (a_K A2 t).2.2.2.1 = 1 := fun c0 => by
    rw [o3 c0]
    exact ⟨wT_of hA hw, hr⟩
  refine stO_I (d := d + 80) ⟨hp, hw, hx, hA, hE, hB, hr⟩ ho o1 o2 o3 (fun S hS => ?_) (fun S hS => ?_)
  · rcases hw with ⟨rfl, rfl⟩ | ⟨rfl, rfl⟩
    · exact vi_215 (A1 := A) hp hx hA hr ho hsi hA rfl (fun S hS => aE_215 hp hx hA hr ho hsi hc hk3 hS) (fun e he => (o4 e he).1) (fun hn => (o5 hn).1) hk2 hS
    · exact vi_226 (A1 := A) hp hx hA hr ho hsi hA rfl (fun S hS => aE_226 hp hx hA hr ho hsi hc hk3 hS) (fun e he => (o4 e he).1) (fun hn => (o5 hn).1) hk2 hS
  · exact rv_G hx hw hA hr ho hsi hc hA rfl rfl (fun S sl hS hW => nsE hx hw hA hr ho hsi hc hk3 hS hW) (fun e he => (o4 e he).2) (fun hn => (o5 hn).2) hS

theorem st_T (h : hyS S0 p X fa ms n (WEs S0 HT cs ms os) B B2 w t A) (ho : opI S0 (a_K A t) = 27) (hsi : siH S0 (a_K A t) s kd nms ne ec bh ba ar) (hc : ((kd = 2 ∨ kd = 3) ∧ (((a_K A t).1.getD ba (0, 0, [])).1 = 4 ∨ ((a_K A t).1.getD ba (0, 0, [])).1 = 5))) (hk3 : ((a_K A t).1.getD (ba + 1) (0, 0, [])).1 = 3) (hx9 : ((a_K A t).1.getD (ba + 1) (0, 0, [])).2.2 = x) (hR : (x.length < 1 ∨ 60 < x.length) ∧ A1 = A ∧ nm = -1 ∨ ((1 ≤ x.length ∧ x.length ≤ 60) ∧ ((x ∈ a_N A ∧ A1 = A ∧ nm = ixL (a_N A) x) ∨ (x ∉ a_N A ∧ (a_N A).length < 4000 ∧ A1 = (u_L A (a_H A) (a_N A ++ [x]) (a_E A) (a_C A) (a_W A) (a_c A) (a_k A)) ∧ nm = ((a_N A).length : Int))))) (hA1 : wfA S0 fa ms n (WEs S0 HT cs ms os) B A1) (hO : siO xs d S0 p HT cs ms os X mo fa n B2 w t A1 (a_K A t) s kd nms ec bh ba ar nm nm) : stO xs (d + 80) S0 p HT cs ms os X mo fa n (WEs S0 HT cs ms os) B2 w t A := by
  have hK9 : A1.1 = A.1 := by
    rcases hR with ⟨-, rfl, -⟩ | ⟨-, ⟨-, rfl, -⟩ | ⟨-, -, rfl, -⟩⟩ <;> rfl
  have hK1 : a_K A1 t = a_K A t := congrFun hK9 t
  have hT1 : a_T A1 = a_T A := by
    rcases hR with ⟨-, rfl, -⟩ | ⟨-, ⟨-, rfl, -⟩ | ⟨-, -, rfl, -⟩⟩ <;> rfl
  obtain ⟨hp, hw, hx, hA, hE, hB, hr⟩ := h
  obtain ⟨c, A2, o1, o2, o3, o4, o5⟩ := hO
  have hk2 : c ≠ 0 → wTk fa S0 (a_K A2 t) ∧ (a_K A2 t).2.2.2.1 = 1 := fun c0 => by
    rw [o3 c0, hK1]
    exact ⟨wT_of hA hw, hr⟩
  refine stO_I (d := d + 80) ⟨hp, hw, hx, hA, hE, hB, hr⟩ ho o1 (fun t2 h2 => (o2 t2 h2).trans (congrFun hK9 t2)) (fun c0 => (o3 c0).trans hK1) (fun S hS => ?_) (fun S hS => ?_)
  · rcases hw with ⟨rfl, rfl⟩ | ⟨rfl, rfl⟩
    · exact vi_215 (A1 := A1) hp hx hA hr ho hsi hA1 hK1 (fun S hS => by rw [hT1]; exact aT_215 (N9 := []) hp hx hA hr ho hsi hc hk3 hx9 hR hS) (fun e he => (o4 e he).1) (fun hn => (o5 hn).1) hk2 hS
    · exact vi_226 (A1 := A1) hp hx hA hr ho hsi hA1 hK1 (fun S hS => by rw [hT1]; exact aT_226 (N9 := []) hp hx hA hr ho hsi hc hk3 hx9 hR hS) (fun e he => (o4 e he).1) (fun hn => (o5 hn).1) hk2 hS
  · exact rv_G hx hw hA hr ho hsi hc hA1 hK1 hT1 (fun S sl hS hW => nsT hx hw hA hr ho hsi hc hk3 hx9 hR hS hW) (fun e he => (o4 e he).2) (fun hn => (o5 hn).2) hS

theorem st_M (h : hyS S0 p X fa ms n (WEs S0 HT cs ms os) B B2 w t A) (ho : opI S0 (a_K A t) = 27) (hsi : siH S0 (a_K A t) s kd nms ne ec bh ba ar) (hc : ((kd = 2 ∨ kd = 3) ∧ (((a_K A t).1.getD ba (0, 0, [])).1 = 4 ∨ ((a_K A t).1.getD ba (0, 0, [])).1 = 5))) (hk3 : ((a_K A t).1.getD (ba + 1) (0, 0, [])).1 = 3) (hx9 : ((a_K A t).1.getD (ba + 1) (0, 0, [])).2.2 = x) (hR : (1 ≤ x.length ∧ x.length ≤ 60) ∧ x ∉ a_N A ∧ 4000 ≤ (a_N A).length) : stO xs (d + 80) S0 p HT cs ms os X mo fa n (WEs S0 HT cs ms os) B2 w t A := by
  obtain ⟨hp, hw, hx, hA, hE, hB, hr⟩ := h
  have hk := wT_of hA hw
  have hv1 := vk_of hA hw
  have hct := hA.2.2.2.2.1
  have hnN := hA.2.2.2.2.2.1.1
  obtain ⟨s0, s1, s2⟩ := hsi.2.2.1.1
  have hT8 : ((a_T A).length : Int) ≤ 8000 := by have := hct.1; omega
  have hba : ba < (a_K A t).1.length := by have := key_ba hsi hc.1; omega
  have hn4 : (kd = 0 ∨ kd = 1 ∨ kd = 5) → 0 ≤ nms ∧ nms < 4000 := fun z => by
    have := hsi.2.2.2.1 z
    have := hx.2.2.2.2.2.2
    omega
  have hwe := fun (e : aE) (he : e ∈ a_E A s) => wEn_of ((hA.2.2.2.2.2.2.1 s s0 s1).2 e he) hsi.1.2.1 hsi.1.2.2.1 hnN.1 hsi.2.1.1.1 hn4
  have hA2 : wfA S0 fa ms n (WEs S0 HT cs ms os) B2 A := ⟨hA.1, hA.2.1, hA.2.2.1, hA.2.2.2.1, wCt_B hct hB, hA.2.2.2.2.2⟩
  refine stO_I (c := 99) (A2 := A) (d := d + 80) ⟨hp, hw, hx, hA, hE, hB, hr⟩ ho hA2 (fun _ _ => rfl) (fun _ => rfl) (fun S hS => ?_) (fun S hS => ?_)
  · have hst := hco_c hx hk hr hw ho hS
    rcases hw with ⟨rfl, rfl⟩ | ⟨rfl, rfl⟩

    · exact viG_215 (d := d + 80) (K := a_K A 0) (T := a_T A) (H := a_H A) (L := a_L A) (G := a_G A) (E := a_E A) (ml := sML) (nms := nms) (kd := kd) (ec := ec) (ba := ba) (ar := ar) (R := fun Z => Z 215 16 = 99 ∧ cRel S0 p HT cs ms os X mo A Z) (PB := fun _ _ => False) hst.1 (by have z := hst.2; rw [hsi.1.1] at z; exact z) hA.2.1 hT8 hba hv1 (wJ_mono (aM_215 hp hx hA hr ho hsi hc hk3 hx9 hR hS) (fun o Z hz => ⟨hz.1, Or.inl ⟨by rw [hz.2.1]; decide, hz.2⟩⟩)) (fun _ _ z => z.elim) rfl rfl hwe (by first | decide | omega) no_sM.1 no_sM.2.2 (fun _ _ _ _ _ z => z.elim) (fun _ _ _ z => z.elim) (fun Z hz h0 h9 => absurd hz.1 h9)
    · exact viG_226 (d := d + 80) (K := a_K A 1) (T := a_T A) (H := a_H A) (L := a_L A) (G := a_G A) (E := a_E A) (ml := sML) (nms := nms) (kd := kd) (ec := ec) (ba := ba) (ar := ar) (R := fun Z => Z 226 16 = 99 ∧ cRel S0 p HT cs ms os X mo A Z) (PB := fun _ _ => False) hst.1 (by have z := hst.2; rw [hsi.1.1] at z; exact z) hA.2.1 hT8 hba hv1 (wJ_mono (aM_226 hp hx hA hr ho hsi hc hk3 hx9 hR hS) (fun o Z hz => ⟨hz.1, Or.inl ⟨by rw [hz.2.1]; decide, hz.2⟩⟩)) (fun _ _ z => z.elim) rfl rfl hwe (by first | decide | omega) no_sM.2.1 no_sM.2.2 (fun _ _ _ _ _ z => z.elim) (fun _ _ _ z => z.elim) (fun Z hz h0 h9 => absurd hz.1 h9)
  · have ht := wt_t hw
    have hst := (hqo_r hx hk hr hw ho hS).1
    obtain ⟨g1, g2, g3, g4⟩ := si_r hS.1 hsi
    obtain ⟨sl, hW⟩ := hS.1.2.2.1.1
    rw [hsi.1.1]
    exact rviG (d := d + 85) (K := a_K A t) (T := a_T A) (H := a_H A) (L := a_L A) (G := a_G A) (sl := sl) (E := a_E A) (nms := nms) (lo := 0) (hi := 0) (PB := fun _ _ => False) hst hA.2.1 hT8 ⟨s0, by omega⟩ g2 g4 hsi.2.1 hv1 hc (wJ_mono (nsM hx hw hA hr ho hsi hc hk3 hx9 hR hS) (fun o Z hz => Or.inr hz)) (fun _ _ z => z.elim) (fun _ _ _ _ _ z => z.elim)

/-- aim is taken: what nm and en are -/
def nmO (A1 : aA) (K : aK) (kd nms : Int) (ba : Nat) (nm en : Int) : Prop := (¬ ((kd = 2 ∨ kd = 3) ∧ ((K.1.getD ba (0, 0, [])).1 = 4 ∨ (K.1.getD ba (0, 0, [])).1 = 5)) ∧ nm = nms ∧ en = -1) ∨ (((kd = 2 ∨ kd = 3) ∧ ((K.1.getD ba (0, 0, [])).1 = 4 ∨ (K.1.getD ba (0, 0, [])).1 = 5)) ∧ nm = en ∧ (en = -1 ∨ (0 ≤ en ∧ en < ((a_N A1).length : Int))))
/-- a step at a site -/
theorem st_si (h : hyS S0 p X fa ms n (WEs S0 HT cs ms os) B B2 w t A) (ho : opI S0 (a_K A t) = 27) (hO : ∀ (A1 : aA) (s kd nms ne ec bh nm en : Int) (ba : Nat) (ar : List aV), siH S0 (a_K A t) s kd nms ne ec bh ba ar → mes kd ne = bh → wfA S0 fa ms n (WEs S0 HT cs ms os) B A1 → A1.1 = A.1 → nmO A1 (a_K A t) kd nms ba nm en → siO xs d S0 p HT cs ms os X mo fa n B2 w t A1 (a_K A t) s kd nms ec bh ba ar nm en) : stO xs (d + 80) S0 p HT cs ms os X mo fa n (WEs S0 HT cs ms os) B2 w t A := by
  have hh := h
  obtain ⟨hp, hw, hx, hA, hE, hB, hr⟩ := hh
  obtain ⟨ec, bh, ba, ar, hsi, hme⟩ := si_of hx (wT_of hA hw) hr ho
  generalize opA S0 (a_K A t) = s at *
  generalize hkd : S0 304 s = kd at *
  generalize hnm9 : S0 305 s = nms at *
  generalize hne9 : S0 306 s = ne at *
  have hm := hO A s kd nms ne ec bh
  by_cases hc : ((kd = 2 ∨ kd = 3) ∧ (((a_K A t).1.getD ba (0, 0, [])).1 = 4 ∨ ((a_K A t).1.getD ba (0, 0, [])).1 = 5))
  · by_cases hk3 : ((a_K A t).1.getD (ba + 1) (0, 0, [])).1 = 3
    · generalize hx9 : ((a_K A t).1.getD (ba + 1) (0, 0, [])).2.2 = x
      by_cases c1 : x.length < 1 ∨ 60 < x.length
      · exact st_T (A1 := A) (nm := -1) h ho hsi hc hk3 hx9 (Or.inl ⟨c1, rfl, rfl⟩) hA (hm (-1) (-1) ba ar hsi hme hA rfl (Or.inr ⟨hc, rfl, Or.inl rfl⟩))
      · by_cases c2 : x ∈ a_N A
        · refine st_T (A1 := A) (nm := ixL (a_N A) x) h ho hsi hc hk3 hx9 (Or.inr ⟨by omega, Or.inl ⟨c2, rfl, rfl⟩⟩) hA (hm _ _ ba ar hsi hme hA rfl (Or.inr ⟨hc, rfl, Or.inr (ixL_lt (fun z => absurd c2 (ixL_no.mp z)))⟩))
        · by_cases c3 : (a_N A).length < 4000
          · have hA1 := wf_nm (x := x) hA hx c3 c2 (B2 := B) ⟨Int.le_refl _, by omega⟩
            refine st_T (A1 := (u_L A (a_H A) (a_N A ++ [x]) (a_E A) (a_C A) (a_W A) (a_c A) (a_k A))) (nm := ((a_N A).length : Int)) h ho hsi hc hk3 hx9 (Or.inr ⟨by omega, Or.inr ⟨c2, c3, rfl, rfl⟩⟩) hA1 (hO (u_L A (a_H A) (a_N A ++ [x]) (a_E A) (a_C A) (a_W A) (a_c A) (a_k A)) s kd nms ne ec bh _ _ ba ar hsi hme hA1 rfl (Or.inr ⟨hc, rfl, Or.inr ⟨by omega, ?_⟩⟩))
            show ((a_N A).length : Int) < ((a_N A ++ [x]).length : Int)
            rw [List.length_append]
            show ((a_N A).length : Int) < (((a_N A).length + 1 : Nat) : Int)
            omega
          · exact st_M h ho hsi hc hk3 hx9 ⟨by omega, c2, by omega⟩
    · exact st_E h ho hsi hc hk3 (hm (-1) (-1) ba ar hsi hme hA rfl (Or.inr ⟨hc, rfl, Or.inl rfl⟩))
  · exact st_C h ho hsi hc (hm nms (-1) ba ar hsi hme hA rfl (Or.inl ⟨hc, rfl, rfl⟩))
end Wle
