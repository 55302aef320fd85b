/-! PART mh: a host's method that gives a static field. -/
section Wmh
variable {xs : List (Nat × List Int32)} {d : Nat} {S0 S Z : wS} {p w m : Nat} {HT : Int → Int} {cs : List hCR} {ms : List hMR} {os : Int → List Int} {X : List (List Int)} {mo t n B B2 oq : Int} {fa : Int → Int} {WE : aA → Prop} {A A2 : aA} {K2 : aK} {ml : List Nat} {k c s kd nms ne ec bh nm en : Int} {b ba : Nat} {ar : List aV} {e : aE} {V Z2 Y : wS} {o : wO} {dn : Int} {H2 : List aH} {N2 : List (List Int)} {E2 : Int → List aE} {C2 : List aQ} {W2 : Int} {c2 : Int → Int} {k2 : Int → Int → Int} {mk rk : Nat → Int → Prop} {K : aK} {T : List aO} {H : List aH} {E : Int → List aE} {gk gb es lo hi a : Int} {r : List aE × Int × Option aE} {A1 : aA} {tl cl : List Int} {sl : Nat → List Int} {L : List aC} {G : Int → aV} {u : aV} {x : List Int} {T2 : List aO} {L2 : List aC} {G2 : Int → aV} {H2 : List aH} {c2 : Int → Int} {y : Int} {Q : wO → wS → Prop} {ps : List (Int × aV)} {k hd wh : Int} {f a9 pn fn md : Int} {vn m9 : Nat} {th : aV} {g : Int} {lp : List aV} {l ds fo g : Int} {mk : Nat → Int → Prop} {C2 : List aQ} {W2 : Int} {RZ : wS → Prop} {N3 : Nat} {SB : wS} {r r0 : Int} {sh : Int} {K9 : aK} {nt : Int} {R2 : List Int} {S2 : Int → aV} {wh en9 : Int}
theorem ao_mg (h : hyA S0 p HT cs ms os X fa n B2 w t A s kd nms ne ec bh ba ar) (hX : w_X xs) {b9 : Nat} (hH : stHo S0 p b9 HT nt cs ms os n) (hC9 : stHc S0 p HT cs ms os) (hF9 : stHf S0 p HT cs ms os) (e12 : e.1 = 1 ∨ e.1 = 2) (hm : (0 ≤ e.2.2.2.2.1 ∧ e.2.2.2.2.1 < (ms.length : Int)) ∧ (hmR ms e.2.2.2.2.1).2.1 = 1) {fl : Int} (hff : ffA HT cs ms e.2.2.2.2.1 = fl) (hsf : isSf ms fl) (hpc : (hmR ms e.2.2.2.2.1).2.2.2.2.1.length = 0) (hty : (hmR ms e.2.2.2.2.1).2.2.2.1 ≠ 0) (hbe : bh = ec) : aOut xs d S0 p HT cs ms os X mo fa n B2 w t A s kd nms ec bh ba nm en es e := by
  have hg := ar_g h
  have hav := ar_v h hH.2.2.2.1.2.2
  have hbl := (hA_ba h).2.1
  obtain ⟨⟨hp, hw, hx⟩, hA, hB, ⟨hr, ho⟩, hsi, hme⟩ := id h
  have hwH := hH.2.2.2.2.2.2.2.1
  refine ao_m (ml := [w + 2, w + 3, 152]) (mk := fun _ _ => False) (rk := fun _ _ => False) (S2 := a_S A) (u := (a_S A fl)) (wh := e.2.2.2.2.1) (en9 := ec) h e12 (by rcases hw with ⟨rfl, rfl⟩ | ⟨rfl, rfl⟩ <;> decide) (fun _ _ z => z.elim) (fun _ _ z => z.elim) (hA.2.2.1.2.2.2.2 fl hsf) hA.2.2.1.2.2.2.2 (fun Y y hY ha hd9 he => ?_) (fun Y sl hY ha hW hd9 => ?_)
  · have hKC := (hkc_c hp hC9 hY).1
    have h72 := (ho_c hH hY).1
    have hst := hY.2.2.2.2.2.2.1.2
    have htr := hY.2.2.2.2.2.1.2
    have hmf := (hf_c hp hF9 hY hm).trans hff
    have fin : ∀ V : wS, cmPt w (a_K A t) ba kd (a_S A fl) e.2.2.2.2.1 ec (a_R A) (fun _ _ => False) Y V → cStc (p + 24) (p + 44) ms (a_S A) V := fun V hv => by
      have ww := isWt_w hw
      exact cStc_ag hst (fr_tx hv.2.2.2 hw (fun x hm => by rcases hm with z | z; (unfold cMh at z; omega); exact z) (fun hm => by rcases hm with z | z; (unfold cMh at z; omega); exact z)) (fun j x hj => fmG hv.2.2.2 hw j x (by omega) (fun hm => by rcases hm with z | z; (unfold cMh at z; omega); exact z))
    have go : ∀ (o : wO) (V : wS), (o = .inl none ∧ ((100000 < ((a_R A).length : Int) + 2 ∧ w_up Y w 16 99 = V) ∨ (((a_R A).length : Int) + 2 ≤ 100000 ∧ cmPt w (a_K A t) ba kd (a_S A fl) e.2.2.2.2.1 ec (a_R A) (fun _ _ => False) Y V))) → (o = .inl none ∧ ((100000 < ((a_R A).length : Int) + 2 ∧ w_up Y w 16 99 = V) ∨ (((a_R A).length : Int) + 2 ≤ 100000 ∧ cmPt w (a_K A t) ba kd (a_S A fl) e.2.2.2.2.1 ec (a_R A) (fun _ _ => False) Y V ∧ cStc (p + 24) (p + 44) ms (a_S A) V))) := fun o V hz => ⟨hz.1, by
      rcases hz.2 with z | z
      · exact Or.inl z
      · exact Or.inr ⟨z.1, z.2, fin V z.2⟩⟩
    rcases hp with rfl | rfl
    · rcases hw with ⟨rfl, rfl⟩ | ⟨rfl, rfl⟩
      · exact wJ_mono (amg_73_215 (d := d + 84) hd9 hKC h72 e12 he.1.2.2.2.1 hm htr hg hmf hsf hst hpc) go
      · exact wJ_mono (amg_73_226 (d := d + 84) hd9 hKC h72 e12 he.1.2.2.2.1 hm htr hg hmf hsf hst hpc) go
    · rcases hw with ⟨rfl, rfl⟩ | ⟨rfl, rfl⟩
      · exact wJ_mono (amg_162_215 (d := d + 84) hd9 hKC h72 e12 he.1.2.2.2.1 hm htr hg hmf hsf hst hpc) go
      · exact wJ_mono (amg_162_226 (d := d + 84) hd9 hKC h72 e12 he.1.2.2.2.1 hm htr hg hmf hsf hst hpc) go
  · have hKR := ho_r hH hY
    have hst := hY.1.2.2.2.2.2.2.1.2
    have htr := hY.1.2.2.2.2.2.1.2
    have hg2 : arG (a_K A t) ba bh ar := by rw [hbe]; exact hg
    have go : ∀ (o : wO) (V : wS), ((100000 < ((a_R A).length : Int) + 2 ∧ o = .inr 238 ∧ hZ 99 Y = V) ∨ (((a_R A).length : Int) + 2 ≤ 100000 ∧ o = .inl none ∧ rmO t (a_K A t) ba kd (a_S A fl) (a_T A) (a_L A) (a_G A) e.2.2.2.2.1 bh (a_R A) (fun _ _ => False) Y V)) → ((100000 < ((a_R A).length : Int) + 2 ∧ o = .inr 238 ∧ hZ 99 Y = V) ∨ (((a_R A).length : Int) + 2 ≤ 100000 ∧ o = .inl none ∧ rmO t (a_K A t) ba kd (a_S A fl) (a_T A) (a_L A) (a_G A) e.2.2.2.2.1 ec (a_R A) (fun _ _ => False) Y V ∧ rStc ms (a_S A) V)) := fun o V hz => by
      rw [hbe] at hz
      rcases hz with z | z
      · exact Or.inl z
      · exact Or.inr ⟨z.1, z.2.1, z.2.2, rR_S hY.1 z.2.2.2.2.2 (tf_tx z.2.2.2.2.2 (fun j x hj hm => by rcases hm with q | q; (unfold rMh at q; omega); exact q)) (fun j x hj hm => by rcases hm with q | q; (unfold rMh at q; omega); exact q)⟩
    have hb1 : kd = 1 → ba + 2 = (a_K A t).1.length := fun k1 => by
      have := hsi.2.1.2.1.1
      rw [if_pos k1] at this
      omega
    rcases hH.1 with ⟨q1, q2⟩ | ⟨q1, q2⟩
    · rw [q2] at hKR
      exact wJ_mono (rng_241 (d := d + 80) hd9 hKR hwH hX hm htr hg2 hsi.2.1.1.1 hb1 hff hsf hst hty) go
    · rw [q2] at hKR
      exact wJ_mono (rng_261 (d := d + 80) hd9 hKR hwH hX hm htr hg2 hsi.2.1.1.1 hb1 hff hsf hst hty) go
end Wmh
