/-! PART mi: a host's method that sets a static field. -/
section Wmi
variable {xs : List (Nat × List Int32)} {d : Nat} {S0 S Z : wS} {p w m : Nat} {HT : Int → Int} {cs : List hCR} {ms : List hMR} {os : Int → List Int} {X : List (List Int)} {mo t n B B2 oq : Int} {fa : Int → Int} {WE : aA → Prop} {A A2 : aA} {K2 : aK} {ml : List Nat} {k c s kd nms ne ec bh nm en : Int} {b ba : Nat} {ar : List aV} {e : aE} {V Z2 Y : wS} {o : wO} {dn : Int} {H2 : List aH} {N2 : List (List Int)} {E2 : Int → List aE} {C2 : List aQ} {W2 : Int} {c2 : Int → Int} {k2 : Int → Int → Int} {mk rk : Nat → Int → Prop} {K : aK} {T : List aO} {H : List aH} {E : Int → List aE} {gk gb es lo hi a : Int} {r : List aE × Int × Option aE} {A1 : aA} {tl cl : List Int} {sl : Nat → List Int} {L : List aC} {G : Int → aV} {u : aV} {x : List Int} {T2 : List aO} {L2 : List aC} {G2 : Int → aV} {H2 : List aH} {c2 : Int → Int} {y : Int} {Q : wO → wS → Prop} {ps : List (Int × aV)} {k hd wh : Int} {f a9 pn fn md : Int} {vn m9 : Nat} {th : aV} {g : Int} {lp : List aV} {l ds fo g : Int} {mk : Nat → Int → Prop} {C2 : List aQ} {W2 : Int} {RZ : wS → Prop} {N3 : Nat} {SB : wS} {r r0 : Int} {sh : Int} {K9 : aK} {nt : Int} {R2 : List Int} {S2 : Int → aV} {wh en9 : Int}
theorem ao_ms (h : hyA S0 p HT cs ms os X fa n B2 w t A s kd nms ne ec bh ba ar) (hX : w_X xs) {b9 : Nat} (hH : stHo S0 p b9 HT nt cs ms os n) (hC9 : stHc S0 p HT cs ms os) (hF9 : stHf S0 p HT cs ms os) (e12 : e.1 = 1 ∨ e.1 = 2) (hm : (0 ≤ e.2.2.2.2.1 ∧ e.2.2.2.2.1 < (ms.length : Int)) ∧ (hmR ms e.2.2.2.2.1).2.1 = 1) {fl : Int} (hff : ffA HT cs ms e.2.2.2.2.1 = fl) (hsf : isSf ms fl) (hpc : (hmR ms e.2.2.2.2.1).2.2.2.2.1.length = 1) (hty : (hmR ms e.2.2.2.2.1).2.2.2.1 = 0) (hec : ec = 1) (hbe : bh = ec) : aOut xs d S0 p HT cs ms os X mo fa n B2 w t A s kd nms ec bh ba nm en es e := by
  subst hbe
  have hg := ar_g h
  have hbl := (hA_ba h).2.1
  obtain ⟨⟨hp, hw, hx⟩, hA, hB, ⟨hr, ho⟩, hsi, hme⟩ := id h
  have hwH := hH.2.2.2.2.2.2.2.1
  have hv := gD_G (fun x hx => (wV_of hA hw).1 x hx) (ba + 1)
  have hu : vG (a_T A) n ((0, 0, []) : aV) := by
    have z := gD_G (fun x hx => (wV_of hA hw).1 x hx) ((a_K A t).1.length)
    rw [gD_n (Nat.le_refl _)] at z
    exact z
  refine ao_m (ml := [w + 2, w + 3, 152]) (mk := cMf (p + 44)) (rk := rMg fl) (S2 := sfU (a_S A) fl ((a_K A t).1.getD (ba + 1) (0, 0, []))) (u := ((0, 0, []) : aV)) (wh := e.2.2.2.2.1) (en9 := bh) h e12 (by rcases hw with ⟨rfl, rfl⟩ | ⟨rfl, rfl⟩ <;> decide) (fun j x hm => by unfold cMf at hm; unfold mB9; omega) (fun j x hm => by unfold rMg at hm; unfold rB9; omega) hu (fun m hm => ?_) (fun Y y hY ha hd9 he => ?_) (fun Y sl hY ha hW hd9 => ?_)
  · unfold sfU
    by_cases c9 : m = fl
    · rw [if_pos c9]
      exact hv
    · rw [if_neg c9]
      exact hA.2.2.1.2.2.2.2 m hm
  · have hKC := (hkc_c hp hC9 hY).1
    have h72 := (ho_c hH hY).1
    have hst := hY.2.2.2.2.2.2.1.2
    have htr := hY.2.2.2.2.2.1.2
    have hmf := (hf_c hp hF9 hY hm).trans hff
    rcases hp with rfl | rfl
    · rcases hw with ⟨rfl, rfl⟩ | ⟨rfl, rfl⟩
      · exact ams_73_215 (d := d + 84) hd9 hKC h72 e12 he.1.2.2.2.1 hm htr hg hmf hsf hst hpc hec
      · exact ams_73_226 (d := d + 84) hd9 hKC h72 e12 he.1.2.2.2.1 hm htr hg hmf hsf hst hpc hec
    · rcases hw with ⟨rfl, rfl⟩ | ⟨rfl, rfl⟩
      · exact ams_162_215 (d := d + 84) hd9 hKC h72 e12 he.1.2.2.2.1 hm htr hg hmf hsf hst hpc hec
      · exact ams_162_226 (d := d + 84) hd9 hKC h72 e12 he.1.2.2.2.1 hm htr hg hmf hsf hst hpc hec
  · have hKR := ho_r hH hY
    have hst := hY.1.2.2.2.2.2.2.1.2
    have htr := hY.1.2.2.2.2.2.1.2
    have hb1 : kd = 1 → ba + 2 = (a_K A t).1.length := fun _ => by omega
    rcases hH.1 with ⟨q1, q2⟩ | ⟨q1, q2⟩
    · rw [q2] at hKR
      exact rns_241 (d := d + 80) hd9 hKR hwH hX hm htr hg hsi.2.1.1.1 hb1 hff hsf hst hty hec
    · rw [q2] at hKR
      exact rns_261 (d := d + 80) hd9 hKR hwH hX hm htr hg hsi.2.1.1.1 hb1 hff hsf hst hty hec
end Wmi
