/-! PART md: acting on hosts' values: a static field is read. -/
section Wmd
variable {xs : List (Nat × List Int32)} {d : Nat} {S0 S Z : wS} {p w m : Nat} {HT : Int → Int} {cs : List hCR} {ms : List hMR} {os : Int → List Int} {X : List (List Int)} {mo t n B B2 oq : Int} {fa : Int → Int} {WE : aA → Prop} {A A2 : aA} {K2 : aK} {ml : List Nat} {k c s kd nms ne ec bh nm en : Int} {b ba : Nat} {ar : List aV} {e : aE} {V Z2 Y : wS} {o : wO} {dn : Int} {H2 : List aH} {N2 : List (List Int)} {E2 : Int → List aE} {C2 : List aQ} {W2 : Int} {c2 : Int → Int} {k2 : Int → Int → Int} {mk rk : Nat → Int → Prop} {K : aK} {T : List aO} {H : List aH} {E : Int → List aE} {gk gb es lo hi a : Int} {r : List aE × Int × Option aE} {A1 : aA} {tl cl : List Int} {sl : Nat → List Int} {L : List aC} {G : Int → aV} {u : aV} {x : List Int} {T2 : List aO} {L2 : List aC} {G2 : Int → aV} {H2 : List aH} {c2 : Int → Int} {y : Int} {Q : wO → wS → Prop} {ps : List (Int × aV)} {k hd wh : Int} {f a9 pn fn md : Int} {vn m9 : Nat} {th : aV} {g : Int} {lp : List aV} {l ds fo g : Int} {mk : Nat → Int → Prop} {C2 : List aQ} {W2 : Int} {RZ : wS → Prop} {N3 : Nat} {SB : wS} {r r0 : Int} {sh : Int} {K9 : aK} {nt : Int}
theorem ao_hg (h : hyA S0 p HT cs ms os X fa n B2 w t A s kd nms ne ec bh ba ar) {b9 : Nat} (hH : stHo S0 p b9 HT nt cs ms os n) (hC9 : stHc S0 p HT cs ms os) (e12 : e.1 = 1 ∨ e.1 = 2) (hkd : kd = 0) (hsf : isSf ms e.2.2.2.2.1) : aOut xs d S0 p HT cs ms os X mo fa n B2 w t A s kd nms ec bh ba nm en es e := by
  obtain ⟨⟨hp, hw, hx⟩, hA, hB, ⟨hr, ho⟩, hsi, hme⟩ := id h
  have hu := hA.2.2.1.2.2.2.2 e.2.2.2.2.1 hsf
  have hwH := hH.2.2.2.2.2.2.2.1
  refine aO_v (u := a_S A e.2.2.2.2.1) h hu (cA_K (ml := [w + 2, w + 3]) h (by rcases hw with ⟨rfl, rfl⟩ | ⟨rfl, rfl⟩ <;> decide) (fun Y y hY ha hd9 he => ?_)) (rA_1 h e12 (fun Y sl hY ha hW hd9 => ?_))
  · have hKC := (hkc_c hp hC9 hY).1
    have h72 := (ho_c hH hY).1
    have hst := hY.2.2.2.2.2.2.1.2
    rcases hp with rfl | rfl
    · rcases hw with ⟨rfl, rfl⟩ | ⟨rfl, rfl⟩
      · exact ahg_73_215 (d := d + 82) hd9 hKC h72 e12 he.1.2.2.2.1 hsf hst hkd
      · exact ahg_73_226 (d := d + 82) hd9 hKC h72 e12 he.1.2.2.2.1 hsf hst hkd
    · rcases hw with ⟨rfl, rfl⟩ | ⟨rfl, rfl⟩
      · exact ahg_162_215 (d := d + 82) hd9 hKC h72 e12 he.1.2.2.2.1 hsf hst hkd
      · exact ahg_162_226 (d := d + 82) hd9 hKC h72 e12 he.1.2.2.2.1 hsf hst hkd
  · have hKR := ho_r hH hY
    have hst := hY.1.2.2.2.2.2.2.1.2
    rcases hH.1 with ⟨q1, q2⟩ | ⟨q1, q2⟩
    · rw [q2] at hKR
      exact wJ_mono (rhgT_241 (d := d + 85) hd9 hKR hwH hsf hst hkd) (fun o Z hz hM => rQ_K h hY hM ⟨hz.1, hz.2.1, hz.2.2.2⟩)
    · rw [q2] at hKR
      exact wJ_mono (rhgT_261 (d := d + 85) hd9 hKR hwH hsf hst hkd) (fun o Z hz hM => rQ_K h hY hM ⟨hz.1, hz.2.1, hz.2.2.2⟩)
end Wmd
