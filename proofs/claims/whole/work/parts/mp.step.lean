/-! PART mp: acting on hosts' values, all of it; a step of both sides at any instruction. -/
section Wmp
variable {xs : List (Nat × List Int32)} {d : Nat} {S0 S Z : wS} {p w m : Nat} {HT : Int → Int} {cs : List hCR} {ms : List hMR} {os : Int → List Int} {X : List (List Int)} {mo t n B B2 oq : Int} {fa : Int → Int} {WE : aA → Prop} {A A2 : aA} {K2 : aK} {ml : List Nat} {k c s kd nms ne ec bh nm en : Int} {b ba : Nat} {ar : List aV} {e : aE} {V Z2 Y : wS} {o : wO} {dn : Int} {H2 : List aH} {N2 : List (List Int)} {E2 : Int → List aE} {C2 : List aQ} {W2 : Int} {c2 : Int → Int} {k2 : Int → Int → Int} {mk rk : Nat → Int → Prop} {K : aK} {T : List aO} {H : List aH} {E : Int → List aE} {gk gb es lo hi a : Int} {r : List aE × Int × Option aE} {A1 : aA} {tl cl : List Int} {sl : Nat → List Int} {L : List aC} {G : Int → aV} {u : aV} {x : List Int} {T2 : List aO} {L2 : List aC} {G2 : Int → aV} {H2 : List aH} {c2 : Int → Int} {y : Int} {Q : wO → wS → Prop} {ps : List (Int × aV)} {k hd wh : Int} {f a9 pn fn md : Int} {vn m9 : Nat} {th : aV} {g : Int} {lp : List aV} {l ds fo g : Int} {mk : Nat → Int → Prop} {C2 : List aQ} {W2 : Int} {RZ : wS → Prop} {N3 : Nat} {SB : wS} {r r0 : Int} {sh : Int} {K9 : aK} {nt : Int} {R2 : List Int} {S2 : Int → aV} {wh en9 : Int}
/-- fields have types; what a method gives or sets is its instance's -/
def stHm (HT : Int → Int) (cs : List hCR) (ms : List hMR) (os : Int → List Int) : Prop := (∀ m : Int, 0 ≤ m → m < (ms.length : Int) → (hmR ms m).2.1 = 0 → 1 ≤ (hmR ms m).2.2.2.1) ∧ ∀ k : Int, 0 ≤ k → k < (cs.length : Int) → ∀ q ∈ os k, ∀ m ∈ mIx cs q, (hmR ms m).2.1 = 1 → (hmR ms m).2.2.1 = 0 → 0 ≤ ffA HT cs ms m → ffA HT cs ms m ∈ flA cs ms k
/-- all that is told of the host -/
def hoT (S0 : wS) (p b : Nat) (HT : Int → Int) (nt : Int) (cs : List hCR) (ms : List hMR) (os : Int → List Int) (n : Int) : Prop := (stHo S0 p b HT nt cs ms os n ∧ stHc S0 p HT cs ms os) ∧ (stHf S0 p HT cs ms os ∧ stHi S0 p cs ms ∧ stHx S0 p HT ms ∧ stHd S0 p cs ms) ∧ stHm HT cs ms os ∧ (wOs cs os ∧ wAb cs) ∧ (∀ c : Int, 0 ≤ c → c < (cs.length : Int) → ∀ m q : Int, m ∈ mIx cs c → q ∈ mIx cs c → (hmR ms m).2.1 = 2 → (hmR ms q).2.1 = 2 → (hmR ms m).2.2.2.2.1 = (hmR ms q).2.2.2.2.1 → m = q)
theorem ba_of {b9 : Nat} (hT : hoT S0 p b9 HT nt cs ms os n) (hX : w_X xs) (hx1 : pe_at (pe_GA xs).xs 1 = some (1, tx_1)) : hoBa xs d S0 p HT cs ms os X mo fa n B2 w t := fun A s kd nms ne ec bh nm en ba ar e h hno e12 he hho => by
  obtain ⟨⟨hH, hC9⟩, ⟨hF9, hI9, hX9, hD9⟩, hM9, -, -⟩ := hT
  have hwH := hH.2.2.2.2.2.2.2.1
  have hn := hH.2.2.2.1.2.2
  obtain ⟨⟨hp, hw, hx⟩, hA, hB, ⟨hr, ho⟩, hsi, hme⟩ := id h
  have hi5 := hsi.2.1
  have h88 := ec_8 hi5
  have hes := es_ok hi5 (vk_of hA hw)
  have hz : ((((a_K A t).1.getD ba (0, 0, [])).1 = 7 ∧ e.1 = 1 ∧ e.2.1 = (tO (a_T A) ((a_K A t).1.getD ba (0, 0, [])).2.1).2.2.1) ∨ (((a_K A t).1.getD ba (0, 0, [])).1 = 8 ∧ e.1 = 2 ∧ e.2.1 = ((a_K A t).1.getD ba (0, 0, [])).2.1)) ∧ (cHi kd e = -1 ∨ (cHi kd e = wb_l2i (wb_lushr (esV (ar.map (clO (a_T A)))) 32) ∧ cLo kd e = wb_l2i (esV (ar.map (clO (a_T A)))))) := by
    rcases hho with z | z | z | z
    · exact absurd z.1 (by omega)
    · exact ⟨Or.inl ⟨z.2.1, z.1, z.2.2.1⟩, z.2.2.2⟩
    · exact ⟨Or.inr ⟨z.2.1, z.1, z.2.2.1⟩, z.2.2.2⟩
    · exact absurd z.1 (by omega)
  obtain ⟨hgv, hty9⟩ := hz
  obtain ⟨⟨wh1, wh2⟩, ⟨x4, x6⟩, k1, k2⟩ := wh_ag he hsi.1.2.1 hsi.1.2.2.1 hsi.1.2.2.2 e12 (by rw [List.length_map]; exact h88.2) hes (by rw [List.length_map]; exact h88.1) hty9
  have hbe : bh = ec := by
    have z := hi5.2.1.2
    rw [if_neg (by omega), if_neg (by omega)] at z
    exact z
  have hwm := wh_m (HT := HT) (W := nmT (a_N A) nms) (tl := ar.map (clO (a_T A))) (kd := kd) (am := e.1 - 1) hwH k2 (by omega) (by omega) (by rw [wh1]; exact wh2)
  rw [wh1, List.length_map] at hwm
  have har : (ar.length : Int) = ec := hi5.2.2.2.1
  rcases hwm with ⟨kd9, m1, m2, m3, m4⟩ | ⟨kd9, m1, m2, m3, m4, m5, m6, m7⟩ | ⟨kd9, m1, m2, m3⟩
  · rcases hgv with ⟨g1, g2, g3⟩ | ⟨g1, g2, g3⟩
    · have hif : isIf ms e.2.2.2.2.1 := ⟨m1, m2, by rw [m3, g2]; rfl⟩
      have hI := in_of h hn hI9 g1 hif (by rw [← g3]; exact m4 (by omega))
      rcases kd9 with k0 | k0
      · exact ao_hi h hH hC9 e12 k0 hI
      · exact ao_ht h hH hC9 e12 k0 hI (set_1 h k0).2.2.2
    · have hsf : isSf ms e.2.2.2.2.1 := ⟨m1, m2, by rw [m3, g2]; rfl⟩
      rcases kd9 with k0 | k0
      · exact ao_hg h hH hC9 e12 k0 hsf
      · exact ao_hs h hH hC9 e12 k0 hsf (set_1 h k0).2.2.2
  · have hty := (hwH.2.2.2 _ m1.1 m1.2).1.2.2.2
    rcases ff_m (HT := HT) hwH m1 with hff | ⟨⟨f1, f2, f3⟩, f4⟩
    · by_cases c0 : (hmR ms e.2.2.2.2.1).2.2.2.1 = 0
      · exact ao_mv h hX hH hC9 hF9 e12 ⟨m1, m2⟩ hff c0 vG_0 hbe
      · by_cases c6 : (hmR ms e.2.2.2.2.1).2.2.2.1 ≤ 6
        · exact ao_mb h hX hH hC9 hF9 e12 ⟨m1, m2⟩ hff ⟨by omega, c6⟩ an_G hbe
        · by_cases c7 : (hmR ms e.2.2.2.2.1).2.2.2.1 = 7
          · exact ao_mx h hX hx1 hH hC9 hF9 hX9 e12 ⟨m1, m2⟩ hff c7 hbe
          · refine ao_mt h hX hH hC9 hF9 e12 ⟨m1, m2⟩ hff ⟨by omega, hty.2⟩ ?_ hbe
            rcases hgv with ⟨g1, g2, g3⟩ | ⟨g1, g2, g3⟩
            · exact Or.inl ⟨by rw [m3, g2]; rfl, g1⟩
            · exact Or.inr ⟨by rw [m3, g2]; rfl, by omega⟩
    · have hft := hM9.1 _ f1.1 f1.2 f2
      rcases hgv with ⟨g1, g2, g3⟩ | ⟨g1, g2, g3⟩
      · have s0 : (hmR ms e.2.2.2.2.1).2.2.1 = 0 := by rw [m3, g2]; rfl
        have hif : isIf ms (ffA HT cs ms e.2.2.2.2.1) := ⟨f1, f2, f3.trans s0⟩
        have hmf : ffA HT cs ms e.2.2.2.2.1 ∈ flA cs ms (tO (a_T A) ((a_K A t).1.getD ba (0, 0, [])).2.1).2.2.1 := by
          obtain ⟨q, q1, q2⟩ := m4
          rw [← g3]
          exact hM9.2 _ k2.1 k2.2 q q1 _ q2 m2 s0 f1.1
        have hI := in_of h hn hI9 g1 hif hmf
        rcases f4 with ⟨t0, pl, va⟩ | ⟨pl, t0⟩
        · have hec : ec = 1 := by
            rcases kd9 with z | z | z
            · have := m5 z
              omega
            · exact (set_1 h z).1
            · have := m7 z va
              omega
          exact ao_mj h hX hH hC9 hF9 e12 ⟨m1, m2⟩ rfl hI pl t0 hec hbe
        · exact ao_mi h hX hH hC9 hF9 e12 ⟨m1, m2⟩ rfl hI pl (by omega) hbe
      · have s0 : (hmR ms e.2.2.2.2.1).2.2.1 = 1 := by rw [m3, g2]; rfl
        have hsf : isSf ms (ffA HT cs ms e.2.2.2.2.1) := ⟨f1, f2, f3.trans s0⟩
        rcases f4 with ⟨t0, pl, va⟩ | ⟨pl, t0⟩
        · have hec : ec = 1 := by
            rcases kd9 with z | z | z
            · have := m5 z
              omega
            · exact (set_1 h z).1
            · have := m7 z va
              omega
          exact ao_ms h hX hH hC9 hF9 e12 ⟨m1, m2⟩ rfl hsf pl t0 hec hbe
        · exact ao_mg h hX hH hC9 hF9 e12 ⟨m1, m2⟩ rfl hsf pl (by omega) hbe
  · exact ao_mn h hX hx1 hH hC9 hD9 e12 ⟨m1, m2⟩ m3 kd9 hbe
/-- what steps are told: outer texts, lengths, the host, functions' sizes -/
def stT (xs : List (Nat × List Int32)) (S0 : wS) (p b : Nat) (HT : Int → Int) (nt : Int) (cs : List hCR) (ms : List hMR) (os : Int → List Int) (n : Int) : Prop := (w_X xs ∧ pe_at (pe_GA xs).xs 1 = some (1, tx_1) ∧ pe_at (pe_GA xs).xs 97 = some (3, tx_97)) ∧ hyX xs S0 p b HT nt cs ms os n (WEs S0 HT cs ms os) ∧ hoT S0 p b HT nt cs ms os n ∧ stL S0 ∧ stQ S0
/-- A STEP OF BOTH SIDES, AT ANY INSTRUCTION -/
theorem st_all {b9 : Nat} (h : hyS S0 p X fa ms n (WEs S0 HT cs ms os) B B2 w t A) (hT : stT xs S0 p b9 HT nt cs ms os n) (hB1 : B + 1 ≤ B2) : stO xs (d + 80) S0 p HT cs ms os X mo fa n (WEs S0 HT cs ms os) B2 w t A := by
  obtain ⟨⟨hX, hx1, h97⟩, hy, hh, hL9, hq9⟩ := hT
  by_cases c : opI S0 (a_K A t) = 27
  · have hba := fun (w : Nat) (t : Int) => ba_of (xs := xs) (d := d) (X := X) (mo := mo) (fa := fa) (B2 := B2) (w := w) (t := t) hh hX hx1
    have hW9 := hoWf_of (S0 := S0) (fa := fa) (HT := HT) (cs := cs) (ms := ms) (os := os) (n := n) h.2.2.2.2.2.1.2
    obtain ⟨⟨hH, hC9⟩, -, -, ⟨hO9, hAb⟩, hND⟩ := hh
    exact st_27 h c hB1 hL9 hx1 h97 hq9 hX (hoLk_of hL9 hX hH hC9 hO9 hAb hND hW9 (hba w t)) (hoAc_of hX hH hO9 hAb hND hW9 (hba w t))
  · exact st_np h hy hB1 c
end Wmp
