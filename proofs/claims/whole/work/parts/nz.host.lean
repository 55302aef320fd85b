/-! PART nz: all that is told of a host, from what its reading left. -/
section Wnz
variable {S : wS} {p b : Nat} {T : Int → Int} {n : Int} {cs : List hCR} {ms : List hMR} {os : Int → List Int}
/-- what the class holds of a host that was read -/
def hoCl (p : Nat) (T : Int → Int) (n : Int) (cs : List hCR) (ms : List hMR) (os : Int → List Int) (S : wS) : Prop := (JX (p + 14) (p + 24) (p + 1) (p + 44) (p + 45) T cs ms S ∧ JV cs ms ∧ (wOs cs os ∧ wAb cs) ∧ JN n cs ms ∧ ∀ r ∈ ms, mo_I r) ∧ KC (p + 14) (p + 24) (p + 20) (p + 41) (p + 42) (p + 1) p T cs ms os S ∧ (wd_at S (p + 1) 64 ∧ wd_L S (p + 1) 64 ∧ S (p + 1) 7 ≤ 1000000) ∧ ∀ k : Int, 0 ≤ k → k < (cs.length : Int) → (13 ≤ S (p + 19) k ∧ S (p + 19) k < S (p + 1) 7) ∧ wq (S (p + 1 + 1)) (S (p + 1 + 2)) (S (p + 1 + 3)) T (hcR cs k).2.1 ((hcR cs k).2.2.1 - (hcR cs k).2.1) (S (p + 19) k)
/-- .. and the reference -/
def hoRf (b : Nat) (T : Int → Int) (n : Int) (cs : List hCR) (ms : List hMR) (S : wS) : Prop := S 237 13 = (b : Int) ∧ (S b 1 = (cs.length : Int) ∧ S b 11 = (ms.length : Int)) ∧ hc_all b S cs ∧ hr_all b S ms ∧ (∀ i : Int, 0 ≤ i → i < n → S (b + 1) i = T i) ∧ (0 ≤ n ∧ n ≤ 65536) ∧ ∀ r ∈ cs, hq_ok n r
theorem hcR_m {k : Int} (h0 : 0 ≤ k) (h1 : k < (cs.length : Int)) : hcR cs k ∈ cs := List.mem_of_getElem? (hcR_i h0 h1)
theorem hmR_m {m : Int} (h0 : 0 ≤ m) (h1 : m < (ms.length : Int)) : hmR ms m ∈ ms := List.mem_of_getElem? (hmR_i h0 h1)
theorem KR_of (hc : hoCl p T n cs ms os S) (hr : hoRf b T n cs ms S) : KR b T n cs ms S := by
  have hK0 := hc.2.1
  obtain ⟨⟨-, -, -, ⟨n1, n2⟩, n3⟩, ⟨-, k6, -, -, ⟨k4, -⟩, -⟩, -, -⟩ := hc
  obtain ⟨r1, ⟨r2, r3⟩, r4, r5, r6, r7, r8⟩ := hr
  refine ⟨r1, ⟨r2, r3, k6, k4⟩, r4, r5, r6, r7, fun m m0 m1 => ?_, fun k k0 k1 => ?_⟩
  · have z := (r5 m.toNat _ (hmR_i m0 m1)).2.2.2
    have e := n1 _ (hmR_m m0 m1)
    have o := n3 _ (hmR_m m0 m1)
    refine ⟨z.1, z.2.1, e, ?_⟩
    by_cases c : (hmR ms m).2.1 = 2
    · have := (KC_m hK0 m0 m1).2.2.2.1 c
      omega
    · have := o.2 c
      omega
  · have z := r8 _ (hcR_m k0 k1)
    have e := n2 _ (hcR_m k0 k1)
    exact ⟨z.1.1, z.1.2.1, z.1.2.2, by omega⟩
theorem hoT_of (hpb : (p = 73 ∧ b = 241) ∨ (p = 162 ∧ b = 261)) (hc : hoCl p T n cs ms os S) (hr : hoRf b T n cs ms S) (h72 : S 72 1 = (p : Int)) (h159 : S 159 (-1) = 64) (hT : ∀ i : Int, 0 ≤ i → i < n → 0 ≤ T i ∧ T i ≤ 255) : hoT S p b T n cs ms os (cs.length : Int) := by
  have hR := KR_of hc hr
  obtain ⟨⟨hx, hv, ⟨ho, ha⟩, ⟨n1, n2⟩, n3⟩, hK, ⟨hI, hL, h7⟩, hn⟩ := hc
  have h4 : ms.length ≤ 400 := hK.2.2.2.2.1.1
  have hw : wHo cs ms os := wHo_of hx hv ho ⟨hK.2.1, h4⟩
  have l2 : S (p + 1 + 3) (-1) = S (p + 1 + 2) (-1) := hL.2.1
  have l8 : S (p + 1 + 2) (-1) ≤ 2147483647 := hL.2.2.2.2.2.2.2.1
  have l9 : S (p + 1 + 1) (-1) ≤ 2147483647 := hL.2.2.2.2.2.2.2.2
  have a2 : 0 ≤ S (p + 1) 7 ∧ S (p + 1) 7 ≤ S (p + 1 + 2) (-1) := hI.1
  have a3 : 0 ≤ S (p + 1) 1 ∧ S (p + 1) 1 ≤ S (p + 1 + 1) (-1) := hI.2.1
  have aw : ∀ k : Int, 0 ≤ k → k < S (p + 1) 7 → 0 ≤ S (p + 1 + 2) k ∧ 0 ≤ S (p + 1 + 3) k ∧ S (p + 1 + 3) k ≤ 60 ∧ S (p + 1 + 2) k + S (p + 1 + 3) k ≤ S (p + 1) 1 := fun k k0 k1 => hI.2.2.1 k k0 k1
  have nl : ∀ k : Int, 0 ≤ k → k < (cs.length : Int) → ((cNa T cs k).length : Int) = (hcR cs k).2.2.1 - (hcR cs k).2.1 ∧ (cNa T cs k).length ≤ 30 := fun k k0 k1 => by
    have z := hR.2.2.2.2.2.2.2 k k0 k1
    have e := n2 _ (hcR_m k0 k1)
    unfold cNa
    rw [sl_len]
    omega
  refine ⟨⟨⟨hpb, h72, ⟨⟨l2, l8, l9⟩, fun k k0 k1 => ?_⟩, ⟨hK.1, hK.2.1, rfl⟩, ⟨hI, hL⟩, ⟨fun k k0 k1 => (hn k k0 k1).1.2, h7⟩, hR, hw, fun k k0 k1 => (nl k k0 k1).2⟩, hK, h159⟩, ⟨fun m m0 m1 h1 => ?_, fun m hm c c0 c1 hf => ?_, fun m m0 m1 h1 => ⟨?_, fun y hy => ?_⟩, fun c c0 c1 => cFd_of hx ho h4 c0 c1⟩, stHm_of hx hv ho hw, ⟨ho, ha⟩, fun c c0 c1 => hND_of hx ⟨c0, c1⟩⟩
  · obtain ⟨b1, b2, b3⟩ := hn k k0 k1
    obtain ⟨e1, e2⟩ := nl k k0 k1
    have w1 := aw (S (p + 19) k) (by omega) b1.2
    refine ⟨⟨by omega, by omega⟩, b2.trans e1.symm, ⟨by omega, by omega⟩, fun i hi => ?_, e2⟩
    rw [b3 i (by omega)]
    unfold cNa
    rw [sl_get _ _ _ (by omega)]
  · exact stHf_of hx hv hI hK hw ⟨m0, m1⟩ h1
  · exact fPl_of hx ho h4 c0 c1 hf
  · obtain ⟨w1, w2, w3, w4⟩ := wdNm_of hI hK ⟨m0, m1⟩ (by omega)
    have w5 := aw _ w2.1 w2.2
    have w6 := w1.1
    exact ⟨l2, ⟨w2.1, by show S (p + 24 + 14) m < _; omega⟩, ⟨w1.1, w3⟩, ⟨w5.1, by show S (p + 1 + 2) (S (p + 24 + 14) m) + _ ≤ _; omega⟩, w1.2⟩
  · obtain ⟨i, hi, e⟩ := List.getElem_of_mem hy
    have z := hR.2.2.2.2.2.2.1 m m0 m1
    have g : (nmR T (hmR ms m)).getD i 0 = y := by rw [List.getD_eq_getElem?_getD, List.getElem?_eq_getElem hi, e]; rfl
    rw [nmR_s hi] at g
    have nm := nmR_l (T := T) (r := hmR ms m) z.2.1
    rw [← g]
    exact hT _ (by omega) (by omega)
end Wnz
