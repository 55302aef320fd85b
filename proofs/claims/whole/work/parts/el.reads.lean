/-! PART el: variables and globals are read, by tasks. -/
section Wel
variable {xs : List (Nat × List Int32)} {d : Nat} {S Z A T : wS} {K Kr : aK} {k v q t a b : Int} {u : aV} {w m : Nat} {L : List aC} {G : Int → aV}
/-- the call around a call -/
def aAr (L : List aC) (k : Int) : Int := (L.getD k.toNat (0, [])).1
theorem ite_pp {c e A B C : Prop} [Decidable c] [Decidable e] (h : c) (h2 : e) (hz : if c then (if e then A else B) else C) : A := by rw [if_pos h, if_pos h2] at hz; exact hz
theorem ite_pn {c e A B C : Prop} [Decidable c] [Decidable e] (h : c) (h2 : ¬ e) (hz : if c then (if e then A else B) else C) : B := by rw [if_pos h, if_neg h2] at hz; exact hz
theorem cO_cg {B C : Int → Int} {m : Int} (h : ∀ k : Int, 0 ≤ k → k < m → B k = C k) : ∀ (n : Nat) (x : Int), (∀ j : Nat, j ≤ n → 0 ≤ cO C j x ∧ cO C j x < m) → cO B n x = cO C n x
  | 0, _, _ => rfl
  | n + 1, x, hj => by
    have h0 := hj 0 (by omega)
    show cO B n (B x) = cO C n (C x)
    rw [h x h0.1 h0.2]
    exact cO_cg h n (C x) (fun j hq => hj (j + 1) (by omega))
/-- rows of the class's calls and cells -/
def cLc (S : wS) (L : List aC) : Prop := (S 139 (-1) = S 138 (-1) ∧ (L.length : Int) ≤ S 138 (-1) ∧ 64 ≤ S 138 (-1) ∧ S 138 (-1) ≤ 16383) ∧ S 142 (-1) = S 141 (-1) ∧ (0 ≤ S 140 2 ∧ S 140 2 ≤ S 141 (-1)) ∧ 16 ≤ S 141 (-1) ∧ S 141 (-1) ≤ 480400
/-- the globals, of the class and of the reference -/
def cGl (S : wS) (G : Int → aV) : Prop := (0 ≤ S 153 2 ∧ S 153 2 ≤ S 154 (-1) ∧ 16 ≤ S 154 (-1) ∧ S 154 (-1) ≤ 8191 ∧ S 155 (-1) = S 154 (-1)) ∧ (∀ a : Int, 0 ≤ a → a < S 153 2 → cVl S (S 154 a) (S 155 a) (G a)) ∧ ∀ a : Int, S 153 2 ≤ a → G a = (-1, 0, [])
def rGl (S : wS) (G : Int → aV) : Prop := ∀ a : Int, 0 ≤ a → a < 4000 → (S 337 a = 0 ∧ (G a).1 = -1) ∨ (S 337 a ≠ 0 ∧ (G a).1 ≠ -1 ∧ rVl S (S 338 a) (S 339 a) (G a))
theorem c_ca (h : cCa S L) (h0 : 0 ≤ k) (h1 : k < (L.length : Int)) : S 139 k = aAr L k ∧ (0 ≤ S 138 k ∧ S 138 k + ((L.getD k.toNat (0, [])).2.length : Int) ≤ S 140 2) ∧ cR1 S 141 142 (S 138 k) (L.getD k.toNat (0, [])).2 := by
  have := h.2 k.toNat (by omega)
  rw [show ((k.toNat : Nat) : Int) = k by omega] at this
  exact this
theorem r_ca (h : rCa S L) (h0 : 0 ≤ k) (h1 : k < (L.length : Int)) : S 333 k = aAr L k ∧ (0 ≤ S 334 k ∧ S 334 k + ((L.getD k.toNat (0, [])).2.length : Int) ≤ S 237 94) ∧ rR1 S 335 336 (S 334 k) (L.getD k.toNat (0, [])).2 := by
  have := h.2 k.toNat (by omega)
  rw [show ((k.toNat : Nat) : Int) = k by omega] at this
  exact this
theorem z1_215 (h : stC 215 S K) (hi : cIn S K 1 a b) (hab : (-2147483648 ≤ a ∧ a ≤ 2147483647) ∧ (-2147483648 ≤ b ∧ b ≤ 2147483647)) (hC : cCa S L) (hn : cLc S L) (ha : 0 ≤ a ∧ a ≤ 100000) (hb : 0 ≤ b ∧ b ≤ 100000) (hj : ∀ j : Nat, j ≤ a.toNat → 0 ≤ cO (aAr L) j (K.2.1.getD (K.2.1.length - 1) (0, 0, 0, (0, 0, []), 0, 0, 0)).2.2.1 ∧ cO (aAr L) j (K.2.1.getD (K.2.1.length - 1) (0, 0, 0, (0, 0, []), 0, 0, 0)).2.2.1 < (L.length : Int)) (hv : b.toNat < (L.getD (cO (aAr L) a.toNat (K.2.1.getD (K.2.1.length - 1) (0, 0, 0, (0, 0, []), 0, 0, 0)).2.2.1).toNat (0, [])).2.length) (hh : K.1.length < 2000) : cSt xs d 215 S (kP K 0 ((L.getD (cO (aAr L) a.toNat (K.2.1.getD (K.2.1.length - 1) (0, 0, 0, (0, 0, []), 0, 0, 0)).2.2.1).toNat (0, [])).2.getD b.toNat (0, 0, []))) := by
  obtain ⟨⟨n1, n2, n3, n4⟩, n5, ⟨n6, n7⟩, n8, n9⟩ := hn
  obtain ⟨-, -, r3⟩ := st_row h.1 h.2.2.1.1
  have e : ∀ n : Nat, n ≤ a.toNat → cO ((w_up S 215 16 0) 139) n (K.2.1.getD (K.2.1.length - 1) (0, 0, 0, (0, 0, []), 0, 0, 0)).2.2.1 = cO (aAr L) n (K.2.1.getD (K.2.1.length - 1) (0, 0, 0, (0, 0, []), 0, 0, 0)).2.2.1 := fun n hq => cO_cg (fun k k0 k1 => (w_up_slot (by decide)).trans (c_ca hC k0 k1).1) n _ (fun j q => hj j (by omega))
  have hy := hj a.toNat (Nat.le_refl _)
  obtain ⟨-, ⟨u1, u2⟩, u3⟩ := c_ca hC hy.1 hy.2
  have hc := u3 b.toNat hv
  rw [show ((b.toNat : Nat) : Int) = b by omega] at hc
  exact cs_p_215 (m := 0) h hi.1 hi.2.1 hi.2.2 (by decide) (fun q => by omega) (fun x hx => hx) (by unfold mS; decide) (x1_215 (u := S 138 (cO (aAr L) a.toNat (K.2.1.getD (K.2.1.length - 1) (0, 0, 0, (0, 0, []), 0, 0, 0)).2.2.1)) (m := (L.length : Int)) (xP_of (Or.inl rfl) h) hab ((w_up_slot (by decide)).trans r3) ⟨by omega, by rw [w_up_slot (by decide)]; omega⟩ (by rw [w_up_slot (by decide), w_up_slot (by decide)]; exact n1) ha hb (fun j q => by rw [e j q]; exact hj j q) (by rw [e a.toNat (Nat.le_refl _)]; exact w_up_slot (by decide)) ⟨u1, by rw [w_up_slot (by decide)]; omega⟩ (by rw [w_up_slot (by decide), w_up_slot (by decide)]; exact n5) (by rw [w_up_slot (by decide)]; omega) (w_up_slot (by decide)) (w_up_slot (by decide))) rfl (by omega) hc
theorem z3_215 (h : stC 215 S K) (hi : cIn S K 3 a b) (hab : (-2147483648 ≤ a ∧ a ≤ 2147483647) ∧ (-2147483648 ≤ b ∧ b ≤ 2147483647)) (hG : cGl S G) (ha : 0 ≤ a) (hg : (G a).1 ≠ -1) (hh : K.1.length < 2000) : cSt xs d 215 S (kP K 0 (G a)) := by
  obtain ⟨⟨g1, g2, g3, g4, g5⟩, g6, g7⟩ := hG
  have ha2 : a < S 153 2 := by
    by_cases c : a < S 153 2
    · exact c
    · exact absurd (by rw [g7 a (by omega)]) hg
  have hc := g6 a ha ha2
  exact cs_p_215 (m := 0) h hi.1 hi.2.1 hi.2.2 (by decide) (fun q => by omega) (fun x hx => hx) (by unfold mS; decide) (wJ_mono (x3_215 (xP_of (Or.inl rfl) h) hab (w_up_slot (by decide)) ⟨g1, by rw [w_up_slot (by decide)]; omega⟩ (by rw [w_up_slot (by decide), w_up_slot (by decide)]; exact g5) ha (w_up_slot (by decide)) (w_up_slot (by decide))) (fun _ _ hz => ⟨hz.1, ite_n (by rw [hc.1]; omega) hz.2⟩)) rfl (by omega) hc
theorem z3e_215 (h : stC 215 S K) (hi : cIn S K 3 a b) (hab : (-2147483648 ≤ a ∧ a ≤ 2147483647) ∧ (-2147483648 ≤ b ∧ b ≤ 2147483647)) (hG : cGl S G) (ha : 0 ≤ a) (hg : (G a).1 = -1) (hh : K.1.length < 2000) : cSt xs d 215 S (kTh K (2, 10, [])) := by
  obtain ⟨⟨g1, g2, g3, g4, g5⟩, g6, g7⟩ := hG
  exact cx_p_215 h hi.1 hi.2.1 hi.2.2 (by decide) (fun q => by omega) (fun x hx => hx) (by unfold mS; decide) (by decide) (wJ_mono (x3_215 (xP_of (Or.inl rfl) h) hab (w_up_slot (by decide)) ⟨g1, by rw [w_up_slot (by decide)]; omega⟩ (by rw [w_up_slot (by decide), w_up_slot (by decide)]; exact g5) ha (w_up_slot (by decide)) (w_up_slot (by decide))) (fun _ _ hz => ⟨hz.1, ite_p (by
    by_cases c : a < S 153 2
    · exact Or.inr ((g6 a ha c).1.trans hg)
    · exact Or.inl (by omega)) hz.2⟩))
theorem z1_226 (h : stC 226 S K) (hi : cIn S K 1 a b) (hab : (-2147483648 ≤ a ∧ a ≤ 2147483647) ∧ (-2147483648 ≤ b ∧ b ≤ 2147483647)) (hC : cCa S L) (hn : cLc S L) (ha : 0 ≤ a ∧ a ≤ 100000) (hb : 0 ≤ b ∧ b ≤ 100000) (hj : ∀ j : Nat, j ≤ a.toNat → 0 ≤ cO (aAr L) j (K.2.1.getD (K.2.1.length - 1) (0, 0, 0, (0, 0, []), 0, 0, 0)).2.2.1 ∧ cO (aAr L) j (K.2.1.getD (K.2.1.length - 1) (0, 0, 0, (0, 0, []), 0, 0, 0)).2.2.1 < (L.length : Int)) (hv : b.toNat < (L.getD (cO (aAr L) a.toNat (K.2.1.getD (K.2.1.length - 1) (0, 0, 0, (0, 0, []), 0, 0, 0)).2.2.1).toNat (0, [])).2.length) (hh : K.1.length < 2000) : cSt xs d 226 S (kP K 0 ((L.getD (cO (aAr L) a.toNat (K.2.1.getD (K.2.1.length - 1) (0, 0, 0, (0, 0, []), 0, 0, 0)).2.2.1).toNat (0, [])).2.getD b.toNat (0, 0, []))) := by
  obtain ⟨⟨n1, n2, n3, n4⟩, n5, ⟨n6, n7⟩, n8, n9⟩ := hn
  obtain ⟨-, -, r3⟩ := st_row h.1 h.2.2.1.1
  have e : ∀ n : Nat, n ≤ a.toNat → cO ((w_up S 226 16 0) 139) n (K.2.1.getD (K.2.1.length - 1) (0, 0, 0, (0, 0, []), 0, 0, 0)).2.2.1 = cO (aAr L) n (K.2.1.getD (K.2.1.length - 1) (0, 0, 0, (0, 0, []), 0, 0, 0)).2.2.1 := fun n hq => cO_cg (fun k k0 k1 => (w_up_slot (by decide)).trans (c_ca hC k0 k1).1) n _ (fun j q => hj j (by omega))
  have hy := hj a.toNat (Nat.le_refl _)
  obtain ⟨-, ⟨u1, u2⟩, u3⟩ := c_ca hC hy.1 hy.2
  have hc := u3 b.toNat hv
  rw [show ((b.toNat : Nat) : Int) = b by omega] at hc
  exact cs_p_226 (m := 0) h hi.1 hi.2.1 hi.2.2 (by decide) (fun q => by omega) (fun x hx => hx) (by unfold mS; decide) (x1_226 (u := S 138 (cO (aAr L) a.toNat (K.2.1.getD (K.2.1.length - 1) (0, 0, 0, (0, 0, []), 0, 0, 0)).2.2.1)) (m := (L.length : Int)) (xP_of (Or.inr rfl) h) hab ((w_up_slot (by decide)).trans r3) ⟨by omega, by rw [w_up_slot (by decide)]; omega⟩ (by rw [w_up_slot (by decide), w_up_slot (by decide)]; exact n1) ha hb (fun j q => by rw [e j q]; exact hj j q) (by rw [e a.toNat (Nat.le_refl _)]; exact w_up_slot (by decide)) ⟨u1, by rw [w_up_slot (by decide)]; omega⟩ (by rw [w_up_slot (by decide), w_up_slot (by decide)]; exact n5) (by rw [w_up_slot (by decide)]; omega) (w_up_slot (by decide)) (w_up_slot (by decide))) rfl (by omega) hc
theorem z3_226 (h : stC 226 S K) (hi : cIn S K 3 a b) (hab : (-2147483648 ≤ a ∧ a ≤ 2147483647) ∧ (-2147483648 ≤ b ∧ b ≤ 2147483647)) (hG : cGl S G) (ha : 0 ≤ a) (hg : (G a).1 ≠ -1) (hh : K.1.length < 2000) : cSt xs d 226 S (kP K 0 (G a)) := by
  obtain ⟨⟨g1, g2, g3, g4, g5⟩, g6, g7⟩ := hG
  have ha2 : a < S 153 2 := by
    by_cases c : a < S 153 2
    · exact c
    · exact absurd (by rw [g7 a (by omega)]) hg
  have hc := g6 a ha ha2
  exact cs_p_226 (m := 0) h hi.1 hi.2.1 hi.2.2 (by decide) (fun q => by omega) (fun x hx => hx) (by unfold mS; decide) (wJ_mono (x3_226 (xP_of (Or.inr rfl) h) hab (w_up_slot (by decide)) ⟨g1, by rw [w_up_slot (by decide)]; omega⟩ (by rw [w_up_slot (by decide), w_up_slot (by decide)]; exact g5) ha (w_up_slot (by decide)) (w_up_slot (by decide))) (fun _ _ hz => ⟨hz.1, ite_n (by rw [hc.1]; omega) hz.2⟩)) rfl (by omega) hc
theorem z3e_226 (h : stC 226 S K) (hi : cIn S K 3 a b) (hab : (-2147483648 ≤ a ∧ a ≤ 2147483647) ∧ (-2147483648 ≤ b ∧ b ≤ 2147483647)) (hG : cGl S G) (ha : 0 ≤ a) (hg : (G a).1 = -1) (hh : K.1.length < 2000) : cSt xs d 226 S (kTh K (2, 10, [])) := by
  obtain ⟨⟨g1, g2, g3, g4, g5⟩, g6, g7⟩ := hG
  exact cx_p_226 h hi.1 hi.2.1 hi.2.2 (by decide) (fun q => by omega) (fun x hx => hx) (by unfold mS; decide) (by decide) (wJ_mono (x3_226 (xP_of (Or.inr rfl) h) hab (w_up_slot (by decide)) ⟨g1, by rw [w_up_slot (by decide)]; omega⟩ (by rw [w_up_slot (by decide), w_up_slot (by decide)]; exact g5) ha (w_up_slot (by decide)) (w_up_slot (by decide))) (fun _ _ hz => ⟨hz.1, ite_p (by
    by_cases c : a < S 153 2
    · exact Or.inr ((g6 a ha c).1.trans hg)
    · exact Or.inl (by omega)) hz.2⟩))
theorem rn1 (h : stR t S K) (hs : S 357 t = 1) (hi : rIn S K 1 a b) (hab : (-2147483648 ≤ a ∧ a ≤ 2147483647) ∧ (-2147483648 ≤ b ∧ b ≤ 2147483647)) (hC : rCa S L) (hn : (L.length : Int) ≤ 8000 ∧ S 237 94 ≤ 60000) (ha : 0 ≤ a ∧ a ≤ 100000) (hb : 0 ≤ b ∧ b ≤ 100000) (hj : ∀ j : Nat, j ≤ a.toNat → 0 ≤ cO (aAr L) j (K.2.1.getD (K.2.1.length - 1) (0, 0, 0, (0, 0, []), 0, 0, 0)).2.2.1 ∧ cO (aAr L) j (K.2.1.getD (K.2.1.length - 1) (0, 0, 0, (0, 0, []), 0, 0, 0)).2.2.1 < (L.length : Int)) (hv : b.toNat < (L.getD (cO (aAr L) a.toNat (K.2.1.getD (K.2.1.length - 1) (0, 0, 0, (0, 0, []), 0, 0, 0)).2.2.1).toNat (0, [])).2.length) (hh : K.1.length < 2000) : rSt xs d t S (kP K 0 ((L.getD (cO (aAr L) a.toNat (K.2.1.getD (K.2.1.length - 1) (0, 0, 0, (0, 0, []), 0, 0, 0)).2.2.1).toNat (0, [])).2.getD b.toNat (0, 0, []))) := by
  obtain ⟨-, -, r3⟩ := sr_row h.1 h.2.2.2.2.1.1
  have e : ∀ n : Nat, n ≤ a.toNat → cO ((w_up (w_up S 237 154 (200 * t + (K.2.1.length : Int) - 1)) 237 155 ((K.2.1.getD (K.2.1.length - 1) (0, 0, 0, (0, 0, []), 0, 0, 0)).2.1 + 1)) 333) n (K.2.1.getD (K.2.1.length - 1) (0, 0, 0, (0, 0, []), 0, 0, 0)).2.2.1 = cO (aAr L) n (K.2.1.getD (K.2.1.length - 1) (0, 0, 0, (0, 0, []), 0, 0, 0)).2.2.1 := fun n hq => cO_cg (fun k k0 k1 => r_16 (r_ca hC k0 k1).1 (by decide)) n _ (fun j q => hj j (by omega))
  have hy := hj a.toNat (Nat.le_refl _)
  obtain ⟨-, ⟨u1, u2⟩, u3⟩ := r_ca hC hy.1 hy.2
  have hc := u3 b.toNat hv
  rw [show ((b.toNat : Nat) : Int) = b by omega] at hc
  exact rg_v h hs hi.1 hi.2.1 hi.2.2 (by decide) (wJ_mono (y1 (u := S 334 (cO (aAr L) a.toNat (K.2.1.getD (K.2.1.length - 1) (0, 0, 0, (0, 0, []), 0, 0, 0)).2.2.1)) (m := (L.length : Int)) (mP_of h) hab (r_16 r3 (by decide)) ⟨by omega, by omega⟩ ha hb (fun j q => by rw [e j q]; exact hj j q) (e a.toNat (Nat.le_refl _)) (r_16 rfl (by decide)) ⟨u1, by omega⟩ (r_16 rfl (by decide)) (r_16 rfl (by decide))) (fun _ _ => ite_p (by omega))) (fun Z hz => by subst hz; exact rp_U h hc)
theorem rn1v (h : stR t S K) (hs : S 357 t = 1) (hi : rIn S K 1 a b) (hab : (-2147483648 ≤ a ∧ a ≤ 2147483647) ∧ (-2147483648 ≤ b ∧ b ≤ 2147483647)) (hC : rCa S L) (hn : (L.length : Int) ≤ 8000 ∧ S 237 94 ≤ 60000) (ha : 0 ≤ a ∧ a ≤ 100000) (hb : 0 ≤ b ∧ b ≤ 100000) (hj : ∀ j : Nat, j ≤ a.toNat → 0 ≤ cO (aAr L) j (K.2.1.getD (K.2.1.length - 1) (0, 0, 0, (0, 0, []), 0, 0, 0)).2.2.1 ∧ cO (aAr L) j (K.2.1.getD (K.2.1.length - 1) (0, 0, 0, (0, 0, []), 0, 0, 0)).2.2.1 < (L.length : Int)) (hv : b.toNat < (L.getD (cO (aAr L) a.toNat (K.2.1.getD (K.2.1.length - 1) (0, 0, 0, (0, 0, []), 0, 0, 0)).2.2.1).toNat (0, [])).2.length) (hh : 2000 ≤ K.1.length) : rSt xs d t S (kTh K (2, 11, [])) := by
  obtain ⟨-, -, r3⟩ := sr_row h.1 h.2.2.2.2.1.1
  have e : ∀ n : Nat, n ≤ a.toNat → cO ((w_up (w_up S 237 154 (200 * t + (K.2.1.length : Int) - 1)) 237 155 ((K.2.1.getD (K.2.1.length - 1) (0, 0, 0, (0, 0, []), 0, 0, 0)).2.1 + 1)) 333) n (K.2.1.getD (K.2.1.length - 1) (0, 0, 0, (0, 0, []), 0, 0, 0)).2.2.1 = cO (aAr L) n (K.2.1.getD (K.2.1.length - 1) (0, 0, 0, (0, 0, []), 0, 0, 0)).2.2.1 := fun n hq => cO_cg (fun k k0 k1 => r_16 (r_ca hC k0 k1).1 (by decide)) n _ (fun j q => hj j (by omega))
  have hy := hj a.toNat (Nat.le_refl _)
  obtain ⟨-, ⟨u1, u2⟩, u3⟩ := r_ca hC hy.1 hy.2
  have hc := u3 b.toNat hv
  rw [show ((b.toNat : Nat) : Int) = b by omega] at hc
  exact rx_v h hs hi.1 hi.2.1 hi.2.2 (by decide) (by decide) (wJ_mono (y1 (u := S 334 (cO (aAr L) a.toNat (K.2.1.getD (K.2.1.length - 1) (0, 0, 0, (0, 0, []), 0, 0, 0)).2.2.1)) (m := (L.length : Int)) (mP_of h) hab (r_16 r3 (by decide)) ⟨by omega, by omega⟩ ha hb (fun j q => by rw [e j q]; exact hj j q) (e a.toNat (Nat.le_refl _)) (r_16 rfl (by decide)) ⟨u1, by omega⟩ (r_16 rfl (by decide)) (r_16 rfl (by decide))) (fun _ _ => ite_n (by omega)))
theorem rn3 (h : stR t S K) (hs : S 357 t = 1) (hi : rIn S K 3 a b) (hab : (-2147483648 ≤ a ∧ a ≤ 2147483647) ∧ (-2147483648 ≤ b ∧ b ≤ 2147483647)) (hG : rGl S G) (ha : 0 ≤ a ∧ a < 4000) (hg : (G a).1 ≠ -1) (hh : K.1.length < 2000) : rSt xs d t S (kP K 0 (G a)) := by
  rcases hG a ha.1 ha.2 with ⟨-, x⟩ | ⟨x1, -, hc⟩
  · exact absurd x hg
  · exact rg_v h hs hi.1 hi.2.1 hi.2.2 (by decide) (wJ_mono (y3 (mP_of h) hab ha (r_16 rfl (by decide)) (r_16 rfl (by decide)) (r_16 rfl (by decide))) (fun _ _ => ite_pn (by omega) x1)) (fun Z hz => by subst hz; exact rp_U h hc)
theorem rn3e (h : stR t S K) (hs : S 357 t = 1) (hi : rIn S K 3 a b) (hab : (-2147483648 ≤ a ∧ a ≤ 2147483647) ∧ (-2147483648 ≤ b ∧ b ≤ 2147483647)) (hG : rGl S G) (ha : 0 ≤ a ∧ a < 4000) (hg : (G a).1 = -1) (hh : K.1.length < 2000) : rSt xs d t S (kTh K (2, 10, [])) := by
  rcases hG a ha.1 ha.2 with ⟨x, -⟩ | ⟨-, x1, -⟩
  · exact rx_v h hs hi.1 hi.2.1 hi.2.2 (by decide) (by decide) (wJ_mono (y3 (mP_of h) hab ha (r_16 x (by decide)) (r_16 rfl (by decide)) (r_16 rfl (by decide))) (fun _ _ => ite_pp (by omega) rfl))
  · exact absurd hg x1
theorem rn3v (h : stR t S K) (hs : S 357 t = 1) (hi : rIn S K 3 a b) (hab : (-2147483648 ≤ a ∧ a ≤ 2147483647) ∧ (-2147483648 ≤ b ∧ b ≤ 2147483647)) (ha : 0 ≤ a ∧ a < 4000) (hh : 2000 ≤ K.1.length) : rSt xs d t S (kTh K (2, 11, [])) :=
  rx_v h hs hi.1 hi.2.1 hi.2.2 (by decide) (by decide) (wJ_mono (y3 (mP_of h) hab ha rfl rfl rfl) (fun _ _ => ite_n (by omega)))
end Wel
