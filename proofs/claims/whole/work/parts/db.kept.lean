/-! PART db: the code as it is kept. -/
section Wdb
variable {S Z : wS} {T : Int → Int} {n p q g f0 u un sb y v a h nn nx : Int} {N X : List (List Int)} {I : List pz_I} {F : List pz_F} {fa fb : Int → Int} {c i k j : Nat}
theorem lx_go_ge (hp : n ≤ p) : lx_go T n p = p := by
  have h0 : lx_at T n p = 0 := Classical.byContradiction (fun q => by have := lx_at_lt q; omega)
  unfold lx_go
  rw [lx_bl_s, if_neg (by omega), if_neg (by omega)]
theorem tp_end (h : n ≤ tp T n 0 i) : tp T n 0 (i + 1) = tp T n 0 i := by
  show lx_go T n (lx_en T n 0 (tp T n 0 i)) = _
  have e : lx_en T n 0 (tp T n 0 i) = tp T n 0 i := if_pos h
  rw [e, lx_go_ge h]
theorem tp_ge (h : n ≤ tp T n 0 c) : ∀ k : Nat, n ≤ tp T n 0 (c + k)
  | 0 => h
  | k + 1 => by
    rw [show c + (k + 1) = (c + k) + 1 from rfl, tp_end (tp_ge h k)]
    exact tp_ge h k
theorem NL_s : (NL T n N i).length ≤ (NL T n N (i + 1)).length := by
  show _ ≤ (Nn T n (tp T n 0 i) (NL T n N i)).length
  unfold Nn
  split
  · obtain ⟨J, hJ⟩ := adL_pr (NL T n N i) (nmx T n (tp T n 0 i))
    rw [hJ, List.length_append]; omega
  · exact Nat.le_refl _
theorem XL_s : (XL T n X i).length ≤ (XL T n X (i + 1)).length := by
  show _ ≤ (Xn T n (tp T n 0 i) (XL T n X i)).length
  unfold Xn
  split
  · obtain ⟨J, hJ⟩ := adL_pr (XL T n X i) (lx_by T n (tp T n 0 i))
    rw [hJ, List.length_append]; omega
  · exact Nat.le_refl _
theorem NL_lk : ∀ k : Nat, (NL T n N i).length ≤ (NL T n N (i + k)).length
  | 0 => Nat.le_refl _
  | k + 1 => Nat.le_trans (NL_lk k) NL_s
theorem XL_lk : ∀ k : Nat, (XL T n X i).length ≤ (XL T n X (i + k)).length
  | 0 => Nat.le_refl _
  | k + 1 => Nat.le_trans (XL_lk k) XL_s
theorem ixL_lt {L : List (List Int)} {x : List Int} (hx : ixL L x ≠ -1) : 0 ≤ ixL L x ∧ ixL L x < (L.length : Int) := by
  have hm : x ∈ L := Classical.byContradiction (fun q => hx (ixL_no.mpr q))
  have := (getD_idx hm).1
  unfold ixL
  rw [if_pos hm]
  omega
/-- the values of names and texts are below their numbers -/
theorem tV_q (hc : n ≤ tp T n 0 c) : tV ((NL T n N c).length : Int) ((XL T n X c).length : Int) (kq T n N X) (vq T n N X) := fun i => by
  have h1 := sk_rg (lx_si T n 0 (tp T n 0 i))
  have h2 := kwL_rg (nmx T n (tp T n 0 i))
  by_cases e : n ≤ tp T n 0 i
  · have h0 : kq T n N X i = 0 := if_pos e
    exact ⟨fun q => by omega, fun q => by omega⟩
  have hi : i < c := Classical.byContradiction (fun q => by
    have := tp_ge hc (i - c)
    rw [show c + (i - c) = i by omega] at this
    omega)
  have hN := NL_lk (T := T) (n := n) (N := N) (i := i + 1) (c - (i + 1))
  have hX := XL_lk (T := T) (n := n) (X := X) (i := i + 1) (c - (i + 1))
  rw [show i + 1 + (c - (i + 1)) = c by omega] at hN hX
  have hk : kq T n N X i = kp T n (tp T n 0 i) (NL T n N i) (XL T n X i) := if_neg e
  rw [hk]
  unfold vq vp kp
  by_cases b1 : lx_tk T n 0 (tp T n 0 i) = 1
  · rw [if_pos b1, if_pos b1]
    by_cases b2 : kwL (nmx T n (tp T n 0 i)) = -1
    · rw [if_pos b2, if_pos b2]
      have hn2 : NL T n N (i + 1) = adL (NL T n N i) (nmx T n (tp T n 0 i)) := if_pos ⟨b1, b2⟩
      rw [hn2] at hN
      by_cases b3 : ixL (adL (NL T n N i) (nmx T n (tp T n 0 i))) (nmx T n (tp T n 0 i)) = -1
      · rw [if_pos b3]; exact ⟨fun q => by omega, fun q => by omega⟩
      · rw [if_neg b3]
        have := ixL_lt b3
        exact ⟨fun _ => by omega, fun q => by omega⟩
    · rw [if_neg b2, if_neg b2]; exact ⟨fun q => by omega, fun q => by omega⟩
  · rw [if_neg b1, if_neg b1]
    by_cases b2 : lx_tk T n 0 (tp T n 0 i) = 2
    · rw [if_pos b2, if_pos b2]; exact ⟨fun q => by omega, fun q => by omega⟩
    · rw [if_neg b2, if_neg b2]
      by_cases b3 : lx_tk T n 0 (tp T n 0 i) = 3
      · rw [if_pos b3, if_pos b3]
        have hx2 : XL T n X (i + 1) = adL (XL T n X i) (lx_by T n (tp T n 0 i)) := if_pos b3
        rw [hx2] at hX
        by_cases b4 : ixL (adL (XL T n X i) (lx_by T n (tp T n 0 i))) (lx_by T n (tp T n 0 i)) = -1
        · rw [if_pos b4]; exact ⟨fun q => by omega, fun q => by omega⟩
        · rw [if_neg b4]
          have := ixL_lt b4
          exact ⟨fun q => by omega, fun _ => by omega⟩
      · rw [if_neg b3, if_neg b3]
        by_cases b4 : lx_tk T n 0 (tp T n 0 i) = 5
        · rw [if_pos b4]; exact ⟨fun q => by omega, fun q => by omega⟩
        · rw [if_neg b4]; exact ⟨fun q => by omega, fun q => by omega⟩
/-- so many functions further out -/
def fup (fa : Int → Int) : Nat → Int → Int
  | 0, g => g
  | n + 1, g => fa (fup fa n g)
theorem fup_s (fa : Int → Int) : ∀ (m : Nat) (g : Int), fup fa m (fa g) = fup fa (m + 1) g
  | 0, _ => rfl
  | m + 1, g => by show fa (fup fa m (fa g)) = fa (fup fa (m + 1) g); rw [fup_s fa m g]
theorem fup_cg {m : Nat} {lo hi : Int} (h : ∀ r : Nat, r ≤ m → lo ≤ fup fa r g ∧ fup fa r g < hi) (e : ∀ x : Int, lo ≤ x → x < hi → fb x = fa x) : ∀ r : Nat, r ≤ m → fup fb r g = fup fa r g
  | 0, _ => rfl
  | r + 1, hr => by
    show fb (fup fb r g) = fa (fup fa r g)
    rw [fup_cg h e r (by omega)]
    exact e _ (h r (by omega)).1 (h r (by omega)).2
theorem vix_lt : ∀ (l : List Int) (y : Int), vix l y ≠ -1 → 0 ≤ vix l y ∧ vix l y < (l.length : Int)
  | [], _, h => absurd rfl h
  | x :: l, y, h => by
    have e : vix (x :: l) y = if x = y then (l.length : Int) else vix l y := rfl
    rw [e] at h ⊢
    have hl : ((x :: l).length : Int) = (l.length : Int) + 1 := rfl
    by_cases q : x = y
    · rw [if_pos q]; omega
    · rw [if_neg q] at h ⊢
      have := vix_lt l y h
      omega
/-- where a name's variable is -/
theorem rvf_at (hF : ∀ k : Nat, k < F.length → (k = 0 ∧ (F.getD k (-1, 0, [])).1 = -1) ∨ (f0 ≤ (F.getD k (-1, 0, [])).1 ∧ (F.getD k (-1, 0, [])).1 < f0 + (k : Int))) (h0 : 0 ≤ f0) (hfa : ∀ x : Int, f0 ≤ x → x < f0 + (F.length : Int) → fa x = (pz_f f0 F x).1) : ∀ (m : Nat) (g o : Int), f0 ≤ g → g < f0 + (F.length : Int) → rvf f0 F y m g o = some (a, v) → ∃ r : Nat, a = o + (r : Int) ∧ (∀ j : Nat, j ≤ r → f0 ≤ fup fa j g ∧ fup fa j g < f0 + (F.length : Int)) ∧ 0 ≤ v ∧ v < ((pz_f f0 F (fup fa r g)).2.2.length : Int)
  | 0, g, o, _, _, h => by cases h
  | m + 1, g, o, g0, g1, h => by
    by_cases e : vix (pz_f f0 F g).2.2 y = -1
    · rw [rvf_1 (by omega) e] at h
      have hk := hF (g - f0).toNat (by omega)
      have hg : pz_f f0 F g = F.getD (g - f0).toNat (-1, 0, []) := rfl
      rcases hk with ⟨-, hk⟩ | ⟨k1, k2⟩
      · rw [hg, hk, rvf_n] at h; cases h
      · rw [← hg] at k1 k2
        obtain ⟨r, r1, r2, r3⟩ := rvf_at hF h0 hfa m _ (o + 1) k1 (by omega) h
        rw [← hfa g g0 g1] at r2 r3
        refine ⟨r + 1, by omega, fun j hj => ?_, ?_⟩
        · cases j with
          | zero => exact ⟨g0, g1⟩
          | succ j => rw [← fup_s]; exact r2 j (by omega)
        · rw [← fup_s]; exact r3
    · rw [rvf_2 (by omega) e] at h
      have := Option.some.inj h
      simp only [Prod.mk.injEq] at this
      obtain ⟨q1, q2⟩ := this
      refine ⟨0, by omega, fun j hj => ?_, ?_⟩
      · obtain rfl : j = 0 := by omega
        exact ⟨g0, g1⟩
      · rw [← q2]; exact vix_lt _ _ e
/-- how many values a kept site takes besides the one that it goes to -/
def mes (k m : Int) : Int := if k = 0 then 0 else if k ≤ 2 then 1 else if k = 3 then 2 else m
def mne (o A e : Int) : Int := if o = 27 then e + 1 else if o = 1 then 0 else if o = 2 then 1 else tne o A
def mde (o A e : Int) : Int := if o = 27 then -e else if o = 1 then 1 else if o = 2 then 0 else tde o A
/-- a kept instruction's numbers -/
def mcS (fa : Int → Int) (S : wS) (g o A B : Int) : Prop := (0 ≤ o ∧ o ≤ 33) ∧ (o = 0 → 0 ≤ A ∧ A ≤ 4 ∧ (A = 4 → 0 ≤ B ∧ B < S 237 19)) ∧ (o = 1 ∨ o = 2 → 0 ≤ A ∧ (∀ j : Nat, j ≤ A.toNat → 0 ≤ fup fa j g ∧ fup fa j g < S 237 34) ∧ 0 ≤ B ∧ B < S 296 (fup fa A.toNat g)) ∧ (o = 3 ∨ o = 4 → 0 ≤ A ∧ A < S 237 16) ∧ (o = 24 → 0 ≤ A ∧ A < S 237 34 ∧ fa A = g) ∧ (o = 25 → 0 ≤ A) ∧ (o = 27 → (0 ≤ A ∧ A < S 237 47) ∧ (0 ≤ S 304 A ∧ S 304 A ≤ 6) ∧ (0 ≤ S 306 A ∧ S 306 A ≤ 8 ∧ (S 304 A ≤ 3 → S 306 A = 0)) ∧ ((S 304 A = 0 ∨ S 304 A = 1 ∨ S 304 A = 5) → 0 ≤ S 305 A ∧ S 305 A < S 237 16) ∧ (S 305 A = -1 ∨ (0 ≤ S 305 A ∧ S 305 A < S 237 16))) ∧ (o = 28 → 0 ≤ A ∧ A ≤ 7)
/-- a kept instruction in its place -/
def mcI (fa : Int → Int) (S : wS) (H D : Nat → Int) (n i : Nat) (g o A B : Int) : Prop := mne o A (mes (S 304 A) (S 306 A)) ≤ H i ∧ (o ≠ 20 → H (i + 1) = H i + mde o A (mes (S 304 A) (S 306 A))) ∧ D (i + 1) = D i + tdd o ∧ (tjm o → 0 ≤ A ∧ A < (n : Int) ∧ H A.toNat = H i + tdj o ∧ D A.toNat = D i) ∧ ((o = 29 → H i = 1) ∧ (o = 31 → H i = 0)) ∧ mcS fa S g o A B
/-- a kept function -/
def mcF (fa : Int → Int) (S : wS) (g : Int) : Prop := ∃ (H D : Nat → Int) (n : Nat), S 298 g = (n : Int) ∧ (H 0 = 0 ∧ D 0 = 0) ∧ 0 < n ∧ (∀ i : Nat, i ≤ n → 0 ≤ H i ∧ 0 ≤ D i ∧ D i ≤ 50) ∧ (∀ i : Nat, i < n → mcI fa S H D n i g (S 301 (S 297 g + (i : Int))) (S 302 (S 297 g + (i : Int))) (S 303 (S 297 g + (i : Int)))) ∧ S 301 (S 297 g + ((n - 1 : Nat) : Int)) = 29
/-- all code that is kept -/
def mW (S : wS) : Prop := ∃ fa : Int → Int, (∀ g : Int, 0 ≤ g → g < S 237 34 → mcF fa S g ∧ ((fa g = -1 ∧ S 296 g = 0) ∨ (0 ≤ fa g ∧ fa g < g)) ∧ 0 ≤ S 296 g ∧ S 296 g ≤ 60) ∧ ∀ k : Int, 0 ≤ k → k < S 237 33 → fa (S 294 k) = -1
/-- it stays as more is kept -/
theorem mcF_mo (h : mcF fa S g) (hg : 0 ≤ S 297 g ∧ S 297 g + S 298 g ≤ S 237 43) (g0 : 0 ≤ g ∧ g < S 237 34) (e1 : S 237 16 ≤ Z 237 16 ∧ S 237 19 ≤ Z 237 19 ∧ S 237 34 ≤ Z 237 34 ∧ S 237 47 ≤ Z 237 47) (eF : ∀ (j : Nat) (x : Int), (j = 296 ∨ j = 297 ∨ j = 298) → 0 ≤ x → x < S 237 34 → Z j x = S j x) (eI : ∀ (j : Nat) (x : Int), (301 ≤ j ∧ j ≤ 303) → 0 ≤ x → x < S 237 43 → Z j x = S j x) (eS : ∀ (j : Nat) (x : Int), (304 ≤ j ∧ j ≤ 306) → 0 ≤ x → x < S 237 47 → Z j x = S j x) (ea : ∀ x : Int, 0 ≤ x → x < S 237 34 → fb x = fa x) : mcF fb Z g := by
  obtain ⟨H, D, n, h1, h2, h3, h4, h5, h6⟩ := h
  have e97 := eF 297 g (by omega) g0.1 g0.2
  have e98 := eF 298 g (by omega) g0.1 g0.2
  refine ⟨H, D, n, e98.trans h1, h2, h3, h4, fun i hi => ?_, ?_⟩
  · rw [e97, eI 301 _ (by omega) (by omega) (by omega), eI 302 _ (by omega) (by omega) (by omega), eI 303 _ (by omega) (by omega) (by omega)]
    obtain ⟨a1, a2, a3, a4, r9, a5, a6, a7, a8, a9, a10, a11, a12⟩ := h5 i hi
    have hs : S 301 (S 297 g + (i : Int)) = 27 → Z 304 (S 302 (S 297 g + (i : Int))) = S 304 (S 302 (S 297 g + (i : Int))) ∧ Z 305 (S 302 (S 297 g + (i : Int))) = S 305 (S 302 (S 297 g + (i : Int))) ∧ Z 306 (S 302 (S 297 g + (i : Int))) = S 306 (S 302 (S 297 g + (i : Int))) := fun q => by
      obtain ⟨⟨b1, b2⟩, -⟩ := a11 q
      exact ⟨eS 304 _ (by omega) b1 b2, eS 305 _ (by omega) b1 b2, eS 306 _ (by omega) b1 b2⟩
    have hm : ∀ e1 e2 : Int, S 301 (S 297 g + (i : Int)) ≠ 27 → mne (S 301 (S 297 g + (i : Int))) (S 302 (S 297 g + (i : Int))) e1 = mne (S 301 (S 297 g + (i : Int))) (S 302 (S 297 g + (i : Int))) e2 ∧ mde (S 301 (S 297 g + (i : Int))) (S 302 (S 297 g + (i : Int))) e1 = mde (S 301 (S 297 g + (i : Int))) (S 302 (S 297 g + (i : Int))) e2 := fun e1 e2 q => by
      unfold mne mde
      rw [if_neg q, if_neg q, if_neg q, if_neg q]
      exact ⟨rfl, rfl⟩
    refine ⟨?_, fun q => ?_, a3, a4, r9, a5, fun q => ?_, fun q => ?_, fun q => ?_, fun q => ?_, a10, fun q => ?_, a12⟩
    · by_cases q : S 301 (S 297 g + (i : Int)) = 27
      · obtain ⟨b1, b2, b3⟩ := hs q
        rw [b1, b3]; exact a1
      · rw [(hm _ (mes (S 304 (S 302 (S 297 g + (i : Int)))) (S 306 (S 302 (S 297 g + (i : Int))))) q).1]; exact a1
    · by_cases q2 : S 301 (S 297 g + (i : Int)) = 27
      · obtain ⟨b1, b2, b3⟩ := hs q2
        rw [b1, b3]; exact a2 q
      · rw [(hm _ (mes (S 304 (S 302 (S 297 g + (i : Int)))) (S 306 (S 302 (S 297 g + (i : Int))))) q2).2]; exact a2 q
    · obtain ⟨b1, b2, b3⟩ := a6 q
      exact ⟨b1, b2, fun q2 => by have := b3 q2; omega⟩
    · obtain ⟨b1, b2, b3, b4⟩ := a7 q
      have hc := fup_cg b2 ea
      refine ⟨b1, fun j hj => ?_, b3, ?_⟩
      · rw [hc j hj]; have := b2 j hj; omega
      · rw [hc _ (Nat.le_refl _), eF 296 _ (by omega) (b2 _ (Nat.le_refl _)).1 (b2 _ (Nat.le_refl _)).2]; exact b4
    · have := a8 q; omega
    · obtain ⟨b1, b2, b3⟩ := a9 q
      exact ⟨b1, by omega, (ea _ b1 b2).trans b3⟩
    · obtain ⟨b1, b2, b3, b4, b5⟩ := a11 q
      obtain ⟨c1, c2, c3⟩ := hs q
      rw [c1, c2, c3]
      exact ⟨by omega, b2, b3, fun q2 => by have := b4 q2; omega, by omega⟩
  · rw [e97, eI 301 _ (by omega) (by omega) (by omega)]; exact h6
end Wdb
