/-! PART ir: a property is added, in both worlds. -/
section Wir
variable {S Z A : wS} {k x v kd sh ch nm s nn la ty va : Int} {u : aV} {L : List aC} {T : List aO} {H : List aH} {G : Int → aV} {sl : Nat → List Int}
def tAp (T : List aO) (k nm : Int) (u : aV) : List aO := T.set k.toNat ((tO T k).1, (tO T k).2.1, (tO T k).2.2.1, (tO T k).2.2.2.1, (tO T k).2.2.2.2.1, (tO T k).2.2.2.2.2.1, (tO T k).2.2.2.2.2.2 ++ [(nm, u)])
theorem tAp_l : (tAp T k nm u).length = T.length := List.length_set
theorem tAp_o (p0 : 0 ≤ k) (p1 : k < (T.length : Int)) (k0 : 0 ≤ x) : tO (tAp T k nm u) x = if x = k then ((tO T k).1, (tO T k).2.1, (tO T k).2.2.1, (tO T k).2.2.2.1, (tO T k).2.2.2.2.1, (tO T k).2.2.2.2.2.1, (tO T k).2.2.2.2.2.2 ++ [(nm, u)]) else tO T x := by
  unfold tAp
  show (T.set k.toNat _).getD x.toNat (0, 0, 0, 0, 0, 0, []) = _
  rw [gO_set (by omega)]
  by_cases c : x = k
  · rw [if_pos (by omega), if_pos c]
  · rw [if_neg (by omega), if_neg c]
theorem tAp_f (p0 : 0 ≤ k) (p1 : k < (T.length : Int)) (k0 : 0 ≤ x) : (tO (tAp T k nm u) x).1 = (tO T x).1 ∧ (tO (tAp T k nm u) x).2.1 = (tO T x).2.1 ∧ (tO (tAp T k nm u) x).2.2.1 = (tO T x).2.2.1 ∧ (tO (tAp T k nm u) x).2.2.2.1 = (tO T x).2.2.2.1 ∧ (tO (tAp T k nm u) x).2.2.2.2.1 = (tO T x).2.2.2.2.1 ∧ (tO (tAp T k nm u) x).2.2.2.2.2.1 = (tO T x).2.2.2.2.2.1 ∧ (tO (tAp T k nm u) x).2.2.2.2.2.2 = (if x = k then (tO T k).2.2.2.2.2.2 ++ [(nm, u)] else (tO T x).2.2.2.2.2.2) := by
  rw [tAp_o p0 p1 k0]
  by_cases c : x = k
  · rw [if_pos c, if_pos c, c]; exact ⟨rfl, rfl, rfl, rfl, rfl, rfl, rfl⟩
  · rw [if_neg c, if_neg c]; exact ⟨rfl, rfl, rfl, rfl, rfl, rfl, rfl⟩
theorem wSh_np (h : wSh T H) (hk : isO T k) (hs : 0 ≤ sh ∧ sh < (H.length : Int)) (hn : pNs (tO T k) ++ [nm] = aNs H sh) (hr : qPr H sh = aPr T H k) (h64 : (tO T k).2.2.2.2.2.2.length < 64) : wSh (tNc (tAp T k nm u) k sh ch) H := by
  obtain ⟨h1, h2, h3, h4, h5, h6, h7, rk, hrk⟩ := id h
  obtain ⟨⟨k0, k1⟩, k2⟩ := id hk
  have f := fun (x : Int) (x0 : 0 ≤ x) => tNc_f (T := tAp T k nm u) (sh := sh) (ch := ch) k0 (by rw [tAp_l]; exact k1) x0
  have g := fun (x : Int) (x0 : 0 ≤ x) => tAp_f (T := T) (nm := nm) (u := u) k0 k1 x0
  have w4 : ∀ x : Int, 0 ≤ x → x < (T.length : Int) → (tO T x).2.2.2.2.1 = -1 ∨ 0 ≤ (tO T x).2.2.2.2.1 := fun x x0 x1 => (h3 x.toNat (by omega)).2.2.2
  have ep : ∀ x : Int, 0 ≤ x → aPr (tNc (tAp T k nm u) k sh ch) H x = aPr T H x := fun x x0 => by
    unfold aPr
    rw [(f x x0).2.1, (g x x0).2.1]
    by_cases c : x = k
    · rw [if_pos c, c]; exact hr
    · rw [if_neg c]
  refine wSh_g h (tNc_l.trans tAp_l) (fun x x0 x1 => ?_) (fun x hx => ?_) (fun x x0 x1 hx => ?_) ⟨rk, fun x hx hq => ?_⟩
  · obtain ⟨f1, -, -, -, -, f6⟩ := f x x0
    rw [f1, f6, (g x x0).1, (g x x0).2.2.2.2.1, (g k k0).2.2.2.2.1]
    refine ⟨rfl, ?_⟩
    have y := w4 x x0 x1
    by_cases c : x = k
    · rw [if_pos c, ← c]
      split <;> omega
    · rw [if_neg c]
      exact ⟨Iff.rfl, y⟩
  · obtain ⟨f1, f2, -, -, f5, -⟩ := f x hx.1.1
    have y := h4 x hx
    have y2 := wSh_sh h hx
    unfold pNs
    rw [f2, f5, (g x hx.1.1).2.1, (g x hx.1.1).2.2.2.2.2.2]
    by_cases c : x = k
    · rw [if_pos c, if_pos c]
      rw [c] at y
      refine ⟨hs, by rw [List.map_append]; exact hn, ?_⟩
      rw [List.length_append]
      have : [(nm, u)].length = 1 := rfl
      omega
    · rw [if_neg c, if_neg c]
      exact ⟨y2, y⟩
  · obtain ⟨f1, f2, -, -, f5, -⟩ := f x x0
    have c : x ≠ k := fun z => by rw [z] at hx; omega
    rw [f2, if_neg c, f5, (g x x0).2.1, (g x x0).2.2.2.2.2.2, if_neg c]
    refine ⟨?_, h5 x x0 x1 hx⟩
    have := (h3 x.toNat (by omega)).2.2.1
    exact this hx
  · rw [ep x hx.1.1] at hq ⊢
    exact hrk x hx hq
theorem wSh_al (h : wSh T H) (k0 : 0 ≤ k) (k1 : k < (T.length : Int)) (h6 : (tO T k).1 = 6) : wSh (tAp T k (-1) u) H := by
  refine wSh_cg h tAp_l (fun q q0 q1 => ?_) (fun q z => ?_) (fun q q0 q1 z x hx => ?_)
  · obtain ⟨f1, f2, f3, f4, f5, f6, f7⟩ := tAp_f (nm := -1) (u := u) k0 k1 q0
    exact ⟨f1, f2, f5⟩
  · rw [tAp_o k0 k1 z.1.1]
    by_cases c : q = k
    · exfalso
      have := z.2
      rw [c] at this
      omega
    · rw [if_neg c]
  · rw [tAp_o k0 k1 q0] at hx
    by_cases c : q = k
    · rw [if_pos c] at hx
      rcases List.mem_append.mp hx with y | y
      · exact h.2.2.2.2.1 k k0 k1 (Or.inl h6) x y
      · rw [List.mem_singleton.mp y]
    · rw [if_neg c] at hx
      exact h.2.2.2.2.1 q q0 q1 z x hx
theorem cWd_ap (h : cWd S T L G) (k0 : 0 ≤ k) (k1 : k < (T.length : Int)) (r : avH_ag k kd v S A) (hv : cVl S kd v u) (hz : A 140 2 ≤ 240200) : cWd A (tAp T k nm u) L G := by
  have r2 : avH_ag ((k.toNat : Nat) : Int) kd v S A := by rw [show ((k.toNat : Nat) : Int) = k by omega]; exact r
  exact cWd_av h r2 (by omega) hv hz
theorem cWd_np (h : cWd S T L G) (k0 : 0 ≤ k) (k1 : k < (T.length : Int)) (r : avH_ag k kd v S A) (hv : cVl S kd v u) (hz : A 140 2 ≤ 240200) : cWd (ncZ k sh (A 130 k) (A 72 11) A) (tNc (tAp T k nm u) k sh (A 72 11)) L G := cWd_nc (cWd_ap h k0 k1 r hv hz) k0 (by rw [tAp_l]; exact k1)
theorem rWd_ap (h : rWd S sl T L G) (k0 : 0 ≤ k) (k1 : k < (T.length : Int)) (hs : S 237 82 = s) (hnn : S 317 k = nn) (hla : S 318 k = la) (r : as_f k nm ty va s nn la S A) (hs0 : 0 ≤ s) (hv : rVl S ty va u) : rWd A (aSa sl k.toNat s) (tAp T k nm u) L G := by
  have ek : ((k.toNat : Nat) : Int) = k := by omega
  exact rWd_as (nn := nn) (la := la) h (by omega) hs (by rw [ek]; exact hnn) (by rw [ek]; exact hla) (by rw [ek]; exact r) hs0 hv
theorem rWd_np {e : Int} (h : rWd S sl T L G) (k0 : 0 ≤ k) (k1 : k < (T.length : Int)) (hs : S 237 82 = s) (hnn : S 317 k = nn) (hla : S 318 k = la) (r : as_f k nm ty va s nn la S A) (hs0 : 0 ≤ s) (hv : rVl S ty va u) (he : e = (tO T k).2.2.2.2.1) (he0 : -1 ≤ e) : rWd (chZ k e ch (w_up A 315 k sh)) (aSa sl k.toNat s) (tNc (tAp T k nm u) k sh ch) L G :=
  rWd_nCh (rWd_ap h k0 k1 hs hnn hla r hs0 hv) k0 (by rw [tAp_l]; exact k1) (by rw [(tAp_f (nm := nm) (u := u) k0 k1 k0).2.2.2.2.1]; exact he) he0
end Wir
