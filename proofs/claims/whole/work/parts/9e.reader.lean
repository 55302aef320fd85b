/-! PART 9e: the class's Reader on a host's text: addName, addNumber, addText. -/
section W9e
variable {xs : List (Nat × List Int32)} {M : Nat → Prop} {d : Nat} {A B C S Z : wS} {Q : wO → wS → Prop} {T : Int → Int} {n : Int}
/-- words and tokens may have come -/
def rx_ag (w : Nat) (H : Int) (S Z : wS) : Prop :=
  (S w 7 ≤ Z w 7 ∧ S w 1 ≤ Z w 1 ∧ S 14 3 ≤ Z 14 3) ∧
  (∀ k : Int, 0 ≤ k → k < S w 7 → Z (w + 2) k = S (w + 2) k ∧ Z (w + 3) k = S (w + 3) k ∧ Z (w + 5) k = S (w + 5) k ∧ Z (w + 6) k = S (w + 6) k) ∧
  (∀ k : Int, S w 7 ≤ k → k < Z w 7 → Z (w + 5) k = -1 ∧ Z (w + 6) k = -1) ∧
  (∀ i : Int, 0 ≤ i → i < S w 1 → Z (w + 1) i = S (w + 1) i) ∧
  (∀ i : Int, 0 ≤ i → i < S 14 3 → Z 15 i = S 15 i ∧ Z 16 i = S 16 i ∧ Z 17 i = S 17 i) ∧
  ((Z (w + 2) (-1) ≤ S (w + 2) (-1) ∨ Z (w + 2) (-1) ≤ 2 * Z w 7) ∧ (Z (w + 1) (-1) ≤ S (w + 1) (-1) ∨ Z (w + 1) (-1) ≤ 2 * Z w 1) ∧ (Z 15 (-1) ≤ S 15 (-1) ∨ Z 15 (-1) ≤ 2 * Z 14 3)) ∧
  (∀ (j : Nat) (i : Int), j < 4000000 → j ≠ wG → (j < 15 ∨ 18 < j ∨ (j = 18 ∧ i < 0)) → (j ≠ 14 ∨ i ≠ 3) → (j < w ∨ w + 10 < j ∨ (j = w ∧ i ≠ 1 ∧ i ≠ 7) ∨ j = w + 7 ∨ j = w + 8 ∨ j = w + 9) → Z j i = S j i) ∧
  wd_at Z w H ∧ wd_L Z w H ∧ rd_L Z ∧ gI Z ∧ rmR S Z
theorem rx_tr {w : Nat} {H : Int} (h0 : 0 ≤ A w 7 ∧ 0 ≤ A w 1 ∧ 0 ≤ A 14 3) (h : rx_ag w H A B) (k : rx_ag w H B C) : rx_ag w H A C := by
  obtain ⟨h1, h2, h3, h4, h5, h6, h7, h8, h9, h10, h11, h12⟩ := h
  obtain ⟨k1, k2, k3, k4, k5, k6, k7, k8, k9, k10, k11, k12⟩ := k
  refine ⟨⟨by omega, by omega, by omega⟩, fun x x0 x1 => ?_, fun x x0 x1 => ?_, fun i i0 i1 => (k4 i i0 (by omega)).trans (h4 i i0 i1), fun i i0 i1 => ?_, ⟨by omega, by omega, by omega⟩, fun j i a b c e g => (k7 j i a b c e g).trans (h7 j i a b c e g), k8, k9, k10, k11, rmR_tr h12 k12⟩
  · obtain ⟨a1, a2, a3, a4⟩ := h2 x x0 x1
    obtain ⟨b1, b2, b3, b4⟩ := k2 x x0 (by omega)
    exact ⟨b1.trans a1, b2.trans a2, b3.trans a3, b4.trans a4⟩
  · by_cases hx : x < B w 7
    · obtain ⟨a1, a2⟩ := h3 x x0 hx
      obtain ⟨b1, b2, b3, b4⟩ := k2 x (by omega) hx
      exact ⟨b3.trans a1, b4.trans a2⟩
    · exact k3 x (by omega) x1
  · obtain ⟨a1, a2, a3⟩ := h5 i i0 i1
    obtain ⟨b1, b2, b3⟩ := k5 i i0 (by omega)
    exact ⟨b1.trans a1, b2.trans a2, b3.trans a3⟩
theorem rx_rfl {w : Nat} {H : Int} (h1 : wd_at S w H) (h2 : wd_L S w H) (h3 : rd_L S) (h4 : gI S) : rx_ag w H S S := ⟨⟨by omega, by omega, by omega⟩, fun _ _ _ => ⟨rfl, rfl, rfl, rfl⟩, fun k a b => absurd b (by omega), fun _ _ _ => rfl, fun _ _ _ => ⟨rfl, rfl, rfl⟩, ⟨by omega, by omega, by omega⟩, fun _ _ _ _ _ _ _ => rfl, h1, h2, h3, h4, rmR_rfl S⟩
theorem rd_L_ad {k p v : Int} (h : rd_L S) (g : ad_ag S Z k p v) (hb : S 14 3 ≤ 500000) : rd_L Z := by
  obtain ⟨h1, h2, h3, h4, h5⟩ := h
  obtain ⟨g1, -, -, -, ⟨g5, g6, g7, g8⟩, -⟩ := g
  exact ⟨by omega, g5, g6, by omega, by omega⟩
theorem rx_ad {w : Nat} {H k p v : Int} (hw : 18 < w) (hw2 : w < 4000000 - 10) (hwG : w < 237) (h1 : wd_at S w H) (h2 : wd_L S w H) (h3 : rd_L S) (hb : S 14 3 ≤ 500000) (g : ad_ag S Z k p v) : rx_ag w H S Z := by
  have hG : ∀ j : Nat, j < 300 → j ≠ wG := fun j hj => by unfold wG; omega
  obtain ⟨g1, g2, g3, g4, ⟨g5, g6, g7, g8⟩, g9, g10⟩ := g
  have e : ∀ x : Nat, x ≤ 10 → Z (w + x) = S (w + x) := fun x hx => funext fun i => g4 (w + x) i (by omega) (hG _ (by omega)) (by omega) (by omega) (by omega) (by omega)
  have e0 := e 0 (by omega)
  rw [Nat.add_zero] at e0
  have f1 := e 1 (by omega)
  have f2 := e 2 (by omega)
  have f3 := e 3 (by omega)
  have f4 := e 4 (by omega)
  have f5 := e 5 (by omega)
  have f6 := e 6 (by omega)
  have f10 := e 10 (by omega)
  refine ⟨⟨by rw [e0]; omega, by rw [e0]; omega, by omega⟩, fun x _ _ => ⟨by rw [f2], by rw [f3], by rw [f5], by rw [f6]⟩, fun x a b => absurd b (by rw [e0]; omega), fun i _ _ => by rw [f1], fun i i0 i1 => g3 i i0 i1, ⟨Or.inl (by rw [f2]; omega), Or.inl (by rw [f1]; omega), by omega⟩, fun j i a b c q r => g4 j i a b (by omega) (by omega) (by omega) q, ?_, ?_, rd_L_ad h3 ⟨g1, g2, g3, g4, ⟨g5, g6, g7, g8⟩, g9, g10⟩ hb, g9, g10⟩
  · unfold wd_at
    rw [e0, f1, f2, f3, f4, f10]; exact h1
  · unfold wd_L
    rw [f1, f2, f3, f4, f5, f6, f10]; exact h2
theorem rx_wn {w : Nat} {H a0 m : Int} (hw : 18 < w) (hw2 : w < 4000000 - 10) (hH : H = 64 ∨ H = 1024) (h2 : wd_L S w H) (h3 : rd_L S) (hb : S w 7 ≤ 500000 ∧ S w 1 ≤ 5000000) (hm : 0 ≤ m ∧ m ≤ 60) (g : wn_ag w 1 H a0 m S Z) (h1 : wd_at Z w H) : rx_ag w H S Z := by
  obtain ⟨⟨g1, g2⟩, g3, ⟨g4, g5, g6, g7, g8⟩, ⟨g9, g10⟩, g11, g12, g13, ⟨g14, g15, g16, g17, g18, g19⟩, ⟨g20, g21, g22⟩, g23, g24⟩ := g
  have hG : ∀ j : Nat, j < 300 → j ≠ wG := fun j hj => by unfold wG; omega
  have e : ∀ (j : Nat) (i : Int), j < 19 → Z j i = S j i := fun j i hj => g13 j i (by omega) (hG j (by omega)) (by omega)
  obtain ⟨l1, l2, l3, l4, l5, l6, l7, l8, l9⟩ := h2
  refine ⟨⟨by omega, by omega, by rw [e 14 3 (by omega)]; omega⟩, fun x a b => ⟨(g3 x a b).1, (g3 x a b).2.1, (g3 x a b).2.2.2.1, (g3 x a b).2.2.2.2⟩, fun x a b => ?_, g11, fun i _ _ => ⟨e 15 i (by omega), e 16 i (by omega), e 17 i (by omega)⟩, ⟨by omega, by omega, by rw [e 15 (-1) (by omega)]; omega⟩, fun j i a b c q r => g13 j i a b r, h1, ⟨?_, g14, g15, g16, g17, by omega, by omega, by omega, by omega⟩, ?_, g23, g24⟩
  · rw [show x = S w 7 by omega]; exact ⟨g7, g8⟩
  · have hx : (-1 : Int) ≠ hd_of (S 1) a0 m H := by
      intro q
      have : 0 ≤ hd_of (S 1) a0 m H := (hd_rg hH).1
      omega
    rw [g10 (-1) hx]; exact l1
  · unfold rd_L
    rw [e 14 3 (by omega), e 15 (-1) (by omega), e 16 (-1) (by omega), e 17 (-1) (by omega)]; exact h3
theorem wq_rx {w : Nat} {H a m k : Int} {g : Int → Int} (h1 : wd_at S w H) (h : rx_ag w H S Z) (hk : 0 ≤ k ∧ k < S w 7) (hq : wq (S (w + 1)) (S (w + 2)) (S (w + 3)) g a m k) : wq (Z (w + 1)) (Z (w + 2)) (Z (w + 3)) g a m k := by
  obtain ⟨-, h2, -, h4, -⟩ := h
  obtain ⟨a1, a2, -, -⟩ := h2 k hk.1 hk.2
  have := h1.2.2.1 k hk.1 hk.2
  have e := hq.1
  refine ⟨a2.trans hq.1, fun i hi => ?_⟩
  rw [a1, h4 _ (by omega) (by omega)]
  exact hq.2 i hi
theorem rd_B_rx {w : Nat} {H : Int} (hw : 18 < w) (h : rd_B T n S) (g : rx_ag w H S Z) : rd_B T n Z := by
  obtain ⟨h1, h2, h3, h4, h5, h6, h7⟩ := h
  have e := g.2.2.2.2.2.2.1
  have hG : ∀ j : Nat, j < 300 → j ≠ wG := fun j hj => by unfold wG; omega
  have e1 : ∀ i : Int, Z 1 i = S 1 i := fun i => e 1 i (by omega) (hG _ (by omega)) (by omega) (by omega) (by omega)
  refine ⟨(e 14 5 (by omega) (hG _ (by omega)) (by omega) (by omega) (by omega)).trans h1, (e 14 6 (by omega) (hG _ (by omega)) (by omega) (by omega) (by omega)).trans h2, h3, by rw [e1]; exact h4, by rw [e1]; exact h5, fun i a b => (e1 i).trans (h6 i a b), h7⟩
/-- the class's kind of a sign -/
def sk (c : Int) : Int := if c = 40 then 10 else if c = 41 then 11 else if c = 123 then 12 else if c = 125 then 13 else if c = 91 then 14 else if c = 93 then 15 else if c = 44 then 16 else if c = 59 then 17 else if c = 46 then 18 else if c = 58 then 19 else if c = 61 then 20 else if c = 60 then 21 else if c = 62 then 22 else if c = 43 then 23 else if c = 45 then 24 else if c = 42 then 25 else if c = 47 then 26 else if c = 37 then 27 else if c = 33 then 28 else if c = 256 then 29 else if c = 257 then 30 else if c = 258 then 31 else if c = 259 then 32 else if c = 260 then 33 else if c = 261 then 34 else 35
/-- and of a host's token -/
def kh (T : Int → Int) (n p : Int) : Int := if lx_tk T n 1 p = 1 then 5 else if lx_tk T n 1 p = 2 then 2 else if lx_tk T n 1 p = 3 then 3 else if lx_tk T n 1 p = 5 then 1 else sk (lx_si T n 1 p)
/-- the token at p has come; e is what is answered -/
def ht_ok (w : Nat) (H : Int) (T : Int → Int) (n p : Int) (S Z : wS) (e : Int) : Prop := rx_ag w H S Z ∧ Z 14 3 = S 14 3 + 1 ∧ Z 16 (S 14 3) = p ∧ Z 15 (S 14 3) = kh T n p ∧ e = (if lx_tk T n 1 p = 5 then n else lx_en T n 1 p) ∧ (lx_tk T n 1 p = 1 → (0 ≤ Z 17 (S 14 3) ∧ Z 17 (S 14 3) < Z w 7) ∧ wq (Z (w + 1)) (Z (w + 2)) (Z (w + 3)) T p (lx_en T n 1 p - p) (Z 17 (S 14 3))) ∧ (Z w 7 ≤ S w 7 + 1 ∧ (Z w 7 ≤ S w 7 ∨ (lx_tk T n 1 p = 1 ∧ Z 17 (S 14 3) = S w 7))) ∧ Z w 1 ≤ S w 1 + (e - p)
/-- the room that there is yet -/
def rb_I (w : Nat) (S : wS) : Prop := S w 7 ≤ 400000 ∧ S w 1 ≤ 4000000 ∧ S (w + 2) (-1) ≤ 1000000 ∧ S (w + 1) (-1) ≤ 10000000 ∧ S 14 3 ≤ 400000
theorem ht_ad {w : Nat} {H k p v e : Int} (hw : 18 < w) (hw2 : w < 4000000 - 10) (hwG : w < 237) (h1 : wd_at S w H) (h2 : wd_L S w H) (h3 : rd_L S) (hb : rb_I w S) (hk : k = kh T n p) (he : e = (if lx_tk T n 1 p = 5 then n else lx_en T n 1 p)) (hnm : lx_tk T n 1 p ≠ 1) (hle : p ≤ e) (g : ad_ag S Z k p v) : ht_ok w H T n p S Z e := by
  have hx := rx_ad hw hw2 hwG h1 h2 h3 (by have := hb.2.2.2.2; omega) g
  have hG : ∀ j : Nat, j < 300 → j ≠ wG := fun j hj => by unfold wG; omega
  have e0 : ∀ i : Int, Z w i = S w i := fun i => g.2.2.2.1 w i (by omega) (hG _ (by omega)) (by omega) (by omega) (by omega) (by omega)
  exact ⟨hx, g.1, g.2.1.2.1, g.2.1.1.trans hk, he, fun q => absurd q hnm, ⟨by rw [e0]; omega, Or.inl (by rw [e0]; omega)⟩, by rw [e0]; omega⟩
theorem lx_p10v : ∀ q : Nat, q < 11 → (10 : Int) ^ q ≤ 10000000000 := by decide
theorem xn_l {e p : Int} (hB : rd_B T n S) (hk : p ≤ e → e ≤ n → wJ (pe_GA xs) wY0 M (d + 2) t_XR_addName ((pe_at t_XR_addName.bl 3).getD (0, [])).2 [(0, (2, 14)), (1, (0, p)), (2, (0, e))] [] S Q) : ∀ (f : Nat) (t : Int), (n - t).toNat < f → 0 ≤ t → p ≤ t → t ≤ n → lx_nm T n f t = e → wJ (pe_GA xs) wY0 M (d + 2) t_XR_addName ((pe_at t_XR_addName.bl 1).getD (0, [])).2 [(0, (2, 14)), (1, (0, p)), (2, (0, t))] [] S Q := by
  intro f
  induction f with
  | zero => intro t h; exact absurd h (Nat.not_lt_zero _)
  | succ f ih =>
    intro t hf h0 hpt h1 he
    have hn := hB.2.2.1
    have hn1 := hB.2.2.2.1
    have hr := hB.2.2.2.2.2.2 t h0
    rw [lx_nm_s] at he
    refine wa_iload_n (n := 2) rfl ?_
    refine wa_aload_n (n := 0) rfl ?_
    refine wb_gfi 14 rfl (wy_pr rfl) wt_14 wf_6_6 (v := n) (hB.2.1) (fun r1 => ?_)
    refine wa_icmpge (w_rg0 (by omega) (by omega)) (w_rg0 (by omega) (by omega)) ⟨_, rfl⟩ (fun c2 => ?_) (fun c2 => ?_)
    · skip
      have hz : lx_at T n t = 0 := if_neg (by omega)
      rw [hz, if_neg (by decide)] at he
      subst he
      exact wJ_S (hk hpt h1) ⟨rfl, rfl, rfl, trivial⟩
    · skip
      refine wa_aload_n (n := 0) rfl ?_
      refine wb_gf6 14 rfl (wy_pr rfl) wt_14 wf_6_5 (v := 1) (hB.1) (by decide) ?_
      refine wa_iload_n (n := 2) rfl ?_
      refine wb_bald 1 rfl (wy_pr rfl) wt_1 (n := (S 1 (-1))) rfl (by omega) (by omega) (v := (T t)) ((hB.2.2.2.2.2.1 t (by omega) (by omega))) (fun r3 => ?_)
      refine wa_cs (M2 := fun _ => False) rfl at_X_beginsName ⟨_, rfl⟩ rfl rfl ⟨(Or.inr ⟨wy_pr rfl, fun q => q⟩), trivial, trivial, trivial⟩ trivial (fun _ _ q => False.elim q) (xle_ok (S := S) (c := (T t)) ⟨by omega, by omega⟩) (fun oq5 Sq5 hp6 q5 => ?_)
      rcases q5 with ⟨rfl, ⟨rfl, hl4⟩ | ⟨rfl, hl4⟩⟩
      · skip
        show wJ _ _ _ _ _ _ _ _ _ _
        refine wa_ifne (w_rg0 (by omega) (by omega)) ⟨_, rfl⟩ (fun c7 => ?_) (fun c7 => ?_)
        · skip
          refine wa_iinc rfl rfl ?_
          refine wa_goto ⟨_, rfl⟩ ?_
          rw [lx_at_in (by omega), if_pos (by first | (rw [Bool.or_eq_true]; exact Or.inl (by assumption)) | (rw [Bool.or_eq_true]; exact Or.inr (by assumption)))] at he
          exact wJ_S (ih (t + 1) (by omega) (by omega) (by omega) (by omega) he) ⟨rfl, rfl, rfl, trivial⟩
        · skip
          exact absurd c7 (by omega)
      · skip
        show wJ _ _ _ _ _ _ _ _ _ _
        refine wa_ifne (w_rg0 (by omega) (by omega)) ⟨_, rfl⟩ (fun c8 => ?_) (fun c8 => ?_)
        · skip
          exact absurd c8 (by omega)
        · skip
          refine wa_aload_n (n := 0) rfl ?_
          refine wb_gf6 14 rfl (wy_pr rfl) wt_14 wf_6_5 (v := 1) (hB.1) (by decide) ?_
          refine wa_iload_n (n := 2) rfl ?_
          refine wb_bald 1 rfl (wy_pr rfl) wt_1 (n := (S 1 (-1))) rfl (by omega) (by omega) (v := (T t)) ((hB.2.2.2.2.2.1 t (by omega) (by omega))) (fun r9 => ?_)
          refine wa_cs (M2 := fun _ => False) rfl at_X_isDigit ⟨_, rfl⟩ rfl rfl ⟨(Or.inr ⟨wy_pr rfl, fun q => q⟩), trivial, trivial, trivial⟩ trivial (fun _ _ q => False.elim q) (xdi_ok (S := S) (c := (T t)) ⟨by omega, by omega⟩) (fun oq11 Sq11 hp12 q11 => ?_)
          rcases q11 with ⟨rfl, ⟨rfl, hd10⟩ | ⟨rfl, hd10⟩⟩
          · skip
            show wJ _ _ _ _ _ _ _ _ _ _
            refine wa_ifeq (w_rg0 (by omega) (by omega)) ⟨_, rfl⟩ (fun c13 => ?_) (fun c13 => ?_)
            · skip
              exact absurd c13 (by omega)
            · skip
              refine wa_fall ⟨_, rfl⟩ ?_
              refine wa_iinc rfl rfl ?_
              refine wa_goto ⟨_, rfl⟩ ?_
              rw [lx_at_in (by omega), if_pos (by first | (rw [Bool.or_eq_true]; exact Or.inl (by assumption)) | (rw [Bool.or_eq_true]; exact Or.inr (by assumption)))] at he
              exact wJ_S (ih (t + 1) (by omega) (by omega) (by omega) (by omega) he) ⟨rfl, rfl, rfl, trivial⟩
          · skip
            show wJ _ _ _ _ _ _ _ _ _ _
            refine wa_ifeq (w_rg0 (by omega) (by omega)) ⟨_, rfl⟩ (fun c14 => ?_) (fun c14 => ?_)
            · skip
              rw [lx_at_in (by omega), hl4, hd10, if_neg (by decide)] at he
              subst he
              exact wJ_S (hk hpt h1) ⟨rfl, rfl, rfl, trivial⟩
            · skip
              exact absurd c14 (by omega)
theorem xn_74 {p : Int} (hB : rd_B T n S) (h7 : S 14 7 = 74) (h8 : S 14 8 = 1) (hI : gI S) (hW : wd_at S 74 64) (hL : wd_L S 74 64) (hR : rd_L S) (hb : rb_I 74 S) (hp : 0 ≤ p ∧ p < n) (hle : lx_le (T p) = true) : wJ (pe_GA xs) wY0 (mS [15, 16, 17, 75, 76, 77, 78, 79, 80]) (d + 6) t_XR_addName ((pe_at t_XR_addName.bl 0).getD (0, [])).2 [(0, (2, 14)), (1, (0, p))] [] S (fun o Z => ∃ e : Int, o = .inl (some (0, e)) ∧ ht_ok 74 64 T n p S Z e) := by
  have hn := hB.2.2.1
  have hn1 := hB.2.2.2.1
  have hn2 := hB.2.2.2.2.1
  have hrm := rmR_rfl S
  have hb1 : S 74 7 ≤ 400000 ∧ S 74 1 ≤ 4000000 ∧ S 76 (-1) ≤ 1000000 ∧ S 75 (-1) ≤ 10000000 ∧ S 14 3 ≤ 400000 := hb
  have hc0 : 0 ≤ S 74 7 ∧ S 74 7 ≤ S 76 (-1) := hW.1
  have hu0 : 0 ≤ S 74 1 ∧ S 74 1 ≤ S 75 (-1) := hW.2.1
  have hl1 : 1024 ≤ S 75 (-1) := hL.2.2.2.2.2.2.1
  have hr1 : 0 ≤ S 14 3 := hR.1.1
  have hen : lx_en T n 1 p = lx_nm T n ((n - p).toNat + 1) p := by unfold lx_en; rw [if_neg (by omega), if_pos hle]
  have htk : lx_tk T n 1 p = if lx_nm T n ((n - p).toNat + 1) p - p ≤ 30 then 1 else 5 := by unfold lx_tk; rw [if_neg (by omega), if_pos hle]
  generalize hee : lx_nm T n ((n - p).toNat + 1) p = e at hen htk
  refine wa_iload_n (n := 1) rfl ?_
  refine wa_istore_n (n := 2) rfl ?_
  refine wa_fall ⟨_, rfl⟩ ?_
  refine wJ_S (xn_l (d := d + 4) (e := e) (p := p) hB (fun hpe hen1 => ?_) ((n - p).toNat + 1) p (by omega) (by omega) (by omega) (by omega) hee) ⟨rfl, rfl, rfl, trivial⟩
  refine wa_iload_n (n := 2) rfl ?_
  refine wa_iload_n (n := 1) rfl ?_
  refine wa_isub ?_
  refine wa_bipush (w_rg2 (by omega) (by omega)) ?_
  refine wa_icmple (w_rg0 (by omega) (by omega)) (w_rg0 (by omega) (by omega)) ⟨_, rfl⟩ (fun c31 => ?_) (fun c31 => ?_)
  · skip
    refine wa_aload_n (n := 0) rfl ?_
    refine wb_gf5 14 rfl (wy_pr rfl) wt_14 wf_6_7 (v := 74) (h7) (fun r32 => ?_)
    refine wa_aload_n (n := 0) rfl ?_
    refine wb_gf6 14 rfl (wy_pr rfl) wt_14 wf_6_5 (v := 1) (hB.1) (by decide) ?_
    refine wa_iload_n (n := 1) rfl ?_
    refine wa_iload_n (n := 2) rfl ?_
    refine wa_iload_n (n := 1) rfl ?_
    refine wa_isub ?_
    refine wa_cv 74 rfl (wy_pr rfl) wt_74 (M2 := mS [75, 76, 77, 78, 79, 80]) rfl at_XW_wordFor ⟨_, rfl⟩ rfl rfl ⟨(Or.inr ⟨wy_pr rfl, mS_no rfl⟩), trivial, trivial, trivial⟩ trivial (fun _ _ q => mS_sub (by decide) q) (wo_74_1 (S := S) (a0 := p) (n := e - p) hI hL ⟨by omega, by omega, by omega, by omega⟩ ⟨by omega, by omega⟩ ⟨by omega, by omega, by omega⟩ hW (by omega)) (fun oq33 Sq33 hp34 q33 => ?_)
    rcases q33 with ⟨k, rfl, hk0, hk1, hwq, rfl⟩ | ⟨rfl, hno, hq, hzI⟩
    · skip
      show wJ _ _ _ _ _ _ _ _ _ _
      refine wa_istore_n (n := 3) rfl ?_
      refine wa_aload_n (n := 0) rfl ?_
      refine wb_gfz 14 rfl (wy_pr rfl) wt_14 wf_6_8 (v := 1) (h8) (fun r35 => ?_)
      refine wa_ifeq (w_rg0 (by omega) (by omega)) ⟨_, rfl⟩ (fun c36 => ?_) (fun c36 => ?_)
      · skip
        exact absurd c36 (by omega)
      · skip
        refine wa_aload_n (n := 0) rfl ?_
        refine wa_iconst ?_
        refine wa_iload_n (n := 1) rfl ?_
        refine wa_iload_n (n := 3) rfl ?_
        refine wa_cv 14 rfl (wy_pr rfl) wt_14 (M2 := mS [15, 16, 17]) rfl at_XR_add ⟨_, rfl⟩ rfl rfl ⟨trivial, (Or.inr ⟨wy_pr rfl, mS_no rfl⟩), trivial, trivial, trivial⟩ trivial (fun _ _ q => mS_sub (by decide) q) (ad_ok (S := S) hI ⟨by omega, by omega⟩ ⟨by omega, by omega⟩ ⟨by omega, by omega⟩ hR) (fun oq39 Sq39 hp40 q39 => ?_)
        rcases q39 with ⟨rfl, ad37⟩
        show wJ _ _ _ _ _ _ _ _ _ _
        generalize Sq39 = Z38 at ad37 ⊢
        refine wa_goto ⟨_, rfl⟩ ?_
        refine wa_iload_n (n := 2) rfl ?_
        refine wa_ireturn rfl ?_
        have htk1 : lx_tk T n 1 p = 1 := by rw [htk, if_pos (by omega)]
        have hkh : (5 : Int) = kh T n p := by unfold kh; rw [if_pos htk1]
        have hee2 : e = (if lx_tk T n 1 p = 5 then n else lx_en T n 1 p) := by rw [htk1, if_neg (by decide), hen]
        have hwT : ∀ k : Int, wq (S 75) (S 76) (S 77) (S 1) p (e - p) k → wq (S 75) (S 76) (S 77) T p (e - p) k := fun k hq => ⟨hq.1, fun i hi => (hq.2 i hi).trans (hB.2.2.2.2.2.1 _ (by omega) (by omega))⟩
        have hx := rx_ad (w := 74) (by decide) (by decide) (by decide) hW hL hR (by omega) ad37
        have e0 : ∀ i : Int, Z38 74 i = S 74 i := fun i => ad37.2.2.2.1 74 i (by decide) (by decide) (by decide) (by decide) (by decide) (Or.inl (by decide))
        refine ⟨e, rfl, hx, ad37.1, ad37.2.1.2.1, ad37.2.1.1.trans hkh, hee2, fun _ => ?_, ⟨by rw [e0]; omega, Or.inl (by rw [e0]; omega)⟩, by rw [e0]; omega⟩
        rw [ad37.2.1.2.2, e0, hen]
        exact ⟨⟨hk0, hk1⟩, wq_rx hW hx ⟨hk0, hk1⟩ (hwT k hwq)⟩
    · skip
      show wJ _ _ _ _ _ _ _ _ _ _
      generalize Sq33 = Zw at hq hzI ⊢
      have hx := rx_wn (by decide) (by decide) (Or.inl rfl) hL hR ⟨by omega, by omega⟩ ⟨by omega, by omega⟩ hq hzI
      have hxR := hx.2.2.2.2.2.2.2.2.2.1
      have hc3 : Zw 14 3 = S 14 3 := hq.2.2.2.2.2.2.1 14 3 (by decide) (by decide) (by omega)
      refine wa_istore_n (n := 3) rfl ?_
      refine wa_aload_n (n := 0) rfl ?_
      refine wb_gfz 14 rfl (wy_pr rfl) wt_14 wf_6_8 (v := 1) (((hq.2.2.2.2.2.2.1 14 8 (by decide) (by decide) (by omega)).trans (h8))) (fun r41 => ?_)
      refine wa_ifeq (w_rg0 (by omega) (by omega)) ⟨_, rfl⟩ (fun c42 => ?_) (fun c42 => ?_)
      · skip
        exact absurd c42 (by omega)
      · skip
        refine wa_aload_n (n := 0) rfl ?_
        refine wa_iconst ?_
        refine wa_iload_n (n := 1) rfl ?_
        refine wa_iload_n (n := 3) rfl ?_
        refine wa_cv 14 rfl (wy_pr rfl) wt_14 (M2 := mS [15, 16, 17]) rfl at_XR_add ⟨_, rfl⟩ rfl rfl ⟨trivial, (Or.inr ⟨wy_pr rfl, mS_no rfl⟩), trivial, trivial, trivial⟩ trivial (fun _ _ q => mS_sub (by decide) q) (ad_ok (S := Zw) hq.2.2.2.2.2.2.2.2.2.1 ⟨by omega, by omega⟩ ⟨by omega, by omega⟩ ⟨by omega, by omega⟩ hxR) (fun oq45 Sq45 hp46 q45 => ?_)
        rcases q45 with ⟨rfl, ad43⟩
        show wJ _ _ _ _ _ _ _ _ _ _
        generalize Sq45 = Z44 at ad43 ⊢
        refine wa_goto ⟨_, rfl⟩ ?_
        refine wa_iload_n (n := 2) rfl ?_
        refine wa_ireturn rfl ?_
        have htk1 : lx_tk T n 1 p = 1 := by rw [htk, if_pos (by omega)]
        have hkh : (5 : Int) = kh T n p := by unfold kh; rw [if_pos htk1]
        have hee2 : e = (if lx_tk T n 1 p = 5 then n else lx_en T n 1 p) := by rw [htk1, if_neg (by decide), hen]
        have hwT : ∀ k : Int, wq (S 75) (S 76) (S 77) (S 1) p (e - p) k → wq (S 75) (S 76) (S 77) T p (e - p) k := fun k hq => ⟨hq.1, fun i hi => (hq.2 i hi).trans (hB.2.2.2.2.2.1 _ (by omega) (by omega))⟩
        have hx2 := rx_ad (S := Zw) (w := 74) (by decide) (by decide) (by decide) hzI hx.2.2.2.2.2.2.2.2.1 hxR (by omega) ad43
        have e0 : ∀ i : Int, Z44 74 i = Zw 74 i := fun i => ad43.2.2.2.1 74 i (by decide) (by decide) (by decide) (by decide) (by decide) (Or.inl (by decide))
        have hz7 : Zw 74 7 = S 74 7 + 1 := hq.1.2
        have hz1 : Zw 74 1 = S 74 1 + (e - p) := hq.1.1
        have hnw : wq (Zw 75) (Zw 76) (Zw 77) T p (e - p) (S 74 7) := ⟨hq.2.2.1.2.1, fun i hi => by
            rw [show Zw 76 (S 74 7) = S 74 1 from hq.2.2.1.1]
            exact (hq.2.2.2.2.2.1 i (by omega) (by omega)).trans (hB.2.2.2.2.2.1 _ (by omega) (by omega))⟩
        refine ⟨e, rfl, rx_tr ⟨hc0.1, hu0.1, hr1⟩ hx hx2, ad43.1.trans (by rw [hc3]), ?_, ?_, hee2, fun _ => ?_, ⟨by rw [e0]; omega, Or.inr ⟨htk1, by rw [← hc3]; exact ad43.2.1.2.2⟩⟩, by rw [e0]; omega⟩
        · rw [← hc3]; exact ad43.2.1.2.1
        · rw [← hc3]; exact ad43.2.1.1.trans hkh
        · rw [← hc3, ad43.2.1.2.2, e0, hen]
          exact ⟨⟨hc0.1, by omega⟩, wq_rx hzI hx2 ⟨hc0.1, by omega⟩ hnw⟩
  · skip
    refine wa_aload_n (n := 0) rfl ?_
    refine wa_iload_n (n := 1) rfl ?_
    refine wa_cv 14 rfl (wy_pr rfl) wt_14 (M2 := mS [15, 16, 17]) rfl at_XR_addBad ⟨_, rfl⟩ rfl rfl ⟨(Or.inr ⟨wy_pr rfl, mS_no rfl⟩), trivial, trivial, trivial⟩ trivial (fun _ _ q => mS_sub (by decide) q) ?_ (fun _ _ _ q => q)
    refine wa_aload_n (n := 0) rfl ?_
    refine wa_iconst ?_
    refine wa_iload_n (n := 1) rfl ?_
    refine wa_iconst ?_
    refine wa_cv 14 rfl (wy_pr rfl) wt_14 (M2 := mS [15, 16, 17]) rfl at_XR_add ⟨_, rfl⟩ rfl rfl ⟨(Or.inr ⟨wy_pr rfl, mS_no rfl⟩), trivial, trivial⟩ trivial (fun _ _ q => mS_sub (by decide) q) (ad_ok (S := S) hI ⟨by omega, by omega⟩ ⟨by omega, by omega⟩ ⟨by omega, by omega⟩ hR) (fun oq49 Sq49 hp50 q49 => ?_)
    rcases q49 with ⟨rfl, ad47⟩
    show wJ _ _ _ _ _ _ _ _ _ _
    generalize Sq49 = Z48 at ad47 ⊢
    refine wa_aload_n (n := 0) rfl ?_
    refine wb_gfi 14 rfl (wy_pr rfl) wt_14 wf_6_6 (v := n) (((ad47.2.2.2.1 14 6 (by decide) (by decide) (by decide) (by decide) (by decide) (Or.inr (by decide))).trans (hB.2.1))) (fun r51 => ?_)
    refine wa_ireturn rfl ?_
    show wJ _ _ _ _ _ _ _ _ _ _
    refine wa_ireturn rfl ?_
    have htk5 : lx_tk T n 1 p = 5 := by rw [htk, if_neg (by omega)]
    refine ⟨n, rfl, ht_ad (by decide) (by decide) (by decide) hW hL hR hb ?_ ?_ ?_ (by omega) ad47⟩
    · unfold kh; rw [htk5]; rfl
    · rw [htk5, if_pos rfl]
    · rw [htk5]; decide
theorem xn_163 {p : Int} (hB : rd_B T n S) (h7 : S 14 7 = 163) (h8 : S 14 8 = 1) (hI : gI S) (hW : wd_at S 163 64) (hL : wd_L S 163 64) (hR : rd_L S) (hb : rb_I 163 S) (hp : 0 ≤ p ∧ p < n) (hle : lx_le (T p) = true) : wJ (pe_GA xs) wY0 (mS [15, 16, 17, 164, 165, 166, 167, 168, 169]) (d + 6) t_XR_addName ((pe_at t_XR_addName.bl 0).getD (0, [])).2 [(0, (2, 14)), (1, (0, p))] [] S (fun o Z => ∃ e : Int, o = .inl (some (0, e)) ∧ ht_ok 163 64 T n p S Z e) := by
  have hn := hB.2.2.1
  have hn1 := hB.2.2.2.1
  have hn2 := hB.2.2.2.2.1
  have hrm := rmR_rfl S
  have hb1 : S 163 7 ≤ 400000 ∧ S 163 1 ≤ 4000000 ∧ S 165 (-1) ≤ 1000000 ∧ S 164 (-1) ≤ 10000000 ∧ S 14 3 ≤ 400000 := hb
  have hc0 : 0 ≤ S 163 7 ∧ S 163 7 ≤ S 165 (-1) := hW.1
  have hu0 : 0 ≤ S 163 1 ∧ S 163 1 ≤ S 164 (-1) := hW.2.1
  have hl1 : 1024 ≤ S 164 (-1) := hL.2.2.2.2.2.2.1
  have hr1 : 0 ≤ S 14 3 := hR.1.1
  have hen : lx_en T n 1 p = lx_nm T n ((n - p).toNat + 1) p := by unfold lx_en; rw [if_neg (by omega), if_pos hle]
  have htk : lx_tk T n 1 p = if lx_nm T n ((n - p).toNat + 1) p - p ≤ 30 then 1 else 5 := by unfold lx_tk; rw [if_neg (by omega), if_pos hle]
  generalize hee : lx_nm T n ((n - p).toNat + 1) p = e at hen htk
  refine wa_iload_n (n := 1) rfl ?_
  refine wa_istore_n (n := 2) rfl ?_
  refine wa_fall ⟨_, rfl⟩ ?_
  refine wJ_S (xn_l (d := d + 4) (e := e) (p := p) hB (fun hpe hen1 => ?_) ((n - p).toNat + 1) p (by omega) (by omega) (by omega) (by omega) hee) ⟨rfl, rfl, rfl, trivial⟩
  refine wa_iload_n (n := 2) rfl ?_
  refine wa_iload_n (n := 1) rfl ?_
  refine wa_isub ?_
  refine wa_bipush (w_rg2 (by omega) (by omega)) ?_
  refine wa_icmple (w_rg0 (by omega) (by omega)) (w_rg0 (by omega) (by omega)) ⟨_, rfl⟩ (fun c31 => ?_) (fun c31 => ?_)
  · skip
    refine wa_aload_n (n := 0) rfl ?_
    refine wb_gf5 14 rfl (wy_pr rfl) wt_14 wf_6_7 (v := 163) (h7) (fun r32 => ?_)
    refine wa_aload_n (n := 0) rfl ?_
    refine wb_gf6 14 rfl (wy_pr rfl) wt_14 wf_6_5 (v := 1) (hB.1) (by decide) ?_
    refine wa_iload_n (n := 1) rfl ?_
    refine wa_iload_n (n := 2) rfl ?_
    refine wa_iload_n (n := 1) rfl ?_
    refine wa_isub ?_
    refine wa_cv 163 rfl (wy_pr rfl) wt_163 (M2 := mS [164, 165, 166, 167, 168, 169]) rfl at_XW_wordFor ⟨_, rfl⟩ rfl rfl ⟨(Or.inr ⟨wy_pr rfl, mS_no rfl⟩), trivial, trivial, trivial⟩ trivial (fun _ _ q => mS_sub (by decide) q) (wo_163_1 (S := S) (a0 := p) (n := e - p) hI hL ⟨by omega, by omega, by omega, by omega⟩ ⟨by omega, by omega⟩ ⟨by omega, by omega, by omega⟩ hW (by omega)) (fun oq33 Sq33 hp34 q33 => ?_)
    rcases q33 with ⟨k, rfl, hk0, hk1, hwq, rfl⟩ | ⟨rfl, hno, hq, hzI⟩
    · skip
      show wJ _ _ _ _ _ _ _ _ _ _
      refine wa_istore_n (n := 3) rfl ?_
      refine wa_aload_n (n := 0) rfl ?_
      refine wb_gfz 14 rfl (wy_pr rfl) wt_14 wf_6_8 (v := 1) (h8) (fun r35 => ?_)
      refine wa_ifeq (w_rg0 (by omega) (by omega)) ⟨_, rfl⟩ (fun c36 => ?_) (fun c36 => ?_)
      · skip
        exact absurd c36 (by omega)
      · skip
        refine wa_aload_n (n := 0) rfl ?_
        refine wa_iconst ?_
        refine wa_iload_n (n := 1) rfl ?_
        refine wa_iload_n (n := 3) rfl ?_
        refine wa_cv 14 rfl (wy_pr rfl) wt_14 (M2 := mS [15, 16, 17]) rfl at_XR_add ⟨_, rfl⟩ rfl rfl ⟨trivial, (Or.inr ⟨wy_pr rfl, mS_no rfl⟩), trivial, trivial, trivial⟩ trivial (fun _ _ q => mS_sub (by decide) q) (ad_ok (S := S) hI ⟨by omega, by omega⟩ ⟨by omega, by omega⟩ ⟨by omega, by omega⟩ hR) (fun oq39 Sq39 hp40 q39 => ?_)
        rcases q39 with ⟨rfl, ad37⟩
        show wJ _ _ _ _ _ _ _ _ _ _
        generalize Sq39 = Z38 at ad37 ⊢
        refine wa_goto ⟨_, rfl⟩ ?_
        refine wa_iload_n (n := 2) rfl ?_
        refine wa_ireturn rfl ?_
        have htk1 : lx_tk T n 1 p = 1 := by rw [htk, if_pos (by omega)]
        have hkh : (5 : Int) = kh T n p := by unfold kh; rw [if_pos htk1]
        have hee2 : e = (if lx_tk T n 1 p = 5 then n else lx_en T n 1 p) := by rw [htk1, if_neg (by decide), hen]
        have hwT : ∀ k : Int, wq (S 164) (S 165) (S 166) (S 1) p (e - p) k → wq (S 164) (S 165) (S 166) T p (e - p) k := fun k hq => ⟨hq.1, fun i hi => (hq.2 i hi).trans (hB.2.2.2.2.2.1 _ (by omega) (by omega))⟩
        have hx := rx_ad (w := 163) (by decide) (by decide) (by decide) hW hL hR (by omega) ad37
        have e0 : ∀ i : Int, Z38 163 i = S 163 i := fun i => ad37.2.2.2.1 163 i (by decide) (by decide) (by decide) (by decide) (by decide) (Or.inl (by decide))
        refine ⟨e, rfl, hx, ad37.1, ad37.2.1.2.1, ad37.2.1.1.trans hkh, hee2, fun _ => ?_, ⟨by rw [e0]; omega, Or.inl (by rw [e0]; omega)⟩, by rw [e0]; omega⟩
        rw [ad37.2.1.2.2, e0, hen]
        exact ⟨⟨hk0, hk1⟩, wq_rx hW hx ⟨hk0, hk1⟩ (hwT k hwq)⟩
    · skip
      show wJ _ _ _ _ _ _ _ _ _ _
      generalize Sq33 = Zw at hq hzI ⊢
      have hx := rx_wn (by decide) (by decide) (Or.inl rfl) hL hR ⟨by omega, by omega⟩ ⟨by omega, by omega⟩ hq hzI
      have hxR := hx.2.2.2.2.2.2.2.2.2.1
      have hc3 : Zw 14 3 = S 14 3 := hq.2.2.2.2.2.2.1 14 3 (by decide) (by decide) (by omega)
      refine wa_istore_n (n := 3) rfl ?_
      refine wa_aload_n (n := 0) rfl ?_
      refine wb_gfz 14 rfl (wy_pr rfl) wt_14 wf_6_8 (v := 1) (((hq.2.2.2.2.2.2.1 14 8 (by decide) (by decide) (by omega)).trans (h8))) (fun r41 => ?_)
      refine wa_ifeq (w_rg0 (by omega) (by omega)) ⟨_, rfl⟩ (fun c42 => ?_) (fun c42 => ?_)
      · skip
        exact absurd c42 (by omega)
      · skip
        refine wa_aload_n (n := 0) rfl ?_
        refine wa_iconst ?_
        refine wa_iload_n (n := 1) rfl ?_
        refine wa_iload_n (n := 3) rfl ?_
        refine wa_cv 14 rfl (wy_pr rfl) wt_14 (M2 := mS [15, 16, 17]) rfl at_XR_add ⟨_, rfl⟩ rfl rfl ⟨trivial, (Or.inr ⟨wy_pr rfl, mS_no rfl⟩), trivial, trivial, trivial⟩ trivial (fun _ _ q => mS_sub (by decide) q) (ad_ok (S := Zw) hq.2.2.2.2.2.2.2.2.2.1 ⟨by omega, by omega⟩ ⟨by omega, by omega⟩ ⟨by omega, by omega⟩ hxR) (fun oq45 Sq45 hp46 q45 => ?_)
        rcases q45 with ⟨rfl, ad43⟩
        show wJ _ _ _ _ _ _ _ _ _ _
        generalize Sq45 = Z44 at ad43 ⊢
        refine wa_goto ⟨_, rfl⟩ ?_
        refine wa_iload_n (n := 2) rfl ?_
        refine wa_ireturn rfl ?_
        have htk1 : lx_tk T n 1 p = 1 := by rw [htk, if_pos (by omega)]
        have hkh : (5 : Int) = kh T n p := by unfold kh; rw [if_pos htk1]
        have hee2 : e = (if lx_tk T n 1 p = 5 then n else lx_en T n 1 p) := by rw [htk1, if_neg (by decide), hen]
        have hwT : ∀ k : Int, wq (S 164) (S 165) (S 166) (S 1) p (e - p) k → wq (S 164) (S 165) (S 166) T p (e - p) k := fun k hq => ⟨hq.1, fun i hi => (hq.2 i hi).trans (hB.2.2.2.2.2.1 _ (by omega) (by omega))⟩
        have hx2 := rx_ad (S := Zw) (w := 163) (by decide) (by decide) (by decide) hzI hx.2.2.2.2.2.2.2.2.1 hxR (by omega) ad43
        have e0 : ∀ i : Int, Z44 163 i = Zw 163 i := fun i => ad43.2.2.2.1 163 i (by decide) (by decide) (by decide) (by decide) (by decide) (Or.inl (by decide))
        have hz7 : Zw 163 7 = S 163 7 + 1 := hq.1.2
        have hz1 : Zw 163 1 = S 163 1 + (e - p) := hq.1.1
        have hnw : wq (Zw 164) (Zw 165) (Zw 166) T p (e - p) (S 163 7) := ⟨hq.2.2.1.2.1, fun i hi => by
            rw [show Zw 165 (S 163 7) = S 163 1 from hq.2.2.1.1]
            exact (hq.2.2.2.2.2.1 i (by omega) (by omega)).trans (hB.2.2.2.2.2.1 _ (by omega) (by omega))⟩
        refine ⟨e, rfl, rx_tr ⟨hc0.1, hu0.1, hr1⟩ hx hx2, ad43.1.trans (by rw [hc3]), ?_, ?_, hee2, fun _ => ?_, ⟨by rw [e0]; omega, Or.inr ⟨htk1, by rw [← hc3]; exact ad43.2.1.2.2⟩⟩, by rw [e0]; omega⟩
        · rw [← hc3]; exact ad43.2.1.2.1
        · rw [← hc3]; exact ad43.2.1.1.trans hkh
        · rw [← hc3, ad43.2.1.2.2, e0, hen]
          exact ⟨⟨hc0.1, by omega⟩, wq_rx hzI hx2 ⟨hc0.1, by omega⟩ hnw⟩
  · skip
    refine wa_aload_n (n := 0) rfl ?_
    refine wa_iload_n (n := 1) rfl ?_
    refine wa_cv 14 rfl (wy_pr rfl) wt_14 (M2 := mS [15, 16, 17]) rfl at_XR_addBad ⟨_, rfl⟩ rfl rfl ⟨(Or.inr ⟨wy_pr rfl, mS_no rfl⟩), trivial, trivial, trivial⟩ trivial (fun _ _ q => mS_sub (by decide) q) ?_ (fun _ _ _ q => q)
    refine wa_aload_n (n := 0) rfl ?_
    refine wa_iconst ?_
    refine wa_iload_n (n := 1) rfl ?_
    refine wa_iconst ?_
    refine wa_cv 14 rfl (wy_pr rfl) wt_14 (M2 := mS [15, 16, 17]) rfl at_XR_add ⟨_, rfl⟩ rfl rfl ⟨(Or.inr ⟨wy_pr rfl, mS_no rfl⟩), trivial, trivial⟩ trivial (fun _ _ q => mS_sub (by decide) q) (ad_ok (S := S) hI ⟨by omega, by omega⟩ ⟨by omega, by omega⟩ ⟨by omega, by omega⟩ hR) (fun oq49 Sq49 hp50 q49 => ?_)
    rcases q49 with ⟨rfl, ad47⟩
    show wJ _ _ _ _ _ _ _ _ _ _
    generalize Sq49 = Z48 at ad47 ⊢
    refine wa_aload_n (n := 0) rfl ?_
    refine wb_gfi 14 rfl (wy_pr rfl) wt_14 wf_6_6 (v := n) (((ad47.2.2.2.1 14 6 (by decide) (by decide) (by decide) (by decide) (by decide) (Or.inr (by decide))).trans (hB.2.1))) (fun r51 => ?_)
    refine wa_ireturn rfl ?_
    show wJ _ _ _ _ _ _ _ _ _ _
    refine wa_ireturn rfl ?_
    have htk5 : lx_tk T n 1 p = 5 := by rw [htk, if_neg (by omega)]
    refine ⟨n, rfl, ht_ad (by decide) (by decide) (by decide) hW hL hR hb ?_ ?_ ?_ (by omega) ad47⟩
    · unfold kh; rw [htk5]; rfl
    · rw [htk5, if_pos rfl]
    · rw [htk5]; decide
end W9e
