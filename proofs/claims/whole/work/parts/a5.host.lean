/-! PART a5: readClasses, for any invariant that the reading of a class keeps. -/
section Wa5
variable {xs : List (Nat × List Int32)} {M : Nat → Prop} {d : Nat} {A B C S Z : wS} {Q : wO → wS → Prop} {T : Int → Int} {n : Int} {c i : Nat}
theorem ne_T {p : Int} (hB : zT B T n) : lx_ne (zq B p) p = lx_go T n (lx_en T n 1 p) := zT_ne hB
theorem su_1_tk {b : Nat} {c p a s : Int} {l : List Int} (h : su_1 B b c p a l = .inr s) : zq B p 237 6 = 1 := by
  unfold su_1 at h
  split at h
  · assumption
  · cases h
theorem su_f_ge {b : Nat} {c : Int} (hB : zT B T n) : ∀ (f : Nat) (p : Int) (l : List Int) (a al q a2 al2 : Int) (l2 : List Int), p ≤ n → su_f B b c f p l a al = .inr (q, l2, a2, al2) → p ≤ q ∧ q ≤ n := by
  have hB4 := hB.2.1
  intro f
  induction f with
  | zero => intro p l a al q a2 al2 l2 hp h; cases h
  | succ f ih =>
    intro p l a al q a2 al2 l2 hp h
    rw [su_f_s] at h
    by_cases h4 : lx_is (zq B p) 44 = true
    · rw [if_pos h4] at h
      have g1 := ne_is (by rw [hB4]; exact hp) h4
      cases hs : su_1 B b c (lx_ne (zq B p) p) a l with
      | inl e => rw [hs] at h; cases h
      | inr s =>
        rw [hs] at h
        have ht := su_1_tk hs
        have g2 := ne_gt (B := B) (p := lx_ne (zq B p) p) g1.2 (by rw [ht]; decide) (by rw [ht]; decide)
        have := ih _ _ _ _ q a2 al2 l2 (by rw [← hB4]; exact g2.2) h
        omega
    · rw [if_neg h4] at h
      cases h; omega
theorem su_a_ge {b : Nat} {c p q a al : Int} {l : List Int} (hB : zT B T n) (hp : p ≤ n) (h : su_a B b c p = .inr (q, l, a, al)) : p ≤ q ∧ q ≤ n := by
  have hB4 := hB.2.1
  unfold su_a at h
  cases hs : su_1 B b c p (B (b + 3) c) [] with
  | inl e => rw [hs] at h; cases h
  | inr s =>
    rw [hs] at h
    have ht := su_1_tk hs
    have g2 := ne_gt (B := B) (p := p) (by rw [hB4]; exact hp) (by rw [ht]; decide) (by rw [ht]; decide)
    have := su_f_ge hB _ _ _ _ _ q a al l (by rw [← hB4]; exact g2.2) h
    omega
theorem mb_f_ge {b : Nat} {c itf : Int} {fi : Nat} (hB : zT B T n) (hb : b ≠ 237) (hb1 : B b 1 ≤ 60) : ∀ (f : Nat) (p : Int) (ms : List hMR) (q : Int) (ms2 : List hMR), 0 ≤ p → p ≤ n → mb_f B b c itf fi f p ms = .inr (q, ms2) → (p ≤ q ∧ q ≤ n) ∧ lx_is (zq B q) 125 = true := by
  have hB4 := hB.2.1
  intro f
  induction f with
  | zero => intro p ms q ms2 h0 hp h; cases h
  | succ f ih =>
    intro p ms q ms2 h0 hp h
    rw [mb_f_s] at h
    by_cases h4 : lx_is (zq B p) 125 = true
    · rw [if_pos h4] at h
      cases h; exact ⟨by omega, h4⟩
    · rw [if_neg h4] at h
      cases hr : rm_L B b c itf (ms.drop fi) ms.length p with
      | inl x => rw [hr] at h; cases h
      | inr x =>
        obtain ⟨p2, so, st, ty, l, v, f2, e2⟩ := x
        rw [hr] at h
        have g := rm_L_gt hb1 hb ⟨h0, by rw [hB4]; exact hp⟩ hr
        have := ih p2 _ q ms2 (by omega) (by rw [← hB4]; exact g.2.1) h
        exact ⟨by omega, this.2⟩
theorem rcb_gt {B1 : wS} {b : Nat} {k0 itf p1 p2 : Int} {ms ms2 : List hMR} {cr : hCR} (hB : zT B T n) (hB1 : zT B1 T n) (hb : b ≠ 237) (hb9 : b ≠ 239) (hk : k0 + 1 ≤ 60) (hp : 0 ≤ p1 ∧ p1 ≤ n) (h1 : zq B p1 237 6 = 1) (h : rc_body B B1 b k0 ms itf p1 = .inr (p2, cr, ms2)) : p1 < p2 ∧ p2 ≤ n := by
  have hB4 := hB.2.1
  have g1 := ne_gt (B := B) (p := p1) (by rw [hB4]; exact hp.2) (by rw [h1]; decide) (by rw [h1]; decide)
  have hB2 : zT (w_up B1 b 1 (k0 + 1)) T n := by
    unfold zT
    rw [w_up_row (fun e => hb9 e.symm), w_up_row (fun e => hb e.symm)]; exact hB1
  cases hs : rc_su B B1 b k0 p1 with
  | inl e => rw [rcb_1 hs] at h; cases h
  | inr x =>
    obtain ⟨q, l, a, al⟩ := x
    have gq : lx_ne (zq B p1) p1 ≤ q ∧ q ≤ n := by
      unfold rc_su at hs
      by_cases h58 : lx_is (zq B (lx_ne (zq B p1) p1)) 58 = true
      · rw [if_pos h58] at hs
        have g2 := ne_is (B := B) g1.2 h58
        have := su_a_ge hB1 (by rw [← hB4]; exact g2.2) hs
        omega
      · rw [if_neg h58] at hs
        cases hs; omega
    by_cases h123 : lx_is (zq B q) 123 = true
    · have g3 := ne_is (B := B) (p := q) (by rw [hB4]; exact gq.2) h123
      cases hm : mb_f (w_up B1 b 1 (k0 + 1)) b k0 itf ms.length ((B 237 4 - lx_ne (zq B q) q).toNat + 1) (lx_ne (zq B q) q) ms with
      | inl e => rw [rcb_3 hs h123 hm] at h; cases h
      | inr y =>
        obtain ⟨z, ms3⟩ := y
        rw [rcb_4 hs h123 hm] at h
        have g4 := mb_f_ge hB2 hb (by rw [w_up_same]; exact hk) _ _ _ z ms3 (by omega) (by rw [← hB4]; exact g3.2) hm
        have h125 : lx_is (zq B z) 125 = true := by
          have := g4.2
          unfold lx_is at this ⊢
          rw [decide_eq_true_iff] at this ⊢
          rw [zT_6 hB2, zT_9 hB2] at this
          rw [zT_6 hB, zT_9 hB]
          exact this
        have g5 := ne_is (B := B) (p := z) (by rw [hB4]; exact g4.1.2) h125
        cases h
        omega
    · rw [rcb_2 hs h123] at h; cases h
theorem rc_n_gt_73 {k0 itf p1 p2 : Int} {ms ms2 : List hMR} {cr : hCR} (hB : zT B T n) (hb1 : B 241 1 ≤ 60) (hk0 : 0 ≤ k0 ∧ k0 ≤ 60) (hp : 0 ≤ p1 ∧ p1 ≤ n) (hbk : B 241 1 = k0) (h : rc_n_241 B k0 ms itf p1 = .inr (p2, cr, ms2)) : p1 < p2 ∧ p2 ≤ n := by
  unfold rc_n_241 at h
  by_cases h1 : zq B p1 237 6 = 1
  · rw [if_pos h1] at h
    by_cases h2 : ch_of (zq B p1) 241 < 0 ∧ lx_oo (zq B p1) tx_21 = false
    · rw [if_pos h2] at h
      by_cases h3 : k0 < 60
      · rw [if_pos h3] at h
        exact rcb_gt hB ⟨by rw [w_up_row (by decide), w_up_row (by decide), w_up_row (by decide), w_up_row (by decide), w_up_row (by decide), w_up_row (by decide), w_up_row (by decide), w_up_row (by decide)]; exact hB.1, by rw [w_up_row (by decide), w_up_row (by decide), w_up_row (by decide), w_up_row (by decide), w_up_row (by decide), w_up_row (by decide), w_up_row (by decide), w_up_row (by decide)]; exact hB.2.1, by rw [w_up_row (by decide), w_up_row (by decide), w_up_row (by decide), w_up_row (by decide), w_up_row (by decide), w_up_row (by decide), w_up_row (by decide), w_up_row (by decide)]; exact hB.2.2⟩ (by decide) (by decide) (by omega) hp h1 h
      · rw [if_neg h3] at h; cases h
    · rw [if_neg h2] at h; cases h
  · rw [if_neg h1] at h; cases h
theorem rc_n_gt_162 {k0 itf p1 p2 : Int} {ms ms2 : List hMR} {cr : hCR} (hB : zT B T n) (hb1 : B 261 1 ≤ 60) (hk0 : 0 ≤ k0 ∧ k0 ≤ 60) (hp : 0 ≤ p1 ∧ p1 ≤ n) (hbk : B 261 1 = k0) (h : rc_n_261 B k0 ms itf p1 = .inr (p2, cr, ms2)) : p1 < p2 ∧ p2 ≤ n := by
  unfold rc_n_261 at h
  by_cases h1 : zq B p1 237 6 = 1
  · rw [if_pos h1] at h
    by_cases h2 : ch_of (zq B p1) 261 < 0 ∧ lx_oo (zq B p1) tx_21 = false
    · rw [if_pos h2] at h
      by_cases h3 : k0 < 60
      · rw [if_pos h3] at h
        exact rcb_gt hB ⟨by rw [w_up_row (by decide), w_up_row (by decide), w_up_row (by decide), w_up_row (by decide), w_up_row (by decide), w_up_row (by decide), w_up_row (by decide), w_up_row (by decide)]; exact hB.1, by rw [w_up_row (by decide), w_up_row (by decide), w_up_row (by decide), w_up_row (by decide), w_up_row (by decide), w_up_row (by decide), w_up_row (by decide), w_up_row (by decide)]; exact hB.2.1, by rw [w_up_row (by decide), w_up_row (by decide), w_up_row (by decide), w_up_row (by decide), w_up_row (by decide), w_up_row (by decide), w_up_row (by decide), w_up_row (by decide)]; exact hB.2.2⟩ (by decide) (by decide) (by omega) hp h1 h
      · rw [if_neg h3] at h; cases h
    · rw [if_neg h2] at h; cases h
  · rw [if_neg h1] at h; cases h
theorem rcp_73 (J : List hCR → List hMR → (Int → List Int) → wS → Prop) (hJ : ∀ (cs : List hCR) (ms : List hMR) (os : Int → List Int) (S : wS), J cs ms os S → hx_I 241 73 87 92 74 T n c (hq_cn A 241 cs) S ∧ tb_I 87 116 117 118 74 S (cs.length : Int) (ms.length : Int) ∧ (∀ q : Int, 0 ≤ q → q < (cs.length : Int) → od_1 93 114 115 S q (os q)) ∧ mr_all 97 74 T S ms ∧ S 73 4 = (ms.length : Int)) (hJu : ∀ (cs : List hCR) (ms : List hMR) (os : Int → List Int) (S : wS) (x : Int), J cs ms os S → J cs ms os (w_up S 14 4 x)) (hJs : ∀ (cs : List hCR) (ms : List hMR) (os : Int → List Int) (S : wS) (i : Nat) (itf : Int) (S3 : wS) (a al : Int) (l : List Int) (Zo : wS) (i2 : Nat) (ms2 : List hMR) (Zm Z1 Zf : wS), J cs ms os S → cx_P T n c i S → (itf = 0 ∨ itf = 1) → rc_n_241 (hq_cn A 241 cs) (cs.length : Int) ms itf (tp T n 1 (i)) = .inr (tp T n 1 (i2 + 1), (itf, (tp T n 1 (i)), zq (hq_cn A 241 cs) (tp T n 1 (i)) 237 8, a, l, al, (ms.length : Int), (ms2.length : Int) - (ms.length : Int)), ms2) → (∀ j : Nat, j ≠ 14 → j ≠ 61 → j ≠ 62 → S3 j = S j) → ((∀ y : Int, y ≠ 4 → S3 14 y = S 14 y) ∧ (∀ y : Int, y ≠ 4 → S3 61 y = S 61 y) ∧ ∀ y : Int, y < 0 → S3 62 y = S 62 y) → su_nd (cs.length : Int) l → (-1 ≤ a ∧ a < (cs.length : Int)) → oz_ag 93 114 115 (cs.length : Int) (w_up (w_up (w_up (w_up (w_up (w_up (w_up S3 87 (cs.length : Int) itf) 88 (cs.length : Int) a) 90 (cs.length : Int) 0) 91 (cs.length : Int) (ms.length : Int)) 92 (cs.length : Int) (S 17 ((i : Nat) : Int))) 73 2 ((cs.length : Int) + 1)) 89 (cs.length : Int) (l.length : Int)) Zo → od_1 93 114 115 Zo (cs.length : Int) (so_L ((w_up (w_up (w_up (w_up (w_up (w_up S3 87 (cs.length : Int) itf) 88 (cs.length : Int) a) 90 (cs.length : Int) 0) 91 (cs.length : Int) (ms.length : Int)) 92 (cs.length : Int) (S 17 ((i : Nat) : Int))) 73 2 ((cs.length : Int) + 1)) 87) ((w_up (w_up (w_up (w_up (w_up (w_up S3 87 (cs.length : Int) itf) 88 (cs.length : Int) a) 90 (cs.length : Int) 0) 91 (cs.length : Int) (ms.length : Int)) 92 (cs.length : Int) (S 17 ((i : Nat) : Int))) 73 2 ((cs.length : Int) + 1)) 88) os (cs.length : Int) l) → kg T n (tp T n 1 i2) = 13 → mz_ag 97 73 87 (cs.length : Int) (ms.length : Int) Zo Zm → hx_I 241 73 87 92 74 T n c (w_up (w_up (w_up (w_up (w_up (w_up (w_up (w_up (w_up (hq_cn A 241 cs) 243 (cs.length : Int) itf) 250 (cs.length : Int) (tp T n 1 (i))) 251 (cs.length : Int) (zq (hq_cn A 241 cs) (tp T n 1 (i)) 237 8)) 244 (cs.length : Int) (-1)) 245 (cs.length : Int) 0) 247 (cs.length : Int) (wb_lshl 1 (cs.length : Int))) 248 (cs.length : Int) ((hq_cn A 241 cs) 241 11)) 249 (cs.length : Int) 0) 241 1 ((cs.length : Int) + 1)) Zm → cx_P T n c i2 Zm → mr_all 97 74 T Zm ms2 → Zm 73 4 = (ms2.length : Int) → ms.length ≤ ms2.length → Zm 90 (cs.length : Int) = (ms2.length : Int) - (ms.length : Int) → le_I 97 87 116 117 118 119 (ms.length : Int) (cs.length : Int) (S3 116 2) (if a = -1 then 0 else S3 94 a) (if a = -1 then -1 else S3 95 a) (ms2.drop ms.length) (w_up (w_up (w_up Zm 14 4 ((i2 + 1 : Nat) : Int)) 94 (cs.length : Int) (if a = -1 then 0 else S3 94 a)) 95 (cs.length : Int) (if a = -1 then -1 else S3 95 a)) Z1 (ms2.drop ms.length).length → l2_I 97 87 74 119 (ms.length : Int) (ms2.drop ms.length) Z1 Zf (ms2.drop ms.length).length → J (cs ++ [(itf, (tp T n 1 (i)), zq (hq_cn A 241 cs) (tp T n 1 (i)) 237 8, a, l, al, (ms.length : Int), (ms2.length : Int) - (ms.length : Int))]) ms2 (fun q => if q = (cs.length : Int) then (so_L ((w_up (w_up (w_up (w_up (w_up (w_up S3 87 (cs.length : Int) itf) 88 (cs.length : Int) a) 90 (cs.length : Int) 0) 91 (cs.length : Int) (ms.length : Int)) 92 (cs.length : Int) (S 17 ((i : Nat) : Int))) 73 2 ((cs.length : Int) + 1)) 87) ((w_up (w_up (w_up (w_up (w_up (w_up S3 87 (cs.length : Int) itf) 88 (cs.length : Int) a) 90 (cs.length : Int) 0) 91 (cs.length : Int) (ms.length : Int)) 92 (cs.length : Int) (S 17 ((i : Nat) : Int))) 73 2 ((cs.length : Int) + 1)) 88) os (cs.length : Int) l) else os q) Zf) {cs : List hCR} {ms : List hMR} {os : Int → List Int} {itf : Int} (hX : w_X xs) (h : J cs ms os S) (hP : cx_P T n c i S) (hit : itf = 0 ∨ itf = 1) : wJ (pe_GA xs) wY0 (mS [117, 118]) (d + 11) t_XT_readClass ((pe_at t_XT_readClass.bl 0).getD (0, [])).2 [(0, (2, 61)), (1, (0, itf))] [] S (fun o Z => (∃ (i2 : Nat) (cr : hCR) (ms2 : List hMR) (os2 : Int → List Int), o = .inl none ∧ rc_n_241 (hq_cn A 241 cs) (cs.length : Int) ms itf (tp T n 1 (i)) = .inr (tp T n 1 i2, cr, ms2) ∧ cx_P T n c i2 Z ∧ J (cs ++ [cr]) ms2 os2 Z) ∨ (∃ (e q : Int) (v : Nat) (Z0 : wS), o = .inr v ∧ rc_n_241 (hq_cn A 241 cs) (cs.length : Int) ms itf (tp T n 1 (i)) = .inl (e, q) ∧ cz_ag 97 73 87 114 115 (cs.length : Int) (ms.length : Int) S Z0 ∧ rz_ag Z0 Z v (e + 16 * q))) := by
  obtain ⟨j1, j2, j3, j4, j5⟩ := hJ cs ms os S h
  have hk0 : (hq_cn A 241 cs) 241 1 = (cs.length : Int) := if_pos ⟨rfl, rfl⟩
  refine rcl_73 (B := (hq_cn A 241 cs)) (k0 := (cs.length : Int)) (itf := itf) (ms := ms) (os := os) hX j1 hP hk0 hit j2 j3 j4 j5 (fun S3 a al l Zo i2 ms2 Zm Z1 Zf y1 y2 y3 y4 y5 y6 y7 y8 y9 y10 y11 y12 y13 y14 y15 y16 y17 => ?_) (fun e q v Z0 Z y1 y2 y3 => Or.inr ⟨e, q, v, Z0, rfl, y1, y2, y3⟩)
  refine Or.inl ⟨i2 + 1, _, ms2, _, rfl, y1, ⟨?_, ?_⟩, hJs cs ms os S i itf S3 a al l Zo i2 ms2 Zm Z1 Zf h hP hit y1 y2 y3 y4 y5 y6 y7 y8 y9 y10 y11 y12 y13 y14 y15 y16 y17⟩
  · refine (y17.1 14 4 (by omega) (by omega)).trans ((y16.1.1 14 4 (by decide) (by decide) (by decide) (by decide) (by omega) (by omega) (by omega) (by omega)).trans ?_)
    rw [w_up_slot (by decide), w_up_slot (by decide), w_up_same]
  · exact pg_next (i := i2) y10.2.1 y11.2 (by omega) (by omega)
theorem rcs_73 (J : List hCR → List hMR → (Int → List Int) → wS → Prop) (hJ : ∀ (cs : List hCR) (ms : List hMR) (os : Int → List Int) (S : wS), J cs ms os S → hx_I 241 73 87 92 74 T n c (hq_cn A 241 cs) S ∧ tb_I 87 116 117 118 74 S (cs.length : Int) (ms.length : Int) ∧ (∀ q : Int, 0 ≤ q → q < (cs.length : Int) → od_1 93 114 115 S q (os q)) ∧ mr_all 97 74 T S ms ∧ S 73 4 = (ms.length : Int)) (hJu : ∀ (cs : List hCR) (ms : List hMR) (os : Int → List Int) (S : wS) (x : Int), J cs ms os S → J cs ms os (w_up S 14 4 x)) (hJs : ∀ (cs : List hCR) (ms : List hMR) (os : Int → List Int) (S : wS) (i : Nat) (itf : Int) (S3 : wS) (a al : Int) (l : List Int) (Zo : wS) (i2 : Nat) (ms2 : List hMR) (Zm Z1 Zf : wS), J cs ms os S → cx_P T n c i S → (itf = 0 ∨ itf = 1) → rc_n_241 (hq_cn A 241 cs) (cs.length : Int) ms itf (tp T n 1 (i)) = .inr (tp T n 1 (i2 + 1), (itf, (tp T n 1 (i)), zq (hq_cn A 241 cs) (tp T n 1 (i)) 237 8, a, l, al, (ms.length : Int), (ms2.length : Int) - (ms.length : Int)), ms2) → (∀ j : Nat, j ≠ 14 → j ≠ 61 → j ≠ 62 → S3 j = S j) → ((∀ y : Int, y ≠ 4 → S3 14 y = S 14 y) ∧ (∀ y : Int, y ≠ 4 → S3 61 y = S 61 y) ∧ ∀ y : Int, y < 0 → S3 62 y = S 62 y) → su_nd (cs.length : Int) l → (-1 ≤ a ∧ a < (cs.length : Int)) → oz_ag 93 114 115 (cs.length : Int) (w_up (w_up (w_up (w_up (w_up (w_up (w_up S3 87 (cs.length : Int) itf) 88 (cs.length : Int) a) 90 (cs.length : Int) 0) 91 (cs.length : Int) (ms.length : Int)) 92 (cs.length : Int) (S 17 ((i : Nat) : Int))) 73 2 ((cs.length : Int) + 1)) 89 (cs.length : Int) (l.length : Int)) Zo → od_1 93 114 115 Zo (cs.length : Int) (so_L ((w_up (w_up (w_up (w_up (w_up (w_up S3 87 (cs.length : Int) itf) 88 (cs.length : Int) a) 90 (cs.length : Int) 0) 91 (cs.length : Int) (ms.length : Int)) 92 (cs.length : Int) (S 17 ((i : Nat) : Int))) 73 2 ((cs.length : Int) + 1)) 87) ((w_up (w_up (w_up (w_up (w_up (w_up S3 87 (cs.length : Int) itf) 88 (cs.length : Int) a) 90 (cs.length : Int) 0) 91 (cs.length : Int) (ms.length : Int)) 92 (cs.length : Int) (S 17 ((i : Nat) : Int))) 73 2 ((cs.length : Int) + 1)) 88) os (cs.length : Int) l) → kg T n (tp T n 1 i2) = 13 → mz_ag 97 73 87 (cs.length : Int) (ms.length : Int) Zo Zm → hx_I 241 73 87 92 74 T n c (w_up (w_up (w_up (w_up (w_up (w_up (w_up (w_up (w_up (hq_cn A 241 cs) 243 (cs.length : Int) itf) 250 (cs.length : Int) (tp T n 1 (i))) 251 (cs.length : Int) (zq (hq_cn A 241 cs) (tp T n 1 (i)) 237 8)) 244 (cs.length : Int) (-1)) 245 (cs.length : Int) 0) 247 (cs.length : Int) (wb_lshl 1 (cs.length : Int))) 248 (cs.length : Int) ((hq_cn A 241 cs) 241 11)) 249 (cs.length : Int) 0) 241 1 ((cs.length : Int) + 1)) Zm → cx_P T n c i2 Zm → mr_all 97 74 T Zm ms2 → Zm 73 4 = (ms2.length : Int) → ms.length ≤ ms2.length → Zm 90 (cs.length : Int) = (ms2.length : Int) - (ms.length : Int) → le_I 97 87 116 117 118 119 (ms.length : Int) (cs.length : Int) (S3 116 2) (if a = -1 then 0 else S3 94 a) (if a = -1 then -1 else S3 95 a) (ms2.drop ms.length) (w_up (w_up (w_up Zm 14 4 ((i2 + 1 : Nat) : Int)) 94 (cs.length : Int) (if a = -1 then 0 else S3 94 a)) 95 (cs.length : Int) (if a = -1 then -1 else S3 95 a)) Z1 (ms2.drop ms.length).length → l2_I 97 87 74 119 (ms.length : Int) (ms2.drop ms.length) Z1 Zf (ms2.drop ms.length).length → J (cs ++ [(itf, (tp T n 1 (i)), zq (hq_cn A 241 cs) (tp T n 1 (i)) 237 8, a, l, al, (ms.length : Int), (ms2.length : Int) - (ms.length : Int))]) ms2 (fun q => if q = (cs.length : Int) then (so_L ((w_up (w_up (w_up (w_up (w_up (w_up S3 87 (cs.length : Int) itf) 88 (cs.length : Int) a) 90 (cs.length : Int) 0) 91 (cs.length : Int) (ms.length : Int)) 92 (cs.length : Int) (S 17 ((i : Nat) : Int))) 73 2 ((cs.length : Int) + 1)) 87) ((w_up (w_up (w_up (w_up (w_up (w_up S3 87 (cs.length : Int) itf) 88 (cs.length : Int) a) 90 (cs.length : Int) 0) 91 (cs.length : Int) (ms.length : Int)) 92 (cs.length : Int) (S 17 ((i : Nat) : Int))) 73 2 ((cs.length : Int) + 1)) 88) os (cs.length : Int) l) else os q) Zf) (hX : w_X xs) (hA : zT A T n) : ∀ (f i : Nat) (cs : List hCR) (ms : List hMR) (os : Int → List Int) (u : Int) (S : wS), 60 - cs.length < f → J cs ms os S → cx_P T n c i S → (0 ≤ u ∧ u ≤ (i : Int)) → (hk : ∀ (cs2 : List hCR) (ms2 : List hMR) (os2 : Int → List Int) (Z : wS), ho_f_241 A f cs ms (tp T n 1 i) = .inr (cs2, ms2) → J cs2 ms2 os2 Z → Q (.inl none) Z) → (hf : ∀ (e q : Int) (v : Nat) (cs2 : List hCR) (ms2 : List hMR) (os2 : Int → List Int) (S2 Z0 Z : wS), ho_f_241 A f cs ms (tp T n 1 i) = .inl (e, q) → J cs2 ms2 os2 S2 → cz_ag 97 73 87 114 115 (cs2.length : Int) (ms2.length : Int) S2 Z0 → rz_ag Z0 Z v (e + 16 * q) → Q (.inr v) Z) → wJ (pe_GA xs) wY0 (mS [117, 118]) (d + 12) t_XT_readClasses ((pe_at t_XT_readClasses.bl 1).getD (0, [])).2 [(0, (2, 61)), (1, (0, u))] [] S Q := by
  intro f
  induction f with
  | zero => intro i cs ms os u S h; exact absurd h (Nat.not_lt_zero _)
  | succ f ih =>
    intro i cs ms os u S hf0 hj hP hu hk hf
    obtain ⟨hx, j2, j3, j4, j5⟩ := hJ cs ms os S hj
    generalize hBe : (hq_cn A 241 cs) = B at hx
    have hB : zT B T n := hx.1
    have hT : cx_T 74 T n c S := hx.2.1
    have hI : gI S := hx.2.2.1
    have hW : wd_at S 74 64 := hx.2.2.2.1
    have hrw : rw_I S 74 := hx.2.2.2.2.1
    have hwc : 13 ≤ S 74 7 ∧ S 74 7 ≤ 400000 := hx.2.2.2.2.2.1
    have hR : cn_R 241 73 87 92 74 T B S := hx.2.2.2.2.2.2.1
    have hH : S 61 1 = 73 := hx.2.2.2.2.2.2.2
    have hC : w_CL S := hR.2.2.1
    have hN : S 73 2 = B 241 1 := hR.1
    have hN6 : 0 ≤ B 241 1 ∧ B 241 1 ≤ 60 := hR.2.1
    have hpos4 : S 14 4 = (i : Int) := hP.1
    have hg0 : pg T n c i := hP.2
    have hA0 := pg_at hT hg0
    have h16_0 := hA0.1
    have h15_0 := hA0.2.1
    have hpr0 := hA0.2.2
    have hkr0 := kg_rg T n (tp T n 1 i)
    have hcn : (c : Int) ≤ n ∧ n ≤ 65536 := ⟨hT.2.2.2.2.1, hT.2.2.2.2.2.1⟩
    have hRL := hT.2.2.2.2.2.2
    have hl15 : S 14 3 ≤ S 15 (-1) := hRL.1.2
    have hl16 : S 16 (-1) = S 15 (-1) := hRL.2.1
    have hl17 : S 17 (-1) = S 15 (-1) := hRL.2.2.1
    have hc3 : S 14 3 = (c : Int) + 1 := hT.1
    have hic0 : i ≤ c := hg0.1
    have hz0 : zq A (tp T n 1 i) 237 6 = lx_tk T n 1 (tp T n 1 i) := zT_6 hA
    have hk5 := kg_5 T n (tp T n 1 i)
    have hk00 := kg_0 T n (tp T n 1 i)
    have htk0 : kg T n (tp T n 1 i) ≠ 0 → ¬ zq A (tp T n 1 i) 237 6 = 0 := by
      intro z1 z2
      rw [hz0] at z2
      have := tk_n0 (T := T) (n := n) (h := 1) (p := tp T n 1 i) (by have := mt hk00.2 z1; omega)
      omega
    have cz1 : ∀ (Z0 : wS), Z0 = S → cz_ag 97 73 87 114 115 (cs.length : Int) (ms.length : Int) S Z0 := fun Z0 e => by rw [e]; exact fun _ _ _ _ _ _ _ _ _ _ => rfl
    refine wa_iload_n (n := 1) rfl ?_
    refine wa_aload_n (n := 0) rfl ?_
    refine wb_gf4 61 rfl (wy_pr rfl) wt_61 wf_4_0 (v := 14) wl_61_0 ?_
    refine wb_gfi 14 rfl (wy_pr rfl) wt_14 wf_6_3 (v := ((c : Int) + 1)) (hT.1) (fun r1 => ?_)
    refine wa_icmpge (w_rg0 (by omega) (by omega)) (w_rg0 (by omega) (by omega)) ⟨_, rfl⟩ (fun c2 => ?_) (fun c2 => ?_)
    · skip
      refine wa_return rfl ?_
      first | (exfalso; omega) | exact hk cs ms os S (by rw [ho_f_s_241, if_pos (by rw [hz0]; exact tk_0 (hk00.1 (by omega)))]) hj
    · skip
      refine wa_aload_n (n := 0) rfl ?_
      refine wb_gf4 61 rfl (wy_pr rfl) wt_61 wf_4_0 (v := 14) wl_61_0 ?_
      refine wa_cv 14 rfl (wy_pr rfl) wt_14 (M2 := fun _ => False) rfl at_XR_kind ⟨_, rfl⟩ rfl rfl ⟨(Or.inr ⟨wy_pr rfl, fun q => q⟩), trivial, trivial⟩ trivial (fun _ _ q => False.elim q) ?_ (fun _ _ _ q => q)
      refine wa_aload_n (n := 0) rfl ?_
      refine wb_gf4 14 rfl (wy_pr rfl) wt_14 wf_6_0 (v := 15) wl_14_0 ?_
      refine wa_aload_n (n := 0) rfl ?_
      refine wb_gfi 14 rfl (wy_pr rfl) wt_14 wf_6_4 (v := (i : Int)) (hpos4) (fun r3 => ?_)
      refine wb_bald 15 rfl (wy_pr rfl) wt_15 (n := (S 15 (-1))) rfl (by omega) (by omega) (v := (kg T n (tp T n 1 i))) (h15_0) (fun r4 => ?_)
      refine wa_ireturn rfl ?_
      show wJ _ _ _ _ _ _ _ _ _ _
      refine wa_ifeq (w_rg0 (by omega) (by omega)) ⟨_, rfl⟩ (fun c5 => ?_) (fun c5 => ?_)
      · skip
        refine wa_return rfl ?_
        first | (exfalso; omega) | exact hk cs ms os S (by rw [ho_f_s_241, if_pos (by rw [hz0]; exact tk_0 (hk00.1 (by omega)))]) hj
      · skip
        refine wa_aload_n (n := 0) rfl ?_
        refine wa_cv 61 rfl (wy_pr rfl) wt_61 (M2 := fun _ => False) rfl at_XT_wordHere ⟨_, rfl⟩ rfl rfl ⟨(Or.inr ⟨wy_pr rfl, fun q => q⟩), trivial, trivial⟩ trivial (fun _ _ q => False.elim q) (wh_c (S := S) (hx_T hx) (show cx_P T n c (i) S from ⟨(hpos4), hg0⟩) rfl hI) (fun oq8 Sq8 hp9 q8 => ?_)
        rcases q8 with ⟨hw6, rfl, rfl⟩ | ⟨hw6, v, rfl, hrz⟩
        · skip
          show wJ _ _ _ _ _ _ _ _ _ _
          show wJ _ _ _ _ _ _ _ ((0, S 17 (i : Int)) :: _) _ _
          have hnt0 : nt_I S 74 T n (tp T n 1 i) (S 17 (i : Int)) := pg_nt hT hg0 hw6
          have hnv0 := hnt0.2.1
          refine wa_istore_n (n := 2) rfl ?_
          refine wa_iload_n (n := 2) rfl ?_
          refine wa_bipush (w_rg2 (by omega) (by omega)) ?_
          refine wa_icmpeq (w_rg0 (by omega) (by omega)) (w_rg0 (by omega) (by omega)) ⟨_, rfl⟩ (fun c10 => ?_) (fun c10 => ?_)
          · skip
            refine wa_aload_n (n := 0) rfl ?_
            refine wb_gf4 61 rfl (wy_pr rfl) wt_61 wf_4_0 (v := 14) wl_61_0 ?_
            refine wa_cv 14 rfl (wy_pr rfl) wt_14 (M2 := fun _ => False) rfl at_XR_next ⟨_, rfl⟩ rfl rfl ⟨trivial, (Or.inr ⟨wy_pr rfl, fun q => q⟩), trivial, trivial⟩ trivial (fun _ _ q => False.elim q) (nx_c (S := S) (hx_T hx) (show cx_P T n c (i) S from ⟨(hpos4), hg0⟩) rfl hI (by omega)) (fun oq11 Sq11 hp12 q11 => ?_)
            rcases q11 with ⟨rfl, rfl⟩
            show wJ _ _ _ _ _ _ _ _ _ _
            have hg1 : pg T n c (i + 1) := pg_next (i := i) hT hg0 (by omega) (by omega)
            have hA1 := pg_at hT hg1
            have h16_1 := hA1.1
            have h15_1 := hA1.2.1
            have hpr1 := hA1.2.2
            have hkr1 := kg_rg T n (tp T n 1 (i + 1))
            have hic1 := hg1.1
            have hlt1 := tp_lt (i := i) hT hg0 (by omega) (by omega)
            refine wa_aload_n (n := 0) rfl ?_
            refine wa_iload_n (n := 2) rfl ?_
            refine wa_bipush (w_rg2 (by omega) (by omega)) ?_
            refine wa_icmpne (w_rg0 (by omega) (by omega)) (w_rg0 (by omega) (by omega)) ⟨_, rfl⟩ (fun c13 => ?_) (fun c13 => ?_)
            · skip
              refine wa_iconst ?_
              refine wa_fall ⟨_, rfl⟩ ?_
              have hw10 := lx_w_k (k := 10) hB hW hrw (by decide) hwc.1 hnt0
              have hw9 := lx_w_k (k := 9) hB hW hrw (by decide) hwc.1 hnt0
              rw [show hwl 10 = tx_19 from rfl] at hw10
              rw [show hwl 9 = tx_17 from rfl] at hw9
              have hrc : rc_of_241 B (cs.length : Int) ms (tp T n 1 i) = rc_n_241 B (cs.length : Int) ms 0 (tp T n 1 (i + 1)) := by
                unfold rc_of_241; rw [if_neg (fun z => absurd (hw10.1 z) (by omega)), if_pos (hw9.2 (by omega)), tp_ne (i := i) hB]
              have hcp := rcp_73 (xs := xs) (d := d) J hJ hJu hJs (cs := cs) (ms := ms) (os := os) (itf := 0) (S := (w_up S 14 4 ((i + 1 : Nat) : Int))) (i := i + 1) hX (hJu cs ms os S _ hj) (show cx_P T n c (i + 1) (w_up S 14 4 ((i + 1 : Nat) : Int)) from ⟨(w_up_same _ _ _ _), hg1⟩) (by omega)
              rw [hBe] at hcp
              refine wa_cv 61 rfl (wy_pr rfl) wt_61 (M2 := mS [117, 118]) rfl at_XT_readClass ⟨_, rfl⟩ rfl rfl ⟨trivial, (Or.inr ⟨wy_pr rfl, mS_no rfl⟩), trivial, trivial⟩ trivial (fun _ _ q => q) (hcp) (fun oq14 Sq14 hp15 q14 => ?_)
              rcases q14 with ⟨i2, cr, ms2, os2, rfl, y1, y2, y3⟩ | ⟨e, q, v, Z0, rfl, y1, y2, y3⟩
              · skip
                show wJ _ _ _ _ _ _ _ _ _ _
                have hof : ho_f_241 A (f + 1) cs ms (tp T n 1 i) = ho_f_241 A f (cs ++ [cr]) ms2 (tp T n 1 i2) := by rw [ho_f_s_241, if_neg (htk0 (by omega)), hBe, hrc, y1]
                refine wa_iinc rfl rfl ?_
                refine wa_goto ⟨_, rfl⟩ ?_
                have hjx := hJ _ _ _ _ y3
                have hB4 : B 237 4 = n := hB.2.1
                have hbk : B 241 1 = (cs.length : Int) := by rw [← hBe]; exact if_pos ⟨rfl, rfl⟩
                have hlt := rc_n_gt_73 hB (by omega) ⟨by omega, by omega⟩ ⟨by omega, by omega⟩ hbk y1
                have hcl := (rc_n_ok_241 (by omega) hbk ⟨by omega, by omega⟩ y1).2
                have hlc : (cs ++ [cr]).length = cs.length + 1 := by rw [List.length_append]; rfl
                have hidx : i + 1 < i2 := (tp_idx hT hg1 hlt.1).resolve_right (fun z => z y2.2)
                exact wJ_S (ih i2 (cs ++ [cr]) ms2 os2 (u + 1) _ (by omega) y3 y2 ⟨by omega, by omega⟩ (fun cs2 ms3 os3 Z e1 => hk cs2 ms3 os3 Z (hof.trans e1)) (fun e q v cs2 ms3 os3 S2 Z0 Z e1 => hf e q v cs2 ms3 os3 S2 Z0 Z (hof.trans e1))) ⟨rfl, rfl, trivial⟩
              · skip
                have hof : ho_f_241 A (f + 1) cs ms (tp T n 1 i) = .inl (e, q) := by rw [ho_f_s_241, if_neg (htk0 (by omega)), hBe, hrc, y1]
                refine ⟨rfl, ?_⟩
                exact hf e q v cs ms os _ Z0 _ hof (hJu cs ms os S _ hj) y2 y3
            · skip
              exact absurd c13 (by omega)
          · skip
            refine wa_iload_n (n := 2) rfl ?_
            refine wa_bipush (w_rg2 (by omega) (by omega)) ?_
            refine wa_icmpeq (w_rg0 (by omega) (by omega)) (w_rg0 (by omega) (by omega)) ⟨_, rfl⟩ (fun c16 => ?_) (fun c16 => ?_)
            · skip
              refine wa_aload_n (n := 0) rfl ?_
              refine wb_gf4 61 rfl (wy_pr rfl) wt_61 wf_4_0 (v := 14) wl_61_0 ?_
              refine wa_cv 14 rfl (wy_pr rfl) wt_14 (M2 := fun _ => False) rfl at_XR_next ⟨_, rfl⟩ rfl rfl ⟨trivial, (Or.inr ⟨wy_pr rfl, fun q => q⟩), trivial, trivial⟩ trivial (fun _ _ q => False.elim q) (nx_c (S := S) (hx_T hx) (show cx_P T n c (i) S from ⟨(hpos4), hg0⟩) rfl hI (by omega)) (fun oq17 Sq17 hp18 q17 => ?_)
              rcases q17 with ⟨rfl, rfl⟩
              show wJ _ _ _ _ _ _ _ _ _ _
              have hg1 : pg T n c (i + 1) := pg_next (i := i) hT hg0 (by omega) (by omega)
              have hA1 := pg_at hT hg1
              have h16_1 := hA1.1
              have h15_1 := hA1.2.1
              have hpr1 := hA1.2.2
              have hkr1 := kg_rg T n (tp T n 1 (i + 1))
              have hic1 := hg1.1
              have hlt1 := tp_lt (i := i) hT hg0 (by omega) (by omega)
              refine wa_aload_n (n := 0) rfl ?_
              refine wa_iload_n (n := 2) rfl ?_
              refine wa_bipush (w_rg2 (by omega) (by omega)) ?_
              refine wa_icmpne (w_rg0 (by omega) (by omega)) (w_rg0 (by omega) (by omega)) ⟨_, rfl⟩ (fun c19 => ?_) (fun c19 => ?_)
              · skip
                exact absurd c19 (by omega)
              · skip
                refine wa_iconst ?_
                refine wa_goto ⟨_, rfl⟩ ?_
                have hw10 := lx_w_k (k := 10) hB hW hrw (by decide) hwc.1 hnt0
                have hw9 := lx_w_k (k := 9) hB hW hrw (by decide) hwc.1 hnt0
                rw [show hwl 10 = tx_19 from rfl] at hw10
                rw [show hwl 9 = tx_17 from rfl] at hw9
                have hrc : rc_of_241 B (cs.length : Int) ms (tp T n 1 i) = rc_n_241 B (cs.length : Int) ms 1 (tp T n 1 (i + 1)) := by
                  unfold rc_of_241; rw [if_pos (hw10.2 (by omega)), tp_ne (i := i) hB]
                have hcp := rcp_73 (xs := xs) (d := d) J hJ hJu hJs (cs := cs) (ms := ms) (os := os) (itf := 1) (S := (w_up S 14 4 ((i + 1 : Nat) : Int))) (i := i + 1) hX (hJu cs ms os S _ hj) (show cx_P T n c (i + 1) (w_up S 14 4 ((i + 1 : Nat) : Int)) from ⟨(w_up_same _ _ _ _), hg1⟩) (by omega)
                rw [hBe] at hcp
                refine wa_cv 61 rfl (wy_pr rfl) wt_61 (M2 := mS [117, 118]) rfl at_XT_readClass ⟨_, rfl⟩ rfl rfl ⟨trivial, (Or.inr ⟨wy_pr rfl, mS_no rfl⟩), trivial, trivial⟩ trivial (fun _ _ q => q) (hcp) (fun oq20 Sq20 hp21 q20 => ?_)
                rcases q20 with ⟨i2, cr, ms2, os2, rfl, y1, y2, y3⟩ | ⟨e, q, v, Z0, rfl, y1, y2, y3⟩
                · skip
                  show wJ _ _ _ _ _ _ _ _ _ _
                  have hof : ho_f_241 A (f + 1) cs ms (tp T n 1 i) = ho_f_241 A f (cs ++ [cr]) ms2 (tp T n 1 i2) := by rw [ho_f_s_241, if_neg (htk0 (by omega)), hBe, hrc, y1]
                  refine wa_iinc rfl rfl ?_
                  refine wa_goto ⟨_, rfl⟩ ?_
                  have hjx := hJ _ _ _ _ y3
                  have hB4 : B 237 4 = n := hB.2.1
                  have hbk : B 241 1 = (cs.length : Int) := by rw [← hBe]; exact if_pos ⟨rfl, rfl⟩
                  have hlt := rc_n_gt_73 hB (by omega) ⟨by omega, by omega⟩ ⟨by omega, by omega⟩ hbk y1
                  have hcl := (rc_n_ok_241 (by omega) hbk ⟨by omega, by omega⟩ y1).2
                  have hlc : (cs ++ [cr]).length = cs.length + 1 := by rw [List.length_append]; rfl
                  have hidx : i + 1 < i2 := (tp_idx hT hg1 hlt.1).resolve_right (fun z => z y2.2)
                  exact wJ_S (ih i2 (cs ++ [cr]) ms2 os2 (u + 1) _ (by omega) y3 y2 ⟨by omega, by omega⟩ (fun cs2 ms3 os3 Z e1 => hk cs2 ms3 os3 Z (hof.trans e1)) (fun e q v cs2 ms3 os3 S2 Z0 Z e1 => hf e q v cs2 ms3 os3 S2 Z0 Z (hof.trans e1))) ⟨rfl, rfl, trivial⟩
                · skip
                  have hof : ho_f_241 A (f + 1) cs ms (tp T n 1 i) = .inl (e, q) := by rw [ho_f_s_241, if_neg (htk0 (by omega)), hBe, hrc, y1]
                  refine ⟨rfl, ?_⟩
                  exact hf e q v cs ms os _ Z0 _ hof (hJu cs ms os S _ hj) y2 y3
            · skip
              refine wa_aload_n (n := 0) rfl ?_
              refine wa_iconst ?_
              refine wa_cv 61 rfl (wy_pr rfl) wt_61 (M2 := fun _ => False) rfl at_XT_refuse ⟨_, rfl⟩ rfl rfl ⟨trivial, (Or.inr ⟨wy_pr rfl, fun q => q⟩), trivial, trivial⟩ trivial (fun _ _ q => False.elim q) (rf_c (S := S) (k := 1) (p := (tp T n 1 i)) (i := (i : Int)) hI (hpos4) (h16_0) ⟨by omega, by have e : S 16 (-1) = S 16 (-1) := rfl; omega⟩ ⟨by omega, by omega⟩ ⟨by omega, by omega⟩) (fun oq23 Sq23 hp24 q23 => ?_)
              rcases q23 with ⟨v, rfl, rz22⟩
              have hrz := rz22
              have hkind : (1 : Int) = 1 := rfl
              refine ⟨rfl, ?_⟩
              have hw10 := lx_w_k (k := 10) hB hW hrw (by decide) hwc.1 hnt0
              have hw9 := lx_w_k (k := 9) hB hW hrw (by decide) hwc.1 hnt0
              rw [show hwl 10 = tx_19 from rfl] at hw10
              rw [show hwl 9 = tx_17 from rfl] at hw9
              have hrc : rc_of_241 B (cs.length : Int) ms (tp T n 1 i) = .inl (1, tp T n 1 i) := by unfold rc_of_241; rw [if_neg (fun z => absurd (hw10.1 z) (by omega)), if_neg (fun z => absurd (hw9.1 z) (by omega))]
              exact hf 1 _ v cs ms os S _ _ (by rw [ho_f_s_241, if_neg (htk0 (by omega)), hBe, hrc]) hj (cz1 _ rfl) hrz
        · skip
          have hkg := hw6
          refine ⟨rfl, ?_⟩
          have z6 : zq B (tp T n 1 i) 237 6 ≠ 1 := by rw [zT_6 hB]; exact fun z => hkg (hk5.2 z)
          have hrc : rc_of_241 B (cs.length : Int) ms (tp T n 1 i) = .inl (1, tp T n 1 i) := by unfold rc_of_241; rw [if_neg (lx_w_no z6), if_neg (lx_w_no z6)]
          exact hf 1 _ v cs ms os S _ _ (by rw [ho_f_s_241, if_neg (htk0 (by omega)), hBe, hrc]) hj (cz1 _ rfl) hrz
theorem rcp_162 (J : List hCR → List hMR → (Int → List Int) → wS → Prop) (hJ : ∀ (cs : List hCR) (ms : List hMR) (os : Int → List Int) (S : wS), J cs ms os S → hx_I 261 162 176 181 163 T n c (hq_cn A 261 cs) S ∧ tb_I 176 205 206 207 163 S (cs.length : Int) (ms.length : Int) ∧ (∀ q : Int, 0 ≤ q → q < (cs.length : Int) → od_1 182 203 204 S q (os q)) ∧ mr_all 186 163 T S ms ∧ S 162 4 = (ms.length : Int)) (hJu : ∀ (cs : List hCR) (ms : List hMR) (os : Int → List Int) (S : wS) (x : Int), J cs ms os S → J cs ms os (w_up S 14 4 x)) (hJs : ∀ (cs : List hCR) (ms : List hMR) (os : Int → List Int) (S : wS) (i : Nat) (itf : Int) (S3 : wS) (a al : Int) (l : List Int) (Zo : wS) (i2 : Nat) (ms2 : List hMR) (Zm Z1 Zf : wS), J cs ms os S → cx_P T n c i S → (itf = 0 ∨ itf = 1) → rc_n_261 (hq_cn A 261 cs) (cs.length : Int) ms itf (tp T n 1 (i)) = .inr (tp T n 1 (i2 + 1), (itf, (tp T n 1 (i)), zq (hq_cn A 261 cs) (tp T n 1 (i)) 237 8, a, l, al, (ms.length : Int), (ms2.length : Int) - (ms.length : Int)), ms2) → (∀ j : Nat, j ≠ 14 → j ≠ 61 → j ≠ 62 → S3 j = S j) → ((∀ y : Int, y ≠ 4 → S3 14 y = S 14 y) ∧ (∀ y : Int, y ≠ 4 → S3 61 y = S 61 y) ∧ ∀ y : Int, y < 0 → S3 62 y = S 62 y) → su_nd (cs.length : Int) l → (-1 ≤ a ∧ a < (cs.length : Int)) → oz_ag 182 203 204 (cs.length : Int) (w_up (w_up (w_up (w_up (w_up (w_up (w_up S3 176 (cs.length : Int) itf) 177 (cs.length : Int) a) 179 (cs.length : Int) 0) 180 (cs.length : Int) (ms.length : Int)) 181 (cs.length : Int) (S 17 ((i : Nat) : Int))) 162 2 ((cs.length : Int) + 1)) 178 (cs.length : Int) (l.length : Int)) Zo → od_1 182 203 204 Zo (cs.length : Int) (so_L ((w_up (w_up (w_up (w_up (w_up (w_up S3 176 (cs.length : Int) itf) 177 (cs.length : Int) a) 179 (cs.length : Int) 0) 180 (cs.length : Int) (ms.length : Int)) 181 (cs.length : Int) (S 17 ((i : Nat) : Int))) 162 2 ((cs.length : Int) + 1)) 176) ((w_up (w_up (w_up (w_up (w_up (w_up S3 176 (cs.length : Int) itf) 177 (cs.length : Int) a) 179 (cs.length : Int) 0) 180 (cs.length : Int) (ms.length : Int)) 181 (cs.length : Int) (S 17 ((i : Nat) : Int))) 162 2 ((cs.length : Int) + 1)) 177) os (cs.length : Int) l) → kg T n (tp T n 1 i2) = 13 → mz_ag 186 162 176 (cs.length : Int) (ms.length : Int) Zo Zm → hx_I 261 162 176 181 163 T n c (w_up (w_up (w_up (w_up (w_up (w_up (w_up (w_up (w_up (hq_cn A 261 cs) 263 (cs.length : Int) itf) 270 (cs.length : Int) (tp T n 1 (i))) 271 (cs.length : Int) (zq (hq_cn A 261 cs) (tp T n 1 (i)) 237 8)) 264 (cs.length : Int) (-1)) 265 (cs.length : Int) 0) 267 (cs.length : Int) (wb_lshl 1 (cs.length : Int))) 268 (cs.length : Int) ((hq_cn A 261 cs) 261 11)) 269 (cs.length : Int) 0) 261 1 ((cs.length : Int) + 1)) Zm → cx_P T n c i2 Zm → mr_all 186 163 T Zm ms2 → Zm 162 4 = (ms2.length : Int) → ms.length ≤ ms2.length → Zm 179 (cs.length : Int) = (ms2.length : Int) - (ms.length : Int) → le_I 186 176 205 206 207 208 (ms.length : Int) (cs.length : Int) (S3 205 2) (if a = -1 then 0 else S3 183 a) (if a = -1 then -1 else S3 184 a) (ms2.drop ms.length) (w_up (w_up (w_up Zm 14 4 ((i2 + 1 : Nat) : Int)) 183 (cs.length : Int) (if a = -1 then 0 else S3 183 a)) 184 (cs.length : Int) (if a = -1 then -1 else S3 184 a)) Z1 (ms2.drop ms.length).length → l2_I 186 176 163 208 (ms.length : Int) (ms2.drop ms.length) Z1 Zf (ms2.drop ms.length).length → J (cs ++ [(itf, (tp T n 1 (i)), zq (hq_cn A 261 cs) (tp T n 1 (i)) 237 8, a, l, al, (ms.length : Int), (ms2.length : Int) - (ms.length : Int))]) ms2 (fun q => if q = (cs.length : Int) then (so_L ((w_up (w_up (w_up (w_up (w_up (w_up S3 176 (cs.length : Int) itf) 177 (cs.length : Int) a) 179 (cs.length : Int) 0) 180 (cs.length : Int) (ms.length : Int)) 181 (cs.length : Int) (S 17 ((i : Nat) : Int))) 162 2 ((cs.length : Int) + 1)) 176) ((w_up (w_up (w_up (w_up (w_up (w_up S3 176 (cs.length : Int) itf) 177 (cs.length : Int) a) 179 (cs.length : Int) 0) 180 (cs.length : Int) (ms.length : Int)) 181 (cs.length : Int) (S 17 ((i : Nat) : Int))) 162 2 ((cs.length : Int) + 1)) 177) os (cs.length : Int) l) else os q) Zf) {cs : List hCR} {ms : List hMR} {os : Int → List Int} {itf : Int} (hX : w_X xs) (h : J cs ms os S) (hP : cx_P T n c i S) (hit : itf = 0 ∨ itf = 1) : wJ (pe_GA xs) wY0 (mS [206, 207]) (d + 11) t_XT_readClass ((pe_at t_XT_readClass.bl 0).getD (0, [])).2 [(0, (2, 61)), (1, (0, itf))] [] S (fun o Z => (∃ (i2 : Nat) (cr : hCR) (ms2 : List hMR) (os2 : Int → List Int), o = .inl none ∧ rc_n_261 (hq_cn A 261 cs) (cs.length : Int) ms itf (tp T n 1 (i)) = .inr (tp T n 1 i2, cr, ms2) ∧ cx_P T n c i2 Z ∧ J (cs ++ [cr]) ms2 os2 Z) ∨ (∃ (e q : Int) (v : Nat) (Z0 : wS), o = .inr v ∧ rc_n_261 (hq_cn A 261 cs) (cs.length : Int) ms itf (tp T n 1 (i)) = .inl (e, q) ∧ cz_ag 186 162 176 203 204 (cs.length : Int) (ms.length : Int) S Z0 ∧ rz_ag Z0 Z v (e + 16 * q))) := by
  obtain ⟨j1, j2, j3, j4, j5⟩ := hJ cs ms os S h
  have hk0 : (hq_cn A 261 cs) 261 1 = (cs.length : Int) := if_pos ⟨rfl, rfl⟩
  refine rcl_162 (B := (hq_cn A 261 cs)) (k0 := (cs.length : Int)) (itf := itf) (ms := ms) (os := os) hX j1 hP hk0 hit j2 j3 j4 j5 (fun S3 a al l Zo i2 ms2 Zm Z1 Zf y1 y2 y3 y4 y5 y6 y7 y8 y9 y10 y11 y12 y13 y14 y15 y16 y17 => ?_) (fun e q v Z0 Z y1 y2 y3 => Or.inr ⟨e, q, v, Z0, rfl, y1, y2, y3⟩)
  refine Or.inl ⟨i2 + 1, _, ms2, _, rfl, y1, ⟨?_, ?_⟩, hJs cs ms os S i itf S3 a al l Zo i2 ms2 Zm Z1 Zf h hP hit y1 y2 y3 y4 y5 y6 y7 y8 y9 y10 y11 y12 y13 y14 y15 y16 y17⟩
  · refine (y17.1 14 4 (by omega) (by omega)).trans ((y16.1.1 14 4 (by decide) (by decide) (by decide) (by decide) (by omega) (by omega) (by omega) (by omega)).trans ?_)
    rw [w_up_slot (by decide), w_up_slot (by decide), w_up_same]
  · exact pg_next (i := i2) y10.2.1 y11.2 (by omega) (by omega)
theorem rcs_162 (J : List hCR → List hMR → (Int → List Int) → wS → Prop) (hJ : ∀ (cs : List hCR) (ms : List hMR) (os : Int → List Int) (S : wS), J cs ms os S → hx_I 261 162 176 181 163 T n c (hq_cn A 261 cs) S ∧ tb_I 176 205 206 207 163 S (cs.length : Int) (ms.length : Int) ∧ (∀ q : Int, 0 ≤ q → q < (cs.length : Int) → od_1 182 203 204 S q (os q)) ∧ mr_all 186 163 T S ms ∧ S 162 4 = (ms.length : Int)) (hJu : ∀ (cs : List hCR) (ms : List hMR) (os : Int → List Int) (S : wS) (x : Int), J cs ms os S → J cs ms os (w_up S 14 4 x)) (hJs : ∀ (cs : List hCR) (ms : List hMR) (os : Int → List Int) (S : wS) (i : Nat) (itf : Int) (S3 : wS) (a al : Int) (l : List Int) (Zo : wS) (i2 : Nat) (ms2 : List hMR) (Zm Z1 Zf : wS), J cs ms os S → cx_P T n c i S → (itf = 0 ∨ itf = 1) → rc_n_261 (hq_cn A 261 cs) (cs.length : Int) ms itf (tp T n 1 (i)) = .inr (tp T n 1 (i2 + 1), (itf, (tp T n 1 (i)), zq (hq_cn A 261 cs) (tp T n 1 (i)) 237 8, a, l, al, (ms.length : Int), (ms2.length : Int) - (ms.length : Int)), ms2) → (∀ j : Nat, j ≠ 14 → j ≠ 61 → j ≠ 62 → S3 j = S j) → ((∀ y : Int, y ≠ 4 → S3 14 y = S 14 y) ∧ (∀ y : Int, y ≠ 4 → S3 61 y = S 61 y) ∧ ∀ y : Int, y < 0 → S3 62 y = S 62 y) → su_nd (cs.length : Int) l → (-1 ≤ a ∧ a < (cs.length : Int)) → oz_ag 182 203 204 (cs.length : Int) (w_up (w_up (w_up (w_up (w_up (w_up (w_up S3 176 (cs.length : Int) itf) 177 (cs.length : Int) a) 179 (cs.length : Int) 0) 180 (cs.length : Int) (ms.length : Int)) 181 (cs.length : Int) (S 17 ((i : Nat) : Int))) 162 2 ((cs.length : Int) + 1)) 178 (cs.length : Int) (l.length : Int)) Zo → od_1 182 203 204 Zo (cs.length : Int) (so_L ((w_up (w_up (w_up (w_up (w_up (w_up S3 176 (cs.length : Int) itf) 177 (cs.length : Int) a) 179 (cs.length : Int) 0) 180 (cs.length : Int) (ms.length : Int)) 181 (cs.length : Int) (S 17 ((i : Nat) : Int))) 162 2 ((cs.length : Int) + 1)) 176) ((w_up (w_up (w_up (w_up (w_up (w_up S3 176 (cs.length : Int) itf) 177 (cs.length : Int) a) 179 (cs.length : Int) 0) 180 (cs.length : Int) (ms.length : Int)) 181 (cs.length : Int) (S 17 ((i : Nat) : Int))) 162 2 ((cs.length : Int) + 1)) 177) os (cs.length : Int) l) → kg T n (tp T n 1 i2) = 13 → mz_ag 186 162 176 (cs.length : Int) (ms.length : Int) Zo Zm → hx_I 261 162 176 181 163 T n c (w_up (w_up (w_up (w_up (w_up (w_up (w_up (w_up (w_up (hq_cn A 261 cs) 263 (cs.length : Int) itf) 270 (cs.length : Int) (tp T n 1 (i))) 271 (cs.length : Int) (zq (hq_cn A 261 cs) (tp T n 1 (i)) 237 8)) 264 (cs.length : Int) (-1)) 265 (cs.length : Int) 0) 267 (cs.length : Int) (wb_lshl 1 (cs.length : Int))) 268 (cs.length : Int) ((hq_cn A 261 cs) 261 11)) 269 (cs.length : Int) 0) 261 1 ((cs.length : Int) + 1)) Zm → cx_P T n c i2 Zm → mr_all 186 163 T Zm ms2 → Zm 162 4 = (ms2.length : Int) → ms.length ≤ ms2.length → Zm 179 (cs.length : Int) = (ms2.length : Int) - (ms.length : Int) → le_I 186 176 205 206 207 208 (ms.length : Int) (cs.length : Int) (S3 205 2) (if a = -1 then 0 else S3 183 a) (if a = -1 then -1 else S3 184 a) (ms2.drop ms.length) (w_up (w_up (w_up Zm 14 4 ((i2 + 1 : Nat) : Int)) 183 (cs.length : Int) (if a = -1 then 0 else S3 183 a)) 184 (cs.length : Int) (if a = -1 then -1 else S3 184 a)) Z1 (ms2.drop ms.length).length → l2_I 186 176 163 208 (ms.length : Int) (ms2.drop ms.length) Z1 Zf (ms2.drop ms.length).length → J (cs ++ [(itf, (tp T n 1 (i)), zq (hq_cn A 261 cs) (tp T n 1 (i)) 237 8, a, l, al, (ms.length : Int), (ms2.length : Int) - (ms.length : Int))]) ms2 (fun q => if q = (cs.length : Int) then (so_L ((w_up (w_up (w_up (w_up (w_up (w_up S3 176 (cs.length : Int) itf) 177 (cs.length : Int) a) 179 (cs.length : Int) 0) 180 (cs.length : Int) (ms.length : Int)) 181 (cs.length : Int) (S 17 ((i : Nat) : Int))) 162 2 ((cs.length : Int) + 1)) 176) ((w_up (w_up (w_up (w_up (w_up (w_up S3 176 (cs.length : Int) itf) 177 (cs.length : Int) a) 179 (cs.length : Int) 0) 180 (cs.length : Int) (ms.length : Int)) 181 (cs.length : Int) (S 17 ((i : Nat) : Int))) 162 2 ((cs.length : Int) + 1)) 177) os (cs.length : Int) l) else os q) Zf) (hX : w_X xs) (hA : zT A T n) : ∀ (f i : Nat) (cs : List hCR) (ms : List hMR) (os : Int → List Int) (u : Int) (S : wS), 60 - cs.length < f → J cs ms os S → cx_P T n c i S → (0 ≤ u ∧ u ≤ (i : Int)) → (hk : ∀ (cs2 : List hCR) (ms2 : List hMR) (os2 : Int → List Int) (Z : wS), ho_f_261 A f cs ms (tp T n 1 i) = .inr (cs2, ms2) → J cs2 ms2 os2 Z → Q (.inl none) Z) → (hf : ∀ (e q : Int) (v : Nat) (cs2 : List hCR) (ms2 : List hMR) (os2 : Int → List Int) (S2 Z0 Z : wS), ho_f_261 A f cs ms (tp T n 1 i) = .inl (e, q) → J cs2 ms2 os2 S2 → cz_ag 186 162 176 203 204 (cs2.length : Int) (ms2.length : Int) S2 Z0 → rz_ag Z0 Z v (e + 16 * q) → Q (.inr v) Z) → wJ (pe_GA xs) wY0 (mS [206, 207]) (d + 12) t_XT_readClasses ((pe_at t_XT_readClasses.bl 1).getD (0, [])).2 [(0, (2, 61)), (1, (0, u))] [] S Q := by
  intro f
  induction f with
  | zero => intro i cs ms os u S h; exact absurd h (Nat.not_lt_zero _)
  | succ f ih =>
    intro i cs ms os u S hf0 hj hP hu hk hf
    obtain ⟨hx, j2, j3, j4, j5⟩ := hJ cs ms os S hj
    generalize hBe : (hq_cn A 261 cs) = B at hx
    have hB : zT B T n := hx.1
    have hT : cx_T 163 T n c S := hx.2.1
    have hI : gI S := hx.2.2.1
    have hW : wd_at S 163 64 := hx.2.2.2.1
    have hrw : rw_I S 163 := hx.2.2.2.2.1
    have hwc : 13 ≤ S 163 7 ∧ S 163 7 ≤ 400000 := hx.2.2.2.2.2.1
    have hR : cn_R 261 162 176 181 163 T B S := hx.2.2.2.2.2.2.1
    have hH : S 61 1 = 162 := hx.2.2.2.2.2.2.2
    have hC : w_CL S := hR.2.2.1
    have hN : S 162 2 = B 261 1 := hR.1
    have hN6 : 0 ≤ B 261 1 ∧ B 261 1 ≤ 60 := hR.2.1
    have hpos4 : S 14 4 = (i : Int) := hP.1
    have hg0 : pg T n c i := hP.2
    have hA0 := pg_at hT hg0
    have h16_0 := hA0.1
    have h15_0 := hA0.2.1
    have hpr0 := hA0.2.2
    have hkr0 := kg_rg T n (tp T n 1 i)
    have hcn : (c : Int) ≤ n ∧ n ≤ 65536 := ⟨hT.2.2.2.2.1, hT.2.2.2.2.2.1⟩
    have hRL := hT.2.2.2.2.2.2
    have hl15 : S 14 3 ≤ S 15 (-1) := hRL.1.2
    have hl16 : S 16 (-1) = S 15 (-1) := hRL.2.1
    have hl17 : S 17 (-1) = S 15 (-1) := hRL.2.2.1
    have hc3 : S 14 3 = (c : Int) + 1 := hT.1
    have hic0 : i ≤ c := hg0.1
    have hz0 : zq A (tp T n 1 i) 237 6 = lx_tk T n 1 (tp T n 1 i) := zT_6 hA
    have hk5 := kg_5 T n (tp T n 1 i)
    have hk00 := kg_0 T n (tp T n 1 i)
    have htk0 : kg T n (tp T n 1 i) ≠ 0 → ¬ zq A (tp T n 1 i) 237 6 = 0 := by
      intro z1 z2
      rw [hz0] at z2
      have := tk_n0 (T := T) (n := n) (h := 1) (p := tp T n 1 i) (by have := mt hk00.2 z1; omega)
      omega
    have cz1 : ∀ (Z0 : wS), Z0 = S → cz_ag 186 162 176 203 204 (cs.length : Int) (ms.length : Int) S Z0 := fun Z0 e => by rw [e]; exact fun _ _ _ _ _ _ _ _ _ _ => rfl
    refine wa_iload_n (n := 1) rfl ?_
    refine wa_aload_n (n := 0) rfl ?_
    refine wb_gf4 61 rfl (wy_pr rfl) wt_61 wf_4_0 (v := 14) wl_61_0 ?_
    refine wb_gfi 14 rfl (wy_pr rfl) wt_14 wf_6_3 (v := ((c : Int) + 1)) (hT.1) (fun r1 => ?_)
    refine wa_icmpge (w_rg0 (by omega) (by omega)) (w_rg0 (by omega) (by omega)) ⟨_, rfl⟩ (fun c2 => ?_) (fun c2 => ?_)
    · skip
      refine wa_return rfl ?_
      first | (exfalso; omega) | exact hk cs ms os S (by rw [ho_f_s_261, if_pos (by rw [hz0]; exact tk_0 (hk00.1 (by omega)))]) hj
    · skip
      refine wa_aload_n (n := 0) rfl ?_
      refine wb_gf4 61 rfl (wy_pr rfl) wt_61 wf_4_0 (v := 14) wl_61_0 ?_
      refine wa_cv 14 rfl (wy_pr rfl) wt_14 (M2 := fun _ => False) rfl at_XR_kind ⟨_, rfl⟩ rfl rfl ⟨(Or.inr ⟨wy_pr rfl, fun q => q⟩), trivial, trivial⟩ trivial (fun _ _ q => False.elim q) ?_ (fun _ _ _ q => q)
      refine wa_aload_n (n := 0) rfl ?_
      refine wb_gf4 14 rfl (wy_pr rfl) wt_14 wf_6_0 (v := 15) wl_14_0 ?_
      refine wa_aload_n (n := 0) rfl ?_
      refine wb_gfi 14 rfl (wy_pr rfl) wt_14 wf_6_4 (v := (i : Int)) (hpos4) (fun r3 => ?_)
      refine wb_bald 15 rfl (wy_pr rfl) wt_15 (n := (S 15 (-1))) rfl (by omega) (by omega) (v := (kg T n (tp T n 1 i))) (h15_0) (fun r4 => ?_)
      refine wa_ireturn rfl ?_
      show wJ _ _ _ _ _ _ _ _ _ _
      refine wa_ifeq (w_rg0 (by omega) (by omega)) ⟨_, rfl⟩ (fun c5 => ?_) (fun c5 => ?_)
      · skip
        refine wa_return rfl ?_
        first | (exfalso; omega) | exact hk cs ms os S (by rw [ho_f_s_261, if_pos (by rw [hz0]; exact tk_0 (hk00.1 (by omega)))]) hj
      · skip
        refine wa_aload_n (n := 0) rfl ?_
        refine wa_cv 61 rfl (wy_pr rfl) wt_61 (M2 := fun _ => False) rfl at_XT_wordHere ⟨_, rfl⟩ rfl rfl ⟨(Or.inr ⟨wy_pr rfl, fun q => q⟩), trivial, trivial⟩ trivial (fun _ _ q => False.elim q) (wh_c (S := S) (hx_T hx) (show cx_P T n c (i) S from ⟨(hpos4), hg0⟩) rfl hI) (fun oq8 Sq8 hp9 q8 => ?_)
        rcases q8 with ⟨hw6, rfl, rfl⟩ | ⟨hw6, v, rfl, hrz⟩
        · skip
          show wJ _ _ _ _ _ _ _ _ _ _
          show wJ _ _ _ _ _ _ _ ((0, S 17 (i : Int)) :: _) _ _
          have hnt0 : nt_I S 163 T n (tp T n 1 i) (S 17 (i : Int)) := pg_nt hT hg0 hw6
          have hnv0 := hnt0.2.1
          refine wa_istore_n (n := 2) rfl ?_
          refine wa_iload_n (n := 2) rfl ?_
          refine wa_bipush (w_rg2 (by omega) (by omega)) ?_
          refine wa_icmpeq (w_rg0 (by omega) (by omega)) (w_rg0 (by omega) (by omega)) ⟨_, rfl⟩ (fun c10 => ?_) (fun c10 => ?_)
          · skip
            refine wa_aload_n (n := 0) rfl ?_
            refine wb_gf4 61 rfl (wy_pr rfl) wt_61 wf_4_0 (v := 14) wl_61_0 ?_
            refine wa_cv 14 rfl (wy_pr rfl) wt_14 (M2 := fun _ => False) rfl at_XR_next ⟨_, rfl⟩ rfl rfl ⟨trivial, (Or.inr ⟨wy_pr rfl, fun q => q⟩), trivial, trivial⟩ trivial (fun _ _ q => False.elim q) (nx_c (S := S) (hx_T hx) (show cx_P T n c (i) S from ⟨(hpos4), hg0⟩) rfl hI (by omega)) (fun oq11 Sq11 hp12 q11 => ?_)
            rcases q11 with ⟨rfl, rfl⟩
            show wJ _ _ _ _ _ _ _ _ _ _
            have hg1 : pg T n c (i + 1) := pg_next (i := i) hT hg0 (by omega) (by omega)
            have hA1 := pg_at hT hg1
            have h16_1 := hA1.1
            have h15_1 := hA1.2.1
            have hpr1 := hA1.2.2
            have hkr1 := kg_rg T n (tp T n 1 (i + 1))
            have hic1 := hg1.1
            have hlt1 := tp_lt (i := i) hT hg0 (by omega) (by omega)
            refine wa_aload_n (n := 0) rfl ?_
            refine wa_iload_n (n := 2) rfl ?_
            refine wa_bipush (w_rg2 (by omega) (by omega)) ?_
            refine wa_icmpne (w_rg0 (by omega) (by omega)) (w_rg0 (by omega) (by omega)) ⟨_, rfl⟩ (fun c13 => ?_) (fun c13 => ?_)
            · skip
              refine wa_iconst ?_
              refine wa_fall ⟨_, rfl⟩ ?_
              have hw10 := lx_w_k (k := 10) hB hW hrw (by decide) hwc.1 hnt0
              have hw9 := lx_w_k (k := 9) hB hW hrw (by decide) hwc.1 hnt0
              rw [show hwl 10 = tx_19 from rfl] at hw10
              rw [show hwl 9 = tx_17 from rfl] at hw9
              have hrc : rc_of_261 B (cs.length : Int) ms (tp T n 1 i) = rc_n_261 B (cs.length : Int) ms 0 (tp T n 1 (i + 1)) := by
                unfold rc_of_261; rw [if_neg (fun z => absurd (hw10.1 z) (by omega)), if_pos (hw9.2 (by omega)), tp_ne (i := i) hB]
              have hcp := rcp_162 (xs := xs) (d := d) J hJ hJu hJs (cs := cs) (ms := ms) (os := os) (itf := 0) (S := (w_up S 14 4 ((i + 1 : Nat) : Int))) (i := i + 1) hX (hJu cs ms os S _ hj) (show cx_P T n c (i + 1) (w_up S 14 4 ((i + 1 : Nat) : Int)) from ⟨(w_up_same _ _ _ _), hg1⟩) (by omega)
              rw [hBe] at hcp
              refine wa_cv 61 rfl (wy_pr rfl) wt_61 (M2 := mS [206, 207]) rfl at_XT_readClass ⟨_, rfl⟩ rfl rfl ⟨trivial, (Or.inr ⟨wy_pr rfl, mS_no rfl⟩), trivial, trivial⟩ trivial (fun _ _ q => q) (hcp) (fun oq14 Sq14 hp15 q14 => ?_)
              rcases q14 with ⟨i2, cr, ms2, os2, rfl, y1, y2, y3⟩ | ⟨e, q, v, Z0, rfl, y1, y2, y3⟩
              · skip
                show wJ _ _ _ _ _ _ _ _ _ _
                have hof : ho_f_261 A (f + 1) cs ms (tp T n 1 i) = ho_f_261 A f (cs ++ [cr]) ms2 (tp T n 1 i2) := by rw [ho_f_s_261, if_neg (htk0 (by omega)), hBe, hrc, y1]
                refine wa_iinc rfl rfl ?_
                refine wa_goto ⟨_, rfl⟩ ?_
                have hjx := hJ _ _ _ _ y3
                have hB4 : B 237 4 = n := hB.2.1
                have hbk : B 261 1 = (cs.length : Int) := by rw [← hBe]; exact if_pos ⟨rfl, rfl⟩
                have hlt := rc_n_gt_162 hB (by omega) ⟨by omega, by omega⟩ ⟨by omega, by omega⟩ hbk y1
                have hcl := (rc_n_ok_261 (by omega) hbk ⟨by omega, by omega⟩ y1).2
                have hlc : (cs ++ [cr]).length = cs.length + 1 := by rw [List.length_append]; rfl
                have hidx : i + 1 < i2 := (tp_idx hT hg1 hlt.1).resolve_right (fun z => z y2.2)
                exact wJ_S (ih i2 (cs ++ [cr]) ms2 os2 (u + 1) _ (by omega) y3 y2 ⟨by omega, by omega⟩ (fun cs2 ms3 os3 Z e1 => hk cs2 ms3 os3 Z (hof.trans e1)) (fun e q v cs2 ms3 os3 S2 Z0 Z e1 => hf e q v cs2 ms3 os3 S2 Z0 Z (hof.trans e1))) ⟨rfl, rfl, trivial⟩
              · skip
                have hof : ho_f_261 A (f + 1) cs ms (tp T n 1 i) = .inl (e, q) := by rw [ho_f_s_261, if_neg (htk0 (by omega)), hBe, hrc, y1]
                refine ⟨rfl, ?_⟩
                exact hf e q v cs ms os _ Z0 _ hof (hJu cs ms os S _ hj) y2 y3
            · skip
              exact absurd c13 (by omega)
          · skip
            refine wa_iload_n (n := 2) rfl ?_
            refine wa_bipush (w_rg2 (by omega) (by omega)) ?_
            refine wa_icmpeq (w_rg0 (by omega) (by omega)) (w_rg0 (by omega) (by omega)) ⟨_, rfl⟩ (fun c16 => ?_) (fun c16 => ?_)
            · skip
              refine wa_aload_n (n := 0) rfl ?_
              refine wb_gf4 61 rfl (wy_pr rfl) wt_61 wf_4_0 (v := 14) wl_61_0 ?_
              refine wa_cv 14 rfl (wy_pr rfl) wt_14 (M2 := fun _ => False) rfl at_XR_next ⟨_, rfl⟩ rfl rfl ⟨trivial, (Or.inr ⟨wy_pr rfl, fun q => q⟩), trivial, trivial⟩ trivial (fun _ _ q => False.elim q) (nx_c (S := S) (hx_T hx) (show cx_P T n c (i) S from ⟨(hpos4), hg0⟩) rfl hI (by omega)) (fun oq17 Sq17 hp18 q17 => ?_)
              rcases q17 with ⟨rfl, rfl⟩
              show wJ _ _ _ _ _ _ _ _ _ _
              have hg1 : pg T n c (i + 1) := pg_next (i := i) hT hg0 (by omega) (by omega)
              have hA1 := pg_at hT hg1
              have h16_1 := hA1.1
              have h15_1 := hA1.2.1
              have hpr1 := hA1.2.2
              have hkr1 := kg_rg T n (tp T n 1 (i + 1))
              have hic1 := hg1.1
              have hlt1 := tp_lt (i := i) hT hg0 (by omega) (by omega)
              refine wa_aload_n (n := 0) rfl ?_
              refine wa_iload_n (n := 2) rfl ?_
              refine wa_bipush (w_rg2 (by omega) (by omega)) ?_
              refine wa_icmpne (w_rg0 (by omega) (by omega)) (w_rg0 (by omega) (by omega)) ⟨_, rfl⟩ (fun c19 => ?_) (fun c19 => ?_)
              · skip
                exact absurd c19 (by omega)
              · skip
                refine wa_iconst ?_
                refine wa_goto ⟨_, rfl⟩ ?_
                have hw10 := lx_w_k (k := 10) hB hW hrw (by decide) hwc.1 hnt0
                have hw9 := lx_w_k (k := 9) hB hW hrw (by decide) hwc.1 hnt0
                rw [show hwl 10 = tx_19 from rfl] at hw10
                rw [show hwl 9 = tx_17 from rfl] at hw9
                have hrc : rc_of_261 B (cs.length : Int) ms (tp T n 1 i) = rc_n_261 B (cs.length : Int) ms 1 (tp T n 1 (i + 1)) := by
                  unfold rc_of_261; rw [if_pos (hw10.2 (by omega)), tp_ne (i := i) hB]
                have hcp := rcp_162 (xs := xs) (d := d) J hJ hJu hJs (cs := cs) (ms := ms) (os := os) (itf := 1) (S := (w_up S 14 4 ((i + 1 : Nat) : Int))) (i := i + 1) hX (hJu cs ms os S _ hj) (show cx_P T n c (i + 1) (w_up S 14 4 ((i + 1 : Nat) : Int)) from ⟨(w_up_same _ _ _ _), hg1⟩) (by omega)
                rw [hBe] at hcp
                refine wa_cv 61 rfl (wy_pr rfl) wt_61 (M2 := mS [206, 207]) rfl at_XT_readClass ⟨_, rfl⟩ rfl rfl ⟨trivial, (Or.inr ⟨wy_pr rfl, mS_no rfl⟩), trivial, trivial⟩ trivial (fun _ _ q => q) (hcp) (fun oq20 Sq20 hp21 q20 => ?_)
                rcases q20 with ⟨i2, cr, ms2, os2, rfl, y1, y2, y3⟩ | ⟨e, q, v, Z0, rfl, y1, y2, y3⟩
                · skip
                  show wJ _ _ _ _ _ _ _ _ _ _
                  have hof : ho_f_261 A (f + 1) cs ms (tp T n 1 i) = ho_f_261 A f (cs ++ [cr]) ms2 (tp T n 1 i2) := by rw [ho_f_s_261, if_neg (htk0 (by omega)), hBe, hrc, y1]
                  refine wa_iinc rfl rfl ?_
                  refine wa_goto ⟨_, rfl⟩ ?_
                  have hjx := hJ _ _ _ _ y3
                  have hB4 : B 237 4 = n := hB.2.1
                  have hbk : B 261 1 = (cs.length : Int) := by rw [← hBe]; exact if_pos ⟨rfl, rfl⟩
                  have hlt := rc_n_gt_162 hB (by omega) ⟨by omega, by omega⟩ ⟨by omega, by omega⟩ hbk y1
                  have hcl := (rc_n_ok_261 (by omega) hbk ⟨by omega, by omega⟩ y1).2
                  have hlc : (cs ++ [cr]).length = cs.length + 1 := by rw [List.length_append]; rfl
                  have hidx : i + 1 < i2 := (tp_idx hT hg1 hlt.1).resolve_right (fun z => z y2.2)
                  exact wJ_S (ih i2 (cs ++ [cr]) ms2 os2 (u + 1) _ (by omega) y3 y2 ⟨by omega, by omega⟩ (fun cs2 ms3 os3 Z e1 => hk cs2 ms3 os3 Z (hof.trans e1)) (fun e q v cs2 ms3 os3 S2 Z0 Z e1 => hf e q v cs2 ms3 os3 S2 Z0 Z (hof.trans e1))) ⟨rfl, rfl, trivial⟩
                · skip
                  have hof : ho_f_261 A (f + 1) cs ms (tp T n 1 i) = .inl (e, q) := by rw [ho_f_s_261, if_neg (htk0 (by omega)), hBe, hrc, y1]
                  refine ⟨rfl, ?_⟩
                  exact hf e q v cs ms os _ Z0 _ hof (hJu cs ms os S _ hj) y2 y3
            · skip
              refine wa_aload_n (n := 0) rfl ?_
              refine wa_iconst ?_
              refine wa_cv 61 rfl (wy_pr rfl) wt_61 (M2 := fun _ => False) rfl at_XT_refuse ⟨_, rfl⟩ rfl rfl ⟨trivial, (Or.inr ⟨wy_pr rfl, fun q => q⟩), trivial, trivial⟩ trivial (fun _ _ q => False.elim q) (rf_c (S := S) (k := 1) (p := (tp T n 1 i)) (i := (i : Int)) hI (hpos4) (h16_0) ⟨by omega, by have e : S 16 (-1) = S 16 (-1) := rfl; omega⟩ ⟨by omega, by omega⟩ ⟨by omega, by omega⟩) (fun oq23 Sq23 hp24 q23 => ?_)
              rcases q23 with ⟨v, rfl, rz22⟩
              have hrz := rz22
              have hkind : (1 : Int) = 1 := rfl
              refine ⟨rfl, ?_⟩
              have hw10 := lx_w_k (k := 10) hB hW hrw (by decide) hwc.1 hnt0
              have hw9 := lx_w_k (k := 9) hB hW hrw (by decide) hwc.1 hnt0
              rw [show hwl 10 = tx_19 from rfl] at hw10
              rw [show hwl 9 = tx_17 from rfl] at hw9
              have hrc : rc_of_261 B (cs.length : Int) ms (tp T n 1 i) = .inl (1, tp T n 1 i) := by unfold rc_of_261; rw [if_neg (fun z => absurd (hw10.1 z) (by omega)), if_neg (fun z => absurd (hw9.1 z) (by omega))]
              exact hf 1 _ v cs ms os S _ _ (by rw [ho_f_s_261, if_neg (htk0 (by omega)), hBe, hrc]) hj (cz1 _ rfl) hrz
        · skip
          have hkg := hw6
          refine ⟨rfl, ?_⟩
          have z6 : zq B (tp T n 1 i) 237 6 ≠ 1 := by rw [zT_6 hB]; exact fun z => hkg (hk5.2 z)
          have hrc : rc_of_261 B (cs.length : Int) ms (tp T n 1 i) = .inl (1, tp T n 1 i) := by unfold rc_of_261; rw [if_neg (lx_w_no z6), if_neg (lx_w_no z6)]
          exact hf 1 _ v cs ms os S _ _ (by rw [ho_f_s_261, if_neg (htk0 (by omega)), hBe, hrc]) hj (cz1 _ rfl) hrz
end Wa5
