/-! PART a4: readClass, whole. -/
section Wa4
variable {xs : List (Nat × List Int32)} {M : Nat → Prop} {d : Nat} {A B C S Z B1 : wS} {Q : wO → wS → Prop} {T : Int → Int} {n : Int} {c i : Nat}
variable {b : Nat} {k0 itf p1 : Int} {ms : List hMR}
/-- the supers of a class, if it has any -/
def rc_su (A B1 : wS) (b : Nat) (c p1 : Int) : (Int × Int) ⊕ (Int × List Int × Int × Int) := if lx_is (zq A (lx_ne (zq A p1) p1)) 58 = true then su_a B1 b c (lx_ne (zq A (lx_ne (zq A p1) p1)) (lx_ne (zq A p1) p1)) else .inr (lx_ne (zq A p1) p1, [], -1, wb_lshl 1 c)
theorem rcb_1 {e : Int × Int} (h : rc_su A B1 b k0 p1 = .inl e) : rc_body A B1 b k0 ms itf p1 = .inl e := by
  unfold rc_su at h
  unfold rc_body
  rw [h]
theorem rcb_2 {q a al : Int} {l : List Int} (h : rc_su A B1 b k0 p1 = .inr (q, l, a, al)) (h2 : ¬ lx_is (zq A q) 123 = true) : rc_body A B1 b k0 ms itf p1 = .inl (1, q) := by
  unfold rc_su at h
  unfold rc_body
  rw [h]
  exact if_neg h2
theorem rcb_3 {q a al : Int} {l : List Int} {e : Int × Int} (h : rc_su A B1 b k0 p1 = .inr (q, l, a, al)) (h2 : lx_is (zq A q) 123 = true) (h3 : mb_f (w_up B1 b 1 (k0 + 1)) b k0 itf ms.length ((A 237 4 - lx_ne (zq A q) q).toNat + 1) (lx_ne (zq A q) q) ms = .inl e) : rc_body A B1 b k0 ms itf p1 = .inl e := by
  unfold rc_su at h
  unfold rc_body
  rw [h]
  show (if lx_is (zq A q) 123 = true then _ else _) = _
  rw [if_pos h2, h3]
theorem rcb_4 {q a al z : Int} {l : List Int} {ms2 : List hMR} (h : rc_su A B1 b k0 p1 = .inr (q, l, a, al)) (h2 : lx_is (zq A q) 123 = true) (h3 : mb_f (w_up B1 b 1 (k0 + 1)) b k0 itf ms.length ((A 237 4 - lx_ne (zq A q) q).toNat + 1) (lx_ne (zq A q) q) ms = .inr (z, ms2)) : rc_body A B1 b k0 ms itf p1 = .inr (lx_ne (zq A z) z, (itf, p1, zq A p1 237 8, a, l, al, (ms.length : Int), (ms2.length : Int) - (ms.length : Int)), ms2) := by
  unfold rc_su at h
  unfold rc_body
  rw [h]
  show (if lx_is (zq A q) 123 = true then _ else _) = _
  rw [if_pos h2, h3]
/-- a host's tables are the same where all but the readers' own is -/
theorem tb_cg {t0 st a b w : Nat} {kc N : Int} (h : tb_I t0 st a b w S kc N) (e : ∀ j : Nat, j ≠ 14 → j ≠ 61 → j ≠ 62 → Z j = S j) (h1 : 62 < t0 ∧ 62 < st ∧ 62 < a ∧ 62 < b ∧ 62 < w) : tb_I t0 st a b w Z kc N := by
  obtain ⟨a1, a2, a3, a4⟩ := h
  unfold tb_I rw_S
  rw [e (t0 + 1) (by omega) (by omega) (by omega), e (t0 + 3) (by omega) (by omega) (by omega), e (t0 + 4) (by omega) (by omega) (by omega), e (t0 + 7) (by omega) (by omega) (by omega), e (t0 + 8) (by omega) (by omega) (by omega), e st (by omega) (by omega) (by omega), e a (by omega) (by omega) (by omega), e b (by omega) (by omega) (by omega)]
  exact ⟨a1, a2, a3, wd_L_ag a4 (fun x hx => by rw [e (w + x) (by omega) (by omega) (by omega)])⟩
theorem od_cg {o6 oo ob : Nat} {k : Int} {l : List Int} (h : od_1 o6 oo ob S k l) (e : ∀ j : Nat, j ≠ 14 → j ≠ 61 → j ≠ 62 → Z j = S j) (h1 : 62 < o6 ∧ 62 < oo ∧ 62 < ob) : od_1 o6 oo ob Z k l := by
  unfold od_1
  rw [e o6 (by omega) (by omega) (by omega), e oo (by omega) (by omega) (by omega), e ob (by omega) (by omega) (by omega)]
  exact h
theorem mr_cg {m0 w : Nat} (h : mr_all m0 w T S ms) (e : ∀ j : Nat, j ≠ 14 → j ≠ 61 → j ≠ 62 → Z j = S j) (h1 : 62 < m0 ∧ 62 < w) : mr_all m0 w T Z ms := ⟨h.1, fun k r hr => mr_at_ag (h.2 k r hr) (fun x hx => by rw [e (m0 + x) (by omega) (by omega) (by omega)]) (fun x hx => e (w + x) (by omega) (by omega) (by omega))⟩
theorem su_f_a {B : wS} {b : Nat} {c : Int} : ∀ (f : Nat) (p : Int) (l : List Int) (a al q a2 al2 : Int) (l2 : List Int), su_f B b c f p l a al = .inr (q, l2, a2, al2) → (a = -1 ∨ a ∈ l) → (a2 = -1 ∨ a2 ∈ l2) := by
  intro f
  induction f with
  | zero => intro p l a al q a2 al2 l2 h; cases h
  | succ f ih =>
    intro p l a al q a2 al2 l2 h ha
    rw [su_f_s] at h
    split at h
    · cases hs : su_1 B b c (lx_ne (zq B p) p) a l with
      | inl e => rw [hs] at h; cases h
      | inr s =>
        rw [hs] at h
        refine ih _ _ _ _ q a2 al2 l2 h ?_
        by_cases hz : B (b + 2) s = 0
        · rw [if_pos hz]; exact Or.inr (List.mem_append_right _ (List.mem_singleton.2 rfl))
        · rw [if_neg hz]
          rcases ha with z | z
          · exact Or.inl z
          · exact Or.inr (List.mem_append_left _ z)
    · cases h; exact ha
theorem su_a_a {B : wS} {b : Nat} {c p q a al : Int} {l : List Int} (h : su_a B b c p = .inr (q, l, a, al)) (hc : 0 ≤ c ∧ c < 60) (hnd : su_nd c l) (h3 : B (b + 3) c = -1) : -1 ≤ a ∧ a < c := by
  have h1 : a = -1 ∨ a ∈ l := by
    unfold su_a at h
    rw [h3] at h
    cases hs : su_1 B b c p (-1) [] with
    | inl e => rw [hs] at h; cases h
    | inr s =>
      rw [hs] at h
      refine su_f_a _ _ _ _ _ q a al l h ?_
      by_cases hz : B (b + 2) s = 0
      · rw [if_pos hz]; exact Or.inr (List.mem_singleton.2 rfl)
      · rw [if_neg hz]; exact Or.inl rfl
  rcases h1 with z | z
  · omega
  · have := hnd.2 a z; omega
theorem rcl_73 {os : Int → List Int} (hX : w_X xs) (hx : hx_I 241 73 87 92 74 T n c B S) (hP : cx_P T n c i S) (hk0 : B 241 1 = k0) (hit : itf = 0 ∨ itf = 1) (htb : tb_I 87 116 117 118 74 S k0 (ms.length : Int)) (hos : ∀ q : Int, 0 ≤ q → q < k0 → od_1 93 114 115 S q (os q)) (hms : mr_all 97 74 T S ms) (hmc : S 73 4 = (ms.length : Int)) (hq : ∀ (S3 : wS) (a al : Int) (l : List Int) (Zo : wS) (i2 : Nat) (ms2 : List hMR) (Zm Z1 Zf : wS), rc_n_241 B k0 ms itf (tp T n 1 i) = .inr (tp T n 1 (i2 + 1), (itf, tp T n 1 i, zq B (tp T n 1 i) 237 8, a, l, al, (ms.length : Int), (ms2.length : Int) - (ms.length : Int)), ms2) → (∀ j : Nat, j ≠ 14 → j ≠ 61 → j ≠ 62 → S3 j = S j) → ((∀ y : Int, y ≠ 4 → S3 14 y = S 14 y) ∧ (∀ y : Int, y ≠ 4 → S3 61 y = S 61 y) ∧ ∀ y : Int, y < 0 → S3 62 y = S 62 y) → su_nd k0 l → (-1 ≤ a ∧ a < k0) → oz_ag 93 114 115 k0 (w_up (w_up (w_up (w_up (w_up (w_up (w_up S3 87 k0 itf) 88 k0 a) 90 k0 0) 91 k0 (ms.length : Int)) 92 k0 (S 17 (i : Int))) 73 2 (k0 + 1)) 89 k0 (l.length : Int)) Zo → od_1 93 114 115 Zo k0 (so_L ((w_up (w_up (w_up (w_up (w_up (w_up S3 87 k0 itf) 88 k0 a) 90 k0 0) 91 k0 (ms.length : Int)) 92 k0 (S 17 (i : Int))) 73 2 (k0 + 1)) 87) ((w_up (w_up (w_up (w_up (w_up (w_up S3 87 k0 itf) 88 k0 a) 90 k0 0) 91 k0 (ms.length : Int)) 92 k0 (S 17 (i : Int))) 73 2 (k0 + 1)) 88) os k0 l) → kg T n (tp T n 1 i2) = 13 → mz_ag 97 73 87 k0 (ms.length : Int) Zo Zm → hx_I 241 73 87 92 74 T n c (w_up (w_up (w_up (w_up (w_up (w_up (w_up (w_up (w_up B 243 k0 itf) 250 k0 (tp T n 1 i)) 251 k0 (zq B (tp T n 1 i) 237 8)) 244 k0 (-1)) 245 k0 0) 247 k0 (wb_lshl 1 k0)) 248 k0 (B 241 11)) 249 k0 0) 241 1 (k0 + 1)) Zm → cx_P T n c i2 Zm → mr_all 97 74 T Zm ms2 → Zm 73 4 = (ms2.length : Int) → ms.length ≤ ms2.length → Zm 90 k0 = (ms2.length : Int) - (ms.length : Int) → le_I 97 87 116 117 118 119 (ms.length : Int) k0 (S3 116 2) (if a = -1 then 0 else S3 94 a) (if a = -1 then -1 else S3 95 a) (ms2.drop ms.length) (w_up (w_up (w_up Zm 14 4 ((i2 + 1 : Nat) : Int)) 94 k0 (if a = -1 then 0 else S3 94 a)) 95 k0 (if a = -1 then -1 else S3 95 a)) Z1 (ms2.drop ms.length).length → l2_I 97 87 74 119 (ms.length : Int) (ms2.drop ms.length) Z1 Zf (ms2.drop ms.length).length → Q (.inl none) Zf) (hf : ∀ (e q : Int) (v : Nat) (Z0 Z : wS), rc_n_241 B k0 ms itf (tp T n 1 i) = .inl (e, q) → cz_ag 97 73 87 114 115 k0 (ms.length : Int) S Z0 → rz_ag Z0 Z v (e + 16 * q) → Q (.inr v) Z) : wJ (pe_GA xs) wY0 (mS [117, 118]) (d + 11) t_XT_readClass ((pe_at t_XT_readClass.bl 0).getD (0, [])).2 [(0, (2, 61)), (1, (0, itf))] [] S Q := by
  have hB : zT B T n := hx.1
  have hT : cx_T 74 T n c S := hx.2.1
  have hI : gI S := hx.2.2.1
  have hW : wd_at S 74 64 := hx.2.2.2.1
  have hrw : rw_I S 74 := hx.2.2.2.2.1
  have hwc : 13 ≤ S 74 7 ∧ S 74 7 ≤ 400000 := hx.2.2.2.2.2.1
  have hR : cn_R 241 73 87 92 74 T B S := hx.2.2.2.2.2.2.1
  have hH : S 61 1 = 73 := hx.2.2.2.2.2.2.2
  have hC : w_CL S := hR.2.2.1
  have hN : S 73 2 = B 241 1 := hR.1
  have hN6 : 0 ≤ B 241 1 ∧ B 241 1 ≤ 60 := hR.2.1
  have hpos4 : S 14 4 = (i : Int) := hP.1
  have hg0 : pg T n c i := hP.2
  have hA0 := pg_at hT hg0
  have h16_0 := hA0.1
  have h15_0 := hA0.2.1
  have hpr0 := hA0.2.2
  have hkr0 := kg_rg T n (tp T n 1 i)
  have hcn : (c : Int) ≤ n ∧ n ≤ 65536 := ⟨hT.2.2.2.2.1, hT.2.2.2.2.2.1⟩
  have hRL := hT.2.2.2.2.2.2
  have hl15 : S 14 3 ≤ S 15 (-1) := hRL.1.2
  have hl16 : S 16 (-1) = S 15 (-1) := hRL.2.1
  have hl17 : S 17 (-1) = S 15 (-1) := hRL.2.2.1
  have hc3 : S 14 3 = (c : Int) + 1 := hT.1
  have hic0 : i ≤ c := hg0.1
  have hz6 : zq B (tp T n 1 i) 237 6 = lx_tk T n 1 (tp T n 1 i) := zT_6 hB
  have hk5 := kg_5 T n (tp T n 1 i)
  have hB4 : B 237 4 = n := hB.2.1
  have cz0 : ∀ Z0 : wS, (∀ j : Nat, j ≠ 14 → j ≠ 61 → j ≠ 62 → Z0 j = S j) → (∀ y : Int, y ≠ 4 → Z0 14 y = S 14 y) → (∀ y : Int, y ≠ 4 → Z0 61 y = S 61 y) → (∀ y : Int, y < 0 → Z0 62 y = S 62 y) → cz_ag 97 73 87 114 115 k0 (ms.length : Int) S Z0 := by
    intro Z0 e1 e2 e3 e4 j y a1 a2 a3 a4 a5 a6 a7 a8
    by_cases h1 : j = 14
    · subst h1; exact e2 y (by omega)
    by_cases h2 : j = 61
    · subst h2; exact e3 y (by omega)
    by_cases h3 : j = 62
    · subst h3; exact e4 y (by omega)
    exact congrFun (e1 j h1 h2 h3) y
  -- behind the supers
  have hgo : ∀ (S3 : wS) (i3 : Nat) (a al : Int) (l : List Int), kg T n (tp T n 1 i) = 5 → ch_of (zq B (tp T n 1 i)) 241 = -1 → 13 ≤ S 17 (i : Int) → k0 < 60 → hx_I 241 73 87 92 74 T n c B S3 → cx_P T n c i3 S3 → (∀ j : Nat, j ≠ 14 → j ≠ 61 → j ≠ 62 → S3 j = S j) → (∀ y : Int, y ≠ 4 → S3 14 y = S 14 y) → (∀ y : Int, y ≠ 4 → S3 61 y = S 61 y) → (∀ y : Int, y < 0 → S3 62 y = S 62 y) → rc_su B (w_up (w_up (w_up (w_up (w_up (w_up (w_up (w_up B 243 k0 itf) 250 k0 (tp T n 1 i)) 251 k0 (zq B (tp T n 1 i) 237 8)) 244 k0 (-1)) 245 k0 0) 247 k0 (wb_lshl 1 k0)) 248 k0 (B 241 11)) 249 k0 0) 241 k0 (tp T n 1 i) = .inr (tp T n 1 i3, l, a, al) → su_I S3 l → su_nd k0 l → (-1 ≤ a ∧ a < k0) → wJ (pe_GA xs) wY0 (mS [117, 118]) (d + 11) t_XT_readClass ((pe_at t_XT_readClass.bl 4).getD (0, [])).2 [(0, (2, 61)), (1, (0, itf)), (2, (0, S 17 (i : Int))), (3, (0, a))] [] S3 Q := by
    intro S3 i3 a al l hk hch h13 hk60 hx3 hP3 e1 e2 e3 e4 hsu hl hnd ha
    have hnt := pg_nt hT hg0 hk
    have hoo := oo_21 hB hW hrw hwc.1 hnt
    have hR0 : rc_n_241 B k0 ms itf (tp T n 1 i) = rc_body B (w_up (w_up (w_up (w_up (w_up (w_up (w_up (w_up B 243 k0 itf) 250 k0 (tp T n 1 i)) 251 k0 (zq B (tp T n 1 i) 237 8)) 244 k0 (-1)) 245 k0 0) 247 k0 (wb_lshl 1 k0)) 248 k0 (B 241 11)) 249 k0 0) 241 k0 ms itf (tp T n 1 i) := by
      unfold rc_n_241
      rw [if_pos (by rw [hz6]; exact hnt.1), if_pos ⟨by omega, by rw [← Bool.not_eq_true]; exact fun z => absurd (hoo.1 z) (by omega)⟩, if_pos hk60]
    have h123 := lx_is_kg (i := i3) hB (k := 12) (ch := 123) (by decide) sk_12
    have hB2T : zT (w_up (w_up (w_up (w_up (w_up (w_up (w_up (w_up (w_up B 243 k0 itf) 250 k0 (tp T n 1 i)) 251 k0 (zq B (tp T n 1 i) 237 8)) 244 k0 (-1)) 245 k0 0) 247 k0 (wb_lshl 1 k0)) 248 k0 (B 241 11)) 249 k0 0) 241 1 (k0 + 1)) T n := ⟨by rw [w_up_row (by decide), w_up_row (by decide), w_up_row (by decide), w_up_row (by decide), w_up_row (by decide), w_up_row (by decide), w_up_row (by decide), w_up_row (by decide), w_up_row (by decide)]; exact hB.1, by rw [w_up_row (by decide), w_up_row (by decide), w_up_row (by decide), w_up_row (by decide), w_up_row (by decide), w_up_row (by decide), w_up_row (by decide), w_up_row (by decide), w_up_row (by decide)]; exact hB.2.1, by rw [w_up_row (by decide), w_up_row (by decide), w_up_row (by decide), w_up_row (by decide), w_up_row (by decide), w_up_row (by decide), w_up_row (by decide), w_up_row (by decide), w_up_row (by decide)]; exact hB.2.2⟩
    have hnr := hnt.2.1
    refine rc4_73 (S := S3) (B := B) (B2 := (w_up (w_up (w_up (w_up (w_up (w_up (w_up (w_up (w_up B 243 k0 itf) 250 k0 (tp T n 1 i)) 251 k0 (zq B (tp T n 1 i) 237 8)) 244 k0 (-1)) 245 k0 0) 247 k0 (wb_lshl 1 k0)) 248 k0 (B 241 11)) 249 k0 0) 241 1 (k0 + 1))) (i := i3) (k0 := k0) (itf := itf) (a := a) (word := S 17 (i : Int)) (p1 := tp T n 1 i) (e1 := lx_en T n 1 (tp T n 1 i)) (sl := l) (os := os) (ms := ms) hX hx3 hP3 ⟨hk0, hk60⟩ hit ha ?_ hB2T (w_up_same _ _ _ _) (fun k q0 q1 => ?_) ?_ hl hnd (tb_cg htb e1 (by decide)) (fun q q0 q1 => od_cg (hos q q0 q1) e1 (by decide)) (mr_cg hms e1 (by decide)) ((congrFun (e1 73 (by decide) (by decide) (by decide)) 4).trans hmc) (fun Zo i2 ms2 Zm Z1 Zf o1 o2 y1 y2 y3 => ?_) (fun Zo e q v Z0 Z o1 o2 y1 y2 y3 => ?_)
    · rw [e1 74 (by decide) (by decide) (by decide), e1 75 (by decide) (by decide) (by decide), e1 76 (by decide) (by decide) (by decide), e1 77 (by decide) (by decide) (by decide)]
      exact ⟨⟨h13, hnr.2⟩, hnt.2.2⟩
    · exact ⟨(w_up_no (by omega)).trans ((w_up_no (by omega)).trans ((w_up_no (by omega)).trans ((w_up_no (by omega)).trans ((w_up_no (by omega)).trans ((w_up_no (by omega)).trans ((w_up_no (by omega)).trans ((w_up_no (by omega)).trans (w_up_no (by omega))))))))), (w_up_no (by omega)).trans ((w_up_no (by omega)).trans ((w_up_no (by omega)).trans ((w_up_no (by omega)).trans ((w_up_no (by omega)).trans ((w_up_no (by omega)).trans ((w_up_no (by omega)).trans ((w_up_no (by omega)).trans (w_up_no (by omega))))))))), (w_up_no (by omega)).trans ((w_up_no (by omega)).trans ((w_up_no (by omega)).trans ((w_up_no (by omega)).trans ((w_up_no (by omega)).trans ((w_up_no (by omega)).trans ((w_up_no (by omega)).trans ((w_up_no (by omega)).trans (w_up_no (by omega)))))))))⟩
    · refine ⟨?_, ?_, ?_⟩
      · rw [w_up_slot (by decide), w_up_slot (by decide), w_up_slot (by decide), w_up_slot (by decide), w_up_slot (by decide), w_up_slot (by decide), w_up_slot (by decide), w_up_slot (by decide), w_up_same]
      · rw [w_up_slot (by decide), w_up_slot (by decide), w_up_slot (by decide), w_up_slot (by decide), w_up_slot (by decide), w_up_slot (by decide), w_up_slot (by decide), w_up_same]
      · rw [w_up_slot (by decide), w_up_slot (by decide), w_up_slot (by decide), w_up_slot (by decide), w_up_slot (by decide), w_up_slot (by decide), w_up_same, zT_8 hB]
    · refine hq S3 a al l Zo i2 ms2 Zm Z1 Zf ?_ e1 ⟨e2, e3, e4⟩ hnd ha o1 o2 y3
      rw [hR0, rcb_4 hsu (h123.2 y1) (by rw [hB4, tp_ne (i := i3) hB]; exact y2), tp_ne (i := i2) hB]
    · refine hf e q v Z0 Z ?_ ?_ y3
      · rw [hR0]
        rcases y1 with ⟨z1, rfl, rfl⟩ | ⟨z1, z2⟩
        · exact rcb_2 hsu (fun z => z1 (h123.1 z))
        · exact rcb_3 hsu (h123.2 z1) (by rw [hB4, tp_ne (i := i3) hB]; exact z2)
      · refine cz_tr (cz0 S3 e1 e2 e3 e4) (fun j y a1 a2 a3 a4 a5 a6 a7 a8 => ?_)
        refine (y2 j y a1 (by omega) (by omega) (by omega)).trans ((o1 j y (by omega) (by omega) (by omega)).trans ?_)
        exact (w_up_no (by omega)).trans ((w_up_no (by omega)).trans ((w_up_no (by omega)).trans ((w_up_no (by omega)).trans ((w_up_no (by omega)).trans ((w_up_no (by omega)).trans (w_up_no (by omega)))))))
  refine wa_aload_n (n := 0) rfl ?_
  refine wa_cv 61 rfl (wy_pr rfl) wt_61 (M2 := fun _ => False) rfl at_XT_wordHere ⟨_, rfl⟩ rfl rfl ⟨(Or.inr ⟨wy_pr rfl, fun q => q⟩), trivial, trivial⟩ trivial (fun _ _ q => False.elim q) (wh_c (S := S) (hx_T hx) (show cx_P T n c (i) S from ⟨(hpos4), hg0⟩) rfl hI) (fun oq3 Sq3 hp4 q3 => ?_)
  rcases q3 with ⟨hw1, rfl, rfl⟩ | ⟨hw1, v, rfl, hrz⟩
  · skip
    show wJ _ _ _ _ _ _ _ _ _ _
    show wJ _ _ _ _ _ _ _ ((0, S 17 (i : Int)) :: _) _ _
    have hnt0 : nt_I S 74 T n (tp T n 1 i) (S 17 (i : Int)) := pg_nt hT hg0 hw1
    have hnv0 := hnt0.2.1
    refine wa_istore_n (n := 2) rfl ?_
    refine wa_iload_n (n := 2) rfl ?_
    refine wa_bipush (w_rg2 (by omega) (by omega)) ?_
    refine wa_icmplt (w_rg0 (by omega) (by omega)) (w_rg0 (by omega) (by omega)) ⟨_, rfl⟩ (fun c5 => ?_) (fun c5 => ?_)
    · skip
      refine wa_aload_n (n := 0) rfl ?_
      refine wa_iconst ?_
      refine wa_cv 61 rfl (wy_pr rfl) wt_61 (M2 := fun _ => False) rfl at_XT_refuse ⟨_, rfl⟩ rfl rfl ⟨trivial, (Or.inr ⟨wy_pr rfl, fun q => q⟩), trivial, trivial⟩ trivial (fun _ _ q => False.elim q) (rf_c (S := S) (k := 2) (p := (tp T n 1 i)) (i := (i : Int)) hI (hpos4) (h16_0) ⟨by omega, by have e : S 16 (-1) = S 16 (-1) := rfl; omega⟩ ⟨by omega, by omega⟩ ⟨by omega, by omega⟩) (fun oq7 Sq7 hp8 q7 => ?_)
      rcases q7 with ⟨v, rfl, rz6⟩
      have hrz := rz6
      have hkind : (2 : Int) = 2 := rfl
      refine ⟨rfl, ?_⟩
      have hoo := oo_21 hB hW hrw hwc.1 hnt0
      have hno : ¬ (ch_of (zq B (tp T n 1 i)) 241 < 0 ∧ lx_oo (zq B (tp T n 1 i)) tx_21 = false) := by
        rintro ⟨z1, z2⟩; rw [← Bool.not_eq_true] at z2; first | exact z2 (hoo.2 (by omega)) | omega
      exact hf 2 _ v _ _ (by unfold rc_n_241; rw [if_pos (by rw [hz6]; exact hnt0.1), if_neg hno]) (cz0 _ (fun j h1 h2 h3 => funext fun y => rfl) (fun y hy => rfl) (fun y hy => rfl) (fun y hy => rfl)) hrz
    · skip
      refine wa_aload_n (n := 0) rfl ?_
      refine wb_gf5 61 rfl (wy_pr rfl) wt_61 wf_4_1 (v := 73) (hH) (fun r9 => ?_)
      refine wa_iload_n (n := 2) rfl ?_
      refine wa_cv 73 rfl (wy_pr rfl) wt_73 (M2 := fun _ => False) rfl at_XO_classTyped ⟨_, rfl⟩ rfl rfl ⟨trivial, (Or.inr ⟨wy_pr rfl, fun q => q⟩), trivial, trivial⟩ trivial (fun _ _ q => False.elim q) (ct_73 (S := S) (B := B) (p := (tp T n 1 i)) hB (hx_W hx) (hx_R hx) (show nt_I S 74 T n (tp T n 1 i) (S 17 (i : Int)) from hnt0) (by omega)) (fun oq10 Sq10 hp11 q10 => ?_)
      rcases q10 with ⟨rfl, rfl⟩
      show wJ _ _ _ _ _ _ _ _ _ _
      have hch0 := ch_of_rg (zq B (tp T n 1 i)) 241 (by show B 241 1 ≤ 60; omega)
      have hch0 : -1 ≤ (ch_of (zq B (tp T n 1 i)) 241) ∧ (ch_of (zq B (tp T n 1 i)) 241) ≤ 59 ∧ (ch_of (zq B (tp T n 1 i)) 241) < max (B 241 1) 0 := hch0
      have hct0 : 0 ≤ (ch_of (zq B (tp T n 1 i)) 241) → S 87 (ch_of (zq B (tp T n 1 i)) 241) = B 243 (ch_of (zq B (tp T n 1 i)) 241) := fun z => (hR.2.2.2 _ z (by omega)).1
      refine wa_iconst ?_
      refine wa_icmpeq (w_rg0 (by omega) (by omega)) (w_rg0 (by omega) (by omega)) ⟨_, rfl⟩ (fun c12 => ?_) (fun c12 => ?_)
      · skip
        refine wa_aload_n (n := 0) rfl ?_
        refine wb_gf5 61 rfl (wy_pr rfl) wt_61 wf_4_1 (v := 73) (hH) (fun r13 => ?_)
        refine wb_gfi 73 rfl (wy_pr rfl) wt_73 wf_3_2 (v := k0) ((hN.trans hk0)) (fun r14 => ?_)
        refine wa_bipush (w_rg2 (by omega) (by omega)) ?_
        refine wa_icmpne (w_rg0 (by omega) (by omega)) (w_rg0 (by omega) (by omega)) ⟨_, rfl⟩ (fun c15 => ?_) (fun c15 => ?_)
        · skip
          refine wa_aload_n (n := 0) rfl ?_
          refine wb_gf4 61 rfl (wy_pr rfl) wt_61 wf_4_0 (v := 14) wl_61_0 ?_
          refine wa_cv 14 rfl (wy_pr rfl) wt_14 (M2 := fun _ => False) rfl at_XR_next ⟨_, rfl⟩ rfl rfl ⟨trivial, (Or.inr ⟨wy_pr rfl, fun q => q⟩), trivial, trivial⟩ trivial (fun _ _ q => False.elim q) (nx_c (S := S) (hx_T hx) (show cx_P T n c (i) S from ⟨(hpos4), hg0⟩) rfl hI (by omega)) (fun oq16 Sq16 hp17 q16 => ?_)
          rcases q16 with ⟨rfl, rfl⟩
          show wJ _ _ _ _ _ _ _ _ _ _
          have hg1 : pg T n c (i + 1) := pg_next (i := i) hT hg0 (by omega) (by omega)
          have hA1 := pg_at hT hg1
          have h16_1 := hA1.1
          have h15_1 := hA1.2.1
          have hpr1 := hA1.2.2
          have hkr1 := kg_rg T n (tp T n 1 (i + 1))
          have hic1 := hg1.1
          have hlt1 := tp_lt (i := i) hT hg0 (by omega) (by omega)
          refine wa_aload_n (n := 0) rfl ?_
          refine wa_iconst ?_
          refine wb_pfi 61 rfl (wy_pr rfl) wt_61 wf_4_4 (n := 4) rfl ⟨(by omega), (by omega)⟩ ?_
          refine wa_iconst ?_
          refine wa_istore_n (n := 3) rfl ?_
          refine wa_aload_n (n := 0) rfl ?_
          refine wb_gf4 61 rfl (wy_pr rfl) wt_61 wf_4_0 (v := 14) wl_61_0 ?_
          refine wa_cv 14 rfl (wy_pr rfl) wt_14 (M2 := fun _ => False) rfl at_XR_kind ⟨_, rfl⟩ rfl rfl ⟨trivial, trivial, (Or.inr ⟨wy_pr rfl, fun q => q⟩), trivial, trivial⟩ trivial (fun _ _ q => False.elim q) ?_ (fun _ _ _ q => q)
          refine wa_aload_n (n := 0) rfl ?_
          refine wb_gf4 14 rfl (wy_pr rfl) wt_14 wf_6_0 (v := 15) wl_14_0 ?_
          refine wa_aload_n (n := 0) rfl ?_
          refine wb_gfi 14 rfl (wy_pr rfl) wt_14 wf_6_4 (v := ((i + 1 : Nat) : Int)) ((w_up_slot (by decide)).trans (w_up_same _ _ _ _)) (fun r18 => ?_)
          refine wb_bald 15 rfl (wy_pr rfl) wt_15 (n := (S 15 (-1))) ((w_up_slot (by decide)).trans (w_up_slot (by decide))) (by omega) (by omega) (v := (kg T n (tp T n 1 (i + 1)))) ((w_up_slot (by decide)).trans ((w_up_slot (by decide)).trans (h15_1))) (fun r19 => ?_)
          refine wa_ireturn rfl ?_
          show wJ _ _ _ _ _ _ _ _ _ _
          refine wa_bipush (w_rg2 (by omega) (by omega)) ?_
          refine wa_icmpne (w_rg0 (by omega) (by omega)) (w_rg0 (by omega) (by omega)) ⟨_, rfl⟩ (fun c20 => ?_) (fun c20 => ?_)
          · skip
            have h58 := lx_is_kg (i := i + 1) hB (k := 19) (ch := 58) (by decide) sk_19
            have hsu : rc_su B (w_up (w_up (w_up (w_up (w_up (w_up (w_up (w_up B 243 k0 itf) 250 k0 (tp T n 1 i)) 251 k0 (zq B (tp T n 1 i) 237 8)) 244 k0 (-1)) 245 k0 0) 247 k0 (wb_lshl 1 k0)) 248 k0 (B 241 11)) 249 k0 0) 241 k0 (tp T n 1 i) = .inr ((tp T n 1 (i + 1)), [], -1, wb_lshl 1 k0) := by unfold rc_su; rw [tp_ne (i := i) hB, if_neg (fun z => absurd (h58.1 z) (by omega))]
            exact wJ_S (hgo (w_up (w_up S 14 4 ((i + 1 : Nat) : Int)) 61 4 0) (i + 1) (-1) (wb_lshl 1 k0) [] (by omega) (by omega) (by omega) (by omega) (hx_up (hx_up hx (by unfold hx_o; omega)) (by unfold hx_o; omega)) (show cx_P T n c (i + 1) (w_up (w_up S 14 4 ((i + 1 : Nat) : Int)) 61 4 0) from ⟨((w_up_slot (by decide)).trans (w_up_same _ _ _ _)), hg1⟩) (fun j h1 h2 h3 => funext fun y => (w_up_no (by omega)).trans ((w_up_no (by omega)).trans (rfl))) (fun y hy => (w_up_no (by omega)).trans ((w_up_no (by omega)).trans (rfl))) (fun y hy => (w_up_no (by omega)).trans ((w_up_no (by omega)).trans (rfl))) (fun y hy => (w_up_no (by omega)).trans ((w_up_no (by omega)).trans (rfl))) hsu ⟨(w_up_same _ _ _ _), by decide, fun k hk => absurd hk (Nat.not_lt_zero _)⟩ ⟨List.nodup_nil, fun x hx => absurd hx List.not_mem_nil⟩ ⟨by omega, by omega⟩) ⟨rfl, rfl, rfl, rfl, trivial⟩
          · skip
            refine wa_aload_n (n := 0) rfl ?_
            refine wa_iload_n (n := 1) rfl ?_
            have h58 := lx_is_kg (i := i + 1) hB (k := 19) (ch := 58) (by decide) sk_19
            have hB1T : zT (w_up (w_up (w_up (w_up (w_up (w_up (w_up (w_up B 243 k0 itf) 250 k0 (tp T n 1 i)) 251 k0 (zq B (tp T n 1 i) 237 8)) 244 k0 (-1)) 245 k0 0) 247 k0 (wb_lshl 1 k0)) 248 k0 (B 241 11)) 249 k0 0) T n := ⟨by rw [w_up_row (by decide), w_up_row (by decide), w_up_row (by decide), w_up_row (by decide), w_up_row (by decide), w_up_row (by decide), w_up_row (by decide), w_up_row (by decide)]; exact hB.1, by rw [w_up_row (by decide), w_up_row (by decide), w_up_row (by decide), w_up_row (by decide), w_up_row (by decide), w_up_row (by decide), w_up_row (by decide), w_up_row (by decide)]; exact hB.2.1, by rw [w_up_row (by decide), w_up_row (by decide), w_up_row (by decide), w_up_row (by decide), w_up_row (by decide), w_up_row (by decide), w_up_row (by decide), w_up_row (by decide)]; exact hB.2.2⟩
            have hb11 : (w_up (w_up (w_up (w_up (w_up (w_up (w_up (w_up B 243 k0 itf) 250 k0 (tp T n 1 i)) 251 k0 (zq B (tp T n 1 i) 237 8)) 244 k0 (-1)) 245 k0 0) 247 k0 (wb_lshl 1 k0)) 248 k0 (B 241 11)) 249 k0 0) 241 1 = k0 := ((w_up_no (by omega)).trans ((w_up_no (by omega)).trans ((w_up_no (by omega)).trans ((w_up_no (by omega)).trans ((w_up_no (by omega)).trans ((w_up_no (by omega)).trans ((w_up_no (by omega)).trans (w_up_no (by omega))))))))).trans hk0
            have hxs : hx_I 241 73 87 92 74 T n c B (w_up (w_up S 14 4 ((i + 1 : Nat) : Int)) 61 4 0) := (hx_up (hx_up hx (by unfold hx_o; omega)) (by unfold hx_o; omega))
            have hx1 : hx_I 241 73 87 92 74 T n c (w_up (w_up (w_up (w_up (w_up (w_up (w_up (w_up B 243 k0 itf) 250 k0 (tp T n 1 i)) 251 k0 (zq B (tp T n 1 i) 237 8)) 244 k0 (-1)) 245 k0 0) 247 k0 (wb_lshl 1 k0)) 248 k0 (B 241 11)) 249 k0 0) (w_up (w_up S 14 4 ((i + 1 : Nat) : Int)) 61 4 0) := ⟨hB1T, hxs.2.1, hxs.2.2.1, hxs.2.2.2.1, hxs.2.2.2.2.1, hxs.2.2.2.2.2.1, cn_R_cg hxs.2.2.2.2.2.2.1 (hb11.trans hk0.symm) (fun k q0 q1 => ⟨(w_up_no (by omega)).trans ((w_up_no (by omega)).trans ((w_up_no (by omega)).trans ((w_up_no (by omega)).trans ((w_up_no (by omega)).trans ((w_up_no (by omega)).trans ((w_up_no (by omega)).trans (w_up_no (by omega)))))))), (w_up_no (by omega)).trans ((w_up_no (by omega)).trans ((w_up_no (by omega)).trans ((w_up_no (by omega)).trans ((w_up_no (by omega)).trans ((w_up_no (by omega)).trans ((w_up_no (by omega)).trans (w_up_no (by omega)))))))), (w_up_no (by omega)).trans ((w_up_no (by omega)).trans ((w_up_no (by omega)).trans ((w_up_no (by omega)).trans ((w_up_no (by omega)).trans ((w_up_no (by omega)).trans ((w_up_no (by omega)).trans (w_up_no (by omega))))))))⟩), hxs.2.2.2.2.2.2.2⟩
            have hrs := rs_73 (xs := xs) (M := fun _ => False) (d := d + 1) (B := (w_up (w_up (w_up (w_up (w_up (w_up (w_up (w_up B 243 k0 itf) 250 k0 (tp T n 1 i)) 251 k0 (zq B (tp T n 1 i) 237 8)) 244 k0 (-1)) 245 k0 0) 247 k0 (wb_lshl 1 k0)) 248 k0 (B 241 11)) 249 k0 0)) (S := (w_up (w_up S 14 4 ((i + 1 : Nat) : Int)) 61 4 0)) (i := i + 1) (k0 := k0) (itf := itf) ⟨hb11, by omega⟩ ⟨by rw [w_up_slot (by decide), w_up_slot (by decide), w_up_slot (by decide), w_up_slot (by decide), w_up_slot (by decide), w_up_slot (by decide), w_up_slot (by decide), w_up_same], hit⟩ (by rw [w_up_slot (by decide), w_up_slot (by decide), w_up_slot (by decide), w_up_slot (by decide), w_up_same]) hx1 (show cx_P T n c (i + 1) (w_up (w_up S 14 4 ((i + 1 : Nat) : Int)) 61 4 0) from ⟨((w_up_slot (by decide)).trans (w_up_same _ _ _ _)), hg1⟩) (by omega) ((w_up_same _ _ _ _))
            have hsu : rc_su B (w_up (w_up (w_up (w_up (w_up (w_up (w_up (w_up B 243 k0 itf) 250 k0 (tp T n 1 i)) 251 k0 (zq B (tp T n 1 i) 237 8)) 244 k0 (-1)) 245 k0 0) 247 k0 (wb_lshl 1 k0)) 248 k0 (B 241 11)) 249 k0 0) 241 k0 (tp T n 1 i) = su_a (w_up (w_up (w_up (w_up (w_up (w_up (w_up (w_up B 243 k0 itf) 250 k0 (tp T n 1 i)) 251 k0 (zq B (tp T n 1 i) 237 8)) 244 k0 (-1)) 245 k0 0) 247 k0 (wb_lshl 1 k0)) 248 k0 (B 241 11)) 249 k0 0) 241 k0 (tp T n 1 (i + 1 + 1)) := by unfold rc_su; rw [tp_ne (i := i) hB, if_pos (h58.2 (by omega)), tp_ne (i := i + 1) hB]
            generalize hRR : su_a (w_up (w_up (w_up (w_up (w_up (w_up (w_up (w_up B 243 k0 itf) 250 k0 (tp T n 1 i)) 251 k0 (zq B (tp T n 1 i) 237 8)) 244 k0 (-1)) 245 k0 0) 247 k0 (wb_lshl 1 k0)) 248 k0 (B 241 11)) 249 k0 0) 241 k0 (tp T n 1 (i + 1 + 1)) = RR at hrs hsu
            refine wa_cv 61 rfl (wy_pr rfl) wt_61 (M2 := fun _ => False) rfl at_XT_readSupers ⟨_, rfl⟩ rfl rfl ⟨trivial, trivial, (Or.inr ⟨wy_pr rfl, fun q => q⟩), trivial, trivial⟩ trivial (fun _ _ q => False.elim q) (hrs) (fun oq21 Sq21 hp22 q21 => ?_)
            match RR, hsu, q21 with
            | .inl (e, qq), hsu, hrq =>
              obtain ⟨v, Z0, rfl, g1, g2⟩ := hrq
              refine ⟨rfl, ?_⟩
              have hoo := oo_21 hB hW hrw hwc.1 hnt0
              refine hf e qq v Z0 _ ?_ (cz0 Z0 (fun j h1 h2 h3 => funext fun y => (g1 j y (by omega) (by omega) (by omega)).trans ((w_up_no (by omega)).trans ((w_up_no (by omega)).trans (rfl)))) (fun y hy => (g1 14 y (by omega) (by omega) (by omega)).trans ((w_up_no (by omega)).trans ((w_up_no (by omega)).trans (rfl)))) (fun y hy => (g1 61 y (by omega) (by omega) (by omega)).trans ((w_up_no (by omega)).trans ((w_up_no (by omega)).trans (rfl)))) (fun y hy => (g1 62 y (by omega) (by omega) (by omega)).trans ((w_up_no (by omega)).trans ((w_up_no (by omega)).trans (rfl))))) g2
              unfold rc_n_241; rw [if_pos (by rw [hz6]; exact hnt0.1), if_pos ⟨by omega, by rw [← Bool.not_eq_true]; exact fun z => absurd (hoo.1 z) (by omega)⟩, if_pos (by omega)]; exact rcb_1 hsu
            | .inr (qq, l, a, al), hsu, hrq =>
              obtain ⟨rfl, g1, ⟨i3, g2, rfl⟩, g3, g4, g5⟩ := hrq
              show wJ _ _ _ _ _ _ _ _ _ _
              refine wa_istore_n (n := 3) rfl ?_
              refine wa_fall ⟨_, rfl⟩ ?_
              have hxq : hx_I 241 73 87 92 74 T n c B Sq21 := hx_ag hxs (by decide) (g1 14 3 (by omega) (by omega) (by omega)) (gI_ag2 hxs.2.2.1 (fun j hj => g1 j (-1) (by omega) (by omega) (by omega)) (fun x hx => g1 238 x (by omega) (by omega) (by omega)) (g1 14 5 (by omega) (by omega) (by omega))) (fun j hj => funext fun y => g1 j y (by omega) (by omega) (by omega)) (g1 73 2 (by omega) (by omega) (by omega)) (g1 61 1 (by omega) (by omega) (by omega)) (fun y hy => (g1 y.1 (-1) (by omega) (by omega) (by omega)).trans ((hx_R hxs).2.2.1 y hy))
              exact wJ_S (hgo Sq21 i3 a al l (by omega) (by omega) (by omega) (by omega) hxq g2 (fun j h1 h2 h3 => funext fun y => (g1 j y (by omega) (by omega) (by omega)).trans ((w_up_no (by omega)).trans ((w_up_no (by omega)).trans (rfl)))) (fun y hy => (g1 14 y (by omega) (by omega) (by omega)).trans ((w_up_no (by omega)).trans ((w_up_no (by omega)).trans (rfl)))) (fun y hy => (g1 61 y (by omega) (by omega) (by omega)).trans ((w_up_no (by omega)).trans ((w_up_no (by omega)).trans (rfl)))) (fun y hy => (g1 62 y (by omega) (by omega) (by omega)).trans ((w_up_no (by omega)).trans ((w_up_no (by omega)).trans (rfl)))) hsu g3 g4 (su_a_a hRR ⟨by omega, by omega⟩ g4 (by rw [w_up_slot (by decide), w_up_slot (by decide), w_up_slot (by decide), w_up_slot (by decide), w_up_same]))) ⟨rfl, rfl, rfl, rfl, trivial⟩
        · skip
          refine wa_aload_n (n := 0) rfl ?_
          refine wa_iconst ?_
          refine wa_cv 61 rfl (wy_pr rfl) wt_61 (M2 := fun _ => False) rfl at_XT_refuse ⟨_, rfl⟩ rfl rfl ⟨trivial, (Or.inr ⟨wy_pr rfl, fun q => q⟩), trivial, trivial⟩ trivial (fun _ _ q => False.elim q) (rf_c (S := S) (k := 5) (p := (tp T n 1 i)) (i := (i : Int)) hI (hpos4) (h16_0) ⟨by omega, by have e : S 16 (-1) = S 16 (-1) := rfl; omega⟩ ⟨by omega, by omega⟩ ⟨by omega, by omega⟩) (fun oq24 Sq24 hp25 q24 => ?_)
          rcases q24 with ⟨v, rfl, rz23⟩
          have hrz := rz23
          have hkind : (5 : Int) = 5 := rfl
          refine ⟨rfl, ?_⟩
          have hoo := oo_21 hB hW hrw hwc.1 hnt0
          exact hf 5 _ v _ _ (by unfold rc_n_241; rw [if_pos (by rw [hz6]; exact hnt0.1), if_pos ⟨by omega, by rw [← Bool.not_eq_true]; exact fun z => absurd (hoo.1 z) (by omega)⟩, if_neg (by omega)]) (cz0 _ (fun j h1 h2 h3 => funext fun y => rfl) (fun y hy => rfl) (fun y hy => rfl) (fun y hy => rfl)) hrz
      · skip
        refine wa_fall ⟨_, rfl⟩ ?_
        refine wa_aload_n (n := 0) rfl ?_
        refine wa_iconst ?_
        refine wa_cv 61 rfl (wy_pr rfl) wt_61 (M2 := fun _ => False) rfl at_XT_refuse ⟨_, rfl⟩ rfl rfl ⟨trivial, (Or.inr ⟨wy_pr rfl, fun q => q⟩), trivial, trivial⟩ trivial (fun _ _ q => False.elim q) (rf_c (S := S) (k := 2) (p := (tp T n 1 i)) (i := (i : Int)) hI (hpos4) (h16_0) ⟨by omega, by have e : S 16 (-1) = S 16 (-1) := rfl; omega⟩ ⟨by omega, by omega⟩ ⟨by omega, by omega⟩) (fun oq27 Sq27 hp28 q27 => ?_)
        rcases q27 with ⟨v, rfl, rz26⟩
        have hrz := rz26
        have hkind : (2 : Int) = 2 := rfl
        refine ⟨rfl, ?_⟩
        have hoo := oo_21 hB hW hrw hwc.1 hnt0
        have hno : ¬ (ch_of (zq B (tp T n 1 i)) 241 < 0 ∧ lx_oo (zq B (tp T n 1 i)) tx_21 = false) := by
          rintro ⟨z1, z2⟩; rw [← Bool.not_eq_true] at z2; first | exact z2 (hoo.2 (by omega)) | omega
        exact hf 2 _ v _ _ (by unfold rc_n_241; rw [if_pos (by rw [hz6]; exact hnt0.1), if_neg hno]) (cz0 _ (fun j h1 h2 h3 => funext fun y => rfl) (fun y hy => rfl) (fun y hy => rfl) (fun y hy => rfl)) hrz
  · skip
    have hkg := hw1
    refine ⟨rfl, ?_⟩
    exact hf 1 _ v _ _ (by unfold rc_n_241; rw [if_neg (by rw [hz6]; exact fun z => hkg (hk5.2 z))]) (cz0 _ (fun j h1 h2 h3 => funext fun y => rfl) (fun y hy => rfl) (fun y hy => rfl) (fun y hy => rfl)) hrz
theorem rcl_162 {os : Int → List Int} (hX : w_X xs) (hx : hx_I 261 162 176 181 163 T n c B S) (hP : cx_P T n c i S) (hk0 : B 261 1 = k0) (hit : itf = 0 ∨ itf = 1) (htb : tb_I 176 205 206 207 163 S k0 (ms.length : Int)) (hos : ∀ q : Int, 0 ≤ q → q < k0 → od_1 182 203 204 S q (os q)) (hms : mr_all 186 163 T S ms) (hmc : S 162 4 = (ms.length : Int)) (hq : ∀ (S3 : wS) (a al : Int) (l : List Int) (Zo : wS) (i2 : Nat) (ms2 : List hMR) (Zm Z1 Zf : wS), rc_n_261 B k0 ms itf (tp T n 1 i) = .inr (tp T n 1 (i2 + 1), (itf, tp T n 1 i, zq B (tp T n 1 i) 237 8, a, l, al, (ms.length : Int), (ms2.length : Int) - (ms.length : Int)), ms2) → (∀ j : Nat, j ≠ 14 → j ≠ 61 → j ≠ 62 → S3 j = S j) → ((∀ y : Int, y ≠ 4 → S3 14 y = S 14 y) ∧ (∀ y : Int, y ≠ 4 → S3 61 y = S 61 y) ∧ ∀ y : Int, y < 0 → S3 62 y = S 62 y) → su_nd k0 l → (-1 ≤ a ∧ a < k0) → oz_ag 182 203 204 k0 (w_up (w_up (w_up (w_up (w_up (w_up (w_up S3 176 k0 itf) 177 k0 a) 179 k0 0) 180 k0 (ms.length : Int)) 181 k0 (S 17 (i : Int))) 162 2 (k0 + 1)) 178 k0 (l.length : Int)) Zo → od_1 182 203 204 Zo k0 (so_L ((w_up (w_up (w_up (w_up (w_up (w_up S3 176 k0 itf) 177 k0 a) 179 k0 0) 180 k0 (ms.length : Int)) 181 k0 (S 17 (i : Int))) 162 2 (k0 + 1)) 176) ((w_up (w_up (w_up (w_up (w_up (w_up S3 176 k0 itf) 177 k0 a) 179 k0 0) 180 k0 (ms.length : Int)) 181 k0 (S 17 (i : Int))) 162 2 (k0 + 1)) 177) os k0 l) → kg T n (tp T n 1 i2) = 13 → mz_ag 186 162 176 k0 (ms.length : Int) Zo Zm → hx_I 261 162 176 181 163 T n c (w_up (w_up (w_up (w_up (w_up (w_up (w_up (w_up (w_up B 263 k0 itf) 270 k0 (tp T n 1 i)) 271 k0 (zq B (tp T n 1 i) 237 8)) 264 k0 (-1)) 265 k0 0) 267 k0 (wb_lshl 1 k0)) 268 k0 (B 261 11)) 269 k0 0) 261 1 (k0 + 1)) Zm → cx_P T n c i2 Zm → mr_all 186 163 T Zm ms2 → Zm 162 4 = (ms2.length : Int) → ms.length ≤ ms2.length → Zm 179 k0 = (ms2.length : Int) - (ms.length : Int) → le_I 186 176 205 206 207 208 (ms.length : Int) k0 (S3 205 2) (if a = -1 then 0 else S3 183 a) (if a = -1 then -1 else S3 184 a) (ms2.drop ms.length) (w_up (w_up (w_up Zm 14 4 ((i2 + 1 : Nat) : Int)) 183 k0 (if a = -1 then 0 else S3 183 a)) 184 k0 (if a = -1 then -1 else S3 184 a)) Z1 (ms2.drop ms.length).length → l2_I 186 176 163 208 (ms.length : Int) (ms2.drop ms.length) Z1 Zf (ms2.drop ms.length).length → Q (.inl none) Zf) (hf : ∀ (e q : Int) (v : Nat) (Z0 Z : wS), rc_n_261 B k0 ms itf (tp T n 1 i) = .inl (e, q) → cz_ag 186 162 176 203 204 k0 (ms.length : Int) S Z0 → rz_ag Z0 Z v (e + 16 * q) → Q (.inr v) Z) : wJ (pe_GA xs) wY0 (mS [206, 207]) (d + 11) t_XT_readClass ((pe_at t_XT_readClass.bl 0).getD (0, [])).2 [(0, (2, 61)), (1, (0, itf))] [] S Q := by
  have hB : zT B T n := hx.1
  have hT : cx_T 163 T n c S := hx.2.1
  have hI : gI S := hx.2.2.1
  have hW : wd_at S 163 64 := hx.2.2.2.1
  have hrw : rw_I S 163 := hx.2.2.2.2.1
  have hwc : 13 ≤ S 163 7 ∧ S 163 7 ≤ 400000 := hx.2.2.2.2.2.1
  have hR : cn_R 261 162 176 181 163 T B S := hx.2.2.2.2.2.2.1
  have hH : S 61 1 = 162 := hx.2.2.2.2.2.2.2
  have hC : w_CL S := hR.2.2.1
  have hN : S 162 2 = B 261 1 := hR.1
  have hN6 : 0 ≤ B 261 1 ∧ B 261 1 ≤ 60 := hR.2.1
  have hpos4 : S 14 4 = (i : Int) := hP.1
  have hg0 : pg T n c i := hP.2
  have hA0 := pg_at hT hg0
  have h16_0 := hA0.1
  have h15_0 := hA0.2.1
  have hpr0 := hA0.2.2
  have hkr0 := kg_rg T n (tp T n 1 i)
  have hcn : (c : Int) ≤ n ∧ n ≤ 65536 := ⟨hT.2.2.2.2.1, hT.2.2.2.2.2.1⟩
  have hRL := hT.2.2.2.2.2.2
  have hl15 : S 14 3 ≤ S 15 (-1) := hRL.1.2
  have hl16 : S 16 (-1) = S 15 (-1) := hRL.2.1
  have hl17 : S 17 (-1) = S 15 (-1) := hRL.2.2.1
  have hc3 : S 14 3 = (c : Int) + 1 := hT.1
  have hic0 : i ≤ c := hg0.1
  have hz6 : zq B (tp T n 1 i) 237 6 = lx_tk T n 1 (tp T n 1 i) := zT_6 hB
  have hk5 := kg_5 T n (tp T n 1 i)
  have hB4 : B 237 4 = n := hB.2.1
  have cz0 : ∀ Z0 : wS, (∀ j : Nat, j ≠ 14 → j ≠ 61 → j ≠ 62 → Z0 j = S j) → (∀ y : Int, y ≠ 4 → Z0 14 y = S 14 y) → (∀ y : Int, y ≠ 4 → Z0 61 y = S 61 y) → (∀ y : Int, y < 0 → Z0 62 y = S 62 y) → cz_ag 186 162 176 203 204 k0 (ms.length : Int) S Z0 := by
    intro Z0 e1 e2 e3 e4 j y a1 a2 a3 a4 a5 a6 a7 a8
    by_cases h1 : j = 14
    · subst h1; exact e2 y (by omega)
    by_cases h2 : j = 61
    · subst h2; exact e3 y (by omega)
    by_cases h3 : j = 62
    · subst h3; exact e4 y (by omega)
    exact congrFun (e1 j h1 h2 h3) y
  -- behind the supers
  have hgo : ∀ (S3 : wS) (i3 : Nat) (a al : Int) (l : List Int), kg T n (tp T n 1 i) = 5 → ch_of (zq B (tp T n 1 i)) 261 = -1 → 13 ≤ S 17 (i : Int) → k0 < 60 → hx_I 261 162 176 181 163 T n c B S3 → cx_P T n c i3 S3 → (∀ j : Nat, j ≠ 14 → j ≠ 61 → j ≠ 62 → S3 j = S j) → (∀ y : Int, y ≠ 4 → S3 14 y = S 14 y) → (∀ y : Int, y ≠ 4 → S3 61 y = S 61 y) → (∀ y : Int, y < 0 → S3 62 y = S 62 y) → rc_su B (w_up (w_up (w_up (w_up (w_up (w_up (w_up (w_up B 263 k0 itf) 270 k0 (tp T n 1 i)) 271 k0 (zq B (tp T n 1 i) 237 8)) 264 k0 (-1)) 265 k0 0) 267 k0 (wb_lshl 1 k0)) 268 k0 (B 261 11)) 269 k0 0) 261 k0 (tp T n 1 i) = .inr (tp T n 1 i3, l, a, al) → su_I S3 l → su_nd k0 l → (-1 ≤ a ∧ a < k0) → wJ (pe_GA xs) wY0 (mS [206, 207]) (d + 11) t_XT_readClass ((pe_at t_XT_readClass.bl 4).getD (0, [])).2 [(0, (2, 61)), (1, (0, itf)), (2, (0, S 17 (i : Int))), (3, (0, a))] [] S3 Q := by
    intro S3 i3 a al l hk hch h13 hk60 hx3 hP3 e1 e2 e3 e4 hsu hl hnd ha
    have hnt := pg_nt hT hg0 hk
    have hoo := oo_21 hB hW hrw hwc.1 hnt
    have hR0 : rc_n_261 B k0 ms itf (tp T n 1 i) = rc_body B (w_up (w_up (w_up (w_up (w_up (w_up (w_up (w_up B 263 k0 itf) 270 k0 (tp T n 1 i)) 271 k0 (zq B (tp T n 1 i) 237 8)) 264 k0 (-1)) 265 k0 0) 267 k0 (wb_lshl 1 k0)) 268 k0 (B 261 11)) 269 k0 0) 261 k0 ms itf (tp T n 1 i) := by
      unfold rc_n_261
      rw [if_pos (by rw [hz6]; exact hnt.1), if_pos ⟨by omega, by rw [← Bool.not_eq_true]; exact fun z => absurd (hoo.1 z) (by omega)⟩, if_pos hk60]
    have h123 := lx_is_kg (i := i3) hB (k := 12) (ch := 123) (by decide) sk_12
    have hB2T : zT (w_up (w_up (w_up (w_up (w_up (w_up (w_up (w_up (w_up B 263 k0 itf) 270 k0 (tp T n 1 i)) 271 k0 (zq B (tp T n 1 i) 237 8)) 264 k0 (-1)) 265 k0 0) 267 k0 (wb_lshl 1 k0)) 268 k0 (B 261 11)) 269 k0 0) 261 1 (k0 + 1)) T n := ⟨by rw [w_up_row (by decide), w_up_row (by decide), w_up_row (by decide), w_up_row (by decide), w_up_row (by decide), w_up_row (by decide), w_up_row (by decide), w_up_row (by decide), w_up_row (by decide)]; exact hB.1, by rw [w_up_row (by decide), w_up_row (by decide), w_up_row (by decide), w_up_row (by decide), w_up_row (by decide), w_up_row (by decide), w_up_row (by decide), w_up_row (by decide), w_up_row (by decide)]; exact hB.2.1, by rw [w_up_row (by decide), w_up_row (by decide), w_up_row (by decide), w_up_row (by decide), w_up_row (by decide), w_up_row (by decide), w_up_row (by decide), w_up_row (by decide), w_up_row (by decide)]; exact hB.2.2⟩
    have hnr := hnt.2.1
    refine rc4_162 (S := S3) (B := B) (B2 := (w_up (w_up (w_up (w_up (w_up (w_up (w_up (w_up (w_up B 263 k0 itf) 270 k0 (tp T n 1 i)) 271 k0 (zq B (tp T n 1 i) 237 8)) 264 k0 (-1)) 265 k0 0) 267 k0 (wb_lshl 1 k0)) 268 k0 (B 261 11)) 269 k0 0) 261 1 (k0 + 1))) (i := i3) (k0 := k0) (itf := itf) (a := a) (word := S 17 (i : Int)) (p1 := tp T n 1 i) (e1 := lx_en T n 1 (tp T n 1 i)) (sl := l) (os := os) (ms := ms) hX hx3 hP3 ⟨hk0, hk60⟩ hit ha ?_ hB2T (w_up_same _ _ _ _) (fun k q0 q1 => ?_) ?_ hl hnd (tb_cg htb e1 (by decide)) (fun q q0 q1 => od_cg (hos q q0 q1) e1 (by decide)) (mr_cg hms e1 (by decide)) ((congrFun (e1 162 (by decide) (by decide) (by decide)) 4).trans hmc) (fun Zo i2 ms2 Zm Z1 Zf o1 o2 y1 y2 y3 => ?_) (fun Zo e q v Z0 Z o1 o2 y1 y2 y3 => ?_)
    · rw [e1 163 (by decide) (by decide) (by decide), e1 164 (by decide) (by decide) (by decide), e1 165 (by decide) (by decide) (by decide), e1 166 (by decide) (by decide) (by decide)]
      exact ⟨⟨h13, hnr.2⟩, hnt.2.2⟩
    · exact ⟨(w_up_no (by omega)).trans ((w_up_no (by omega)).trans ((w_up_no (by omega)).trans ((w_up_no (by omega)).trans ((w_up_no (by omega)).trans ((w_up_no (by omega)).trans ((w_up_no (by omega)).trans ((w_up_no (by omega)).trans (w_up_no (by omega))))))))), (w_up_no (by omega)).trans ((w_up_no (by omega)).trans ((w_up_no (by omega)).trans ((w_up_no (by omega)).trans ((w_up_no (by omega)).trans ((w_up_no (by omega)).trans ((w_up_no (by omega)).trans ((w_up_no (by omega)).trans (w_up_no (by omega))))))))), (w_up_no (by omega)).trans ((w_up_no (by omega)).trans ((w_up_no (by omega)).trans ((w_up_no (by omega)).trans ((w_up_no (by omega)).trans ((w_up_no (by omega)).trans ((w_up_no (by omega)).trans ((w_up_no (by omega)).trans (w_up_no (by omega)))))))))⟩
    · refine ⟨?_, ?_, ?_⟩
      · rw [w_up_slot (by decide), w_up_slot (by decide), w_up_slot (by decide), w_up_slot (by decide), w_up_slot (by decide), w_up_slot (by decide), w_up_slot (by decide), w_up_slot (by decide), w_up_same]
      · rw [w_up_slot (by decide), w_up_slot (by decide), w_up_slot (by decide), w_up_slot (by decide), w_up_slot (by decide), w_up_slot (by decide), w_up_slot (by decide), w_up_same]
      · rw [w_up_slot (by decide), w_up_slot (by decide), w_up_slot (by decide), w_up_slot (by decide), w_up_slot (by decide), w_up_slot (by decide), w_up_same, zT_8 hB]
    · refine hq S3 a al l Zo i2 ms2 Zm Z1 Zf ?_ e1 ⟨e2, e3, e4⟩ hnd ha o1 o2 y3
      rw [hR0, rcb_4 hsu (h123.2 y1) (by rw [hB4, tp_ne (i := i3) hB]; exact y2), tp_ne (i := i2) hB]
    · refine hf e q v Z0 Z ?_ ?_ y3
      · rw [hR0]
        rcases y1 with ⟨z1, rfl, rfl⟩ | ⟨z1, z2⟩
        · exact rcb_2 hsu (fun z => z1 (h123.1 z))
        · exact rcb_3 hsu (h123.2 z1) (by rw [hB4, tp_ne (i := i3) hB]; exact z2)
      · refine cz_tr (cz0 S3 e1 e2 e3 e4) (fun j y a1 a2 a3 a4 a5 a6 a7 a8 => ?_)
        refine (y2 j y a1 (by omega) (by omega) (by omega)).trans ((o1 j y (by omega) (by omega) (by omega)).trans ?_)
        exact (w_up_no (by omega)).trans ((w_up_no (by omega)).trans ((w_up_no (by omega)).trans ((w_up_no (by omega)).trans ((w_up_no (by omega)).trans ((w_up_no (by omega)).trans (w_up_no (by omega)))))))
  refine wa_aload_n (n := 0) rfl ?_
  refine wa_cv 61 rfl (wy_pr rfl) wt_61 (M2 := fun _ => False) rfl at_XT_wordHere ⟨_, rfl⟩ rfl rfl ⟨(Or.inr ⟨wy_pr rfl, fun q => q⟩), trivial, trivial⟩ trivial (fun _ _ q => False.elim q) (wh_c (S := S) (hx_T hx) (show cx_P T n c (i) S from ⟨(hpos4), hg0⟩) rfl hI) (fun oq3 Sq3 hp4 q3 => ?_)
  rcases q3 with ⟨hw1, rfl, rfl⟩ | ⟨hw1, v, rfl, hrz⟩
  · skip
    show wJ _ _ _ _ _ _ _ _ _ _
    show wJ _ _ _ _ _ _ _ ((0, S 17 (i : Int)) :: _) _ _
    have hnt0 : nt_I S 163 T n (tp T n 1 i) (S 17 (i : Int)) := pg_nt hT hg0 hw1
    have hnv0 := hnt0.2.1
    refine wa_istore_n (n := 2) rfl ?_
    refine wa_iload_n (n := 2) rfl ?_
    refine wa_bipush (w_rg2 (by omega) (by omega)) ?_
    refine wa_icmplt (w_rg0 (by omega) (by omega)) (w_rg0 (by omega) (by omega)) ⟨_, rfl⟩ (fun c5 => ?_) (fun c5 => ?_)
    · skip
      refine wa_aload_n (n := 0) rfl ?_
      refine wa_iconst ?_
      refine wa_cv 61 rfl (wy_pr rfl) wt_61 (M2 := fun _ => False) rfl at_XT_refuse ⟨_, rfl⟩ rfl rfl ⟨trivial, (Or.inr ⟨wy_pr rfl, fun q => q⟩), trivial, trivial⟩ trivial (fun _ _ q => False.elim q) (rf_c (S := S) (k := 2) (p := (tp T n 1 i)) (i := (i : Int)) hI (hpos4) (h16_0) ⟨by omega, by have e : S 16 (-1) = S 16 (-1) := rfl; omega⟩ ⟨by omega, by omega⟩ ⟨by omega, by omega⟩) (fun oq7 Sq7 hp8 q7 => ?_)
      rcases q7 with ⟨v, rfl, rz6⟩
      have hrz := rz6
      have hkind : (2 : Int) = 2 := rfl
      refine ⟨rfl, ?_⟩
      have hoo := oo_21 hB hW hrw hwc.1 hnt0
      have hno : ¬ (ch_of (zq B (tp T n 1 i)) 261 < 0 ∧ lx_oo (zq B (tp T n 1 i)) tx_21 = false) := by
        rintro ⟨z1, z2⟩; rw [← Bool.not_eq_true] at z2; first | exact z2 (hoo.2 (by omega)) | omega
      exact hf 2 _ v _ _ (by unfold rc_n_261; rw [if_pos (by rw [hz6]; exact hnt0.1), if_neg hno]) (cz0 _ (fun j h1 h2 h3 => funext fun y => rfl) (fun y hy => rfl) (fun y hy => rfl) (fun y hy => rfl)) hrz
    · skip
      refine wa_aload_n (n := 0) rfl ?_
      refine wb_gf5 61 rfl (wy_pr rfl) wt_61 wf_4_1 (v := 162) (hH) (fun r9 => ?_)
      refine wa_iload_n (n := 2) rfl ?_
      refine wa_cv 162 rfl (wy_pr rfl) wt_162 (M2 := fun _ => False) rfl at_XO_classTyped ⟨_, rfl⟩ rfl rfl ⟨trivial, (Or.inr ⟨wy_pr rfl, fun q => q⟩), trivial, trivial⟩ trivial (fun _ _ q => False.elim q) (ct_162 (S := S) (B := B) (p := (tp T n 1 i)) hB (hx_W hx) (hx_R hx) (show nt_I S 163 T n (tp T n 1 i) (S 17 (i : Int)) from hnt0) (by omega)) (fun oq10 Sq10 hp11 q10 => ?_)
      rcases q10 with ⟨rfl, rfl⟩
      show wJ _ _ _ _ _ _ _ _ _ _
      have hch0 := ch_of_rg (zq B (tp T n 1 i)) 261 (by show B 261 1 ≤ 60; omega)
      have hch0 : -1 ≤ (ch_of (zq B (tp T n 1 i)) 261) ∧ (ch_of (zq B (tp T n 1 i)) 261) ≤ 59 ∧ (ch_of (zq B (tp T n 1 i)) 261) < max (B 261 1) 0 := hch0
      have hct0 : 0 ≤ (ch_of (zq B (tp T n 1 i)) 261) → S 176 (ch_of (zq B (tp T n 1 i)) 261) = B 263 (ch_of (zq B (tp T n 1 i)) 261) := fun z => (hR.2.2.2 _ z (by omega)).1
      refine wa_iconst ?_
      refine wa_icmpeq (w_rg0 (by omega) (by omega)) (w_rg0 (by omega) (by omega)) ⟨_, rfl⟩ (fun c12 => ?_) (fun c12 => ?_)
      · skip
        refine wa_aload_n (n := 0) rfl ?_
        refine wb_gf5 61 rfl (wy_pr rfl) wt_61 wf_4_1 (v := 162) (hH) (fun r13 => ?_)
        refine wb_gfi 162 rfl (wy_pr rfl) wt_162 wf_3_2 (v := k0) ((hN.trans hk0)) (fun r14 => ?_)
        refine wa_bipush (w_rg2 (by omega) (by omega)) ?_
        refine wa_icmpne (w_rg0 (by omega) (by omega)) (w_rg0 (by omega) (by omega)) ⟨_, rfl⟩ (fun c15 => ?_) (fun c15 => ?_)
        · skip
          refine wa_aload_n (n := 0) rfl ?_
          refine wb_gf4 61 rfl (wy_pr rfl) wt_61 wf_4_0 (v := 14) wl_61_0 ?_
          refine wa_cv 14 rfl (wy_pr rfl) wt_14 (M2 := fun _ => False) rfl at_XR_next ⟨_, rfl⟩ rfl rfl ⟨trivial, (Or.inr ⟨wy_pr rfl, fun q => q⟩), trivial, trivial⟩ trivial (fun _ _ q => False.elim q) (nx_c (S := S) (hx_T hx) (show cx_P T n c (i) S from ⟨(hpos4), hg0⟩) rfl hI (by omega)) (fun oq16 Sq16 hp17 q16 => ?_)
          rcases q16 with ⟨rfl, rfl⟩
          show wJ _ _ _ _ _ _ _ _ _ _
          have hg1 : pg T n c (i + 1) := pg_next (i := i) hT hg0 (by omega) (by omega)
          have hA1 := pg_at hT hg1
          have h16_1 := hA1.1
          have h15_1 := hA1.2.1
          have hpr1 := hA1.2.2
          have hkr1 := kg_rg T n (tp T n 1 (i + 1))
          have hic1 := hg1.1
          have hlt1 := tp_lt (i := i) hT hg0 (by omega) (by omega)
          refine wa_aload_n (n := 0) rfl ?_
          refine wa_iconst ?_
          refine wb_pfi 61 rfl (wy_pr rfl) wt_61 wf_4_4 (n := 4) rfl ⟨(by omega), (by omega)⟩ ?_
          refine wa_iconst ?_
          refine wa_istore_n (n := 3) rfl ?_
          refine wa_aload_n (n := 0) rfl ?_
          refine wb_gf4 61 rfl (wy_pr rfl) wt_61 wf_4_0 (v := 14) wl_61_0 ?_
          refine wa_cv 14 rfl (wy_pr rfl) wt_14 (M2 := fun _ => False) rfl at_XR_kind ⟨_, rfl⟩ rfl rfl ⟨trivial, trivial, (Or.inr ⟨wy_pr rfl, fun q => q⟩), trivial, trivial⟩ trivial (fun _ _ q => False.elim q) ?_ (fun _ _ _ q => q)
          refine wa_aload_n (n := 0) rfl ?_
          refine wb_gf4 14 rfl (wy_pr rfl) wt_14 wf_6_0 (v := 15) wl_14_0 ?_
          refine wa_aload_n (n := 0) rfl ?_
          refine wb_gfi 14 rfl (wy_pr rfl) wt_14 wf_6_4 (v := ((i + 1 : Nat) : Int)) ((w_up_slot (by decide)).trans (w_up_same _ _ _ _)) (fun r18 => ?_)
          refine wb_bald 15 rfl (wy_pr rfl) wt_15 (n := (S 15 (-1))) ((w_up_slot (by decide)).trans (w_up_slot (by decide))) (by omega) (by omega) (v := (kg T n (tp T n 1 (i + 1)))) ((w_up_slot (by decide)).trans ((w_up_slot (by decide)).trans (h15_1))) (fun r19 => ?_)
          refine wa_ireturn rfl ?_
          show wJ _ _ _ _ _ _ _ _ _ _
          refine wa_bipush (w_rg2 (by omega) (by omega)) ?_
          refine wa_icmpne (w_rg0 (by omega) (by omega)) (w_rg0 (by omega) (by omega)) ⟨_, rfl⟩ (fun c20 => ?_) (fun c20 => ?_)
          · skip
            have h58 := lx_is_kg (i := i + 1) hB (k := 19) (ch := 58) (by decide) sk_19
            have hsu : rc_su B (w_up (w_up (w_up (w_up (w_up (w_up (w_up (w_up B 263 k0 itf) 270 k0 (tp T n 1 i)) 271 k0 (zq B (tp T n 1 i) 237 8)) 264 k0 (-1)) 265 k0 0) 267 k0 (wb_lshl 1 k0)) 268 k0 (B 261 11)) 269 k0 0) 261 k0 (tp T n 1 i) = .inr ((tp T n 1 (i + 1)), [], -1, wb_lshl 1 k0) := by unfold rc_su; rw [tp_ne (i := i) hB, if_neg (fun z => absurd (h58.1 z) (by omega))]
            exact wJ_S (hgo (w_up (w_up S 14 4 ((i + 1 : Nat) : Int)) 61 4 0) (i + 1) (-1) (wb_lshl 1 k0) [] (by omega) (by omega) (by omega) (by omega) (hx_up (hx_up hx (by unfold hx_o; omega)) (by unfold hx_o; omega)) (show cx_P T n c (i + 1) (w_up (w_up S 14 4 ((i + 1 : Nat) : Int)) 61 4 0) from ⟨((w_up_slot (by decide)).trans (w_up_same _ _ _ _)), hg1⟩) (fun j h1 h2 h3 => funext fun y => (w_up_no (by omega)).trans ((w_up_no (by omega)).trans (rfl))) (fun y hy => (w_up_no (by omega)).trans ((w_up_no (by omega)).trans (rfl))) (fun y hy => (w_up_no (by omega)).trans ((w_up_no (by omega)).trans (rfl))) (fun y hy => (w_up_no (by omega)).trans ((w_up_no (by omega)).trans (rfl))) hsu ⟨(w_up_same _ _ _ _), by decide, fun k hk => absurd hk (Nat.not_lt_zero _)⟩ ⟨List.nodup_nil, fun x hx => absurd hx List.not_mem_nil⟩ ⟨by omega, by omega⟩) ⟨rfl, rfl, rfl, rfl, trivial⟩
          · skip
            refine wa_aload_n (n := 0) rfl ?_
            refine wa_iload_n (n := 1) rfl ?_
            have h58 := lx_is_kg (i := i + 1) hB (k := 19) (ch := 58) (by decide) sk_19
            have hB1T : zT (w_up (w_up (w_up (w_up (w_up (w_up (w_up (w_up B 263 k0 itf) 270 k0 (tp T n 1 i)) 271 k0 (zq B (tp T n 1 i) 237 8)) 264 k0 (-1)) 265 k0 0) 267 k0 (wb_lshl 1 k0)) 268 k0 (B 261 11)) 269 k0 0) T n := ⟨by rw [w_up_row (by decide), w_up_row (by decide), w_up_row (by decide), w_up_row (by decide), w_up_row (by decide), w_up_row (by decide), w_up_row (by decide), w_up_row (by decide)]; exact hB.1, by rw [w_up_row (by decide), w_up_row (by decide), w_up_row (by decide), w_up_row (by decide), w_up_row (by decide), w_up_row (by decide), w_up_row (by decide), w_up_row (by decide)]; exact hB.2.1, by rw [w_up_row (by decide), w_up_row (by decide), w_up_row (by decide), w_up_row (by decide), w_up_row (by decide), w_up_row (by decide), w_up_row (by decide), w_up_row (by decide)]; exact hB.2.2⟩
            have hb11 : (w_up (w_up (w_up (w_up (w_up (w_up (w_up (w_up B 263 k0 itf) 270 k0 (tp T n 1 i)) 271 k0 (zq B (tp T n 1 i) 237 8)) 264 k0 (-1)) 265 k0 0) 267 k0 (wb_lshl 1 k0)) 268 k0 (B 261 11)) 269 k0 0) 261 1 = k0 := ((w_up_no (by omega)).trans ((w_up_no (by omega)).trans ((w_up_no (by omega)).trans ((w_up_no (by omega)).trans ((w_up_no (by omega)).trans ((w_up_no (by omega)).trans ((w_up_no (by omega)).trans (w_up_no (by omega))))))))).trans hk0
            have hxs : hx_I 261 162 176 181 163 T n c B (w_up (w_up S 14 4 ((i + 1 : Nat) : Int)) 61 4 0) := (hx_up (hx_up hx (by unfold hx_o; omega)) (by unfold hx_o; omega))
            have hx1 : hx_I 261 162 176 181 163 T n c (w_up (w_up (w_up (w_up (w_up (w_up (w_up (w_up B 263 k0 itf) 270 k0 (tp T n 1 i)) 271 k0 (zq B (tp T n 1 i) 237 8)) 264 k0 (-1)) 265 k0 0) 267 k0 (wb_lshl 1 k0)) 268 k0 (B 261 11)) 269 k0 0) (w_up (w_up S 14 4 ((i + 1 : Nat) : Int)) 61 4 0) := ⟨hB1T, hxs.2.1, hxs.2.2.1, hxs.2.2.2.1, hxs.2.2.2.2.1, hxs.2.2.2.2.2.1, cn_R_cg hxs.2.2.2.2.2.2.1 (hb11.trans hk0.symm) (fun k q0 q1 => ⟨(w_up_no (by omega)).trans ((w_up_no (by omega)).trans ((w_up_no (by omega)).trans ((w_up_no (by omega)).trans ((w_up_no (by omega)).trans ((w_up_no (by omega)).trans ((w_up_no (by omega)).trans (w_up_no (by omega)))))))), (w_up_no (by omega)).trans ((w_up_no (by omega)).trans ((w_up_no (by omega)).trans ((w_up_no (by omega)).trans ((w_up_no (by omega)).trans ((w_up_no (by omega)).trans ((w_up_no (by omega)).trans (w_up_no (by omega)))))))), (w_up_no (by omega)).trans ((w_up_no (by omega)).trans ((w_up_no (by omega)).trans ((w_up_no (by omega)).trans ((w_up_no (by omega)).trans ((w_up_no (by omega)).trans ((w_up_no (by omega)).trans (w_up_no (by omega))))))))⟩), hxs.2.2.2.2.2.2.2⟩
            have hrs := rs_162 (xs := xs) (M := fun _ => False) (d := d + 1) (B := (w_up (w_up (w_up (w_up (w_up (w_up (w_up (w_up B 263 k0 itf) 270 k0 (tp T n 1 i)) 271 k0 (zq B (tp T n 1 i) 237 8)) 264 k0 (-1)) 265 k0 0) 267 k0 (wb_lshl 1 k0)) 268 k0 (B 261 11)) 269 k0 0)) (S := (w_up (w_up S 14 4 ((i + 1 : Nat) : Int)) 61 4 0)) (i := i + 1) (k0 := k0) (itf := itf) ⟨hb11, by omega⟩ ⟨by rw [w_up_slot (by decide), w_up_slot (by decide), w_up_slot (by decide), w_up_slot (by decide), w_up_slot (by decide), w_up_slot (by decide), w_up_slot (by decide), w_up_same], hit⟩ (by rw [w_up_slot (by decide), w_up_slot (by decide), w_up_slot (by decide), w_up_slot (by decide), w_up_same]) hx1 (show cx_P T n c (i + 1) (w_up (w_up S 14 4 ((i + 1 : Nat) : Int)) 61 4 0) from ⟨((w_up_slot (by decide)).trans (w_up_same _ _ _ _)), hg1⟩) (by omega) ((w_up_same _ _ _ _))
            have hsu : rc_su B (w_up (w_up (w_up (w_up (w_up (w_up (w_up (w_up B 263 k0 itf) 270 k0 (tp T n 1 i)) 271 k0 (zq B (tp T n 1 i) 237 8)) 264 k0 (-1)) 265 k0 0) 267 k0 (wb_lshl 1 k0)) 268 k0 (B 261 11)) 269 k0 0) 261 k0 (tp T n 1 i) = su_a (w_up (w_up (w_up (w_up (w_up (w_up (w_up (w_up B 263 k0 itf) 270 k0 (tp T n 1 i)) 271 k0 (zq B (tp T n 1 i) 237 8)) 264 k0 (-1)) 265 k0 0) 267 k0 (wb_lshl 1 k0)) 268 k0 (B 261 11)) 269 k0 0) 261 k0 (tp T n 1 (i + 1 + 1)) := by unfold rc_su; rw [tp_ne (i := i) hB, if_pos (h58.2 (by omega)), tp_ne (i := i + 1) hB]
            generalize hRR : su_a (w_up (w_up (w_up (w_up (w_up (w_up (w_up (w_up B 263 k0 itf) 270 k0 (tp T n 1 i)) 271 k0 (zq B (tp T n 1 i) 237 8)) 264 k0 (-1)) 265 k0 0) 267 k0 (wb_lshl 1 k0)) 268 k0 (B 261 11)) 269 k0 0) 261 k0 (tp T n 1 (i + 1 + 1)) = RR at hrs hsu
            refine wa_cv 61 rfl (wy_pr rfl) wt_61 (M2 := fun _ => False) rfl at_XT_readSupers ⟨_, rfl⟩ rfl rfl ⟨trivial, trivial, (Or.inr ⟨wy_pr rfl, fun q => q⟩), trivial, trivial⟩ trivial (fun _ _ q => False.elim q) (hrs) (fun oq21 Sq21 hp22 q21 => ?_)
            match RR, hsu, q21 with
            | .inl (e, qq), hsu, hrq =>
              obtain ⟨v, Z0, rfl, g1, g2⟩ := hrq
              refine ⟨rfl, ?_⟩
              have hoo := oo_21 hB hW hrw hwc.1 hnt0
              refine hf e qq v Z0 _ ?_ (cz0 Z0 (fun j h1 h2 h3 => funext fun y => (g1 j y (by omega) (by omega) (by omega)).trans ((w_up_no (by omega)).trans ((w_up_no (by omega)).trans (rfl)))) (fun y hy => (g1 14 y (by omega) (by omega) (by omega)).trans ((w_up_no (by omega)).trans ((w_up_no (by omega)).trans (rfl)))) (fun y hy => (g1 61 y (by omega) (by omega) (by omega)).trans ((w_up_no (by omega)).trans ((w_up_no (by omega)).trans (rfl)))) (fun y hy => (g1 62 y (by omega) (by omega) (by omega)).trans ((w_up_no (by omega)).trans ((w_up_no (by omega)).trans (rfl))))) g2
              unfold rc_n_261; rw [if_pos (by rw [hz6]; exact hnt0.1), if_pos ⟨by omega, by rw [← Bool.not_eq_true]; exact fun z => absurd (hoo.1 z) (by omega)⟩, if_pos (by omega)]; exact rcb_1 hsu
            | .inr (qq, l, a, al), hsu, hrq =>
              obtain ⟨rfl, g1, ⟨i3, g2, rfl⟩, g3, g4, g5⟩ := hrq
              show wJ _ _ _ _ _ _ _ _ _ _
              refine wa_istore_n (n := 3) rfl ?_
              refine wa_fall ⟨_, rfl⟩ ?_
              have hxq : hx_I 261 162 176 181 163 T n c B Sq21 := hx_ag hxs (by decide) (g1 14 3 (by omega) (by omega) (by omega)) (gI_ag2 hxs.2.2.1 (fun j hj => g1 j (-1) (by omega) (by omega) (by omega)) (fun x hx => g1 238 x (by omega) (by omega) (by omega)) (g1 14 5 (by omega) (by omega) (by omega))) (fun j hj => funext fun y => g1 j y (by omega) (by omega) (by omega)) (g1 162 2 (by omega) (by omega) (by omega)) (g1 61 1 (by omega) (by omega) (by omega)) (fun y hy => (g1 y.1 (-1) (by omega) (by omega) (by omega)).trans ((hx_R hxs).2.2.1 y hy))
              exact wJ_S (hgo Sq21 i3 a al l (by omega) (by omega) (by omega) (by omega) hxq g2 (fun j h1 h2 h3 => funext fun y => (g1 j y (by omega) (by omega) (by omega)).trans ((w_up_no (by omega)).trans ((w_up_no (by omega)).trans (rfl)))) (fun y hy => (g1 14 y (by omega) (by omega) (by omega)).trans ((w_up_no (by omega)).trans ((w_up_no (by omega)).trans (rfl)))) (fun y hy => (g1 61 y (by omega) (by omega) (by omega)).trans ((w_up_no (by omega)).trans ((w_up_no (by omega)).trans (rfl)))) (fun y hy => (g1 62 y (by omega) (by omega) (by omega)).trans ((w_up_no (by omega)).trans ((w_up_no (by omega)).trans (rfl)))) hsu g3 g4 (su_a_a hRR ⟨by omega, by omega⟩ g4 (by rw [w_up_slot (by decide), w_up_slot (by decide), w_up_slot (by decide), w_up_slot (by decide), w_up_same]))) ⟨rfl, rfl, rfl, rfl, trivial⟩
        · skip
          refine wa_aload_n (n := 0) rfl ?_
          refine wa_iconst ?_
          refine wa_cv 61 rfl (wy_pr rfl) wt_61 (M2 := fun _ => False) rfl at_XT_refuse ⟨_, rfl⟩ rfl rfl ⟨trivial, (Or.inr ⟨wy_pr rfl, fun q => q⟩), trivial, trivial⟩ trivial (fun _ _ q => False.elim q) (rf_c (S := S) (k := 5) (p := (tp T n 1 i)) (i := (i : Int)) hI (hpos4) (h16_0) ⟨by omega, by have e : S 16 (-1) = S 16 (-1) := rfl; omega⟩ ⟨by omega, by omega⟩ ⟨by omega, by omega⟩) (fun oq24 Sq24 hp25 q24 => ?_)
          rcases q24 with ⟨v, rfl, rz23⟩
          have hrz := rz23
          have hkind : (5 : Int) = 5 := rfl
          refine ⟨rfl, ?_⟩
          have hoo := oo_21 hB hW hrw hwc.1 hnt0
          exact hf 5 _ v _ _ (by unfold rc_n_261; rw [if_pos (by rw [hz6]; exact hnt0.1), if_pos ⟨by omega, by rw [← Bool.not_eq_true]; exact fun z => absurd (hoo.1 z) (by omega)⟩, if_neg (by omega)]) (cz0 _ (fun j h1 h2 h3 => funext fun y => rfl) (fun y hy => rfl) (fun y hy => rfl) (fun y hy => rfl)) hrz
      · skip
        refine wa_fall ⟨_, rfl⟩ ?_
        refine wa_aload_n (n := 0) rfl ?_
        refine wa_iconst ?_
        refine wa_cv 61 rfl (wy_pr rfl) wt_61 (M2 := fun _ => False) rfl at_XT_refuse ⟨_, rfl⟩ rfl rfl ⟨trivial, (Or.inr ⟨wy_pr rfl, fun q => q⟩), trivial, trivial⟩ trivial (fun _ _ q => False.elim q) (rf_c (S := S) (k := 2) (p := (tp T n 1 i)) (i := (i : Int)) hI (hpos4) (h16_0) ⟨by omega, by have e : S 16 (-1) = S 16 (-1) := rfl; omega⟩ ⟨by omega, by omega⟩ ⟨by omega, by omega⟩) (fun oq27 Sq27 hp28 q27 => ?_)
        rcases q27 with ⟨v, rfl, rz26⟩
        have hrz := rz26
        have hkind : (2 : Int) = 2 := rfl
        refine ⟨rfl, ?_⟩
        have hoo := oo_21 hB hW hrw hwc.1 hnt0
        have hno : ¬ (ch_of (zq B (tp T n 1 i)) 261 < 0 ∧ lx_oo (zq B (tp T n 1 i)) tx_21 = false) := by
          rintro ⟨z1, z2⟩; rw [← Bool.not_eq_true] at z2; first | exact z2 (hoo.2 (by omega)) | omega
        exact hf 2 _ v _ _ (by unfold rc_n_261; rw [if_pos (by rw [hz6]; exact hnt0.1), if_neg hno]) (cz0 _ (fun j h1 h2 h3 => funext fun y => rfl) (fun y hy => rfl) (fun y hy => rfl) (fun y hy => rfl)) hrz
  · skip
    have hkg := hw1
    refine ⟨rfl, ?_⟩
    exact hf 1 _ v _ _ (by unfold rc_n_261; rw [if_neg (by rw [hz6]; exact fun z => hkg (hk5.2 z))]) (cz0 _ (fun j h1 h2 h3 => funext fun y => rfl) (fun y hy => rfl) (fun y hy => rfl) (fun y hy => rfl)) hrz
end Wa4
