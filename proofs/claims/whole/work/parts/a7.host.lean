/-! PART a7: readClasses, whole. -/
section Wa7
variable {xs : List (Nat × List Int32)} {M : Nat → Prop} {d : Nat} {A B C S Z : wS} {Q : wO → wS → Prop} {T : Int → Int} {n : Int} {c i : Nat}
theorem rcb_mo {B1 : wS} {b : Nat} {k0 itf p1 p2 : Int} {ms ms2 : List hMR} {cr : hCR} (hB1 : zT B1 T n) (hb : b ≠ 237) (hb9 : b ≠ 239) (hk : 0 ≤ k0 ∧ k0 < 60) (h : rc_body B B1 b k0 ms itf p1 = .inr (p2, cr, ms2)) : ∃ rs : List hMR, ms2 = ms ++ rs ∧ ∀ r ∈ rs, mo_I r ∧ r.1 = k0 := by
  have hB2 : zT (w_up B1 b 1 (k0 + 1)) T n := by
    unfold zT
    rw [w_up_row (fun e => hb9 e.symm), w_up_row (fun e => hb e.symm)]; exact hB1
  cases hs : rc_su B B1 b k0 p1 with
  | inl e => rw [rcb_1 hs] at h; cases h
  | inr x =>
    obtain ⟨q, l, a, al⟩ := x
    by_cases h123 : lx_is (zq B q) 123 = true
    · cases hm : mb_f (w_up B1 b 1 (k0 + 1)) b k0 itf ms.length ((B 237 4 - lx_ne (zq B q) q).toNat + 1) (lx_ne (zq B q) q) ms with
      | inl e => rw [rcb_3 hs h123 hm] at h; cases h
      | inr y =>
        obtain ⟨z, ms3⟩ := y
        rw [rcb_4 hs h123 hm] at h
        have := mb_f_mo hB2 hb (by rw [w_up_same]; omega) hk _ _ _ z ms3 hm
        cases h
        exact this
    · rw [rcb_2 hs h123] at h; cases h
theorem rc_n_mo_73 {k0 itf p1 p2 : Int} {ms ms2 : List hMR} {cr : hCR} (hB : zT B T n) (hk0 : 0 ≤ k0) (h : rc_n_241 B k0 ms itf p1 = .inr (p2, cr, ms2)) : ∃ rs : List hMR, ms2 = ms ++ rs ∧ ∀ r ∈ rs, mo_I r ∧ r.1 = k0 := by
  unfold rc_n_241 at h
  by_cases h1 : zq B p1 237 6 = 1
  · rw [if_pos h1] at h
    by_cases h2 : ch_of (zq B p1) 241 < 0 ∧ lx_oo (zq B p1) tx_21 = false
    · rw [if_pos h2] at h
      by_cases h3 : k0 < 60
      · rw [if_pos h3] at h
        exact rcb_mo (T := T) (n := n) ⟨by rw [w_up_row (by decide), w_up_row (by decide), w_up_row (by decide), w_up_row (by decide), w_up_row (by decide), w_up_row (by decide), w_up_row (by decide), w_up_row (by decide)]; exact hB.1, by rw [w_up_row (by decide), w_up_row (by decide), w_up_row (by decide), w_up_row (by decide), w_up_row (by decide), w_up_row (by decide), w_up_row (by decide), w_up_row (by decide)]; exact hB.2.1, by rw [w_up_row (by decide), w_up_row (by decide), w_up_row (by decide), w_up_row (by decide), w_up_row (by decide), w_up_row (by decide), w_up_row (by decide), w_up_row (by decide)]; exact hB.2.2⟩ (by decide) (by decide) ⟨hk0, h3⟩ h
      · rw [if_neg h3] at h; cases h
    · rw [if_neg h2] at h; cases h
  · rw [if_neg h1] at h; cases h
theorem rcw_73 (hX : w_X xs) (hA : zT A T n) (hj : JT_73 A T n c [] [] (fun _ => []) S) (hP : cx_P T n c 0 S) : wJ (pe_GA xs) wY0 (mS [117, 118]) (d + 12) t_XT_readClasses ((pe_at t_XT_readClasses.bl 0).getD (0, [])).2 [(0, (2, 61))] [] S (fun o Z => (∃ (cs : List hCR) (ms : List hMR) (os : Int → List Int), o = .inl none ∧ ho_f_241 A 61 [] [] (tp T n 1 0) = .inr (cs, ms) ∧ JT_73 A T n c cs ms os Z) ∨ (∃ (e q : Int) (v : Nat) (cs : List hCR) (ms : List hMR) (os : Int → List Int) (S2 Z0 : wS), o = .inr v ∧ ho_f_241 A 61 [] [] (tp T n 1 0) = .inl (e, q) ∧ JT_73 A T n c cs ms os S2 ∧ cz_ag 97 73 87 114 115 (cs.length : Int) (ms.length : Int) S2 Z0 ∧ rz_ag Z0 Z v (e + 16 * q))) := by
  refine wa_iconst ?_
  refine wa_istore_n (n := 1) rfl ?_
  refine wa_fall ⟨_, rfl⟩ ?_
  exact wJ_S (rcs_73 (JT_73 A T n c) (fun cs ms os S h => ⟨h.1, h.2.1, h.2.2.1, h.2.2.2.1, h.2.2.2.2.1⟩) (fun cs ms os S x h => JT_u_73 h) (fun cs ms os S i itf S3 a al l Zo i2 ms2 Zm Z1 Zf h1 h2 h3 y1 => JT_s_73 h1 h2 h3 (rc_n_mo_73 h1.1.1 (by omega) y1) y1) hX hA 61 0 [] [] (fun _ => []) 0 S (by decide) hj hP ⟨by omega, by omega⟩ (fun cs2 ms2 os2 Z e1 e2 => Or.inl ⟨cs2, ms2, os2, rfl, e1, e2⟩) (fun e q v cs2 ms2 os2 S2 Z0 Z e1 e2 e3 e4 => Or.inr ⟨e, q, v, cs2, ms2, os2, S2, Z0, rfl, e1, e2, e3, e4⟩)) ⟨rfl, rfl, trivial⟩
theorem rc_n_mo_162 {k0 itf p1 p2 : Int} {ms ms2 : List hMR} {cr : hCR} (hB : zT B T n) (hk0 : 0 ≤ k0) (h : rc_n_261 B k0 ms itf p1 = .inr (p2, cr, ms2)) : ∃ rs : List hMR, ms2 = ms ++ rs ∧ ∀ r ∈ rs, mo_I r ∧ r.1 = k0 := by
  unfold rc_n_261 at h
  by_cases h1 : zq B p1 237 6 = 1
  · rw [if_pos h1] at h
    by_cases h2 : ch_of (zq B p1) 261 < 0 ∧ lx_oo (zq B p1) tx_21 = false
    · rw [if_pos h2] at h
      by_cases h3 : k0 < 60
      · rw [if_pos h3] at h
        exact rcb_mo (T := T) (n := n) ⟨by rw [w_up_row (by decide), w_up_row (by decide), w_up_row (by decide), w_up_row (by decide), w_up_row (by decide), w_up_row (by decide), w_up_row (by decide), w_up_row (by decide)]; exact hB.1, by rw [w_up_row (by decide), w_up_row (by decide), w_up_row (by decide), w_up_row (by decide), w_up_row (by decide), w_up_row (by decide), w_up_row (by decide), w_up_row (by decide)]; exact hB.2.1, by rw [w_up_row (by decide), w_up_row (by decide), w_up_row (by decide), w_up_row (by decide), w_up_row (by decide), w_up_row (by decide), w_up_row (by decide), w_up_row (by decide)]; exact hB.2.2⟩ (by decide) (by decide) ⟨hk0, h3⟩ h
      · rw [if_neg h3] at h; cases h
    · rw [if_neg h2] at h; cases h
  · rw [if_neg h1] at h; cases h
theorem rcw_162 (hX : w_X xs) (hA : zT A T n) (hj : JT_162 A T n c [] [] (fun _ => []) S) (hP : cx_P T n c 0 S) : wJ (pe_GA xs) wY0 (mS [206, 207]) (d + 12) t_XT_readClasses ((pe_at t_XT_readClasses.bl 0).getD (0, [])).2 [(0, (2, 61))] [] S (fun o Z => (∃ (cs : List hCR) (ms : List hMR) (os : Int → List Int), o = .inl none ∧ ho_f_261 A 61 [] [] (tp T n 1 0) = .inr (cs, ms) ∧ JT_162 A T n c cs ms os Z) ∨ (∃ (e q : Int) (v : Nat) (cs : List hCR) (ms : List hMR) (os : Int → List Int) (S2 Z0 : wS), o = .inr v ∧ ho_f_261 A 61 [] [] (tp T n 1 0) = .inl (e, q) ∧ JT_162 A T n c cs ms os S2 ∧ cz_ag 186 162 176 203 204 (cs.length : Int) (ms.length : Int) S2 Z0 ∧ rz_ag Z0 Z v (e + 16 * q))) := by
  refine wa_iconst ?_
  refine wa_istore_n (n := 1) rfl ?_
  refine wa_fall ⟨_, rfl⟩ ?_
  exact wJ_S (rcs_162 (JT_162 A T n c) (fun cs ms os S h => ⟨h.1, h.2.1, h.2.2.1, h.2.2.2.1, h.2.2.2.2.1⟩) (fun cs ms os S x h => JT_u_162 h) (fun cs ms os S i itf S3 a al l Zo i2 ms2 Zm Z1 Zf h1 h2 h3 y1 => JT_s_162 h1 h2 h3 (rc_n_mo_162 h1.1.1 (by omega) y1) y1) hX hA 61 0 [] [] (fun _ => []) 0 S (by decide) hj hP ⟨by omega, by omega⟩ (fun cs2 ms2 os2 Z e1 e2 => Or.inl ⟨cs2, ms2, os2, rfl, e1, e2⟩) (fun e q v cs2 ms2 os2 S2 Z0 Z e1 e2 e3 e4 => Or.inr ⟨e, q, v, cs2, ms2, os2, S2, Z0, rfl, e1, e2, e3, e4⟩)) ⟨rfl, rfl, trivial⟩
end Wa7
