/-! PART h6: the class's host: keptHead, keptAt, keep. -/
section Wh6
variable {xs : List (Nat × List Int32)} {M : Nat → Prop} {d : Nat} {S Z A : wS} {T : Int → Int} {cs : List hCR} {ms : List hMR} {os : Int → List Int} {Q : wO → wS → Prop}
def kHd (a e : Int) : Int := wb_iand (wb_l2i (wb_lxor (wb_lxor ((a * 31) + e) (wb_lushr ((a * 31) + e) 29)) (wb_lushr (wb_lxor ((a * 31) + e) (wb_lushr ((a * 31) + e) 29)) 13))) 127
theorem wb_and127 (x : Int) : 0 ≤ wb_iand x 127 ∧ wb_iand x 127 ≤ 127 := by
  have a2 : (Int32.ofInt x &&& Int32.ofInt 127).toBitVec.toNat = (Int32.ofInt x).toBitVec.toNat % 128 := by
    rw [Int32.toBitVec_and, BitVec.toNat_and, show (Int32.ofInt 127).toBitVec.toNat = 2 ^ 7 - 1 by decide, Nat.and_two_pow_sub_one_eq_mod]
  have h : wb_iand x 127 = (Int32.ofInt x &&& Int32.ofInt 127).toBitVec.toInt := rfl
  rw [h, BitVec.toInt_eq_toNat_of_lt (by rw [a2]; omega), a2]
  omega
theorem kHd_rg (a e : Int) : 0 ≤ kHd a e ∧ kHd a e ≤ 127 := wb_and127 _
theorem khd {a e : Int} (ha : -2147483648 ≤ a ∧ a ≤ 2147483647) : wJ (pe_GA xs) wY0 M d t_XO_keptHead ((pe_at t_XO_keptHead.bl 0).getD (0, [])).2 [(0, (0, a)), (1, (1, e))] [] S (fun o Z => S = Z ∧ o = .inl (some (0, kHd a e))) := by
  refine wa_iload_n (n := 0) rfl ?_
  refine wa_i2l (w_rg0 (by omega) (by omega)) ?_
  refine wb_kl (n := 31) rfl ?_
  refine wa_lmul ?_
  refine wa_lload_n (n := 1) rfl ?_
  refine wa_ladd ?_
  refine wa_lstore_n (n := 3) rfl ?_
  refine wa_lload_n (n := 3) rfl ?_
  refine wa_lload_n (n := 3) rfl ?_
  refine wa_bipush (w_rg2 (by omega) (by omega)) ?_
  refine wa_lushr ?_
  refine wa_lxor ?_
  refine wa_lstore_n (n := 3) rfl ?_
  refine wa_lload_n (n := 3) rfl ?_
  refine wa_lload_n (n := 3) rfl ?_
  refine wa_bipush (w_rg2 (by omega) (by omega)) ?_
  refine wa_lushr ?_
  refine wa_lxor ?_
  refine wa_l2i ?_
  refine wa_bipush (w_rg2 (by omega) (by omega)) ?_
  refine wa_iand ?_
  refine wa_ireturn rfl ?_
  exact ⟨rfl, rfl⟩
/-- a choice that is kept: what is asked, the classes of the ES, the answer -/
abbrev aKp : Type := Int × Int × Int
def kG (K : List aKp) (i : Int) : aKp := K.getD i.toNat (0, 0, 0)
def kHf (K : List aKp) (i : Int) : Int := kHd (kG K i).1 (kG K i).2.1
theorem wlc_cg {f g : Int → Int} {x : Int} : ∀ n : Nat, (∀ q : Nat, q < n → f (q : Int) = g (q : Int)) → wl_of f x n = wl_of g x n := by
  intro n
  induction n with
  | zero => intro _; rfl
  | succ n ih =>
    intro h
    show (if f (n : Int) = x then (n : Int) + 1 else wl_of f x n) = (if g (n : Int) = x then (n : Int) + 1 else wl_of g x n)
    rw [h n (Nat.lt_succ_self n), ih (fun q hq => h q (Nat.lt_succ_of_lt hq))]
theorem wlc_at {f : Int → Int} {x : Int} : ∀ n : Nat, wl_of f x n ≠ 0 → f (wl_of f x n - 1) = x := by
  intro n
  induction n with
  | zero => intro h; exact absurd rfl h
  | succ n ih =>
    intro h
    by_cases c : f (n : Int) = x
    · rw [show wl_of f x (n + 1) = (n : Int) + 1 from if_pos c, show (n : Int) + 1 - 1 = (n : Int) by omega]; exact c
    · rw [show wl_of f x (n + 1) = wl_of f x n from if_neg c] at h ⊢; exact ih h
/-- between the last one and n there is none -/
theorem wlc_gap {f : Int → Int} {x : Int} : ∀ (n q : Nat), q < n → wl_of f x n ≤ (q : Int) → f (q : Int) ≠ x := by
  intro n
  induction n with
  | zero => intro q h; exact absurd h (Nat.not_lt_zero _)
  | succ n ih =>
    intro q hq hl
    by_cases c : f (n : Int) = x
    · rw [show wl_of f x (n + 1) = (n : Int) + 1 from if_pos c] at hl; omega
    · rw [show wl_of f x (n + 1) = wl_of f x n from if_neg c] at hl
      by_cases c2 : q = n
      · rw [c2]; exact c
      · exact ih q (by omega) hl
def kpR (p kA : Nat) (K : List aKp) (S : wS) : Prop := S p 16 = (K.length : Int) ∧ (∀ i : Int, 0 ≤ i → i < (K.length : Int) → S kA i = (kG K i).1 ∧ S (kA + 1) i = (kG K i).2.1 ∧ S (kA + 2) i = (kG K i).2.2 ∧ S (kA + 3) i = wl_of (kHf K) (kHf K i) i.toNat) ∧ (∀ x : Int, 0 ≤ x → x < 128 → S (kA + 4) x = wl_of (kHf K) x K.length) ∧ (S (kA + 1) (-1) = S kA (-1) ∧ S (kA + 2) (-1) = S kA (-1) ∧ S (kA + 3) (-1) = S kA (-1) ∧ S (kA + 4) (-1) = 128) ∧ (64 ≤ S kA (-1) ∧ S kA (-1) ≤ 4095 ∧ (K.length : Int) ≤ S kA (-1) ∧ K.length ≤ 2000)
theorem kG_o {K : List aKp} {x : aKp} {i : Int} (h0 : 0 ≤ i) (h : i < (K.length : Int)) : kG (K ++ [x]) i = kG K i := by
  unfold kG
  rw [List.getD_eq_getElem?_getD, List.getD_eq_getElem?_getD, List.getElem?_append_left (by omega)]
theorem kG_n {K : List aKp} {x : aKp} : kG (K ++ [x]) (K.length : Int) = x := by
  unfold kG
  rw [List.getD_eq_getElem?_getD, Int.toNat_natCast, List.getElem?_append_right (Nat.le_refl _), Nat.sub_self]; rfl
theorem kHf_o {K : List aKp} {x : aKp} {i : Int} (h0 : 0 ≤ i) (h : i < (K.length : Int)) : kHf (K ++ [x]) i = kHf K i := by unfold kHf; rw [kG_o h0 h]
theorem kHf_n {K : List aKp} {x : aKp} : kHf (K ++ [x]) (K.length : Int) = kHd x.1 x.2.1 := by unfold kHf; rw [kG_n]
/-- one more is kept -/
theorem kpR_n {p kA : Nat} {K : List aKp} {a e v : Int} (h : kpR p kA K S) (hl : K.length < 2000) (h16 : Z p 16 = (K.length : Int) + 1) (h0 : Z kA (K.length : Int) = a) (h1 : Z (kA + 1) (K.length : Int) = e) (h2 : Z (kA + 2) (K.length : Int) = v) (h3 : Z (kA + 3) (K.length : Int) = S (kA + 4) (kHd a e)) (ho : ∀ (j : Nat) (i : Int), kA ≤ j → j ≤ kA + 3 → 0 ≤ i → i < (K.length : Int) → Z j i = S j i) (h4 : ∀ x : Int, 0 ≤ x → x < 128 → Z (kA + 4) x = if x = kHd a e then (K.length : Int) + 1 else S (kA + 4) x) (hln : (Z (kA + 1) (-1) = Z kA (-1) ∧ Z (kA + 2) (-1) = Z kA (-1) ∧ Z (kA + 3) (-1) = Z kA (-1) ∧ Z (kA + 4) (-1) = 128)) (hlm : 64 ≤ Z kA (-1) ∧ Z kA (-1) ≤ 4095 ∧ (K.length : Int) + 1 ≤ Z kA (-1)) : kpR p kA (K ++ [(a, e, v)]) Z := by
  obtain ⟨g1, g2, g3, g4, g5⟩ := h
  have hlen : (K ++ [(a, e, v)]).length = K.length + 1 := by rw [List.length_append, List.length_singleton]
  have hwl : ∀ (x : Int) (n : Nat), n ≤ K.length → wl_of (kHf (K ++ [(a, e, v)])) x n = wl_of (kHf K) x n := fun x n hn => wlc_cg n (fun q hq => kHf_o (by omega) (by omega))
  refine ⟨by rw [h16, hlen]; omega, fun i i0 i1 => ?_, fun x x0 x1 => ?_, hln, ⟨hlm.1, hlm.2.1, by rw [hlen]; omega, by rw [hlen]; omega⟩⟩
  · rw [hlen] at i1
    by_cases c : i = (K.length : Int)
    · rw [c, kG_n, kHf_n, Int.toNat_natCast, hwl _ _ (Nat.le_refl _)]
      exact ⟨h0, h1, h2, h3.trans (g3 _ (kHd_rg a e).1 (by have := (kHd_rg a e).2; omega))⟩
    · have hi : i < (K.length : Int) := by omega
      obtain ⟨q1, q2, q3, q4⟩ := g2 i i0 hi
      rw [kG_o i0 hi, kHf_o i0 hi, hwl _ _ (by omega)]
      exact ⟨(ho kA i (by omega) (by omega) i0 hi).trans q1, (ho (kA + 1) i (by omega) (by omega) i0 hi).trans q2, (ho (kA + 2) i (by omega) (by omega) i0 hi).trans q3, (ho (kA + 3) i (by omega) (by omega) i0 hi).trans q4⟩
  · rw [h4 x x0 x1, hlen]
    show _ = (if kHf (K ++ [(a, e, v)]) (K.length : Int) = x then (K.length : Int) + 1 else wl_of (kHf (K ++ [(a, e, v)])) x K.length)
    rw [kHf_n, hwl _ _ (Nat.le_refl _)]
    by_cases c : x = kHd a e
    · rw [if_pos c, if_pos c.symm]
    · rw [if_neg c, if_neg (fun z => c z.symm)]; exact g3 x x0 x1
theorem kpR_ag {p kA : Nat} {K : List aKp} (h : kpR p kA K S) (h16 : Z p 16 = S p 16) (f : ∀ (j : Nat) (i : Int), kA ≤ j → j ≤ kA + 4 → Z j i = S j i) : kpR p kA K Z := by
  obtain ⟨g1, g2, g3, g4, g5⟩ := h
  refine ⟨h16.trans g1, fun i i0 i1 => ?_, fun x x0 x1 => (f (kA + 4) x (by omega) (by omega)).trans (g3 x x0 x1), ?_, ?_⟩
  · rw [f kA i (by omega) (by omega), f (kA + 1) i (by omega) (by omega), f (kA + 2) i (by omega) (by omega), f (kA + 3) i (by omega) (by omega)]; exact g2 i i0 i1
  · rw [f kA (-1) (by omega) (by omega), f (kA + 1) (-1) (by omega) (by omega), f (kA + 2) (-1) (by omega) (by omega), f (kA + 3) (-1) (by omega) (by omega), f (kA + 4) (-1) (by omega) (by omega)]; exact g4
  · rw [f kA (-1) (by omega) (by omega)]; exact g5
/-- what keeping a choice leaves -/
def keR (p kA : Nat) (K : List aKp) (a e v : Int) (S Z : wS) : Prop := kpR p kA (K ++ [(a, e, v)]) Z ∧ (∀ (j : Nat) (i : Int), j < 4000000 → j ≠ wG → (j < kA ∨ kA + 4 < j) → (j ≠ p ∨ i ≠ 16) → Z j i = S j i) ∧ gI Z ∧ rmR S Z
theorem kal_73 {a e : Int} {K : List aKp} (hC : w_CL S) (hkp : kpR 73 121 K S) (ha : -2147483648 ≤ a ∧ a ≤ 2147483647) (he : -9223372036854775808 ≤ e ∧ e ≤ 9223372036854775807) : ∀ (f i m : Nat) (x : Int), m < f → i + m ≤ K.length → x = wl_of (kHf K) (kHd a e) m - 1 → (∀ q : Nat, m ≤ q → q < K.length → ¬ ((kG K (q : Int)).1 = a ∧ (kG K (q : Int)).2.1 = e)) → wJ (pe_GA xs) wY0 M d t_XO_keptAt ((pe_at t_XO_keptAt.bl 1).getD (0, [])).2 [(0, (2, 73)), (1, (0, a)), (2, (1, e)), (4, (0, x)), (5, (0, (i : Int)))] [] S (fun o Z => S = Z ∧ ∃ q : Int, o = .inl (some (0, q)) ∧ ((0 ≤ q ∧ q < (K.length : Int) ∧ (kG K q).1 = a ∧ (kG K q).2.1 = e) ∨ (q = -1 ∧ ∀ i : Int, 0 ≤ i → i < (K.length : Int) → ¬ ((kG K i).1 = a ∧ (kG K i).2.1 = e)))) := by
  have hl1 : S 122 (-1) = S 121 (-1) := hkp.2.2.2.1.1
  have hl2 : S 123 (-1) = S 121 (-1) := hkp.2.2.2.1.2.1
  have hl3 : S 124 (-1) = S 121 (-1) := hkp.2.2.2.1.2.2.1
  have hl4 : S 125 (-1) = 128 := hkp.2.2.2.1.2.2.2
  have hl5 := hkp.2.2.2.2
  have h16 : S 73 16 = (K.length : Int) := hkp.1
  intro f
  induction f with
  | zero => intro i m x h; exact absurd h (Nat.not_lt_zero _)
  | succ f ih =>
    intro i m x hf him hx hno
    have hrg := wl_rg (kHf K) (kHd a e) m
    have hend : x < 0 → ∀ j : Int, 0 ≤ j → j < (K.length : Int) → ¬ ((kG K j).1 = a ∧ (kG K j).2.1 = e) := by
      intro hx0 j j0 j1 hw
      by_cases hqm : (m : Int) ≤ j
      · have z := hno j.toNat (by omega) (by omega)
        rw [Int.toNat_of_nonneg j0] at z
        exact z hw
      · have z := wlc_gap (f := kHf K) (x := kHd a e) m j.toNat (by omega) (by omega)
        rw [Int.toNat_of_nonneg j0] at z
        exact z (by unfold kHf; rw [hw.1, hw.2])
    have hin : 0 ≤ x → S 121 x = (kG K x).1 ∧ S 122 x = (kG K x).2.1 ∧ S 124 x = wl_of (kHf K) (kHd a e) x.toNat := fun h0 => by
      obtain ⟨q1, q2, q3, q4⟩ := hkp.2.1 x h0 (by omega)
      have z := wlc_at (f := kHf K) (x := kHd a e) m (by omega)
      rw [← hx] at z
      rw [z] at q4
      exact ⟨q1, q2, q4⟩
    refine wa_iload (n := 5) rfl ?_
    refine wa_aload_n (n := 0) rfl ?_
    refine wb_gfi 73 rfl (wy_pr rfl) wt_73 wf_3_16 (v := (K.length : Int)) (h16) (fun r1 => ?_)
    refine wa_icmpge (w_rg0 (by omega) (by omega)) (w_rg0 (by omega) (by omega)) ⟨_, rfl⟩ (fun c2 => ?_) (fun c2 => ?_)
    · skip
      refine wa_iconst ?_
      refine wa_ireturn rfl ?_
      exact ⟨rfl, -1, rfl, Or.inr ⟨rfl, by first | exact hend (by omega) | exact fun j j0 j1 => hno0 j j0 j1⟩⟩
    · skip
      refine wa_iload (n := 4) rfl ?_
      refine wa_iflt (w_rg0 (by omega) (by omega)) ⟨_, rfl⟩ (fun c3 => ?_) (fun c3 => ?_)
      · skip
        refine wa_iconst ?_
        refine wa_ireturn rfl ?_
        exact ⟨rfl, -1, rfl, Or.inr ⟨rfl, by first | exact hend (by omega) | exact fun j j0 j1 => hno0 j j0 j1⟩⟩
      · skip
        have hx3 := hin (by omega)
        have hxa := hx3.1
        have hxe := hx3.2.1
        have hxn := hx3.2.2
        refine wa_aload_n (n := 0) rfl ?_
        refine wb_gf4 73 rfl (wy_pr rfl) wt_73 wf_3_11 (v := 121) wl_73_11 ?_
        refine wa_iload (n := 4) rfl ?_
        refine wb_iald 121 rfl (wy_pr rfl) wt_121 (n := (S 121 (-1))) (rfl) (by omega) (by omega) (v := (kG K x).1) (hxa) (fun r4 => ?_)
        refine wa_iload_n (n := 1) rfl ?_
        refine wa_icmpne (w_rg0 (by omega) (by omega)) (w_rg0 (by omega) (by omega)) ⟨_, rfl⟩ (fun c5 => ?_) (fun c5 => ?_)
        · skip
          refine wa_aload_n (n := 0) rfl ?_
          refine wb_gf4 73 rfl (wy_pr rfl) wt_73 wf_3_14 (v := 124) wl_73_14 ?_
          refine wa_iload (n := 4) rfl ?_
          refine wb_iald 124 rfl (wy_pr rfl) wt_124 (n := (S 121 (-1))) (hl3) (by omega) (by omega) (v := (wl_of (kHf K) (kHd a e) x.toNat)) (hxn) (fun r6 => ?_)
          refine wa_iconst ?_
          refine wa_isub ?_
          refine wa_istore (n := 4) rfl ?_
          refine wa_iinc rfl rfl ?_
          refine wa_goto ⟨_, rfl⟩ ?_
          have hrg2 := wl_rg (kHf K) (kHd a e) x.toNat
          refine wJ_S (ih (i + 1) x.toNat (wl_of (kHf K) (kHd a e) x.toNat - 1) (by omega) (by omega) rfl (fun q hq1 hq2 z => ?_)) ⟨rfl, rfl, rfl, rfl, rfl, trivial⟩
          by_cases cq : (q : Int) = x
          · rw [cq] at z; have z1 := z.1; have z2 := z.2; omega
          · by_cases cm : m ≤ q
            · exact hno q cm hq2 z
            · exact wlc_gap (f := kHf K) (x := kHd a e) m q (by omega) (by omega) (by unfold kHf; rw [z.1, z.2])
        · skip
          refine wa_aload_n (n := 0) rfl ?_
          refine wb_gf4 73 rfl (wy_pr rfl) wt_73 wf_3_12 (v := 122) wl_73_12 ?_
          refine wa_iload (n := 4) rfl ?_
          refine wb_lald 122 rfl (wy_pr rfl) wt_122 (n := (S 121 (-1))) (hl1) (by omega) (by omega) (v := (kG K x).2.1) (hxe) (fun r7 => ?_)
          refine wa_lload_n (n := 2) rfl ?_
          refine wa_lcmp (w_rg1 (by omega) (by omega)) (w_rg1 (by omega) (by omega)) ?_
          refine wa_ifne (by have := @wb_lcmp_cases; exact w_lcmp_rg) ⟨_, rfl⟩ (fun c8 => ?_) (fun c8 => ?_)
          · skip
            have c8x := @wb_lcmp_cases (kG K x).2.1 e
            refine wa_aload_n (n := 0) rfl ?_
            refine wb_gf4 73 rfl (wy_pr rfl) wt_73 wf_3_14 (v := 124) wl_73_14 ?_
            refine wa_iload (n := 4) rfl ?_
            refine wb_iald 124 rfl (wy_pr rfl) wt_124 (n := (S 121 (-1))) (hl3) (by omega) (by omega) (v := (wl_of (kHf K) (kHd a e) x.toNat)) (hxn) (fun r9 => ?_)
            refine wa_iconst ?_
            refine wa_isub ?_
            refine wa_istore (n := 4) rfl ?_
            refine wa_iinc rfl rfl ?_
            refine wa_goto ⟨_, rfl⟩ ?_
            have hrg2 := wl_rg (kHf K) (kHd a e) x.toNat
            refine wJ_S (ih (i + 1) x.toNat (wl_of (kHf K) (kHd a e) x.toNat - 1) (by omega) (by omega) rfl (fun q hq1 hq2 z => ?_)) ⟨rfl, rfl, rfl, rfl, rfl, trivial⟩
            by_cases cq : (q : Int) = x
            · rw [cq] at z; have z1 := z.1; have z2 := z.2; omega
            · by_cases cm : m ≤ q
              · exact hno q cm hq2 z
              · exact wlc_gap (f := kHf K) (x := kHd a e) m q (by omega) (by omega) (by unfold kHf; rw [z.1, z.2])
          · skip
            have c8x := @wb_lcmp_cases (kG K x).2.1 e
            refine wa_iload (n := 4) rfl ?_
            refine wa_ireturn rfl ?_
            exact ⟨rfl, x, rfl, Or.inl ⟨by omega, by omega, by omega, by omega⟩⟩
theorem kat_73 {a e : Int} {K : List aKp} (hC : w_CL S) (hkp : kpR 73 121 K S) (ha : -2147483648 ≤ a ∧ a ≤ 2147483647) (he : -9223372036854775808 ≤ e ∧ e ≤ 9223372036854775807) : wJ (pe_GA xs) wY0 M (d + 1) t_XO_keptAt ((pe_at t_XO_keptAt.bl 0).getD (0, [])).2 [(0, (2, 73)), (1, (0, a)), (2, (1, e))] [] S (fun o Z => S = Z ∧ ∃ q : Int, o = .inl (some (0, q)) ∧ ((0 ≤ q ∧ q < (K.length : Int) ∧ (kG K q).1 = a ∧ (kG K q).2.1 = e) ∨ (q = -1 ∧ ∀ i : Int, 0 ≤ i → i < (K.length : Int) → ¬ ((kG K i).1 = a ∧ (kG K i).2.1 = e)))) := by
  have hl1 : S 122 (-1) = S 121 (-1) := hkp.2.2.2.1.1
  have hl2 : S 123 (-1) = S 121 (-1) := hkp.2.2.2.1.2.1
  have hl3 : S 124 (-1) = S 121 (-1) := hkp.2.2.2.1.2.2.1
  have hl4 : S 125 (-1) = 128 := hkp.2.2.2.1.2.2.2
  have hl5 := hkp.2.2.2.2
  have h16 : S 73 16 = (K.length : Int) := hkp.1
  have hh4 : S 125 (kHd a e) = wl_of (kHf K) (kHd a e) K.length := hkp.2.2.1 _ (kHd_rg a e).1 (by have := (kHd_rg a e).2; omega)
  have hrg := wl_rg (kHf K) (kHd a e) K.length
  refine wa_aload_n (n := 0) rfl ?_
  refine wb_gf4 73 rfl (wy_pr rfl) wt_73 wf_3_15 (v := 125) wl_73_15 ?_
  refine wa_iload_n (n := 1) rfl ?_
  refine wa_lload_n (n := 2) rfl ?_
  refine wa_cs (M2 := fun _ => False) rfl at_XO_keptHead ⟨_, rfl⟩ rfl rfl ⟨(Or.inr ⟨wy_pr rfl, fun q => q⟩), trivial, trivial, trivial⟩ ⟨(Or.inr ⟨wy_pr rfl, fun q => q⟩), trivial⟩ (fun _ _ q => False.elim q) (khd (S := S) (a := a) (e := e) ⟨by omega, by omega⟩) (fun oq1 Sq1 hp2 q1 => ?_)
  rcases q1 with ⟨rfl, rfl⟩
  show wJ _ _ _ _ _ _ _ _ _ _
  have hkr := kHd_rg a e
  refine wb_iald 125 rfl (wy_pr rfl) wt_125 (n := 128) (hl4) (by omega) (by omega) (v := (wl_of (kHf K) (kHd a e) K.length)) (hh4) (fun r3 => ?_)
  refine wa_iconst ?_
  refine wa_isub ?_
  refine wa_istore (n := 4) rfl ?_
  refine wa_iconst ?_
  refine wa_istore (n := 5) rfl ?_
  refine wa_fall ⟨_, rfl⟩ ?_
  exact wJ_S (kal_73 (d := d + 1) hC hkp ha he (K.length + 1) 0 K.length (wl_of (kHf K) (kHd a e) K.length - 1) (by omega) (by omega) rfl (fun q h1 h2 => absurd h2 (by omega))) ⟨rfl, rfl, rfl, rfl, rfl, trivial⟩
theorem ke2_73 {a e v : Int} {K : List aKp} (hkp : kpR 73 121 K S) (hI : gI S) (ha : -2147483648 ≤ a ∧ a ≤ 2147483647) (he : -9223372036854775808 ≤ e ∧ e ≤ 9223372036854775807) (hv : -2147483648 ≤ v ∧ v ≤ 2147483647) (hlt : (K.length : Int) < S 121 (-1)) (hl2k : K.length < 2000) : wJ (pe_GA xs) wY0 (mS [121, 122, 123, 124]) (d + 3) t_XO_keep ((pe_at t_XO_keep.bl 2).getD (0, [])).2 [(0, (2, 73)), (1, (0, a)), (2, (1, e)), (4, (0, v))] [] S (fun o Z => o = .inl none ∧ keR 73 121 K a e v S Z) := by
  have hl1 : S 122 (-1) = S 121 (-1) := hkp.2.2.2.1.1
  have hl2 : S 123 (-1) = S 121 (-1) := hkp.2.2.2.1.2.1
  have hl3 : S 124 (-1) = S 121 (-1) := hkp.2.2.2.1.2.2.1
  have hl4 : S 125 (-1) = 128 := hkp.2.2.2.1.2.2.2
  have hl5 := hkp.2.2.2.2
  have h16 : S 73 16 = (K.length : Int) := hkp.1
  have hR := rmR_rfl S
  have hh4 : S 125 (kHd a e) = wl_of (kHf K) (kHd a e) K.length := hkp.2.2.1 _ (kHd_rg a e).1 (by have := (kHd_rg a e).2; omega)
  have hrg := wl_rg (kHf K) (kHd a e) K.length
  refine wa_iload_n (n := 1) rfl ?_
  refine wa_lload_n (n := 2) rfl ?_
  refine wa_cs (M2 := fun _ => False) rfl at_XO_keptHead ⟨_, rfl⟩ rfl rfl ⟨(Or.inr ⟨wy_pr rfl, fun q => q⟩), trivial, trivial, trivial, trivial⟩ trivial (fun _ _ q => False.elim q) (khd (S := S) (a := a) (e := e) ⟨by omega, by omega⟩) (fun oq1 Sq1 hp2 q1 => ?_)
  rcases q1 with ⟨rfl, rfl⟩
  show wJ _ _ _ _ _ _ _ _ _ _
  have hkr := kHd_rg a e
  refine wa_istore (n := 5) rfl ?_
  refine wa_aload_n (n := 0) rfl ?_
  refine wb_gf4 73 rfl (wy_pr rfl) wt_73 wf_3_11 (v := 121) wl_73_11 ?_
  refine wa_aload_n (n := 0) rfl ?_
  refine wb_gfi 73 rfl (wy_pr rfl) wt_73 wf_3_16 (v := (K.length : Int)) (h16) (fun r3 => ?_)
  refine wa_iload_n (n := 1) rfl ?_
  refine wb_iast 121 rfl (wy_pr rfl) wt_121 (n := (S 121 (-1))) (rfl) (by omega) (by omega) ⟨(by omega), (by omega)⟩ ?_
  refine wa_aload_n (n := 0) rfl ?_
  refine wb_gf4 73 rfl (wy_pr rfl) wt_73 wf_3_12 (v := 122) wl_73_12 ?_
  refine wa_aload_n (n := 0) rfl ?_
  refine wb_gfi 73 rfl (wy_pr rfl) wt_73 wf_3_16 (v := (K.length : Int)) ((w_up_slot (by decide)).trans (h16)) (fun r4 => ?_)
  refine wa_lload_n (n := 2) rfl ?_
  refine wb_last 122 rfl (wy_pr rfl) wt_122 (n := (S 121 (-1))) ((w_up_slot (by decide)).trans (hl1)) (by omega) (by omega) ⟨(by omega), (by omega)⟩ ?_
  refine wa_aload_n (n := 0) rfl ?_
  refine wb_gf4 73 rfl (wy_pr rfl) wt_73 wf_3_13 (v := 123) wl_73_13 ?_
  refine wa_aload_n (n := 0) rfl ?_
  refine wb_gfi 73 rfl (wy_pr rfl) wt_73 wf_3_16 (v := (K.length : Int)) ((w_up_slot (by decide)).trans ((w_up_slot (by decide)).trans (h16))) (fun r5 => ?_)
  refine wa_iload (n := 4) rfl ?_
  refine wb_iast 123 rfl (wy_pr rfl) wt_123 (n := (S 121 (-1))) ((w_up_slot (by decide)).trans ((w_up_slot (by decide)).trans (hl2))) (by omega) (by omega) ⟨(by omega), (by omega)⟩ ?_
  refine wa_aload_n (n := 0) rfl ?_
  refine wb_gf4 73 rfl (wy_pr rfl) wt_73 wf_3_14 (v := 124) wl_73_14 ?_
  refine wa_aload_n (n := 0) rfl ?_
  refine wb_gfi 73 rfl (wy_pr rfl) wt_73 wf_3_16 (v := (K.length : Int)) ((w_up_slot (by decide)).trans ((w_up_slot (by decide)).trans ((w_up_slot (by decide)).trans (h16)))) (fun r6 => ?_)
  refine wa_aload_n (n := 0) rfl ?_
  refine wb_gf4 73 rfl (wy_pr rfl) wt_73 wf_3_15 (v := 125) wl_73_15 ?_
  refine wa_iload (n := 5) rfl ?_
  refine wb_iald 125 rfl (wy_pr rfl) wt_125 (n := 128) ((w_up_slot (by decide)).trans ((w_up_slot (by decide)).trans ((w_up_slot (by decide)).trans (hl4)))) (by omega) (by omega) (v := (wl_of (kHf K) (kHd a e) K.length)) ((w_up_slot (by decide)).trans ((w_up_slot (by decide)).trans ((w_up_slot (by decide)).trans (hh4)))) (fun r7 => ?_)
  refine wb_iast 124 rfl (wy_pr rfl) wt_124 (n := (S 121 (-1))) ((w_up_slot (by decide)).trans ((w_up_slot (by decide)).trans ((w_up_slot (by decide)).trans (hl3)))) (by omega) (by omega) ⟨(by omega), (by omega)⟩ ?_
  refine wa_aload_n (n := 0) rfl ?_
  refine wa_dup (by decide) ?_
  refine wb_gfi 73 rfl (wy_pr rfl) wt_73 wf_3_16 (v := (K.length : Int)) ((w_up_slot (by decide)).trans ((w_up_slot (by decide)).trans ((w_up_slot (by decide)).trans ((w_up_slot (by decide)).trans (h16))))) (fun r8 => ?_)
  refine wa_iconst ?_
  refine wa_iadd ?_
  refine wb_pfi 73 rfl (wy_pr rfl) wt_73 wf_3_16 (n := 16) rfl ⟨(by omega), (by omega)⟩ ?_
  refine wa_aload_n (n := 0) rfl ?_
  refine wb_gf4 73 rfl (wy_pr rfl) wt_73 wf_3_15 (v := 125) wl_73_15 ?_
  refine wa_iload (n := 5) rfl ?_
  refine wa_fall ⟨_, rfl⟩ ?_
  refine wa_aload_n (n := 0) rfl ?_
  refine wb_gfi 73 rfl (wy_pr rfl) wt_73 wf_3_16 (v := ((K.length : Int) + 1)) (w_up_same _ _ _ _) (fun r9 => ?_)
  refine wb_iast 125 rfl (wy_pr rfl) wt_125 (n := 128) ((w_up_slot (by decide)).trans ((w_up_slot (by decide)).trans ((w_up_slot (by decide)).trans ((w_up_slot (by decide)).trans ((w_up_slot (by decide)).trans (hl4)))))) (by omega) (by omega) ⟨(by omega), (by omega)⟩ ?_
  refine wa_return rfl ?_
  refine ⟨rfl, kpR_n hkp hl2k ((w_up_slot (by decide)).trans (w_up_same _ _ _ _)) ((w_up_slot (by decide)).trans ((w_up_slot (by decide)).trans ((w_up_slot (by decide)).trans ((w_up_slot (by decide)).trans ((w_up_slot (by decide)).trans (w_up_same _ _ _ _)))))) ((w_up_slot (by decide)).trans ((w_up_slot (by decide)).trans ((w_up_slot (by decide)).trans ((w_up_slot (by decide)).trans (w_up_same _ _ _ _))))) ((w_up_slot (by decide)).trans ((w_up_slot (by decide)).trans ((w_up_slot (by decide)).trans (w_up_same _ _ _ _)))) ((((w_up_slot (by decide)).trans ((w_up_slot (by decide)).trans (w_up_same _ _ _ _))) : (w_up (w_up (w_up (w_up (w_up (w_up S 121 (K.length : Int) a) 122 (K.length : Int) e) 123 (K.length : Int) v) 124 (K.length : Int) (wl_of (kHf K) (kHd a e) K.length)) 73 16 ((K.length : Int) + 1)) 125 (kHd a e) ((K.length : Int) + 1)) 124 (K.length : Int) = _).trans hh4.symm) (fun j i j0 j1 i0 i1 => ((w_up_no (by omega)).trans ((w_up_no (by omega)).trans ((w_up_no (by omega)).trans ((w_up_no (by omega)).trans ((w_up_no (by omega)).trans (w_up_no (by omega)))))))) (fun x x0 x1 => ?_) ⟨?_, ?_, ?_, ((w_up_at (by omega)).trans ((w_up_slot (by decide)).trans ((w_up_slot (by decide)).trans ((w_up_slot (by decide)).trans ((w_up_slot (by decide)).trans ((w_up_slot (by decide)).trans (hl4)))))))⟩ ?_, fun j i j0 j1 j2 j3 => ((w_up_no (by omega)).trans ((w_up_no (by omega)).trans ((w_up_no (by omega)).trans ((w_up_no (by omega)).trans ((w_up_no (by omega)).trans (w_up_no (by omega))))))), (gI_up (gI_up (gI_up (gI_up (gI_up (gI_up hI (by omega) (by omega) (by omega)) (by omega) (by omega) (by omega)) (by omega) (by omega) (by omega)) (by omega) (by omega) (by omega)) (by omega) (by omega) (by omega)) (by omega) (by omega) (by omega)), (rmR_up (rmR_up (rmR_up (rmR_up (rmR_up (rmR_up hR (by omega) (by decide)) (by omega) (by decide)) (by omega) (by decide)) (by omega) (by decide)) (by omega) (by decide)) (by omega) (by decide))⟩
  · by_cases cx : x = kHd a e
    · rw [if_pos cx, cx]; exact (w_up_same _ _ _ _)
    · rw [if_neg cx]; exact ((w_up_no (by omega)).trans ((w_up_no (by omega)).trans ((w_up_no (by omega)).trans ((w_up_no (by omega)).trans ((w_up_no (by omega)).trans (w_up_no (by omega)))))))
  · exact (((w_up_slot (by decide)).trans ((w_up_slot (by decide)).trans ((w_up_slot (by decide)).trans ((w_up_slot (by decide)).trans ((w_up_at (by omega)).trans ((w_up_slot (by decide)).trans (hl1))))))) : (w_up (w_up (w_up (w_up (w_up (w_up S 121 (K.length : Int) a) 122 (K.length : Int) e) 123 (K.length : Int) v) 124 (K.length : Int) (wl_of (kHf K) (kHd a e) K.length)) 73 16 ((K.length : Int) + 1)) 125 (kHd a e) ((K.length : Int) + 1)) 122 (-1) = S 121 (-1)).trans (((w_up_slot (by decide)).trans ((w_up_slot (by decide)).trans ((w_up_slot (by decide)).trans ((w_up_slot (by decide)).trans ((w_up_slot (by decide)).trans ((w_up_at (by omega)).trans (rfl))))))) : (w_up (w_up (w_up (w_up (w_up (w_up S 121 (K.length : Int) a) 122 (K.length : Int) e) 123 (K.length : Int) v) 124 (K.length : Int) (wl_of (kHf K) (kHd a e) K.length)) 73 16 ((K.length : Int) + 1)) 125 (kHd a e) ((K.length : Int) + 1)) 121 (-1) = S 121 (-1)).symm
  · exact (((w_up_slot (by decide)).trans ((w_up_slot (by decide)).trans ((w_up_slot (by decide)).trans ((w_up_at (by omega)).trans ((w_up_slot (by decide)).trans ((w_up_slot (by decide)).trans (hl2))))))) : (w_up (w_up (w_up (w_up (w_up (w_up S 121 (K.length : Int) a) 122 (K.length : Int) e) 123 (K.length : Int) v) 124 (K.length : Int) (wl_of (kHf K) (kHd a e) K.length)) 73 16 ((K.length : Int) + 1)) 125 (kHd a e) ((K.length : Int) + 1)) 123 (-1) = S 121 (-1)).trans (((w_up_slot (by decide)).trans ((w_up_slot (by decide)).trans ((w_up_slot (by decide)).trans ((w_up_slot (by decide)).trans ((w_up_slot (by decide)).trans ((w_up_at (by omega)).trans (rfl))))))) : (w_up (w_up (w_up (w_up (w_up (w_up S 121 (K.length : Int) a) 122 (K.length : Int) e) 123 (K.length : Int) v) 124 (K.length : Int) (wl_of (kHf K) (kHd a e) K.length)) 73 16 ((K.length : Int) + 1)) 125 (kHd a e) ((K.length : Int) + 1)) 121 (-1) = S 121 (-1)).symm
  · exact (((w_up_slot (by decide)).trans ((w_up_slot (by decide)).trans ((w_up_at (by omega)).trans ((w_up_slot (by decide)).trans ((w_up_slot (by decide)).trans ((w_up_slot (by decide)).trans (hl3))))))) : (w_up (w_up (w_up (w_up (w_up (w_up S 121 (K.length : Int) a) 122 (K.length : Int) e) 123 (K.length : Int) v) 124 (K.length : Int) (wl_of (kHf K) (kHd a e) K.length)) 73 16 ((K.length : Int) + 1)) 125 (kHd a e) ((K.length : Int) + 1)) 124 (-1) = S 121 (-1)).trans (((w_up_slot (by decide)).trans ((w_up_slot (by decide)).trans ((w_up_slot (by decide)).trans ((w_up_slot (by decide)).trans ((w_up_slot (by decide)).trans ((w_up_at (by omega)).trans (rfl))))))) : (w_up (w_up (w_up (w_up (w_up (w_up S 121 (K.length : Int) a) 122 (K.length : Int) e) 123 (K.length : Int) v) 124 (K.length : Int) (wl_of (kHf K) (kHd a e) K.length)) 73 16 ((K.length : Int) + 1)) 125 (kHd a e) ((K.length : Int) + 1)) 121 (-1) = S 121 (-1)).symm
  · rw [show (w_up (w_up (w_up (w_up (w_up (w_up S 121 (K.length : Int) a) 122 (K.length : Int) e) 123 (K.length : Int) v) 124 (K.length : Int) (wl_of (kHf K) (kHd a e) K.length)) 73 16 ((K.length : Int) + 1)) 125 (kHd a e) ((K.length : Int) + 1)) 121 (-1) = S 121 (-1) from ((w_up_slot (by decide)).trans ((w_up_slot (by decide)).trans ((w_up_slot (by decide)).trans ((w_up_slot (by decide)).trans ((w_up_slot (by decide)).trans ((w_up_at (by omega)).trans (rfl)))))))]; omega
theorem kee_73 {a e v : Int} {K : List aKp} (hkp : kpR 73 121 K S) (hI : gI S) (ha : -2147483648 ≤ a ∧ a ≤ 2147483647) (he : -9223372036854775808 ≤ e ∧ e ≤ 9223372036854775807) (hv : -2147483648 ≤ v ∧ v ≤ 2147483647) (hl2k : K.length < 2000) : wJ (pe_GA xs) wY0 (mS [121, 122, 123, 124]) (d + 3) t_XO_keep ((pe_at t_XO_keep.bl 0).getD (0, [])).2 [(0, (2, 73)), (1, (0, a)), (2, (1, e)), (4, (0, v))] [] S (fun o Z => o = .inl none ∧ keR 73 121 K a e v S Z) := by
  have hl1 : S 122 (-1) = S 121 (-1) := hkp.2.2.2.1.1
  have hl2 : S 123 (-1) = S 121 (-1) := hkp.2.2.2.1.2.1
  have hl3 : S 124 (-1) = S 121 (-1) := hkp.2.2.2.1.2.2.1
  have hl4 : S 125 (-1) = 128 := hkp.2.2.2.1.2.2.2
  have hl5 := hkp.2.2.2.2
  have h16 : S 73 16 = (K.length : Int) := hkp.1
  have hR := rmR_rfl S
  refine wa_aload_n (n := 0) rfl ?_
  refine wb_gfi 73 rfl (wy_pr rfl) wt_73 wf_3_16 (v := (K.length : Int)) (h16) (fun r1 => ?_)
  refine wa_aload_n (n := 0) rfl ?_
  refine wb_gf4 73 rfl (wy_pr rfl) wt_73 wf_3_11 (v := 121) wl_73_11 ?_
  refine wb_alen 121 rfl (wy_pr rfl) (by rw [wt_121]; rfl) (v := (S 121 (-1))) (rfl) (fun r2 => ?_)
  refine wa_icmpne (w_rg0 (by omega) (by omega)) (w_rg0 (by omega) (by omega)) ⟨_, rfl⟩ (fun c3 => ?_) (fun c3 => ?_)
  · skip
    exact ke2_73 hkp hI ha he hv (by omega) hl2k
  · skip
    refine wa_aload_n (n := 0) rfl ?_
    refine wa_aload_n (n := 0) rfl ?_
    refine wb_gf4 73 rfl (wy_pr rfl) wt_73 wf_3_11 (v := 121) wl_73_11 ?_
    refine wa_aload_n (n := 0) rfl ?_
    refine wb_gfi 73 rfl (wy_pr rfl) wt_73 wf_3_16 (v := (K.length : Int)) (h16) (fun r4 => ?_)
    refine wa_iconst ?_
    refine wa_imul ?_
    refine wa_cs (M2 := fun _ => False) rfl at_JA_copyOf_2 ⟨_, rfl⟩ rfl rfl ⟨(Or.inr ⟨wy_pr rfl, fun q => q⟩), trivial, trivial, trivial, trivial⟩ ⟨(Or.inr ⟨wy_pr rfl, fun q => q⟩), trivial⟩ (fun _ _ q => False.elim q) (cp_I (S := S) (a := 121) (n := ((K.length : Int) * 2)) (len := (S 121 (-1))) (wy_pr rfl) wt_121 (rfl) ⟨by omega, by omega, by omega⟩) (fun oq5 Sq5 _ q5 => ?_)
    rcases q5 with ⟨rfl, rfl⟩
    show wJ _ _ _ _ _ _ _ _ _ _
    refine wg_pf (S := S) (len := (S 121 (-1))) 0 73 121 rfl rfl rfl wt_73 wf_3_11 wl_73_11 (by decide +kernel) wt_121 (by decide) (by decide +kernel) hI (fun q => absurd q (by decide)) (by decide) ⟨by omega, by omega⟩ (rfl) (fun _ => ⟨Or.inr (by decide), Or.inl (nN_ge _)⟩) ⟨(Or.inr ⟨wy_pr rfl, mS_no rfl⟩), trivial, trivial, trivial, trivial⟩ trivial (fun Z6 g7 gi8 => ?_)
    have rm9 := rmR_gr hR g7 (by decide +kernel) (len := (S 121 (-1))) (rfl) ⟨by omega, by omega⟩ ⟨fun q => by first | omega | exact absurd q (by decide), by show _ ≤ (100000000 : Int); omega⟩
    refine wa_aload_n (n := 0) rfl ?_
    refine wa_aload_n (n := 0) rfl ?_
    refine wb_gf4 73 rfl (wy_pr rfl) wt_73 wf_3_12 (v := 122) wl_73_12 ?_
    refine wa_aload_n (n := 0) rfl ?_
    refine wb_gfi 73 rfl (wy_pr rfl) wt_73 wf_3_16 (v := (K.length : Int)) (((congrFun (g7.2.2.1 73 (by decide) (by decide) (by decide)) 16).trans (h16))) (fun r10 => ?_)
    refine wa_iconst ?_
    refine wa_imul ?_
    refine wa_cs (M2 := fun _ => False) rfl at_JA_copyOf_3 ⟨_, rfl⟩ rfl rfl ⟨(Or.inr ⟨wy_pr rfl, fun q => q⟩), trivial, trivial, trivial, trivial⟩ ⟨(Or.inr ⟨wy_pr rfl, fun q => q⟩), trivial⟩ (fun _ _ q => False.elim q) (cp_J (S := Z6) (a := 122) (n := ((K.length : Int) * 2)) (len := (S 121 (-1))) (wy_pr rfl) wt_122 (((congrFun (g7.2.2.1 122 (by decide) (by decide) (by decide)) (-1)).trans (hl1))) ⟨by omega, by omega, by omega⟩) (fun oq11 Sq11 _ q11 => ?_)
    rcases q11 with ⟨rfl, rfl⟩
    show wJ _ _ _ _ _ _ _ _ _ _
    refine wg_pf (S := Z6) (len := (S 121 (-1))) 1 73 122 rfl rfl rfl wt_73 wf_3_12 wl_73_12 (by decide +kernel) wt_122 (by decide) (by decide +kernel) gi8 (fun q => absurd q (by decide)) (by decide) ⟨by omega, by omega⟩ (((congrFun (g7.2.2.1 122 (by decide) (by decide) (by decide)) (-1)).trans (hl1))) (fun _ => ⟨Or.inr (by decide), Or.inl (nN_ge _)⟩) ⟨(Or.inr ⟨wy_pr rfl, mS_no rfl⟩), trivial, trivial, trivial, trivial⟩ trivial (fun Z12 g13 gi14 => ?_)
    have rm15 := rmR_gr rm9 g13 (by decide +kernel) (len := (S 121 (-1))) (((congrFun (g7.2.2.1 122 (by decide) (by decide) (by decide)) (-1)).trans (hl1))) ⟨by omega, by omega⟩ ⟨fun q => by first | omega | exact absurd q (by decide), by show _ ≤ (100000000 : Int); omega⟩
    refine wa_aload_n (n := 0) rfl ?_
    refine wa_aload_n (n := 0) rfl ?_
    refine wb_gf4 73 rfl (wy_pr rfl) wt_73 wf_3_13 (v := 123) wl_73_13 ?_
    refine wa_aload_n (n := 0) rfl ?_
    refine wb_gfi 73 rfl (wy_pr rfl) wt_73 wf_3_16 (v := (K.length : Int)) (((congrFun (g13.2.2.1 73 (by decide) (by decide) (by decide)) 16).trans (((congrFun (g7.2.2.1 73 (by decide) (by decide) (by decide)) 16).trans (h16))))) (fun r16 => ?_)
    refine wa_iconst ?_
    refine wa_imul ?_
    refine wa_cs (M2 := fun _ => False) rfl at_JA_copyOf_2 ⟨_, rfl⟩ rfl rfl ⟨(Or.inr ⟨wy_pr rfl, fun q => q⟩), trivial, trivial, trivial, trivial⟩ ⟨(Or.inr ⟨wy_pr rfl, fun q => q⟩), trivial⟩ (fun _ _ q => False.elim q) (cp_I (S := Z12) (a := 123) (n := ((K.length : Int) * 2)) (len := (S 121 (-1))) (wy_pr rfl) wt_123 (((congrFun (g13.2.2.1 123 (by decide) (by decide) (by decide)) (-1)).trans (((congrFun (g7.2.2.1 123 (by decide) (by decide) (by decide)) (-1)).trans (hl2))))) ⟨by omega, by omega, by omega⟩) (fun oq17 Sq17 _ q17 => ?_)
    rcases q17 with ⟨rfl, rfl⟩
    show wJ _ _ _ _ _ _ _ _ _ _
    refine wg_pf (S := Z12) (len := (S 121 (-1))) 0 73 123 rfl rfl rfl wt_73 wf_3_13 wl_73_13 (by decide +kernel) wt_123 (by decide) (by decide +kernel) gi14 (fun q => absurd q (by decide)) (by decide) ⟨by omega, by omega⟩ (((congrFun (g13.2.2.1 123 (by decide) (by decide) (by decide)) (-1)).trans (((congrFun (g7.2.2.1 123 (by decide) (by decide) (by decide)) (-1)).trans (hl2))))) (fun _ => ⟨Or.inr (by decide), Or.inl (nN_ge _)⟩) ⟨(Or.inr ⟨wy_pr rfl, mS_no rfl⟩), trivial, trivial, trivial, trivial⟩ trivial (fun Z18 g19 gi20 => ?_)
    have rm21 := rmR_gr rm15 g19 (by decide +kernel) (len := (S 121 (-1))) (((congrFun (g13.2.2.1 123 (by decide) (by decide) (by decide)) (-1)).trans (((congrFun (g7.2.2.1 123 (by decide) (by decide) (by decide)) (-1)).trans (hl2))))) ⟨by omega, by omega⟩ ⟨fun q => by first | omega | exact absurd q (by decide), by show _ ≤ (100000000 : Int); omega⟩
    refine wa_aload_n (n := 0) rfl ?_
    refine wa_aload_n (n := 0) rfl ?_
    refine wb_gf4 73 rfl (wy_pr rfl) wt_73 wf_3_14 (v := 124) wl_73_14 ?_
    refine wa_aload_n (n := 0) rfl ?_
    refine wb_gfi 73 rfl (wy_pr rfl) wt_73 wf_3_16 (v := (K.length : Int)) (((congrFun (g19.2.2.1 73 (by decide) (by decide) (by decide)) 16).trans (((congrFun (g13.2.2.1 73 (by decide) (by decide) (by decide)) 16).trans (((congrFun (g7.2.2.1 73 (by decide) (by decide) (by decide)) 16).trans (h16))))))) (fun r22 => ?_)
    refine wa_iconst ?_
    refine wa_imul ?_
    refine wa_fall ⟨_, rfl⟩ ?_
    refine wa_cs (M2 := fun _ => False) rfl at_JA_copyOf_2 ⟨_, rfl⟩ rfl rfl ⟨(Or.inr ⟨wy_pr rfl, fun q => q⟩), trivial, trivial, trivial, trivial⟩ ⟨(Or.inr ⟨wy_pr rfl, fun q => q⟩), trivial⟩ (fun _ _ q => False.elim q) (cp_I (S := Z18) (a := 124) (n := ((K.length : Int) * 2)) (len := (S 121 (-1))) (wy_pr rfl) wt_124 (((congrFun (g19.2.2.1 124 (by decide) (by decide) (by decide)) (-1)).trans (((congrFun (g13.2.2.1 124 (by decide) (by decide) (by decide)) (-1)).trans (((congrFun (g7.2.2.1 124 (by decide) (by decide) (by decide)) (-1)).trans (hl3))))))) ⟨by omega, by omega, by omega⟩) (fun oq23 Sq23 _ q23 => ?_)
    rcases q23 with ⟨rfl, rfl⟩
    show wJ _ _ _ _ _ _ _ _ _ _
    refine wg_pf (S := Z18) (len := (S 121 (-1))) 0 73 124 rfl rfl rfl wt_73 wf_3_14 wl_73_14 (by decide +kernel) wt_124 (by decide) (by decide +kernel) gi20 (fun q => absurd q (by decide)) (by decide) ⟨by omega, by omega⟩ (((congrFun (g19.2.2.1 124 (by decide) (by decide) (by decide)) (-1)).trans (((congrFun (g13.2.2.1 124 (by decide) (by decide) (by decide)) (-1)).trans (((congrFun (g7.2.2.1 124 (by decide) (by decide) (by decide)) (-1)).trans (hl3))))))) (fun _ => ⟨Or.inr (by decide), Or.inl (nN_ge _)⟩) ⟨(Or.inr ⟨wy_pr rfl, mS_no rfl⟩), trivial, trivial, trivial, trivial⟩ trivial (fun Z24 g25 gi26 => ?_)
    have rm27 := rmR_gr rm21 g25 (by decide +kernel) (len := (S 121 (-1))) (((congrFun (g19.2.2.1 124 (by decide) (by decide) (by decide)) (-1)).trans (((congrFun (g13.2.2.1 124 (by decide) (by decide) (by decide)) (-1)).trans (((congrFun (g7.2.2.1 124 (by decide) (by decide) (by decide)) (-1)).trans (hl3))))))) ⟨by omega, by omega⟩ ⟨fun q => by first | omega | exact absurd q (by decide), by show _ ≤ (100000000 : Int); omega⟩
    refine wa_fall ⟨_, rfl⟩ ?_
    have zz : ∀ (j : Nat) (i : Int), j < 4000000 → j ≠ wG → (j < 121 ∨ 124 < j) → Z24 j i = S j i := fun j i j0 j1 j2 => (congrFun (g25.2.2.1 j (by omega) j0 j1) i).trans ((congrFun (g19.2.2.1 j (by omega) j0 j1) i).trans ((congrFun (g13.2.2.1 j (by omega) j0 j1) i).trans ((congrFun (g7.2.2.1 j (by omega) j0 j1) i).trans (rfl))))
    have y121 : ∀ i : Int, 0 ≤ i → i < (K.length : Int) → Z24 121 i = S 121 i := by
      intro i i0 i1
      have f0 : Z24 121 i = Z18 121 i := congrFun (g25.2.2.1 121 (by decide) (by decide) (by decide)) i
      have f1 : Z18 121 i = Z12 121 i := congrFun (g19.2.2.1 121 (by decide) (by decide) (by decide)) i
      have f2 : Z12 121 i = Z6 121 i := congrFun (g13.2.2.1 121 (by decide) (by decide) (by decide)) i
      have e3 : S 121 (-1) = S 121 (-1) := rfl
      have f3 : Z6 121 i = S 121 i := g7.2.1 i i0 (by rw [e3]; omega)
      rw [f0, f1, f2, f3]
    have n121 : Z24 121 (-1) = (K.length : Int) * 2 := (((congrFun (g25.2.2.1 121 (by decide) (by decide) (by decide)) (-1)).trans (((congrFun (g19.2.2.1 121 (by decide) (by decide) (by decide)) (-1)).trans (((congrFun (g13.2.2.1 121 (by decide) (by decide) (by decide)) (-1)).trans (g7.1)))))))
    have y122 : ∀ i : Int, 0 ≤ i → i < (K.length : Int) → Z24 122 i = S 122 i := by
      intro i i0 i1
      have f0 : Z24 122 i = Z18 122 i := congrFun (g25.2.2.1 122 (by decide) (by decide) (by decide)) i
      have f1 : Z18 122 i = Z12 122 i := congrFun (g19.2.2.1 122 (by decide) (by decide) (by decide)) i
      have e2 : Z6 122 (-1) = S 122 (-1) := ((congrFun (g7.2.2.1 122 (by decide) (by decide) (by decide)) (-1)))
      have f2 : Z12 122 i = Z6 122 i := g13.2.1 i i0 (by rw [e2]; omega)
      have f3 : Z6 122 i = S 122 i := congrFun (g7.2.2.1 122 (by decide) (by decide) (by decide)) i
      rw [f0, f1, f2, f3]
    have n122 : Z24 122 (-1) = (K.length : Int) * 2 := (((congrFun (g25.2.2.1 122 (by decide) (by decide) (by decide)) (-1)).trans (((congrFun (g19.2.2.1 122 (by decide) (by decide) (by decide)) (-1)).trans (g13.1)))))
    have y123 : ∀ i : Int, 0 ≤ i → i < (K.length : Int) → Z24 123 i = S 123 i := by
      intro i i0 i1
      have f0 : Z24 123 i = Z18 123 i := congrFun (g25.2.2.1 123 (by decide) (by decide) (by decide)) i
      have e1 : Z12 123 (-1) = S 123 (-1) := (((congrFun (g13.2.2.1 123 (by decide) (by decide) (by decide)) (-1))).trans ((congrFun (g7.2.2.1 123 (by decide) (by decide) (by decide)) (-1))))
      have f1 : Z18 123 i = Z12 123 i := g19.2.1 i i0 (by rw [e1]; omega)
      have f2 : Z12 123 i = Z6 123 i := congrFun (g13.2.2.1 123 (by decide) (by decide) (by decide)) i
      have f3 : Z6 123 i = S 123 i := congrFun (g7.2.2.1 123 (by decide) (by decide) (by decide)) i
      rw [f0, f1, f2, f3]
    have n123 : Z24 123 (-1) = (K.length : Int) * 2 := (((congrFun (g25.2.2.1 123 (by decide) (by decide) (by decide)) (-1)).trans (g19.1)))
    have y124 : ∀ i : Int, 0 ≤ i → i < (K.length : Int) → Z24 124 i = S 124 i := by
      intro i i0 i1
      have e0 : Z18 124 (-1) = S 124 (-1) := (((congrFun (g19.2.2.1 124 (by decide) (by decide) (by decide)) (-1))).trans (((congrFun (g13.2.2.1 124 (by decide) (by decide) (by decide)) (-1))).trans ((congrFun (g7.2.2.1 124 (by decide) (by decide) (by decide)) (-1)))))
      have f0 : Z24 124 i = Z18 124 i := g25.2.1 i i0 (by rw [e0]; omega)
      have f1 : Z18 124 i = Z12 124 i := congrFun (g19.2.2.1 124 (by decide) (by decide) (by decide)) i
      have f2 : Z12 124 i = Z6 124 i := congrFun (g13.2.2.1 124 (by decide) (by decide) (by decide)) i
      have f3 : Z6 124 i = S 124 i := congrFun (g7.2.2.1 124 (by decide) (by decide) (by decide)) i
      rw [f0, f1, f2, f3]
    have n124 : Z24 124 (-1) = (K.length : Int) * 2 := (g25.1)
    have hkp2 : kpR 73 121 K Z24 := by
      refine ⟨(zz 73 16 (by decide) (by decide) (by decide)).trans h16, fun i i0 i1 => ?_, fun x x0 x1 => (zz 125 x (by decide) (by decide) (by decide)).trans (hkp.2.2.1 x x0 x1), ⟨n122.trans n121.symm, n123.trans n121.symm, n124.trans n121.symm, (zz 125 (-1) (by decide) (by decide) (by decide)).trans hl4⟩, ?_⟩
      · obtain ⟨q1, q2, q3, q4⟩ := hkp.2.1 i i0 i1
        exact ⟨(y121 i i0 i1).trans q1, (y122 i i0 i1).trans q2, (y123 i i0 i1).trans q3, (y124 i i0 i1).trans q4⟩
      · rw [n121]; omega
    refine wJ_mono (ke2_73 (S := Z24) hkp2 gi26 ha he hv (by rw [n121]; omega) hl2k) (fun o Z hz => ⟨hz.1, hz.2.1, fun j i j0 j1 j2 j3 => (hz.2.2.1 j i j0 j1 j2 j3).trans (zz j i j0 j1 (by omega)), hz.2.2.2.1, rmR_tr rm27 hz.2.2.2.2⟩)
theorem kal_162 {a e : Int} {K : List aKp} (hC : w_CL S) (hkp : kpR 162 210 K S) (ha : -2147483648 ≤ a ∧ a ≤ 2147483647) (he : -9223372036854775808 ≤ e ∧ e ≤ 9223372036854775807) : ∀ (f i m : Nat) (x : Int), m < f → i + m ≤ K.length → x = wl_of (kHf K) (kHd a e) m - 1 → (∀ q : Nat, m ≤ q → q < K.length → ¬ ((kG K (q : Int)).1 = a ∧ (kG K (q : Int)).2.1 = e)) → wJ (pe_GA xs) wY0 M d t_XO_keptAt ((pe_at t_XO_keptAt.bl 1).getD (0, [])).2 [(0, (2, 162)), (1, (0, a)), (2, (1, e)), (4, (0, x)), (5, (0, (i : Int)))] [] S (fun o Z => S = Z ∧ ∃ q : Int, o = .inl (some (0, q)) ∧ ((0 ≤ q ∧ q < (K.length : Int) ∧ (kG K q).1 = a ∧ (kG K q).2.1 = e) ∨ (q = -1 ∧ ∀ i : Int, 0 ≤ i → i < (K.length : Int) → ¬ ((kG K i).1 = a ∧ (kG K i).2.1 = e)))) := by
  have hl1 : S 211 (-1) = S 210 (-1) := hkp.2.2.2.1.1
  have hl2 : S 212 (-1) = S 210 (-1) := hkp.2.2.2.1.2.1
  have hl3 : S 213 (-1) = S 210 (-1) := hkp.2.2.2.1.2.2.1
  have hl4 : S 214 (-1) = 128 := hkp.2.2.2.1.2.2.2
  have hl5 := hkp.2.2.2.2
  have h16 : S 162 16 = (K.length : Int) := hkp.1
  intro f
  induction f with
  | zero => intro i m x h; exact absurd h (Nat.not_lt_zero _)
  | succ f ih =>
    intro i m x hf him hx hno
    have hrg := wl_rg (kHf K) (kHd a e) m
    have hend : x < 0 → ∀ j : Int, 0 ≤ j → j < (K.length : Int) → ¬ ((kG K j).1 = a ∧ (kG K j).2.1 = e) := by
      intro hx0 j j0 j1 hw
      by_cases hqm : (m : Int) ≤ j
      · have z := hno j.toNat (by omega) (by omega)
        rw [Int.toNat_of_nonneg j0] at z
        exact z hw
      · have z := wlc_gap (f := kHf K) (x := kHd a e) m j.toNat (by omega) (by omega)
        rw [Int.toNat_of_nonneg j0] at z
        exact z (by unfold kHf; rw [hw.1, hw.2])
    have hin : 0 ≤ x → S 210 x = (kG K x).1 ∧ S 211 x = (kG K x).2.1 ∧ S 213 x = wl_of (kHf K) (kHd a e) x.toNat := fun h0 => by
      obtain ⟨q1, q2, q3, q4⟩ := hkp.2.1 x h0 (by omega)
      have z := wlc_at (f := kHf K) (x := kHd a e) m (by omega)
      rw [← hx] at z
      rw [z] at q4
      exact ⟨q1, q2, q4⟩
    refine wa_iload (n := 5) rfl ?_
    refine wa_aload_n (n := 0) rfl ?_
    refine wb_gfi 162 rfl (wy_pr rfl) wt_162 wf_3_16 (v := (K.length : Int)) (h16) (fun r1 => ?_)
    refine wa_icmpge (w_rg0 (by omega) (by omega)) (w_rg0 (by omega) (by omega)) ⟨_, rfl⟩ (fun c2 => ?_) (fun c2 => ?_)
    · skip
      refine wa_iconst ?_
      refine wa_ireturn rfl ?_
      exact ⟨rfl, -1, rfl, Or.inr ⟨rfl, by first | exact hend (by omega) | exact fun j j0 j1 => hno0 j j0 j1⟩⟩
    · skip
      refine wa_iload (n := 4) rfl ?_
      refine wa_iflt (w_rg0 (by omega) (by omega)) ⟨_, rfl⟩ (fun c3 => ?_) (fun c3 => ?_)
      · skip
        refine wa_iconst ?_
        refine wa_ireturn rfl ?_
        exact ⟨rfl, -1, rfl, Or.inr ⟨rfl, by first | exact hend (by omega) | exact fun j j0 j1 => hno0 j j0 j1⟩⟩
      · skip
        have hx3 := hin (by omega)
        have hxa := hx3.1
        have hxe := hx3.2.1
        have hxn := hx3.2.2
        refine wa_aload_n (n := 0) rfl ?_
        refine wb_gf4 162 rfl (wy_pr rfl) wt_162 wf_3_11 (v := 210) wl_162_11 ?_
        refine wa_iload (n := 4) rfl ?_
        refine wb_iald 210 rfl (wy_pr rfl) wt_210 (n := (S 210 (-1))) (rfl) (by omega) (by omega) (v := (kG K x).1) (hxa) (fun r4 => ?_)
        refine wa_iload_n (n := 1) rfl ?_
        refine wa_icmpne (w_rg0 (by omega) (by omega)) (w_rg0 (by omega) (by omega)) ⟨_, rfl⟩ (fun c5 => ?_) (fun c5 => ?_)
        · skip
          refine wa_aload_n (n := 0) rfl ?_
          refine wb_gf4 162 rfl (wy_pr rfl) wt_162 wf_3_14 (v := 213) wl_162_14 ?_
          refine wa_iload (n := 4) rfl ?_
          refine wb_iald 213 rfl (wy_pr rfl) wt_213 (n := (S 210 (-1))) (hl3) (by omega) (by omega) (v := (wl_of (kHf K) (kHd a e) x.toNat)) (hxn) (fun r6 => ?_)
          refine wa_iconst ?_
          refine wa_isub ?_
          refine wa_istore (n := 4) rfl ?_
          refine wa_iinc rfl rfl ?_
          refine wa_goto ⟨_, rfl⟩ ?_
          have hrg2 := wl_rg (kHf K) (kHd a e) x.toNat
          refine wJ_S (ih (i + 1) x.toNat (wl_of (kHf K) (kHd a e) x.toNat - 1) (by omega) (by omega) rfl (fun q hq1 hq2 z => ?_)) ⟨rfl, rfl, rfl, rfl, rfl, trivial⟩
          by_cases cq : (q : Int) = x
          · rw [cq] at z; have z1 := z.1; have z2 := z.2; omega
          · by_cases cm : m ≤ q
            · exact hno q cm hq2 z
            · exact wlc_gap (f := kHf K) (x := kHd a e) m q (by omega) (by omega) (by unfold kHf; rw [z.1, z.2])
        · skip
          refine wa_aload_n (n := 0) rfl ?_
          refine wb_gf4 162 rfl (wy_pr rfl) wt_162 wf_3_12 (v := 211) wl_162_12 ?_
          refine wa_iload (n := 4) rfl ?_
          refine wb_lald 211 rfl (wy_pr rfl) wt_211 (n := (S 210 (-1))) (hl1) (by omega) (by omega) (v := (kG K x).2.1) (hxe) (fun r7 => ?_)
          refine wa_lload_n (n := 2) rfl ?_
          refine wa_lcmp (w_rg1 (by omega) (by omega)) (w_rg1 (by omega) (by omega)) ?_
          refine wa_ifne (by have := @wb_lcmp_cases; exact w_lcmp_rg) ⟨_, rfl⟩ (fun c8 => ?_) (fun c8 => ?_)
          · skip
            have c8x := @wb_lcmp_cases (kG K x).2.1 e
            refine wa_aload_n (n := 0) rfl ?_
            refine wb_gf4 162 rfl (wy_pr rfl) wt_162 wf_3_14 (v := 213) wl_162_14 ?_
            refine wa_iload (n := 4) rfl ?_
            refine wb_iald 213 rfl (wy_pr rfl) wt_213 (n := (S 210 (-1))) (hl3) (by omega) (by omega) (v := (wl_of (kHf K) (kHd a e) x.toNat)) (hxn) (fun r9 => ?_)
            refine wa_iconst ?_
            refine wa_isub ?_
            refine wa_istore (n := 4) rfl ?_
            refine wa_iinc rfl rfl ?_
            refine wa_goto ⟨_, rfl⟩ ?_
            have hrg2 := wl_rg (kHf K) (kHd a e) x.toNat
            refine wJ_S (ih (i + 1) x.toNat (wl_of (kHf K) (kHd a e) x.toNat - 1) (by omega) (by omega) rfl (fun q hq1 hq2 z => ?_)) ⟨rfl, rfl, rfl, rfl, rfl, trivial⟩
            by_cases cq : (q : Int) = x
            · rw [cq] at z; have z1 := z.1; have z2 := z.2; omega
            · by_cases cm : m ≤ q
              · exact hno q cm hq2 z
              · exact wlc_gap (f := kHf K) (x := kHd a e) m q (by omega) (by omega) (by unfold kHf; rw [z.1, z.2])
          · skip
            have c8x := @wb_lcmp_cases (kG K x).2.1 e
            refine wa_iload (n := 4) rfl ?_
            refine wa_ireturn rfl ?_
            exact ⟨rfl, x, rfl, Or.inl ⟨by omega, by omega, by omega, by omega⟩⟩
theorem kat_162 {a e : Int} {K : List aKp} (hC : w_CL S) (hkp : kpR 162 210 K S) (ha : -2147483648 ≤ a ∧ a ≤ 2147483647) (he : -9223372036854775808 ≤ e ∧ e ≤ 9223372036854775807) : wJ (pe_GA xs) wY0 M (d + 1) t_XO_keptAt ((pe_at t_XO_keptAt.bl 0).getD (0, [])).2 [(0, (2, 162)), (1, (0, a)), (2, (1, e))] [] S (fun o Z => S = Z ∧ ∃ q : Int, o = .inl (some (0, q)) ∧ ((0 ≤ q ∧ q < (K.length : Int) ∧ (kG K q).1 = a ∧ (kG K q).2.1 = e) ∨ (q = -1 ∧ ∀ i : Int, 0 ≤ i → i < (K.length : Int) → ¬ ((kG K i).1 = a ∧ (kG K i).2.1 = e)))) := by
  have hl1 : S 211 (-1) = S 210 (-1) := hkp.2.2.2.1.1
  have hl2 : S 212 (-1) = S 210 (-1) := hkp.2.2.2.1.2.1
  have hl3 : S 213 (-1) = S 210 (-1) := hkp.2.2.2.1.2.2.1
  have hl4 : S 214 (-1) = 128 := hkp.2.2.2.1.2.2.2
  have hl5 := hkp.2.2.2.2
  have h16 : S 162 16 = (K.length : Int) := hkp.1
  have hh4 : S 214 (kHd a e) = wl_of (kHf K) (kHd a e) K.length := hkp.2.2.1 _ (kHd_rg a e).1 (by have := (kHd_rg a e).2; omega)
  have hrg := wl_rg (kHf K) (kHd a e) K.length
  refine wa_aload_n (n := 0) rfl ?_
  refine wb_gf4 162 rfl (wy_pr rfl) wt_162 wf_3_15 (v := 214) wl_162_15 ?_
  refine wa_iload_n (n := 1) rfl ?_
  refine wa_lload_n (n := 2) rfl ?_
  refine wa_cs (M2 := fun _ => False) rfl at_XO_keptHead ⟨_, rfl⟩ rfl rfl ⟨(Or.inr ⟨wy_pr rfl, fun q => q⟩), trivial, trivial, trivial⟩ ⟨(Or.inr ⟨wy_pr rfl, fun q => q⟩), trivial⟩ (fun _ _ q => False.elim q) (khd (S := S) (a := a) (e := e) ⟨by omega, by omega⟩) (fun oq1 Sq1 hp2 q1 => ?_)
  rcases q1 with ⟨rfl, rfl⟩
  show wJ _ _ _ _ _ _ _ _ _ _
  have hkr := kHd_rg a e
  refine wb_iald 214 rfl (wy_pr rfl) wt_214 (n := 128) (hl4) (by omega) (by omega) (v := (wl_of (kHf K) (kHd a e) K.length)) (hh4) (fun r3 => ?_)
  refine wa_iconst ?_
  refine wa_isub ?_
  refine wa_istore (n := 4) rfl ?_
  refine wa_iconst ?_
  refine wa_istore (n := 5) rfl ?_
  refine wa_fall ⟨_, rfl⟩ ?_
  exact wJ_S (kal_162 (d := d + 1) hC hkp ha he (K.length + 1) 0 K.length (wl_of (kHf K) (kHd a e) K.length - 1) (by omega) (by omega) rfl (fun q h1 h2 => absurd h2 (by omega))) ⟨rfl, rfl, rfl, rfl, rfl, trivial⟩
theorem ke2_162 {a e v : Int} {K : List aKp} (hkp : kpR 162 210 K S) (hI : gI S) (ha : -2147483648 ≤ a ∧ a ≤ 2147483647) (he : -9223372036854775808 ≤ e ∧ e ≤ 9223372036854775807) (hv : -2147483648 ≤ v ∧ v ≤ 2147483647) (hlt : (K.length : Int) < S 210 (-1)) (hl2k : K.length < 2000) : wJ (pe_GA xs) wY0 (mS [210, 211, 212, 213]) (d + 3) t_XO_keep ((pe_at t_XO_keep.bl 2).getD (0, [])).2 [(0, (2, 162)), (1, (0, a)), (2, (1, e)), (4, (0, v))] [] S (fun o Z => o = .inl none ∧ keR 162 210 K a e v S Z) := by
  have hl1 : S 211 (-1) = S 210 (-1) := hkp.2.2.2.1.1
  have hl2 : S 212 (-1) = S 210 (-1) := hkp.2.2.2.1.2.1
  have hl3 : S 213 (-1) = S 210 (-1) := hkp.2.2.2.1.2.2.1
  have hl4 : S 214 (-1) = 128 := hkp.2.2.2.1.2.2.2
  have hl5 := hkp.2.2.2.2
  have h16 : S 162 16 = (K.length : Int) := hkp.1
  have hR := rmR_rfl S
  have hh4 : S 214 (kHd a e) = wl_of (kHf K) (kHd a e) K.length := hkp.2.2.1 _ (kHd_rg a e).1 (by have := (kHd_rg a e).2; omega)
  have hrg := wl_rg (kHf K) (kHd a e) K.length
  refine wa_iload_n (n := 1) rfl ?_
  refine wa_lload_n (n := 2) rfl ?_
  refine wa_cs (M2 := fun _ => False) rfl at_XO_keptHead ⟨_, rfl⟩ rfl rfl ⟨(Or.inr ⟨wy_pr rfl, fun q => q⟩), trivial, trivial, trivial, trivial⟩ trivial (fun _ _ q => False.elim q) (khd (S := S) (a := a) (e := e) ⟨by omega, by omega⟩) (fun oq1 Sq1 hp2 q1 => ?_)
  rcases q1 with ⟨rfl, rfl⟩
  show wJ _ _ _ _ _ _ _ _ _ _
  have hkr := kHd_rg a e
  refine wa_istore (n := 5) rfl ?_
  refine wa_aload_n (n := 0) rfl ?_
  refine wb_gf4 162 rfl (wy_pr rfl) wt_162 wf_3_11 (v := 210) wl_162_11 ?_
  refine wa_aload_n (n := 0) rfl ?_
  refine wb_gfi 162 rfl (wy_pr rfl) wt_162 wf_3_16 (v := (K.length : Int)) (h16) (fun r3 => ?_)
  refine wa_iload_n (n := 1) rfl ?_
  refine wb_iast 210 rfl (wy_pr rfl) wt_210 (n := (S 210 (-1))) (rfl) (by omega) (by omega) ⟨(by omega), (by omega)⟩ ?_
  refine wa_aload_n (n := 0) rfl ?_
  refine wb_gf4 162 rfl (wy_pr rfl) wt_162 wf_3_12 (v := 211) wl_162_12 ?_
  refine wa_aload_n (n := 0) rfl ?_
  refine wb_gfi 162 rfl (wy_pr rfl) wt_162 wf_3_16 (v := (K.length : Int)) ((w_up_slot (by decide)).trans (h16)) (fun r4 => ?_)
  refine wa_lload_n (n := 2) rfl ?_
  refine wb_last 211 rfl (wy_pr rfl) wt_211 (n := (S 210 (-1))) ((w_up_slot (by decide)).trans (hl1)) (by omega) (by omega) ⟨(by omega), (by omega)⟩ ?_
  refine wa_aload_n (n := 0) rfl ?_
  refine wb_gf4 162 rfl (wy_pr rfl) wt_162 wf_3_13 (v := 212) wl_162_13 ?_
  refine wa_aload_n (n := 0) rfl ?_
  refine wb_gfi 162 rfl (wy_pr rfl) wt_162 wf_3_16 (v := (K.length : Int)) ((w_up_slot (by decide)).trans ((w_up_slot (by decide)).trans (h16))) (fun r5 => ?_)
  refine wa_iload (n := 4) rfl ?_
  refine wb_iast 212 rfl (wy_pr rfl) wt_212 (n := (S 210 (-1))) ((w_up_slot (by decide)).trans ((w_up_slot (by decide)).trans (hl2))) (by omega) (by omega) ⟨(by omega), (by omega)⟩ ?_
  refine wa_aload_n (n := 0) rfl ?_
  refine wb_gf4 162 rfl (wy_pr rfl) wt_162 wf_3_14 (v := 213) wl_162_14 ?_
  refine wa_aload_n (n := 0) rfl ?_
  refine wb_gfi 162 rfl (wy_pr rfl) wt_162 wf_3_16 (v := (K.length : Int)) ((w_up_slot (by decide)).trans ((w_up_slot (by decide)).trans ((w_up_slot (by decide)).trans (h16)))) (fun r6 => ?_)
  refine wa_aload_n (n := 0) rfl ?_
  refine wb_gf4 162 rfl (wy_pr rfl) wt_162 wf_3_15 (v := 214) wl_162_15 ?_
  refine wa_iload (n := 5) rfl ?_
  refine wb_iald 214 rfl (wy_pr rfl) wt_214 (n := 128) ((w_up_slot (by decide)).trans ((w_up_slot (by decide)).trans ((w_up_slot (by decide)).trans (hl4)))) (by omega) (by omega) (v := (wl_of (kHf K) (kHd a e) K.length)) ((w_up_slot (by decide)).trans ((w_up_slot (by decide)).trans ((w_up_slot (by decide)).trans (hh4)))) (fun r7 => ?_)
  refine wb_iast 213 rfl (wy_pr rfl) wt_213 (n := (S 210 (-1))) ((w_up_slot (by decide)).trans ((w_up_slot (by decide)).trans ((w_up_slot (by decide)).trans (hl3)))) (by omega) (by omega) ⟨(by omega), (by omega)⟩ ?_
  refine wa_aload_n (n := 0) rfl ?_
  refine wa_dup (by decide) ?_
  refine wb_gfi 162 rfl (wy_pr rfl) wt_162 wf_3_16 (v := (K.length : Int)) ((w_up_slot (by decide)).trans ((w_up_slot (by decide)).trans ((w_up_slot (by decide)).trans ((w_up_slot (by decide)).trans (h16))))) (fun r8 => ?_)
  refine wa_iconst ?_
  refine wa_iadd ?_
  refine wb_pfi 162 rfl (wy_pr rfl) wt_162 wf_3_16 (n := 16) rfl ⟨(by omega), (by omega)⟩ ?_
  refine wa_aload_n (n := 0) rfl ?_
  refine wb_gf4 162 rfl (wy_pr rfl) wt_162 wf_3_15 (v := 214) wl_162_15 ?_
  refine wa_iload (n := 5) rfl ?_
  refine wa_fall ⟨_, rfl⟩ ?_
  refine wa_aload_n (n := 0) rfl ?_
  refine wb_gfi 162 rfl (wy_pr rfl) wt_162 wf_3_16 (v := ((K.length : Int) + 1)) (w_up_same _ _ _ _) (fun r9 => ?_)
  refine wb_iast 214 rfl (wy_pr rfl) wt_214 (n := 128) ((w_up_slot (by decide)).trans ((w_up_slot (by decide)).trans ((w_up_slot (by decide)).trans ((w_up_slot (by decide)).trans ((w_up_slot (by decide)).trans (hl4)))))) (by omega) (by omega) ⟨(by omega), (by omega)⟩ ?_
  refine wa_return rfl ?_
  refine ⟨rfl, kpR_n hkp hl2k ((w_up_slot (by decide)).trans (w_up_same _ _ _ _)) ((w_up_slot (by decide)).trans ((w_up_slot (by decide)).trans ((w_up_slot (by decide)).trans ((w_up_slot (by decide)).trans ((w_up_slot (by decide)).trans (w_up_same _ _ _ _)))))) ((w_up_slot (by decide)).trans ((w_up_slot (by decide)).trans ((w_up_slot (by decide)).trans ((w_up_slot (by decide)).trans (w_up_same _ _ _ _))))) ((w_up_slot (by decide)).trans ((w_up_slot (by decide)).trans ((w_up_slot (by decide)).trans (w_up_same _ _ _ _)))) ((((w_up_slot (by decide)).trans ((w_up_slot (by decide)).trans (w_up_same _ _ _ _))) : (w_up (w_up (w_up (w_up (w_up (w_up S 210 (K.length : Int) a) 211 (K.length : Int) e) 212 (K.length : Int) v) 213 (K.length : Int) (wl_of (kHf K) (kHd a e) K.length)) 162 16 ((K.length : Int) + 1)) 214 (kHd a e) ((K.length : Int) + 1)) 213 (K.length : Int) = _).trans hh4.symm) (fun j i j0 j1 i0 i1 => ((w_up_no (by omega)).trans ((w_up_no (by omega)).trans ((w_up_no (by omega)).trans ((w_up_no (by omega)).trans ((w_up_no (by omega)).trans (w_up_no (by omega)))))))) (fun x x0 x1 => ?_) ⟨?_, ?_, ?_, ((w_up_at (by omega)).trans ((w_up_slot (by decide)).trans ((w_up_slot (by decide)).trans ((w_up_slot (by decide)).trans ((w_up_slot (by decide)).trans ((w_up_slot (by decide)).trans (hl4)))))))⟩ ?_, fun j i j0 j1 j2 j3 => ((w_up_no (by omega)).trans ((w_up_no (by omega)).trans ((w_up_no (by omega)).trans ((w_up_no (by omega)).trans ((w_up_no (by omega)).trans (w_up_no (by omega))))))), (gI_up (gI_up (gI_up (gI_up (gI_up (gI_up hI (by omega) (by omega) (by omega)) (by omega) (by omega) (by omega)) (by omega) (by omega) (by omega)) (by omega) (by omega) (by omega)) (by omega) (by omega) (by omega)) (by omega) (by omega) (by omega)), (rmR_up (rmR_up (rmR_up (rmR_up (rmR_up (rmR_up hR (by omega) (by decide)) (by omega) (by decide)) (by omega) (by decide)) (by omega) (by decide)) (by omega) (by decide)) (by omega) (by decide))⟩
  · by_cases cx : x = kHd a e
    · rw [if_pos cx, cx]; exact (w_up_same _ _ _ _)
    · rw [if_neg cx]; exact ((w_up_no (by omega)).trans ((w_up_no (by omega)).trans ((w_up_no (by omega)).trans ((w_up_no (by omega)).trans ((w_up_no (by omega)).trans (w_up_no (by omega)))))))
  · exact (((w_up_slot (by decide)).trans ((w_up_slot (by decide)).trans ((w_up_slot (by decide)).trans ((w_up_slot (by decide)).trans ((w_up_at (by omega)).trans ((w_up_slot (by decide)).trans (hl1))))))) : (w_up (w_up (w_up (w_up (w_up (w_up S 210 (K.length : Int) a) 211 (K.length : Int) e) 212 (K.length : Int) v) 213 (K.length : Int) (wl_of (kHf K) (kHd a e) K.length)) 162 16 ((K.length : Int) + 1)) 214 (kHd a e) ((K.length : Int) + 1)) 211 (-1) = S 210 (-1)).trans (((w_up_slot (by decide)).trans ((w_up_slot (by decide)).trans ((w_up_slot (by decide)).trans ((w_up_slot (by decide)).trans ((w_up_slot (by decide)).trans ((w_up_at (by omega)).trans (rfl))))))) : (w_up (w_up (w_up (w_up (w_up (w_up S 210 (K.length : Int) a) 211 (K.length : Int) e) 212 (K.length : Int) v) 213 (K.length : Int) (wl_of (kHf K) (kHd a e) K.length)) 162 16 ((K.length : Int) + 1)) 214 (kHd a e) ((K.length : Int) + 1)) 210 (-1) = S 210 (-1)).symm
  · exact (((w_up_slot (by decide)).trans ((w_up_slot (by decide)).trans ((w_up_slot (by decide)).trans ((w_up_at (by omega)).trans ((w_up_slot (by decide)).trans ((w_up_slot (by decide)).trans (hl2))))))) : (w_up (w_up (w_up (w_up (w_up (w_up S 210 (K.length : Int) a) 211 (K.length : Int) e) 212 (K.length : Int) v) 213 (K.length : Int) (wl_of (kHf K) (kHd a e) K.length)) 162 16 ((K.length : Int) + 1)) 214 (kHd a e) ((K.length : Int) + 1)) 212 (-1) = S 210 (-1)).trans (((w_up_slot (by decide)).trans ((w_up_slot (by decide)).trans ((w_up_slot (by decide)).trans ((w_up_slot (by decide)).trans ((w_up_slot (by decide)).trans ((w_up_at (by omega)).trans (rfl))))))) : (w_up (w_up (w_up (w_up (w_up (w_up S 210 (K.length : Int) a) 211 (K.length : Int) e) 212 (K.length : Int) v) 213 (K.length : Int) (wl_of (kHf K) (kHd a e) K.length)) 162 16 ((K.length : Int) + 1)) 214 (kHd a e) ((K.length : Int) + 1)) 210 (-1) = S 210 (-1)).symm
  · exact (((w_up_slot (by decide)).trans ((w_up_slot (by decide)).trans ((w_up_at (by omega)).trans ((w_up_slot (by decide)).trans ((w_up_slot (by decide)).trans ((w_up_slot (by decide)).trans (hl3))))))) : (w_up (w_up (w_up (w_up (w_up (w_up S 210 (K.length : Int) a) 211 (K.length : Int) e) 212 (K.length : Int) v) 213 (K.length : Int) (wl_of (kHf K) (kHd a e) K.length)) 162 16 ((K.length : Int) + 1)) 214 (kHd a e) ((K.length : Int) + 1)) 213 (-1) = S 210 (-1)).trans (((w_up_slot (by decide)).trans ((w_up_slot (by decide)).trans ((w_up_slot (by decide)).trans ((w_up_slot (by decide)).trans ((w_up_slot (by decide)).trans ((w_up_at (by omega)).trans (rfl))))))) : (w_up (w_up (w_up (w_up (w_up (w_up S 210 (K.length : Int) a) 211 (K.length : Int) e) 212 (K.length : Int) v) 213 (K.length : Int) (wl_of (kHf K) (kHd a e) K.length)) 162 16 ((K.length : Int) + 1)) 214 (kHd a e) ((K.length : Int) + 1)) 210 (-1) = S 210 (-1)).symm
  · rw [show (w_up (w_up (w_up (w_up (w_up (w_up S 210 (K.length : Int) a) 211 (K.length : Int) e) 212 (K.length : Int) v) 213 (K.length : Int) (wl_of (kHf K) (kHd a e) K.length)) 162 16 ((K.length : Int) + 1)) 214 (kHd a e) ((K.length : Int) + 1)) 210 (-1) = S 210 (-1) from ((w_up_slot (by decide)).trans ((w_up_slot (by decide)).trans ((w_up_slot (by decide)).trans ((w_up_slot (by decide)).trans ((w_up_slot (by decide)).trans ((w_up_at (by omega)).trans (rfl)))))))]; omega
theorem kee_162 {a e v : Int} {K : List aKp} (hkp : kpR 162 210 K S) (hI : gI S) (ha : -2147483648 ≤ a ∧ a ≤ 2147483647) (he : -9223372036854775808 ≤ e ∧ e ≤ 9223372036854775807) (hv : -2147483648 ≤ v ∧ v ≤ 2147483647) (hl2k : K.length < 2000) : wJ (pe_GA xs) wY0 (mS [210, 211, 212, 213]) (d + 3) t_XO_keep ((pe_at t_XO_keep.bl 0).getD (0, [])).2 [(0, (2, 162)), (1, (0, a)), (2, (1, e)), (4, (0, v))] [] S (fun o Z => o = .inl none ∧ keR 162 210 K a e v S Z) := by
  have hl1 : S 211 (-1) = S 210 (-1) := hkp.2.2.2.1.1
  have hl2 : S 212 (-1) = S 210 (-1) := hkp.2.2.2.1.2.1
  have hl3 : S 213 (-1) = S 210 (-1) := hkp.2.2.2.1.2.2.1
  have hl4 : S 214 (-1) = 128 := hkp.2.2.2.1.2.2.2
  have hl5 := hkp.2.2.2.2
  have h16 : S 162 16 = (K.length : Int) := hkp.1
  have hR := rmR_rfl S
  refine wa_aload_n (n := 0) rfl ?_
  refine wb_gfi 162 rfl (wy_pr rfl) wt_162 wf_3_16 (v := (K.length : Int)) (h16) (fun r1 => ?_)
  refine wa_aload_n (n := 0) rfl ?_
  refine wb_gf4 162 rfl (wy_pr rfl) wt_162 wf_3_11 (v := 210) wl_162_11 ?_
  refine wb_alen 210 rfl (wy_pr rfl) (by rw [wt_210]; rfl) (v := (S 210 (-1))) (rfl) (fun r2 => ?_)
  refine wa_icmpne (w_rg0 (by omega) (by omega)) (w_rg0 (by omega) (by omega)) ⟨_, rfl⟩ (fun c3 => ?_) (fun c3 => ?_)
  · skip
    exact ke2_162 hkp hI ha he hv (by omega) hl2k
  · skip
    refine wa_aload_n (n := 0) rfl ?_
    refine wa_aload_n (n := 0) rfl ?_
    refine wb_gf4 162 rfl (wy_pr rfl) wt_162 wf_3_11 (v := 210) wl_162_11 ?_
    refine wa_aload_n (n := 0) rfl ?_
    refine wb_gfi 162 rfl (wy_pr rfl) wt_162 wf_3_16 (v := (K.length : Int)) (h16) (fun r4 => ?_)
    refine wa_iconst ?_
    refine wa_imul ?_
    refine wa_cs (M2 := fun _ => False) rfl at_JA_copyOf_2 ⟨_, rfl⟩ rfl rfl ⟨(Or.inr ⟨wy_pr rfl, fun q => q⟩), trivial, trivial, trivial, trivial⟩ ⟨(Or.inr ⟨wy_pr rfl, fun q => q⟩), trivial⟩ (fun _ _ q => False.elim q) (cp_I (S := S) (a := 210) (n := ((K.length : Int) * 2)) (len := (S 210 (-1))) (wy_pr rfl) wt_210 (rfl) ⟨by omega, by omega, by omega⟩) (fun oq5 Sq5 _ q5 => ?_)
    rcases q5 with ⟨rfl, rfl⟩
    show wJ _ _ _ _ _ _ _ _ _ _
    refine wg_pf (S := S) (len := (S 210 (-1))) 0 162 210 rfl rfl rfl wt_162 wf_3_11 wl_162_11 (by decide +kernel) wt_210 (by decide) (by decide +kernel) hI (fun q => absurd q (by decide)) (by decide) ⟨by omega, by omega⟩ (rfl) (fun _ => ⟨Or.inr (by decide), Or.inl (nN_ge _)⟩) ⟨(Or.inr ⟨wy_pr rfl, mS_no rfl⟩), trivial, trivial, trivial, trivial⟩ trivial (fun Z6 g7 gi8 => ?_)
    have rm9 := rmR_gr hR g7 (by decide +kernel) (len := (S 210 (-1))) (rfl) ⟨by omega, by omega⟩ ⟨fun q => by first | omega | exact absurd q (by decide), by show _ ≤ (100000000 : Int); omega⟩
    refine wa_aload_n (n := 0) rfl ?_
    refine wa_aload_n (n := 0) rfl ?_
    refine wb_gf4 162 rfl (wy_pr rfl) wt_162 wf_3_12 (v := 211) wl_162_12 ?_
    refine wa_aload_n (n := 0) rfl ?_
    refine wb_gfi 162 rfl (wy_pr rfl) wt_162 wf_3_16 (v := (K.length : Int)) (((congrFun (g7.2.2.1 162 (by decide) (by decide) (by decide)) 16).trans (h16))) (fun r10 => ?_)
    refine wa_iconst ?_
    refine wa_imul ?_
    refine wa_cs (M2 := fun _ => False) rfl at_JA_copyOf_3 ⟨_, rfl⟩ rfl rfl ⟨(Or.inr ⟨wy_pr rfl, fun q => q⟩), trivial, trivial, trivial, trivial⟩ ⟨(Or.inr ⟨wy_pr rfl, fun q => q⟩), trivial⟩ (fun _ _ q => False.elim q) (cp_J (S := Z6) (a := 211) (n := ((K.length : Int) * 2)) (len := (S 210 (-1))) (wy_pr rfl) wt_211 (((congrFun (g7.2.2.1 211 (by decide) (by decide) (by decide)) (-1)).trans (hl1))) ⟨by omega, by omega, by omega⟩) (fun oq11 Sq11 _ q11 => ?_)
    rcases q11 with ⟨rfl, rfl⟩
    show wJ _ _ _ _ _ _ _ _ _ _
    refine wg_pf (S := Z6) (len := (S 210 (-1))) 1 162 211 rfl rfl rfl wt_162 wf_3_12 wl_162_12 (by decide +kernel) wt_211 (by decide) (by decide +kernel) gi8 (fun q => absurd q (by decide)) (by decide) ⟨by omega, by omega⟩ (((congrFun (g7.2.2.1 211 (by decide) (by decide) (by decide)) (-1)).trans (hl1))) (fun _ => ⟨Or.inr (by decide), Or.inl (nN_ge _)⟩) ⟨(Or.inr ⟨wy_pr rfl, mS_no rfl⟩), trivial, trivial, trivial, trivial⟩ trivial (fun Z12 g13 gi14 => ?_)
    have rm15 := rmR_gr rm9 g13 (by decide +kernel) (len := (S 210 (-1))) (((congrFun (g7.2.2.1 211 (by decide) (by decide) (by decide)) (-1)).trans (hl1))) ⟨by omega, by omega⟩ ⟨fun q => by first | omega | exact absurd q (by decide), by show _ ≤ (100000000 : Int); omega⟩
    refine wa_aload_n (n := 0) rfl ?_
    refine wa_aload_n (n := 0) rfl ?_
    refine wb_gf4 162 rfl (wy_pr rfl) wt_162 wf_3_13 (v := 212) wl_162_13 ?_
    refine wa_aload_n (n := 0) rfl ?_
    refine wb_gfi 162 rfl (wy_pr rfl) wt_162 wf_3_16 (v := (K.length : Int)) (((congrFun (g13.2.2.1 162 (by decide) (by decide) (by decide)) 16).trans (((congrFun (g7.2.2.1 162 (by decide) (by decide) (by decide)) 16).trans (h16))))) (fun r16 => ?_)
    refine wa_iconst ?_
    refine wa_imul ?_
    refine wa_cs (M2 := fun _ => False) rfl at_JA_copyOf_2 ⟨_, rfl⟩ rfl rfl ⟨(Or.inr ⟨wy_pr rfl, fun q => q⟩), trivial, trivial, trivial, trivial⟩ ⟨(Or.inr ⟨wy_pr rfl, fun q => q⟩), trivial⟩ (fun _ _ q => False.elim q) (cp_I (S := Z12) (a := 212) (n := ((K.length : Int) * 2)) (len := (S 210 (-1))) (wy_pr rfl) wt_212 (((congrFun (g13.2.2.1 212 (by decide) (by decide) (by decide)) (-1)).trans (((congrFun (g7.2.2.1 212 (by decide) (by decide) (by decide)) (-1)).trans (hl2))))) ⟨by omega, by omega, by omega⟩) (fun oq17 Sq17 _ q17 => ?_)
    rcases q17 with ⟨rfl, rfl⟩
    show wJ _ _ _ _ _ _ _ _ _ _
    refine wg_pf (S := Z12) (len := (S 210 (-1))) 0 162 212 rfl rfl rfl wt_162 wf_3_13 wl_162_13 (by decide +kernel) wt_212 (by decide) (by decide +kernel) gi14 (fun q => absurd q (by decide)) (by decide) ⟨by omega, by omega⟩ (((congrFun (g13.2.2.1 212 (by decide) (by decide) (by decide)) (-1)).trans (((congrFun (g7.2.2.1 212 (by decide) (by decide) (by decide)) (-1)).trans (hl2))))) (fun _ => ⟨Or.inr (by decide), Or.inl (nN_ge _)⟩) ⟨(Or.inr ⟨wy_pr rfl, mS_no rfl⟩), trivial, trivial, trivial, trivial⟩ trivial (fun Z18 g19 gi20 => ?_)
    have rm21 := rmR_gr rm15 g19 (by decide +kernel) (len := (S 210 (-1))) (((congrFun (g13.2.2.1 212 (by decide) (by decide) (by decide)) (-1)).trans (((congrFun (g7.2.2.1 212 (by decide) (by decide) (by decide)) (-1)).trans (hl2))))) ⟨by omega, by omega⟩ ⟨fun q => by first | omega | exact absurd q (by decide), by show _ ≤ (100000000 : Int); omega⟩
    refine wa_aload_n (n := 0) rfl ?_
    refine wa_aload_n (n := 0) rfl ?_
    refine wb_gf4 162 rfl (wy_pr rfl) wt_162 wf_3_14 (v := 213) wl_162_14 ?_
    refine wa_aload_n (n := 0) rfl ?_
    refine wb_gfi 162 rfl (wy_pr rfl) wt_162 wf_3_16 (v := (K.length : Int)) (((congrFun (g19.2.2.1 162 (by decide) (by decide) (by decide)) 16).trans (((congrFun (g13.2.2.1 162 (by decide) (by decide) (by decide)) 16).trans (((congrFun (g7.2.2.1 162 (by decide) (by decide) (by decide)) 16).trans (h16))))))) (fun r22 => ?_)
    refine wa_iconst ?_
    refine wa_imul ?_
    refine wa_fall ⟨_, rfl⟩ ?_
    refine wa_cs (M2 := fun _ => False) rfl at_JA_copyOf_2 ⟨_, rfl⟩ rfl rfl ⟨(Or.inr ⟨wy_pr rfl, fun q => q⟩), trivial, trivial, trivial, trivial⟩ ⟨(Or.inr ⟨wy_pr rfl, fun q => q⟩), trivial⟩ (fun _ _ q => False.elim q) (cp_I (S := Z18) (a := 213) (n := ((K.length : Int) * 2)) (len := (S 210 (-1))) (wy_pr rfl) wt_213 (((congrFun (g19.2.2.1 213 (by decide) (by decide) (by decide)) (-1)).trans (((congrFun (g13.2.2.1 213 (by decide) (by decide) (by decide)) (-1)).trans (((congrFun (g7.2.2.1 213 (by decide) (by decide) (by decide)) (-1)).trans (hl3))))))) ⟨by omega, by omega, by omega⟩) (fun oq23 Sq23 _ q23 => ?_)
    rcases q23 with ⟨rfl, rfl⟩
    show wJ _ _ _ _ _ _ _ _ _ _
    refine wg_pf (S := Z18) (len := (S 210 (-1))) 0 162 213 rfl rfl rfl wt_162 wf_3_14 wl_162_14 (by decide +kernel) wt_213 (by decide) (by decide +kernel) gi20 (fun q => absurd q (by decide)) (by decide) ⟨by omega, by omega⟩ (((congrFun (g19.2.2.1 213 (by decide) (by decide) (by decide)) (-1)).trans (((congrFun (g13.2.2.1 213 (by decide) (by decide) (by decide)) (-1)).trans (((congrFun (g7.2.2.1 213 (by decide) (by decide) (by decide)) (-1)).trans (hl3))))))) (fun _ => ⟨Or.inr (by decide), Or.inl (nN_ge _)⟩) ⟨(Or.inr ⟨wy_pr rfl, mS_no rfl⟩), trivial, trivial, trivial, trivial⟩ trivial (fun Z24 g25 gi26 => ?_)
    have rm27 := rmR_gr rm21 g25 (by decide +kernel) (len := (S 210 (-1))) (((congrFun (g19.2.2.1 213 (by decide) (by decide) (by decide)) (-1)).trans (((congrFun (g13.2.2.1 213 (by decide) (by decide) (by decide)) (-1)).trans (((congrFun (g7.2.2.1 213 (by decide) (by decide) (by decide)) (-1)).trans (hl3))))))) ⟨by omega, by omega⟩ ⟨fun q => by first | omega | exact absurd q (by decide), by show _ ≤ (100000000 : Int); omega⟩
    refine wa_fall ⟨_, rfl⟩ ?_
    have zz : ∀ (j : Nat) (i : Int), j < 4000000 → j ≠ wG → (j < 210 ∨ 213 < j) → Z24 j i = S j i := fun j i j0 j1 j2 => (congrFun (g25.2.2.1 j (by omega) j0 j1) i).trans ((congrFun (g19.2.2.1 j (by omega) j0 j1) i).trans ((congrFun (g13.2.2.1 j (by omega) j0 j1) i).trans ((congrFun (g7.2.2.1 j (by omega) j0 j1) i).trans (rfl))))
    have y210 : ∀ i : Int, 0 ≤ i → i < (K.length : Int) → Z24 210 i = S 210 i := by
      intro i i0 i1
      have f0 : Z24 210 i = Z18 210 i := congrFun (g25.2.2.1 210 (by decide) (by decide) (by decide)) i
      have f1 : Z18 210 i = Z12 210 i := congrFun (g19.2.2.1 210 (by decide) (by decide) (by decide)) i
      have f2 : Z12 210 i = Z6 210 i := congrFun (g13.2.2.1 210 (by decide) (by decide) (by decide)) i
      have e3 : S 210 (-1) = S 210 (-1) := rfl
      have f3 : Z6 210 i = S 210 i := g7.2.1 i i0 (by rw [e3]; omega)
      rw [f0, f1, f2, f3]
    have n210 : Z24 210 (-1) = (K.length : Int) * 2 := (((congrFun (g25.2.2.1 210 (by decide) (by decide) (by decide)) (-1)).trans (((congrFun (g19.2.2.1 210 (by decide) (by decide) (by decide)) (-1)).trans (((congrFun (g13.2.2.1 210 (by decide) (by decide) (by decide)) (-1)).trans (g7.1)))))))
    have y211 : ∀ i : Int, 0 ≤ i → i < (K.length : Int) → Z24 211 i = S 211 i := by
      intro i i0 i1
      have f0 : Z24 211 i = Z18 211 i := congrFun (g25.2.2.1 211 (by decide) (by decide) (by decide)) i
      have f1 : Z18 211 i = Z12 211 i := congrFun (g19.2.2.1 211 (by decide) (by decide) (by decide)) i
      have e2 : Z6 211 (-1) = S 211 (-1) := ((congrFun (g7.2.2.1 211 (by decide) (by decide) (by decide)) (-1)))
      have f2 : Z12 211 i = Z6 211 i := g13.2.1 i i0 (by rw [e2]; omega)
      have f3 : Z6 211 i = S 211 i := congrFun (g7.2.2.1 211 (by decide) (by decide) (by decide)) i
      rw [f0, f1, f2, f3]
    have n211 : Z24 211 (-1) = (K.length : Int) * 2 := (((congrFun (g25.2.2.1 211 (by decide) (by decide) (by decide)) (-1)).trans (((congrFun (g19.2.2.1 211 (by decide) (by decide) (by decide)) (-1)).trans (g13.1)))))
    have y212 : ∀ i : Int, 0 ≤ i → i < (K.length : Int) → Z24 212 i = S 212 i := by
      intro i i0 i1
      have f0 : Z24 212 i = Z18 212 i := congrFun (g25.2.2.1 212 (by decide) (by decide) (by decide)) i
      have e1 : Z12 212 (-1) = S 212 (-1) := (((congrFun (g13.2.2.1 212 (by decide) (by decide) (by decide)) (-1))).trans ((congrFun (g7.2.2.1 212 (by decide) (by decide) (by decide)) (-1))))
      have f1 : Z18 212 i = Z12 212 i := g19.2.1 i i0 (by rw [e1]; omega)
      have f2 : Z12 212 i = Z6 212 i := congrFun (g13.2.2.1 212 (by decide) (by decide) (by decide)) i
      have f3 : Z6 212 i = S 212 i := congrFun (g7.2.2.1 212 (by decide) (by decide) (by decide)) i
      rw [f0, f1, f2, f3]
    have n212 : Z24 212 (-1) = (K.length : Int) * 2 := (((congrFun (g25.2.2.1 212 (by decide) (by decide) (by decide)) (-1)).trans (g19.1)))
    have y213 : ∀ i : Int, 0 ≤ i → i < (K.length : Int) → Z24 213 i = S 213 i := by
      intro i i0 i1
      have e0 : Z18 213 (-1) = S 213 (-1) := (((congrFun (g19.2.2.1 213 (by decide) (by decide) (by decide)) (-1))).trans (((congrFun (g13.2.2.1 213 (by decide) (by decide) (by decide)) (-1))).trans ((congrFun (g7.2.2.1 213 (by decide) (by decide) (by decide)) (-1)))))
      have f0 : Z24 213 i = Z18 213 i := g25.2.1 i i0 (by rw [e0]; omega)
      have f1 : Z18 213 i = Z12 213 i := congrFun (g19.2.2.1 213 (by decide) (by decide) (by decide)) i
      have f2 : Z12 213 i = Z6 213 i := congrFun (g13.2.2.1 213 (by decide) (by decide) (by decide)) i
      have f3 : Z6 213 i = S 213 i := congrFun (g7.2.2.1 213 (by decide) (by decide) (by decide)) i
      rw [f0, f1, f2, f3]
    have n213 : Z24 213 (-1) = (K.length : Int) * 2 := (g25.1)
    have hkp2 : kpR 162 210 K Z24 := by
      refine ⟨(zz 162 16 (by decide) (by decide) (by decide)).trans h16, fun i i0 i1 => ?_, fun x x0 x1 => (zz 214 x (by decide) (by decide) (by decide)).trans (hkp.2.2.1 x x0 x1), ⟨n211.trans n210.symm, n212.trans n210.symm, n213.trans n210.symm, (zz 214 (-1) (by decide) (by decide) (by decide)).trans hl4⟩, ?_⟩
      · obtain ⟨q1, q2, q3, q4⟩ := hkp.2.1 i i0 i1
        exact ⟨(y210 i i0 i1).trans q1, (y211 i i0 i1).trans q2, (y212 i i0 i1).trans q3, (y213 i i0 i1).trans q4⟩
      · rw [n210]; omega
    refine wJ_mono (ke2_162 (S := Z24) hkp2 gi26 ha he hv (by rw [n210]; omega) hl2k) (fun o Z hz => ⟨hz.1, hz.2.1, fun j i j0 j1 j2 j3 => (hz.2.2.1 j i j0 j1 j2 j3).trans (zz j i j0 j1 (by omega)), hz.2.2.2.1, rmR_tr rm27 hz.2.2.2.2⟩)
end Wh6
