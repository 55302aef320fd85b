/-! PART 95: what a class's reading hangs on; the classes of a host's text as lists. -/
section W95
variable {xs : List (Nat × List Int32)} {M : Nat → Prop} {d : Nat} {S A B Z : wS} {Q : wO → wS → Prop} {p : Int} {b : Nat}
theorem row_up {j k : Nat} {i x : Int} (h : A k = B k) : w_up A j i x k = w_up B j i x k := by
  funext n
  show (if k = j ∧ n = i then x else A k n) = (if k = j ∧ n = i then x else B k n)
  rw [h]
theorem pt_up {j k : Nat} {i n x : Int} (h : A k n = B k n) : w_up A j i x k n = w_up B j i x k n := by
  show (if k = j ∧ n = i then x else A k n) = (if k = j ∧ n = i then x else B k n)
  rw [h]
/-- the same text, names, classes and interfaces -/
def zF (A B : wS) (b : Nat) : Prop := zE A B b ∧ A (b + 2) = B (b + 2) ∧ A (b + 3) = B (b + 3) ∧ A (b + 6) = B (b + 6)
theorem zF_up {j : Nat} {i x : Int} (h : zF A B b) : zF (w_up A j i x) (w_up B j i x) b :=
  ⟨⟨row_up h.1.1, pt_up h.1.2.1, pt_up h.1.2.2.1, pt_up h.1.2.2.2.1, row_up h.1.2.2.2.2.1, row_up h.1.2.2.2.2.2⟩, row_up h.2.1, row_up h.2.2.1, row_up h.2.2.2⟩
theorem zF_no {j : Nat} {i x y : Int} (hb : b = 241 ∨ b = 261) (hj : j = b + 7 ∨ j = b + 8 ∨ j = b + 4) (h : zF A B b) : zF (w_up A j i x) (w_up B j i y) b := by
  obtain ⟨⟨a1, a2, a3, a4, a5, a6⟩, a7, a8, a9⟩ := h
  refine ⟨⟨?_, ?_, ?_, ?_, ?_, ?_⟩, ?_, ?_, ?_⟩
  · rw [w_up_row (by omega), w_up_row (by omega)]; exact a1
  · rw [w_up_slot (by omega), w_up_slot (by omega)]; exact a2
  · rw [w_up_slot (by omega), w_up_slot (by omega)]; exact a3
  · rw [w_up_slot (by omega), w_up_slot (by omega)]; exact a4
  · rw [w_up_row (by omega), w_up_row (by omega)]; exact a5
  · rw [w_up_row (by omega), w_up_row (by omega)]; exact a6
  · rw [w_up_row (by omega), w_up_row (by omega)]; exact a7
  · rw [w_up_row (by omega), w_up_row (by omega)]; exact a8
  · rw [w_up_row (by omega), w_up_row (by omega)]; exact a9
theorem su_1_F {c p a : Int} {l : List Int} (h : zF A B b) (hb : b ≠ 237 ∧ b + 9 ≠ 237 ∧ b + 10 ≠ 237) : su_1 A b c p a l = su_1 B b c p a l := by
  unfold su_1 tw_l
  rw [zE_6 h.1, zE_ch h.1 hb, h.2.1]
theorem su_f_F {c : Int} (h : zF A B b) (hb : b ≠ 237 ∧ b + 9 ≠ 237 ∧ b + 10 ≠ 237) : ∀ (f : Nat) (p : Int) (l : List Int) (a al : Int), su_f A b c f p l a al = su_f B b c f p l a al := by
  intro f
  induction f with
  | zero => intros; rfl
  | succ f ih =>
    intro p l a al
    rw [su_f_s, su_f_s]
    simp only [zE_is h.1, zE_ne h.1, su_1_F h hb, h.2.1, h.2.2.2, ih]
theorem su_a_F {c p : Int} (h : zF A B b) (hb : b ≠ 237 ∧ b + 9 ≠ 237 ∧ b + 10 ≠ 237) : su_a A b c p = su_a B b c p := by
  unfold su_a
  simp only [zE_ne h.1, su_1_F h hb, h.2.1, h.2.2.1, h.2.2.2, h.1.2.1, su_f_F h hb]
theorem rc_body_F {c itf p1 : Int} {ms : List hMR} {A2 B2 : wS} (h : zE A B b) (h2 : zF A2 B2 b) (hb : b ≠ 237 ∧ b + 9 ≠ 237 ∧ b + 10 ≠ 237) : rc_body A A2 b c ms itf p1 = rc_body B B2 b c ms itf p1 := by
  unfold rc_body
  simp only [zE_is h, zE_ne h, zE_8 h, h.2.1, su_a_F h2 hb, zE_mb (zF_up h2).1 hb]
theorem su_1_ok {c p a s : Int} {l : List Int} (hb : b = 241 ∨ b = 261) (hn : B b 1 ≤ 60) (h : su_1 B b c p a l = .inr s) : (0 ≤ s ∧ s < B b 1) ∧ s ∉ l := by
  unfold su_1 at h
  by_cases h1 : zq B p 237 6 = 1
  · rw [if_pos h1] at h
    by_cases h2 : 0 ≤ ch_of (zq B p) b
    · rw [if_pos h2] at h
      by_cases h3 : tw_l B b c (ch_of (zq B p) b) a l = true
      · rw [if_pos h3] at h; cases h
      · rw [if_neg h3] at h
        have h4 := Sum.inr.inj h
        have e1 : zq B p b 1 = B b 1 := congrFun (zq_o (by omega)) 1
        have h5 := ch_of_rg (zq B p) b (by rw [e1]; exact hn)
        rw [e1] at h5
        rw [h4] at h5 h2 h3
        refine ⟨⟨h2, by omega⟩, fun hm => h3 ?_⟩
        unfold tw_l
        rw [decide_eq_true hm, Bool.or_true]
    · rw [if_neg h2] at h; cases h
  · rw [if_neg h1] at h; cases h
theorem su_f_nd {c q a2 al2 : Int} {l2 : List Int} (hb : b = 241 ∨ b = 261) (hn : B b 1 ≤ 60) (hc : B b 1 = c) : ∀ (f : Nat) (p : Int) (l : List Int) (a al : Int), su_nd c l → su_f B b c f p l a al = .inr (q, l2, a2, al2) → su_nd c l2 := by
  intro f
  induction f with
  | zero => intro p l a al _ h; cases h
  | succ f ih =>
    intro p l a al hl h
    rw [su_f_s] at h
    by_cases h1 : lx_is (zq B p) 44 = true
    · rw [if_pos h1] at h
      cases h2 : su_1 B b c (lx_ne (zq B p) p) a l with
      | inl e => rw [h2] at h; cases h
      | inr s =>
        rw [h2] at h
        dsimp only at h
        have h3 := su_1_ok hb hn h2
        exact ih _ _ _ _ (su_nd_add hl (by omega) h3.2) h
    · rw [if_neg h1] at h
      have h4 := Sum.inr.inj h
      have h5 : l = l2 := congrArg (fun t => t.2.1) h4
      exact h5 ▸ hl
theorem su_a_nd {c p q a2 al2 : Int} {l2 : List Int} (hb : b = 241 ∨ b = 261) (hn : B b 1 ≤ 60) (hc : B b 1 = c) (h : su_a B b c p = .inr (q, l2, a2, al2)) : su_nd c l2 := by
  unfold su_a at h
  cases h2 : su_1 B b c p (B (b + 3) c) [] with
  | inl e => rw [h2] at h; cases h
  | inr s =>
    rw [h2] at h
    dsimp only at h
    have h3 := su_1_ok hb hn h2
    exact su_f_nd hb hn hc _ _ _ _ _ (su_nd_add ⟨List.nodup_nil, fun x hx => absurd hx List.not_mem_nil⟩ (by omega) h3.2) h
/-- a class's row is a possible one; n: the text's length -/
def hq_ok (n : Int) (r : hCR) : Prop := (0 ≤ r.2.1 ∧ r.2.1 ≤ r.2.2.1 ∧ r.2.2.1 ≤ n) ∧ r.2.2.2.2.1.length ≤ 60
/-- all classes' rows -/
def hc_all (b : Nat) (Z : wS) (cs : List hCR) : Prop := ∀ (k : Nat) (r : hCR), cs[k]? = some r → hc_at b (k : Int) Z r
def hq_0 : hCR := (0, 0, 0, 0, [], 0, 0, 0)
/-- the state A, but the classes are those of the list -/
def hq_cn (A : wS) (b : Nat) (cs : List hCR) : wS := fun j i => if j = b ∧ i = 1 then (cs.length : Int) else if 0 ≤ i ∧ i < (cs.length : Int) then (if j = b + 2 then (cs.getD i.toNat hq_0).1 else if j = b + 3 then (cs.getD i.toNat hq_0).2.2.2.1 else if j = b + 6 then (cs.getD i.toNat hq_0).2.2.2.2.2.1 else if j = b + 9 then (cs.getD i.toNat hq_0).2.1 else if j = b + 10 then (cs.getD i.toNat hq_0).2.2.1 else A j i) else A j i
theorem hq_row {cs : List hCR} {Z : wS} {j : Nat} {g : hCR → Int} (hj : j ≠ b) (hg : ∀ i : Int, 0 ≤ i → i < (cs.length : Int) → hq_cn A b cs j i = g (cs.getD i.toNat hq_0)) (hz : ∀ (k : Nat) (r : hCR), cs[k]? = some r → Z j (k : Int) = g r) (ho : ∀ i : Int, i < 0 ∨ (cs.length : Int) ≤ i → Z j i = A j i) : Z j = hq_cn A b cs j := by
  funext i
  by_cases h : 0 ≤ i ∧ i < (cs.length : Int)
  · rw [hg i h.1 h.2]
    have h1 : i.toNat < cs.length := by omega
    have h2 := hz i.toNat _ (List.getElem?_eq_getElem h1)
    rw [show ((i.toNat : Nat) : Int) = i by omega] at h2
    rw [h2, List.getD_eq_getElem?_getD, List.getElem?_eq_getElem h1]
    rfl
  · rw [ho i (by omega)]
    unfold hq_cn
    rw [if_neg (fun q => hj q.1), if_neg h]
theorem hq_zF {cs : List hCR} {Z : wS} (hb : b = 241 ∨ b = 261) (hT : Z 239 = A 239) (h4 : Z 237 4 = A 237 4) (h5 : Z 237 5 = A 237 5) (h1 : Z b 1 = (cs.length : Int)) (hc : hc_all b Z cs) (ho : ∀ (j : Nat) (i : Int), b + 2 ≤ j → j ≤ b + 10 → j ≠ b + 5 → i < 0 ∨ (cs.length : Int) ≤ i → Z j i = A j i) : zF Z (hq_cn A b cs) b := by
  have e : ∀ (j : Nat) (i : Int), 0 ≤ i → i < (cs.length : Int) → j ≠ b → hq_cn A b cs j i = (if j = b + 2 then (cs.getD i.toNat hq_0).1 else if j = b + 3 then (cs.getD i.toNat hq_0).2.2.2.1 else if j = b + 6 then (cs.getD i.toNat hq_0).2.2.2.2.2.1 else if j = b + 9 then (cs.getD i.toNat hq_0).2.1 else if j = b + 10 then (cs.getD i.toNat hq_0).2.2.1 else A j i) := fun j i i0 i1 hj => (if_neg (fun q => hj q.1)).trans (if_pos ⟨i0, i1⟩)
  have n : ∀ (j : Nat) (i : Int), j < b ∨ b + 10 < j → hq_cn A b cs j i = A j i := fun j i hj => by
    unfold hq_cn
    rw [if_neg (by omega)]
    split
    · rw [if_neg (by omega), if_neg (by omega), if_neg (by omega), if_neg (by omega), if_neg (by omega)]
    · rfl
  refine ⟨⟨?_, ?_, ?_, ?_, ?_, ?_⟩, ?_, ?_, ?_⟩
  · rw [hT]; funext i; exact (n 239 i (by omega)).symm
  · rw [h4]; exact (n 237 4 (by omega)).symm
  · rw [h5]; exact (n 237 5 (by omega)).symm
  · rw [h1]; exact (if_pos ⟨rfl, rfl⟩).symm
  · exact hq_row (g := fun r => r.2.1) (by omega) (fun i i0 i1 => by rw [e _ i i0 i1 (by omega), if_neg (by omega), if_neg (by omega), if_neg (by omega), if_pos rfl]) (fun k r h => (hc k r h).2.1) (fun i h => ho _ i (by omega) (by omega) (by omega) h)
  · exact hq_row (g := fun r => r.2.2.1) (by omega) (fun i i0 i1 => by rw [e _ i i0 i1 (by omega), if_neg (by omega), if_neg (by omega), if_neg (by omega), if_neg (by omega), if_pos rfl]) (fun k r h => (hc k r h).2.2.1) (fun i h => ho _ i (by omega) (by omega) (by omega) h)
  · exact hq_row (g := fun r => r.1) (by omega) (fun i i0 i1 => by rw [e _ i i0 i1 (by omega), if_pos rfl]) (fun k r h => (hc k r h).1) (fun i h => ho _ i (by omega) (by omega) (by omega) h)
  · exact hq_row (g := fun r => r.2.2.2.1) (by omega) (fun i i0 i1 => by rw [e _ i i0 i1 (by omega), if_neg (by omega), if_pos rfl]) (fun k r h => (hc k r h).2.2.2.1.2.1) (fun i h => ho _ i (by omega) (by omega) (by omega) h)
  · exact hq_row (g := fun r => r.2.2.2.2.2.1) (by omega) (fun i i0 i1 => by rw [e _ i i0 i1 (by omega), if_neg (by omega), if_neg (by omega), if_pos rfl]) (fun k r h => (hc k r h).2.2.2.1.2.2.1) (fun i h => ho _ i (by omega) (by omega) (by omega) h)
theorem rc_n_F_241 {c itf p1 : Int} {ms : List hMR} (h : zF A B 241) : rc_n_241 A c ms itf p1 = rc_n_241 B c ms itf p1 := by
  unfold rc_n_241
  rw [zE_6 h.1, zE_ch h.1 (by decide), zE_oo h.1, zE_8 h.1, rc_body_F (b := 241) h.1 (zF_up (j := 249) (zF_no (j := 248) (Or.inl rfl) (Or.inl rfl) (zF_up (zF_up (zF_up (zF_up (zF_up (zF_up h)))))))) (by decide)]
theorem rc_of_F_241 {c p : Int} {ms : List hMR} (h : zF A B 241) : rc_of_241 A c ms p = rc_of_241 B c ms p := by
  unfold rc_of_241
  rw [zE_w h.1, zE_w h.1, zE_ne h.1, rc_n_F_241 h, rc_n_F_241 h]
theorem rc_n_ok_241 {c itf p1 p2 : Int} {ms ms2 : List hMR} {cr : hCR} (hcc : 0 ≤ c) (hAc : A 241 1 = c) (hp : 0 ≤ p1 ∧ p1 ≤ A 237 4) (h : rc_n_241 A c ms itf p1 = .inr (p2, cr, ms2)) : hq_ok (A 237 4) cr ∧ c < 60 := by
  unfold rc_n_241 at h
  by_cases h1 : zq A p1 237 6 = 1
  · rw [if_pos h1] at h
    by_cases h2 : ch_of (zq A p1) 241 < 0 ∧ lx_oo (zq A p1) tx_21 = false
    · rw [if_pos h2] at h
      by_cases h3 : c < 60
      · rw [if_pos h3] at h
        have hbe := lx_en_le (T := A 239) (h := A 237 5) hp.2
        have hb8 : zq A p1 237 8 ≤ A 237 4 := hbe.2.1 (by rw [← zq_6, h1]; decide)
        have hb9 : p1 ≤ zq A p1 237 8 := hbe.1
        unfold rc_body at h
        split at h
        · cases h
        · rename_i q l a al he
          by_cases h4 : lx_is (zq A q) 123 = true
          · rw [if_pos h4] at h
            split at h
            · cases h
            · rename_i z ms3 he3
              have h5 := Sum.inr.inj h
              have h6 : cr = (itf, p1, zq A p1 237 8, a, l, al, (ms.length : Int), (ms3.length : Int) - (ms.length : Int)) := (congrArg (fun t => t.2.1) h5).symm
              rw [h6]
              refine ⟨⟨⟨hp.1, hb9, hb8⟩, ?_⟩, h3⟩
              show l.length ≤ 60
              by_cases h7 : lx_is (zq A (lx_ne (zq A p1) p1)) 58 = true
              · rw [if_pos h7] at he
                have h8 := su_nd_len hcc (su_a_nd (Or.inl rfl) (by show A 241 1 ≤ 60; omega) (by exact hAc) he)
                omega
              · rw [if_neg h7] at he
                have h8 := Sum.inr.inj he
                have h9 : [] = l := congrArg (fun t => t.2.1) h8
                rw [← h9]
                decide
          · rw [if_neg h4] at h; cases h
      · rw [if_neg h3] at h; cases h
    · rw [if_neg h2] at h; cases h
  · rw [if_neg h1] at h; cases h
theorem rc_of_ok_241 {c p p2 : Int} {ms ms2 : List hMR} {cr : hCR} (hcc : 0 ≤ c) (hAc : A 241 1 = c) (hE : lx_E A A p) (h : rc_of_241 A c ms p = .inr (p2, cr, ms2)) : hq_ok (A 237 4) cr ∧ c < 60 := by
  unfold rc_of_241 at h
  have hp := hE.1.2.2.1
  by_cases h1 : lx_w (zq A p) tx_19 = true
  · rw [if_pos h1] at h
    have h6 := lx_w1 h1
    have := lx_E_gt hE (by omega) (by omega)
    exact rc_n_ok_241 hcc hAc (by omega) h
  · rw [if_neg h1] at h
    by_cases h2 : lx_w (zq A p) tx_17 = true
    · rw [if_pos h2] at h
      have h6 := lx_w1 h2
      have := lx_E_gt hE (by omega) (by omega)
      exact rc_n_ok_241 hcc hAc (by omega) h
    · rw [if_neg h2] at h; cases h
/-- the classes of a text from p on, where those of cs and the members ms were read -/
def ho_f_241 (A : wS) : Nat → List hCR → List hMR → Int → (Int × Int) ⊕ (List hCR × List hMR)
  | 0, _, _, p => .inl (0, p)
  | f + 1, cs, ms, p => if zq A p 237 6 = 0 then .inr (cs, ms) else (match rc_of_241 (hq_cn A 241 cs) (cs.length : Int) ms p with
    | .inl e => .inl e
    | .inr (p2, cr, ms2) => ho_f_241 A f (cs ++ [cr]) ms2 p2)
theorem ho_f_s_241 (A : wS) (f : Nat) (cs : List hCR) (ms : List hMR) (p : Int) : ho_f_241 A (f + 1) cs ms p = if zq A p 237 6 = 0 then .inr (cs, ms) else (match rc_of_241 (hq_cn A 241 cs) (cs.length : Int) ms p with
    | .inl e => .inl e
    | .inr (p2, cr, ms2) => ho_f_241 A f (cs ++ [cr]) ms2 p2) := rfl
theorem rc_n_F_261 {c itf p1 : Int} {ms : List hMR} (h : zF A B 261) : rc_n_261 A c ms itf p1 = rc_n_261 B c ms itf p1 := by
  unfold rc_n_261
  rw [zE_6 h.1, zE_ch h.1 (by decide), zE_oo h.1, zE_8 h.1, rc_body_F (b := 261) h.1 (zF_up (j := 269) (zF_no (j := 268) (Or.inr rfl) (Or.inl rfl) (zF_up (zF_up (zF_up (zF_up (zF_up (zF_up h)))))))) (by decide)]
theorem rc_of_F_261 {c p : Int} {ms : List hMR} (h : zF A B 261) : rc_of_261 A c ms p = rc_of_261 B c ms p := by
  unfold rc_of_261
  rw [zE_w h.1, zE_w h.1, zE_ne h.1, rc_n_F_261 h, rc_n_F_261 h]
theorem rc_n_ok_261 {c itf p1 p2 : Int} {ms ms2 : List hMR} {cr : hCR} (hcc : 0 ≤ c) (hAc : A 261 1 = c) (hp : 0 ≤ p1 ∧ p1 ≤ A 237 4) (h : rc_n_261 A c ms itf p1 = .inr (p2, cr, ms2)) : hq_ok (A 237 4) cr ∧ c < 60 := by
  unfold rc_n_261 at h
  by_cases h1 : zq A p1 237 6 = 1
  · rw [if_pos h1] at h
    by_cases h2 : ch_of (zq A p1) 261 < 0 ∧ lx_oo (zq A p1) tx_21 = false
    · rw [if_pos h2] at h
      by_cases h3 : c < 60
      · rw [if_pos h3] at h
        have hbe := lx_en_le (T := A 239) (h := A 237 5) hp.2
        have hb8 : zq A p1 237 8 ≤ A 237 4 := hbe.2.1 (by rw [← zq_6, h1]; decide)
        have hb9 : p1 ≤ zq A p1 237 8 := hbe.1
        unfold rc_body at h
        split at h
        · cases h
        · rename_i q l a al he
          by_cases h4 : lx_is (zq A q) 123 = true
          · rw [if_pos h4] at h
            split at h
            · cases h
            · rename_i z ms3 he3
              have h5 := Sum.inr.inj h
              have h6 : cr = (itf, p1, zq A p1 237 8, a, l, al, (ms.length : Int), (ms3.length : Int) - (ms.length : Int)) := (congrArg (fun t => t.2.1) h5).symm
              rw [h6]
              refine ⟨⟨⟨hp.1, hb9, hb8⟩, ?_⟩, h3⟩
              show l.length ≤ 60
              by_cases h7 : lx_is (zq A (lx_ne (zq A p1) p1)) 58 = true
              · rw [if_pos h7] at he
                have h8 := su_nd_len hcc (su_a_nd (Or.inr rfl) (by show A 261 1 ≤ 60; omega) (by exact hAc) he)
                omega
              · rw [if_neg h7] at he
                have h8 := Sum.inr.inj he
                have h9 : [] = l := congrArg (fun t => t.2.1) h8
                rw [← h9]
                decide
          · rw [if_neg h4] at h; cases h
      · rw [if_neg h3] at h; cases h
    · rw [if_neg h2] at h; cases h
  · rw [if_neg h1] at h; cases h
theorem rc_of_ok_261 {c p p2 : Int} {ms ms2 : List hMR} {cr : hCR} (hcc : 0 ≤ c) (hAc : A 261 1 = c) (hE : lx_E A A p) (h : rc_of_261 A c ms p = .inr (p2, cr, ms2)) : hq_ok (A 237 4) cr ∧ c < 60 := by
  unfold rc_of_261 at h
  have hp := hE.1.2.2.1
  by_cases h1 : lx_w (zq A p) tx_19 = true
  · rw [if_pos h1] at h
    have h6 := lx_w1 h1
    have := lx_E_gt hE (by omega) (by omega)
    exact rc_n_ok_261 hcc hAc (by omega) h
  · rw [if_neg h1] at h
    by_cases h2 : lx_w (zq A p) tx_17 = true
    · rw [if_pos h2] at h
      have h6 := lx_w1 h2
      have := lx_E_gt hE (by omega) (by omega)
      exact rc_n_ok_261 hcc hAc (by omega) h
    · rw [if_neg h2] at h; cases h
/-- the classes of a text from p on, where those of cs and the members ms were read -/
def ho_f_261 (A : wS) : Nat → List hCR → List hMR → Int → (Int × Int) ⊕ (List hCR × List hMR)
  | 0, _, _, p => .inl (0, p)
  | f + 1, cs, ms, p => if zq A p 237 6 = 0 then .inr (cs, ms) else (match rc_of_261 (hq_cn A 261 cs) (cs.length : Int) ms p with
    | .inl e => .inl e
    | .inr (p2, cr, ms2) => ho_f_261 A f (cs ++ [cr]) ms2 p2)
theorem ho_f_s_261 (A : wS) (f : Nat) (cs : List hCR) (ms : List hMR) (p : Int) : ho_f_261 A (f + 1) cs ms p = if zq A p 237 6 = 0 then .inr (cs, ms) else (match rc_of_261 (hq_cn A 261 cs) (cs.length : Int) ms p with
    | .inl e => .inl e
    | .inr (p2, cr, ms2) => ho_f_261 A f (cs ++ [cr]) ms2 p2) := rfl
end W95
