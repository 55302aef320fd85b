/-! PART nv: the field that a method gives or sets; its word. -/
section Wnv
variable {S : wS} {m0 t0 w o6 oo ob p : Nat} {T : Int → Int} {cs : List hCR} {ms : List hMR} {os : Int → List Int} {m nd hd x : Int} {NN pre : List Int}
/-- begins with -/
def bgL (pre NN : List Int) : Prop := pre.length ≤ NN.length ∧ ∀ i : Nat, i < pre.length → NN.getD i 0 = pre.getD i 0
/-- there is a capital at k -/
def cpL (k : Nat) (NN : List Int) : Prop := k < NN.length ∧ 65 ≤ NN.getD k 0 ∧ NN.getD k 0 ≤ 90
theorem px_iff : pxB pre NN = true ↔ bgL pre NN ∧ cpL pre.length NN := by
  unfold pxB bgL cpL
  rw [decide_eq_true_iff]
  exact ⟨fun h => ⟨⟨by omega, h.2.1⟩, h.1, h.2.2⟩, fun h => ⟨h.2.1, h.1.2, h.2.2⟩⟩
/-- the word wd of the pool is this name -/
def wdNm (w : Nat) (S : wS) (wd : Int) (NN : List Int) : Prop := S (w + 3) wd = (NN.length : Int) ∧ ∀ i : Nat, i < NN.length → S (w + 1) (S (w + 2) wd + (i : Int)) = NN.getD i 0
theorem wdNm_of (hI : wd_at S w 64) (hK : KC t0 m0 o6 oo ob w p T cs ms os S) (hm : 0 ≤ m ∧ m < (ms.length : Int)) (h1 : (hmR ms m).2.1 ≠ 2) : wdNm w S (S (m0 + 14) m) (nmR T (hmR ms m)) ∧ (0 ≤ S (m0 + 14) m ∧ S (m0 + 14) m < S w 7) ∧ (nmR T (hmR ms m)).length ≤ 60 ∧ (hmR ms m).2.2.2.2.2.2.1 ≤ (hmR ms m).2.2.2.2.2.2.2 := by
  obtain ⟨a1, a2⟩ := (KC_m hK hm.1 hm.2).2.2.2.2 h1
  have z := hI.2.2.1 (S (m0 + 14) m) (by omega) a1.2
  rw [a2.1] at z
  have hl : ((nmR T (hmR ms m)).length : Int) = (hmR ms m).2.2.2.2.2.2.2 - (hmR ms m).2.2.2.2.2.2.1 := nmR_l (by omega)
  refine ⟨⟨a2.1.trans hl.symm, fun i hi => ?_⟩, ⟨by omega, a1.2⟩, by omega, by omega⟩
  rw [nmR_s hi]
  exact a2.2 i (by omega)
theorem bg_e {tx : List Int32} {wd : Int} (h : wdNm w S wd NN) (hl : tx.length = pre.length) (ht : ∀ i : Nat, i < pre.length → w_tx tx i = pre.getD i 0) : bg_q (S (w + 1)) (S (w + 2)) (S (w + 3)) wd tx ↔ bgL pre NN := by
  unfold bg_q bgL
  rw [hl, h.1]
  constructor
  · rintro ⟨a, b⟩
    exact ⟨by omega, fun i hi => by rw [← h.2 i (by omega), b i hi, ht i hi]⟩
  · rintro ⟨a, b⟩
    exact ⟨by omega, fun i hi => by rw [h.2 i (by omega), b i hi, ht i hi]⟩
theorem bg_no {a b : List Int} (h1 : bgL a NN) (h2 : bgL b NN) (ha : 0 < a.length) (hb : 0 < b.length) : a.getD 0 0 = b.getD 0 0 := (h1.2 0 ha).symm.trans (h2.2 0 hb)
theorem fo_2_e (hI : wd_at S w 64) (hK : KC t0 m0 o6 oo ob w p T cs ms os S) (hw : wHo cs ms os) (hm : 0 ≤ m ∧ m < (ms.length : Int)) {WW : List Int} {sb : Bool} (hnd : hwW w WW S nd) (hs : (sb = true ∧ (hmR ms m).2.2.2.2.1.length = 1) ∨ (sb = false ∧ (hmR ms m).2.2.2.2.1.length = 0)) : fo_2 S m0 t0 m nd = ftF ms sb m (fdA T cs ms (-1) WW (hmR ms m).1) := by
  have hr := KC_m hK hm.1 hm.2
  have hc := (hw.2.2.2 m hm.1 hm.2).1.1
  have wm : wdM m0 T ms S 0 nd WW := wdM_w hI hK hnd (by first | decide | omega)
  have chr := ch_rg hw ((hmR ms m).1.toNat + 1) (hmR ms m).1 (by omega) hc.2
  have e := nf_f_e (st := -1) hK hw wm ((hmR ms m).1.toNat + 1) (hmR ms m).1 (by omega) hc.2 (by omega)
  replace e : nf_f (S (m0 + 1)) (S (m0 + 14)) (S (m0 + 2)) (S (t0 + 4)) (S (t0 + 3)) (S (t0 + 1)) nd (-1) ((hmR ms m).1.toNat + 2) (hmR ms m).1 = fdA T cs ms (-1) WW (hmR ms m).1 := e
  have e1 : S m0 m = (hmR ms m).1 := hr.1.1
  have rg : fdA T cs ms (-1) WW (hmR ms m).1 = -1 ∨ (0 ≤ fdA T cs ms (-1) WW (hmR ms m).1 ∧ fdA T cs ms (-1) WW (hmR ms m).1 < (ms.length : Int)) := by
    rcases fsA_rg (ok := okF T ms (-1) WW) (mOr cs (ch_l (Ab cs) ((hmR ms m).1.toNat + 1) (hmR ms m).1)) with z | z
    · exact Or.inl z
    · exact Or.inr (mOr_rg hw chr z.1)
  unfold fo_2
  rw [e1, e]
  by_cases c : nd = -1
  · have z : fdA T cs ms (-1) WW (hmR ms m).1 = -1 := fF_no hK (by rw [← c]; exact wm) (fun y hy => mOr_rg hw chr hy)
    rw [if_pos c, z]
    exact (if_neg (fun y => absurd y.1 (by first | decide | omega))).symm
  · rw [if_neg c]
    rcases rg with z | z
    · rw [z, if_pos rfl]
      exact (if_neg (fun y => absurd y.1 (by first | decide | omega))).symm
    · rw [if_neg (by omega)]
      have hf := KC_m hK z.1 z.2
      have e6 : (if S (m0 + 4) m = 0 then S (m0 + 3) m else S (m0 + 6) m) = (if sb = true then (hmR ms m).2.2.2.2.1.getD 0 0 else (hmR ms m).2.2.2.1) := by
        rcases hs with ⟨s1, s2⟩ | ⟨s1, s2⟩
        · rw [if_pos s1, if_neg (show ¬ S (m0 + 4) m = 0 by rw [hr.2.1.1, s2]; decide)]
          exact hr.2.1.2.2.2 0 (by omega)
        · rw [if_neg (show ¬ sb = true by rw [s1]; decide), if_pos (show S (m0 + 4) m = 0 by rw [hr.2.1.1, s2]; rfl)]
          exact hr.1.2.2.2
      rw [hf.1.2.2.1, hf.1.2.2.2, hr.1.2.2.1, e6]
      unfold ftF
      by_cases c2 : (hmR ms (fdA T cs ms (-1) WW (hmR ms m).1)).2.2.1 = (hmR ms m).2.2.1 ∧ (hmR ms (fdA T cs ms (-1) WW (hmR ms m).1)).2.2.2.1 = (if sb = true then (hmR ms m).2.2.2.2.1.getD 0 0 else (hmR ms m).2.2.2.1)
      · rw [if_pos c2, if_pos ⟨z.1, c2⟩]
      · rw [if_neg c2, if_neg (fun y => c2 y.2)]
/-- fieldOf behind its prefix -/
theorem fo_r_e (hI : wd_at S w 64) (hK : KC t0 m0 o6 oo ob w p T cs ms os S) (hw : wHo cs ms os) (hm : 0 ≤ m ∧ m < (ms.length : Int)) (h1 : (hmR ms m).2.1 = 1) {sk : Nat} {sb : Bool} (hsk : 0 < sk) (hs : (sb = true ∧ (hmR ms m).2.2.2.2.1.length = 1) ∨ (sb = false ∧ (hmR ms m).2.2.2.2.1.length = 0)) (h : fo_r S m0 t0 w m (sk : Int) x) : (cpL sk (nmR T (hmR ms m)) → x = ftF ms sb m (fdA T cs ms (-1) (wtN (nmR T (hmR ms m)) sk) (hmR ms m).1)) ∧ (¬ cpL sk (nmR T (hmR ms m)) → x = -1) := by
  obtain ⟨wn, wr, wl, -⟩ := wdNm_of hI hK hm (by omega)
  generalize nmR T (hmR ms m) = NN at *
  have cp : ((sk : Int) = 0 ∨ S (w + 3) (S (m0 + 14) m) - (sk : Int) < 1 ∨ ¬ (65 ≤ S (w + 1) (S (w + 2) (S (m0 + 14) m) + (sk : Int)) ∧ S (w + 1) (S (w + 2) (S (m0 + 14) m) + (sk : Int)) ≤ 90)) ↔ ¬ cpL sk NN := by
    rw [wn.1]
    unfold cpL
    by_cases c : sk < NN.length
    · rw [wn.2 sk c]
      omega
    · omega
  rcases h with ⟨h, e⟩ | ⟨h, nd, h2, e⟩
  · exact ⟨fun c => absurd c (cp.mp h), fun _ => e⟩
  · refine ⟨fun c => ?_, fun c => absurd (cp.mpr c) h⟩
    have hl := wtN_len (NN := NN) (sk := sk) c.1
    have tx : ∀ k : Int, wq (S (w + 1)) (S (w + 2)) (S (w + 3)) (fo_g (S (w + 1)) (S (w + 2) (S (m0 + 14) m) + (sk : Int))) 0 (S (w + 3) (S (m0 + 14) m) - (sk : Int)) k ↔ wq (S (w + 1)) (S (w + 2)) (S (w + 3)) (fun i => (wtN NN sk).getD i.toNat 0) 0 ((wtN NN sk).length : Int) k := fun k => by
      refine wq_tx (by rw [wn.1, hl]; have := c.1; omega) (fun i hi => ?_)
      unfold fo_g
      by_cases c0 : i = 0
      · rw [c0, if_pos (show ((0 : Nat) : Int) = 0 from rfl), wtN_0, wn.2 sk c.1]
      · rw [if_neg (by omega), wtN_s (by omega), ← wn.2 (sk + i) (by omega)]
        congr 1
        omega
    have hnd : hwW w (wtN NN sk) S nd := by
      rcases h2 with ⟨a, b, d⟩ | ⟨a, b⟩
      · exact Or.inl ⟨a, b, (tx nd).mp d⟩
      · exact Or.inr ⟨a, fun k k0 k1 z => b k k0 k1 ((tx k).mpr z)⟩
    rw [e]
    exact fo_2_e hI hK hw hm hnd hs
theorem ff_e (hI : wd_at S w 64) (hK : KC t0 m0 o6 oo ob w p T cs ms os S) (hw : wHo cs ms os) (hm : 0 ≤ m ∧ m < (ms.length : Int)) (h1 : (hmR ms m).2.1 = 1) (h2 : fo_h S m0 w m hd) (h3 : fo_r S m0 t0 w m hd x) : x = ffA T cs ms m := by
  obtain ⟨wn, -⟩ := wdNm_of hI hK hm (by omega)
  have hr := KC_m hK hm.1 hm.2
  unfold fo_h at h2
  rw [bg_e (pre := [103, 101, 116]) wn rfl (by first | decide | omega), bg_e (pre := [115, 101, 116]) wn rfl (by first | decide | omega), bg_e (pre := [105, 115]) wn rfl (by first | decide | omega), hr.2.1.1, hr.1.2.2.2, hr.2.1.2.1] at h2
  have key := fun (sk : Nat) (sb : Bool) (a : 0 < sk) (b : (sb = true ∧ (hmR ms m).2.2.2.2.1.length = 1) ∨ (sb = false ∧ (hmR ms m).2.2.2.2.1.length = 0)) (c : fo_r S m0 t0 w m (sk : Int) x) => fo_r_e (T := T) hI hK hw hm h1 a b c
  unfold ffA sB gB
  generalize nmR T (hmR ms m) = NN at *
  have pg : pxB [103, 101, 116] NN = true ↔ bgL [103, 101, 116] NN ∧ cpL 3 NN := px_iff
  have ps : pxB [115, 101, 116] NN = true ↔ bgL [115, 101, 116] NN ∧ cpL 3 NN := px_iff
  have pi : pxB [105, 115] NN = true ↔ bgL [105, 115] NN ∧ cpL 2 NN := px_iff
  have ngs : bgL [103, 101, 116] NN → ¬ bgL [115, 101, 116] NN := fun a b => absurd (bg_no a b (by first | decide | omega) (by first | decide | omega)) (by first | decide | omega)
  have ngi : bgL [103, 101, 116] NN → ¬ bgL [105, 115] NN := fun a b => absurd (bg_no a b (by first | decide | omega) (by first | decide | omega)) (by first | decide | omega)
  have nsi : bgL [115, 101, 116] NN → ¬ bgL [105, 115] NN := fun a b => absurd (bg_no a b (by first | decide | omega) (by first | decide | omega)) (by first | decide | omega)
  have ef : ∀ b : Bool, ¬ b = true → b = false := fun b h => Bool.eq_false_iff.mpr h
  rcases h2 with ⟨e, z | z⟩ | ⟨e, z0, z⟩ | ⟨e, z0, z1⟩
  · rw [e] at h3
    have k0 : (hmR ms m).2.2.2.2.1.length = 0 := by omega
    obtain ⟨k1, k2⟩ := key 3 false (by first | decide | omega) (Or.inr ⟨rfl, k0⟩) h3
    have is : pxB [105, 115] NN = false := ef _ (fun y => ngi z.2 (pi.mp y).1)
    have st : pxB [115, 101, 116] NN = false := ef _ (fun y => ngs z.2 (ps.mp y).1)
    rw [st, is, Bool.false_and, Bool.false_and, Bool.or_false, decide_eq_true k0, Bool.true_and]
    by_cases c : cpL 3 NN
    · have gt : pxB [103, 101, 116] NN = true := pg.mpr ⟨z.2, c⟩
      rw [gt, if_pos (Or.inr rfl)]
      have sk : skN NN = 3 := by unfold skN; rw [is]; rfl
      rw [sk]
      exact k1 c
    · have gt : pxB [103, 101, 116] NN = false := ef _ (fun y => c (pg.mp y).2)
      rw [gt, if_neg (by first | decide | omega)]
      exact k2 c
  · rw [e] at h3
    have k0 : (hmR ms m).2.2.2.2.1.length = 1 := by omega
    obtain ⟨k1, k2⟩ := key 3 true (by first | decide | omega) (Or.inl ⟨rfl, k0⟩) h3
    have is : pxB [105, 115] NN = false := ef _ (fun y => nsi z.2 (pi.mp y).1)
    have gt : pxB [103, 101, 116] NN = false := ef _ (fun y => ngs (pg.mp y).1 z.2)
    rw [gt, is, decide_eq_true (show (hmR ms m).2.2.2.1 = 0 ∧ (hmR ms m).2.2.2.2.1.length = 1 ∧ (hmR ms m).2.2.2.2.2.1 = 0 from ⟨z.1.1, k0, z.1.2.2⟩), decide_eq_false (show ¬ (hmR ms m).2.2.2.2.1.length = 0 by omega), Bool.and_true, Bool.false_and]
    by_cases c : cpL 3 NN
    · have st : pxB [115, 101, 116] NN = true := ps.mpr ⟨z.2, c⟩
      rw [st, if_pos (Or.inl rfl)]
      have sk : skN NN = 3 := by unfold skN; rw [is]; rfl
      rw [sk]
      exact k1 c
    · have st : pxB [115, 101, 116] NN = false := ef _ (fun y => c (ps.mp y).2)
      rw [st, if_neg (by first | decide | omega)]
      exact k2 c
  · rw [e] at h3
    have k0 : (hmR ms m).2.2.2.2.1.length = 0 := by omega
    obtain ⟨k1, k2⟩ := key 2 false (by first | decide | omega) (Or.inr ⟨rfl, k0⟩) h3
    have gt : pxB [103, 101, 116] NN = false := ef _ (fun y => ngi (pg.mp y).1 z.2.2)
    have st : pxB [115, 101, 116] NN = false := ef _ (fun y => nsi (ps.mp y).1 z.2.2)
    rw [gt, st, decide_eq_true k0, decide_eq_true z.2.1, Bool.false_and, Bool.false_or, Bool.true_and, Bool.and_true]
    by_cases c : cpL 2 NN
    · have is : pxB [105, 115] NN = true := pi.mpr ⟨z.2.2, c⟩
      rw [is, if_pos (Or.inr rfl)]
      have sk : skN NN = 2 := by unfold skN; rw [is, st, gt]; rfl
      rw [sk]
      exact k1 c
    · have is : pxB [105, 115] NN = false := ef _ (fun y => c (pi.mp y).2)
      rw [is, if_neg (by first | decide | omega)]
      exact k2 c
  · have ex : x = -1 := by
      rcases h3 with h3 | h3
      · exact h3.2
      · exact absurd (Or.inl e) h3.1
    rw [ex, if_neg]
    rintro (y | y)
    · rw [Bool.and_eq_true] at y
      have y2 := of_decide_eq_true y.2
      exact z0 (Or.inr ⟨⟨y2.1, by omega, y2.2.2⟩, (ps.mp y.1).1⟩)
    · rw [Bool.and_eq_true, Bool.or_eq_true, Bool.and_eq_true] at y
      have y1 := of_decide_eq_true y.1
      rcases y.2 with u | u
      · exact z0 (Or.inl ⟨by omega, (pg.mp u).1⟩)
      · exact z1 ⟨by omega, of_decide_eq_true u.2, (pi.mp u.1).1⟩
/-- M_FIELD of every method -/
theorem stHf_of {a9 b9 : Nat} (h : JX t0 m0 w a9 b9 T cs ms S) (hv : JV cs ms) (hI : wd_at S w 64) (hK : KC t0 m0 o6 oo ob w p T cs ms os S) (hw : wHo cs ms os) (hm : 0 ≤ m ∧ m < (ms.length : Int)) (h1 : (hmR ms m).2.1 = 1) : S (m0 + 15) m = ffA T cs ms m := by
  obtain ⟨k, hk, hmk, -⟩ := mG_of h hv hm
  obtain ⟨-, hr, -⟩ := mG_in h hk hmk
  obtain ⟨⟨-, b1, -⟩, -, -, -, j3⟩ := h k.toNat _ (hcR_i hk.1 hk.2)
  obtain ⟨hd, x, u1, u2, u3⟩ := j3 _ _ (slM_q b1 hr) h1
  rw [show (hcR cs k).2.2.2.2.2.2.1 + ((m - (hcR cs k).2.2.2.2.2.2.1).toNat : Int) = m by omega] at u1 u2 u3
  rw [u3]
  exact ff_e hI hK hw hm h1 u1 u2
end Wnv
