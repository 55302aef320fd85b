/-! PART 85: the supers of a class, in the reference. -/
section W85
variable {xs : List (Nat × List Int32)} {M : Nat → Prop} {d : Nat} {S A B Z : wS} {Q : wO → wS → Prop} {p : Int} {b : Nat}
theorem pg_hole : ∀ (n : Nat) (l : List Int), l.Nodup → (∀ x ∈ l, 0 ≤ x ∧ x < (n : Int)) → l.length ≤ n := by
  intro n
  induction n with
  | zero =>
    intro l _ h
    cases l with
    | nil => exact Nat.le_refl _
    | cons a t => have := h a List.mem_cons_self; omega
  | succ n ih =>
    intro l hd h
    by_cases hm : (n : Int) ∈ l
    · have h1 := List.length_erase_of_mem hm
      have h2 := ih (l.erase (n : Int)) (hd.erase _) (fun x hx => by
        obtain ⟨q1, q2⟩ := (hd.mem_erase_iff).mp hx
        have := h x q2
        omega)
      have h3 : 0 < l.length := List.length_pos_of_mem hm
      omega
    · have := ih l hd (fun x hx => by
        have h1 := h x hx
        have h2 : x ≠ (n : Int) := fun z => hm (z ▸ hx)
        omega)
      omega
/-- the states are the same but for the lexer's places, the halt's, and what the supers of the class c change -/
def su_ag (b : Nat) (c : Int) (S Z : wS) : Prop := ∀ (j : Nat) (i : Int), (j ≠ 240 ∨ i < 0) → (j ≠ 237 ∨ (i ≠ 6 ∧ i ≠ 7 ∧ i ≠ 8 ∧ i ≠ 9 ∧ i ≠ 10 ∧ i ≠ 12)) → (j ≠ 238 ∨ (i ≠ 5 ∧ i ≠ 6)) → ((j ≠ b + 3 ∧ j ≠ b + 4 ∧ j ≠ b + 6) ∨ i ≠ c) → (j ≠ b + 5 ∨ i < 60 * c ∨ 60 * c + 60 ≤ i) → Z j i = S j i
theorem su_ag_rf {c : Int} : su_ag b c S S := fun _ _ _ _ _ _ _ => rfl
theorem su_ag_lx {c : Int} (h : su_ag b c S A) (h2 : lx_ag A B) : su_ag b c S B := fun j i a1 a2 a3 a4 a5 => (h2 j i a1 a2).trans (h j i a1 a2 a3 a4 a5)
theorem su_ag_hl {c n q : Int} (h : su_ag b c S A) : su_ag b c S (w_hl A n q) := by
  intro j i a1 a2 a3 a4 a5
  rw [← h j i a1 a2 a3 a4 a5]
  exact (if_neg (by omega)).trans (if_neg (by omega))
theorem su_ag_up {c x : Int} {k : Nat} {u : Int} (h : su_ag b c S A) (hk : (k = b + 3 ∧ u = c) ∨ (k = b + 4 ∧ u = c) ∨ (k = b + 6 ∧ u = c) ∨ (k = b + 5 ∧ 60 * c ≤ u ∧ u < 60 * c + 60)) : su_ag b c S (w_up A k u x) := by
  intro j i a1 a2 a3 a4 a5
  rw [← h j i a1 a2 a3 a4 a5]
  exact if_neg (fun q => by omega)
theorem su_ag_row {c : Int} (h : su_ag b c S A) {j : Nat} (hj : j ≠ 240 ∧ j ≠ 237 ∧ j ≠ 238 ∧ j ≠ b + 3 ∧ j ≠ b + 4 ∧ j ≠ b + 5 ∧ j ≠ b + 6) : A j = S j := funext fun i => h j i (by omega) (by omega) (by omega) (by omega) (by omega)
def su_rows (b : Nat) (c : Int) (Z : wS) (l : List Int) (a al : Int) : Prop := Z (b + 4) c = (l.length : Int) ∧ Z (b + 3) c = a ∧ Z (b + 6) c = al ∧ ∀ i : Nat, i < l.length → Z (b + 5) (60 * c + (i : Int)) = l.getD i 0
/-- the class s can't be a super besides those in l -/
def tw_l (B : wS) (b : Nat) (c s a : Int) (l : List Int) : Bool := decide (B (b + 2) s = 0 ∧ (B (b + 2) c ≠ 0 ∨ 0 ≤ a)) || decide (s ∈ l)
theorem tw_n_l {I U Y : Int → Int} {c s a : Int} (l : List Int) (hY : Y c = a) (hU : ∀ i : Nat, i < l.length → U (60 * c + (i : Int)) = l.getD i 0) : ∀ n : Nat, n ≤ l.length → tw_n I Y U c s n = (decide (I s = 0 ∧ (I c ≠ 0 ∨ 0 ≤ a)) || decide (s ∈ l.take n)) := by
  intro n
  induction n with
  | zero =>
    intro _
    show decide (I s = 0 ∧ (I c ≠ 0 ∨ 0 ≤ Y c)) = _
    rw [hY, List.take_zero, decide_eq_false (show ¬ s ∈ ([] : List Int) from fun z => by cases z), Bool.or_false]
  | succ n ih =>
    intro hn
    show (tw_n I Y U c s n || decide (U (60 * c + (n : Int)) = s)) = _
    rw [ih (by omega), hU n (by omega), Bool.or_assoc]
    congr 1
    rw [← Bool.decide_or]
    apply decide_eq_decide.mpr
    rw [List.take_succ_eq_append_getElem (by omega), List.mem_append, List.mem_singleton, List.getD_eq_getElem?_getD, List.getElem?_eq_getElem (by omega)]
    constructor
    · rintro (q | q)
      · exact Or.inl q
      · exact Or.inr q.symm
    · rintro (q | q)
      · exact Or.inl q
      · exact Or.inr q.symm
/-- one super at p: a fault, or the class -/
def su_1 (B : wS) (b : Nat) (c p a : Int) (l : List Int) : (Int × Int) ⊕ Int := if zq B p 237 6 = 1 then (if 0 ≤ ch_of (zq B p) b then (if tw_l B b c (ch_of (zq B p) b) a l = true then .inl (4, p) else .inr (ch_of (zq B p) b)) else .inl (3, p)) else .inl (1, p)
def su_nd (c : Int) (l : List Int) : Prop := l.Nodup ∧ ∀ x ∈ l, 0 ≤ x ∧ x < c
theorem su_nd_len {c : Int} {l : List Int} (hc : 0 ≤ c) (h : su_nd c l) : (l.length : Int) ≤ c := by
  have := pg_hole c.toNat l h.1 (fun x hx => by have := h.2 x hx; omega)
  omega
theorem su_nd_add {c s : Int} {l : List Int} (h : su_nd c l) (hs : 0 ≤ s ∧ s < c) (hn : s ∉ l) : su_nd c (l ++ [s]) := by
  refine ⟨List.nodup_append.mpr ⟨h.1, by simp, fun x hx y hy => ?_⟩, fun x hx => ?_⟩
  · rw [List.mem_singleton] at hy
    subst hy
    exact fun z => hn (z ▸ hx)
  · rcases List.mem_append.mp hx with q | q
    · exact h.2 x q
    · rw [List.mem_singleton] at q; subst q; exact hs
theorem su_rows_ag {c a al : Int} {l : List Int} (hb : b = 241 ∨ b = 261) (h : su_rows b c A l a al) (hag : lx_ag A B) : su_rows b c B l a al := by
  refine ⟨?_, ?_, ?_, fun i hi => ?_⟩
  · rw [hag (b + 4) c (by omega) (by omega)]; exact h.1
  · rw [hag (b + 3) c (by omega) (by omega)]; exact h.2.1
  · rw [hag (b + 6) c (by omega) (by omega)]; exact h.2.2.1
  · rw [hag (b + 5) _ (by omega) (by omega)]; exact h.2.2.2 i hi
theorem su_S_241 {c s a al : Int} {l : List Int} {Z : wS} (hcc : 0 ≤ c ∧ c < 60) (hsl : s < c) (hag : su_ag 241 c B Z) (hr : su_rows 241 c Z l a al) (hl : (l.length : Int) < 60) : su_ag 241 c B (hs_S_241 Z c s) ∧ su_rows 241 c (hs_S_241 Z c s) (l ++ [s]) (if B 243 s = 0 then s else a) (wb_lor al (B 247 s)) ∧ (∀ p : Int, lx_E Z B p → lx_E (hs_S_241 Z c s) B p) := by
  have e2 : Z 243 s = B 243 s := hag 243 s (by omega) (by omega) (by omega) (by omega) (by omega)
  have e6 : Z 247 s = B 247 s := hag 247 s (by omega) (by omega) (by omega) (by omega) (by omega)
  have r4 : Z 245 c = (l.length : Int) := hr.1
  have r3 : Z 244 c = a := hr.2.1
  have r6 : Z 247 c = al := hr.2.2.1
  have r5 : ∀ i : Nat, i < l.length → Z 246 (60 * c + (i : Int)) = l.getD i 0 := hr.2.2.2
  have hap : ∀ i : Nat, i < (l ++ [s]).length → w_up Z 246 (60 * c + (l.length : Int)) s 246 (60 * c + (i : Int)) = (l ++ [s]).getD i 0 := by
    intro i hi
    rw [List.length_append] at hi
    simp only [List.length_cons, List.length_nil] at hi
    by_cases he : i = l.length
    · subst he
      rw [w_up_same, List.getD_eq_getElem?_getD, List.getElem?_append_right (Nat.le_refl _), Nat.sub_self]; rfl
    · rw [w_up_at (by omega), r5 i (by omega), List.getD_eq_getElem?_getD, List.getD_eq_getElem?_getD, List.getElem?_append_left (by omega)]
  have hlen : (((l ++ [s]).length : Nat) : Int) = (l.length : Int) + 1 := by rw [List.length_append]; rfl
  unfold hs_S_241
  rw [e2, e6, r4, r6]
  by_cases h0 : B 243 s = 0
  · rw [if_pos h0, if_pos h0]
    refine ⟨su_ag_up (su_ag_up (su_ag_up (su_ag_up hag (by omega)) (by omega)) (by omega)) (by omega), ⟨?_, w_up_same _ _ _ _, ?_, fun i hi => ?_⟩, fun p hE => lx_E_up (lx_E_up (lx_E_up (lx_E_up hE (by decide) (by omega)) (by decide) (by omega)) (by decide) (by omega)) (by decide) (by omega)⟩
    · rw [w_up_slot (by decide), w_up_slot (by decide), w_up_same, hlen]
    · rw [w_up_slot (by decide), w_up_same]
    · rw [w_up_slot (by decide), w_up_slot (by decide), w_up_slot (by decide)]; exact hap i hi
  · rw [if_neg h0, if_neg h0]
    refine ⟨su_ag_up (su_ag_up (su_ag_up hag (by omega)) (by omega)) (by omega), ⟨?_, ?_, w_up_same _ _ _ _, fun i hi => ?_⟩, fun p hE => lx_E_up (lx_E_up (lx_E_up hE (by decide) (by omega)) (by decide) (by omega)) (by decide) (by omega)⟩
    · rw [w_up_slot (by decide), w_up_same, hlen]
    · rw [w_up_slot (by decide), w_up_slot (by decide), w_up_slot (by decide)]; exact r3
    · rw [w_up_slot (by decide), w_up_slot (by decide)]; exact hap i hi
theorem su_one_241 {c p a al : Int} {l : List Int} {Z : wS} (hB15 : B 237 15 = 241) (hBn : ho_nm B 241) (hcc : 0 ≤ c ∧ c < 60) (hBc : B 241 1 = c) (hag : su_ag 241 c B Z) (hE : lx_E Z B p) (hr : su_rows 241 c Z l a al) (hnd : su_nd c l) : wJ (pe_GA xs) wY0 M (d + 5) t_M_readsSuper ((pe_at t_M_readsSuper.bl 0).getD (0, [])).2 [(0, (2, 237)), (1, (0, c))] [] Z (fun o S2 => (∃ s : Int, su_1 B 241 c p a l = .inr s ∧ o = .inl none ∧ su_ag 241 c B S2 ∧ lx_E S2 B (lx_ne (zq B p) p) ∧ su_rows 241 c S2 (l ++ [s]) (if B 243 s = 0 then s else a) (wb_lor al (B 247 s)) ∧ su_nd c (l ++ [s]) ∧ zq B p 237 6 = 1) ∨ (∃ e q : Int, su_1 B 241 c p a l = .inl (e, q) ∧ o = .inr 238 ∧ su_ag 241 c B S2 ∧ S2 238 5 = e ∧ S2 238 6 = q)) := by
  have e1 : Z 241 1 = B 241 1 := hag 241 1 (by omega) (by omega) (by omega) (by omega) (by omega)
  have e9 : Z 250 = B 250 := su_ag_row hag (by decide)
  have e10 : Z 251 = B 251 := su_ag_row hag (by decide)
  have e2 : Z 243 = B 243 := su_ag_row hag (by decide)
  have hb15 : Z 237 15 = 241 := (hag 237 15 (by omega) (by omega) (by omega) (by omega) (by omega)).trans hB15
  have hnm : ho_nm Z 241 := ho_nm_of hBn e1 e9 e10
  have r4 : Z 245 c = (l.length : Int) := hr.1
  have hlen := su_nd_len hcc.1 hnd
  have hch := lx_E_ch (b := 241) hE (by decide) e1 e9 e10
  have hrg := ch_of_rg (zq B p) 241 (show B 241 1 ≤ 60 from hBn.1.2)
  have hB1 : zq B p 241 1 = c := hBc
  have htw : ∀ s : Int, tw_of_241 Z c s = tw_l B 241 c s a l := by
    intro s
    have h1 := tw_n_l (I := Z 243) (U := Z 246) (Y := Z 244) (c := c) (s := s) (a := a) l hr.2.1 hr.2.2.2 l.length (Nat.le_refl _)
    rw [List.take_length] at h1
    show tw_n (Z 243) (Z 244) (Z 246) c s (Z 245 c).toNat = _
    rw [r4, show ((l.length : Int)).toNat = l.length from rfl, h1, e2]
    rfl
  have he : hs_super_241 Z p c = su_1 B 241 c p a l := by
    unfold hs_super_241 su_1
    rw [lx_E_6 hE, hch, htw]
  refine wJ_mono (readsSuper_241 (r := su_1 B 241 c p a l) hE.1 hb15 hnm hcc ⟨by omega, by omega⟩ ?_ he) ?_
  · intro s h0 h1 h2
    rw [htw s] at h2
    have hn : s ∉ l := by
      intro z
      unfold tw_l at h2
      rw [decide_eq_true z, Bool.or_true] at h2
      cases h2
    have := su_nd_len hcc.1 (su_nd_add hnd ⟨h0, by omega⟩ hn)
    rw [List.length_append] at this
    simp only [List.length_cons, List.length_nil] at this
    omega
  · rintro o S2 (⟨s, q1, q2, q3, q4⟩ | ⟨t, q, q1, q2, q3⟩)
    · have hs : zq B p 237 6 = 1 ∧ s = ch_of (zq B p) 241 ∧ 0 ≤ s ∧ tw_l B 241 c s a l = false := by
        unfold su_1 at q1
        by_cases c1 : zq B p 237 6 = 1
        · rw [if_pos c1] at q1
          by_cases c2 : 0 ≤ ch_of (zq B p) 241
          · rw [if_pos c2] at q1
            cases c3 : tw_l B 241 c (ch_of (zq B p) 241) a l with
            | true => rw [c3, if_pos rfl] at q1; cases q1
            | false =>
              rw [c3, if_neg (by decide)] at q1
              cases q1
              exact ⟨c1, rfl, c2, c3⟩
          · rw [if_neg c2] at q1; cases q1
        · rw [if_neg c1] at q1; cases q1
      obtain ⟨s1, s2, s3, s4⟩ := hs
      have hn : s ∉ l := by
        intro z
        unfold tw_l at s4
        rw [decide_eq_true z, Bool.or_true] at s4
        cases s4
      have hnd2 := su_nd_add hnd ⟨s3, by omega⟩ hn
      have hl2 := su_nd_len hcc.1 hnd2
      rw [List.length_append] at hl2
      simp only [List.length_cons, List.length_nil] at hl2
      obtain ⟨g1, g2, g3⟩ := su_S_241 (s := s) hcc (by omega) hag hr (by omega)
      refine Or.inl ⟨s, q1, q2, su_ag_lx g1 q3, ?_, su_rows_ag (by decide) g2 q3, hnd2, s1⟩
      rw [lx_E_ne hE] at q4
      exact lx_E_ag (g3 p hE) q3 q4
    · subst q3
      exact Or.inr ⟨t, q, q1, q2, su_ag_hl hag, rfl, rfl⟩
theorem su_S_261 {c s a al : Int} {l : List Int} {Z : wS} (hcc : 0 ≤ c ∧ c < 60) (hsl : s < c) (hag : su_ag 261 c B Z) (hr : su_rows 261 c Z l a al) (hl : (l.length : Int) < 60) : su_ag 261 c B (hs_S_261 Z c s) ∧ su_rows 261 c (hs_S_261 Z c s) (l ++ [s]) (if B 263 s = 0 then s else a) (wb_lor al (B 267 s)) ∧ (∀ p : Int, lx_E Z B p → lx_E (hs_S_261 Z c s) B p) := by
  have e2 : Z 263 s = B 263 s := hag 263 s (by omega) (by omega) (by omega) (by omega) (by omega)
  have e6 : Z 267 s = B 267 s := hag 267 s (by omega) (by omega) (by omega) (by omega) (by omega)
  have r4 : Z 265 c = (l.length : Int) := hr.1
  have r3 : Z 264 c = a := hr.2.1
  have r6 : Z 267 c = al := hr.2.2.1
  have r5 : ∀ i : Nat, i < l.length → Z 266 (60 * c + (i : Int)) = l.getD i 0 := hr.2.2.2
  have hap : ∀ i : Nat, i < (l ++ [s]).length → w_up Z 266 (60 * c + (l.length : Int)) s 266 (60 * c + (i : Int)) = (l ++ [s]).getD i 0 := by
    intro i hi
    rw [List.length_append] at hi
    simp only [List.length_cons, List.length_nil] at hi
    by_cases he : i = l.length
    · subst he
      rw [w_up_same, List.getD_eq_getElem?_getD, List.getElem?_append_right (Nat.le_refl _), Nat.sub_self]; rfl
    · rw [w_up_at (by omega), r5 i (by omega), List.getD_eq_getElem?_getD, List.getD_eq_getElem?_getD, List.getElem?_append_left (by omega)]
  have hlen : (((l ++ [s]).length : Nat) : Int) = (l.length : Int) + 1 := by rw [List.length_append]; rfl
  unfold hs_S_261
  rw [e2, e6, r4, r6]
  by_cases h0 : B 263 s = 0
  · rw [if_pos h0, if_pos h0]
    refine ⟨su_ag_up (su_ag_up (su_ag_up (su_ag_up hag (by omega)) (by omega)) (by omega)) (by omega), ⟨?_, w_up_same _ _ _ _, ?_, fun i hi => ?_⟩, fun p hE => lx_E_up (lx_E_up (lx_E_up (lx_E_up hE (by decide) (by omega)) (by decide) (by omega)) (by decide) (by omega)) (by decide) (by omega)⟩
    · rw [w_up_slot (by decide), w_up_slot (by decide), w_up_same, hlen]
    · rw [w_up_slot (by decide), w_up_same]
    · rw [w_up_slot (by decide), w_up_slot (by decide), w_up_slot (by decide)]; exact hap i hi
  · rw [if_neg h0, if_neg h0]
    refine ⟨su_ag_up (su_ag_up (su_ag_up hag (by omega)) (by omega)) (by omega), ⟨?_, ?_, w_up_same _ _ _ _, fun i hi => ?_⟩, fun p hE => lx_E_up (lx_E_up (lx_E_up hE (by decide) (by omega)) (by decide) (by omega)) (by decide) (by omega)⟩
    · rw [w_up_slot (by decide), w_up_same, hlen]
    · rw [w_up_slot (by decide), w_up_slot (by decide), w_up_slot (by decide)]; exact r3
    · rw [w_up_slot (by decide), w_up_slot (by decide)]; exact hap i hi
theorem su_one_261 {c p a al : Int} {l : List Int} {Z : wS} (hB15 : B 237 15 = 261) (hBn : ho_nm B 261) (hcc : 0 ≤ c ∧ c < 60) (hBc : B 261 1 = c) (hag : su_ag 261 c B Z) (hE : lx_E Z B p) (hr : su_rows 261 c Z l a al) (hnd : su_nd c l) : wJ (pe_GA xs) wY0 M (d + 5) t_M_readsSuper ((pe_at t_M_readsSuper.bl 0).getD (0, [])).2 [(0, (2, 237)), (1, (0, c))] [] Z (fun o S2 => (∃ s : Int, su_1 B 261 c p a l = .inr s ∧ o = .inl none ∧ su_ag 261 c B S2 ∧ lx_E S2 B (lx_ne (zq B p) p) ∧ su_rows 261 c S2 (l ++ [s]) (if B 263 s = 0 then s else a) (wb_lor al (B 267 s)) ∧ su_nd c (l ++ [s]) ∧ zq B p 237 6 = 1) ∨ (∃ e q : Int, su_1 B 261 c p a l = .inl (e, q) ∧ o = .inr 238 ∧ su_ag 261 c B S2 ∧ S2 238 5 = e ∧ S2 238 6 = q)) := by
  have e1 : Z 261 1 = B 261 1 := hag 261 1 (by omega) (by omega) (by omega) (by omega) (by omega)
  have e9 : Z 270 = B 270 := su_ag_row hag (by decide)
  have e10 : Z 271 = B 271 := su_ag_row hag (by decide)
  have e2 : Z 263 = B 263 := su_ag_row hag (by decide)
  have hb15 : Z 237 15 = 261 := (hag 237 15 (by omega) (by omega) (by omega) (by omega) (by omega)).trans hB15
  have hnm : ho_nm Z 261 := ho_nm_of hBn e1 e9 e10
  have r4 : Z 265 c = (l.length : Int) := hr.1
  have hlen := su_nd_len hcc.1 hnd
  have hch := lx_E_ch (b := 261) hE (by decide) e1 e9 e10
  have hrg := ch_of_rg (zq B p) 261 (show B 261 1 ≤ 60 from hBn.1.2)
  have hB1 : zq B p 261 1 = c := hBc
  have htw : ∀ s : Int, tw_of_261 Z c s = tw_l B 261 c s a l := by
    intro s
    have h1 := tw_n_l (I := Z 263) (U := Z 266) (Y := Z 264) (c := c) (s := s) (a := a) l hr.2.1 hr.2.2.2 l.length (Nat.le_refl _)
    rw [List.take_length] at h1
    show tw_n (Z 263) (Z 264) (Z 266) c s (Z 265 c).toNat = _
    rw [r4, show ((l.length : Int)).toNat = l.length from rfl, h1, e2]
    rfl
  have he : hs_super_261 Z p c = su_1 B 261 c p a l := by
    unfold hs_super_261 su_1
    rw [lx_E_6 hE, hch, htw]
  refine wJ_mono (readsSuper_261 (r := su_1 B 261 c p a l) hE.1 hb15 hnm hcc ⟨by omega, by omega⟩ ?_ he) ?_
  · intro s h0 h1 h2
    rw [htw s] at h2
    have hn : s ∉ l := by
      intro z
      unfold tw_l at h2
      rw [decide_eq_true z, Bool.or_true] at h2
      cases h2
    have := su_nd_len hcc.1 (su_nd_add hnd ⟨h0, by omega⟩ hn)
    rw [List.length_append] at this
    simp only [List.length_cons, List.length_nil] at this
    omega
  · rintro o S2 (⟨s, q1, q2, q3, q4⟩ | ⟨t, q, q1, q2, q3⟩)
    · have hs : zq B p 237 6 = 1 ∧ s = ch_of (zq B p) 261 ∧ 0 ≤ s ∧ tw_l B 261 c s a l = false := by
        unfold su_1 at q1
        by_cases c1 : zq B p 237 6 = 1
        · rw [if_pos c1] at q1
          by_cases c2 : 0 ≤ ch_of (zq B p) 261
          · rw [if_pos c2] at q1
            cases c3 : tw_l B 261 c (ch_of (zq B p) 261) a l with
            | true => rw [c3, if_pos rfl] at q1; cases q1
            | false =>
              rw [c3, if_neg (by decide)] at q1
              cases q1
              exact ⟨c1, rfl, c2, c3⟩
          · rw [if_neg c2] at q1; cases q1
        · rw [if_neg c1] at q1; cases q1
      obtain ⟨s1, s2, s3, s4⟩ := hs
      have hn : s ∉ l := by
        intro z
        unfold tw_l at s4
        rw [decide_eq_true z, Bool.or_true] at s4
        cases s4
      have hnd2 := su_nd_add hnd ⟨s3, by omega⟩ hn
      have hl2 := su_nd_len hcc.1 hnd2
      rw [List.length_append] at hl2
      simp only [List.length_cons, List.length_nil] at hl2
      obtain ⟨g1, g2, g3⟩ := su_S_261 (s := s) hcc (by omega) hag hr (by omega)
      refine Or.inl ⟨s, q1, q2, su_ag_lx g1 q3, ?_, su_rows_ag (by decide) g2 q3, hnd2, s1⟩
      rw [lx_E_ne hE] at q4
      exact lx_E_ag (g3 p hE) q3 q4
    · subst q3
      exact Or.inr ⟨t, q, q1, q2, su_ag_hl hag, rfl, rfl⟩
end W85
