/-! PART ai: the orders of classes against the reference's sets of supers. -/
section Wai
variable {xs : List (Nat × List Int32)} {M : Nat → Prop} {d : Nat} {A B C S Z : wS} {Q : wO → wS → Prop} {T : Int → Int} {n : Int} {c i : Nat}
theorem mem_adl {x : Int} : ∀ (l2 l : List Int), x ∈ l2.foldl ad_l l ↔ x ∈ l ∨ x ∈ l2 := by
  intro l2
  induction l2 with
  | nil => intro l; exact ⟨Or.inl, fun h => h.elim id (fun q => absurd q List.not_mem_nil)⟩
  | cons y l2 ih =>
    intro l
    rw [List.foldl_cons, ih, List.mem_cons]
    unfold ad_l
    split
    · rename_i hy
      constructor
      · rintro (h | h)
        · exact Or.inl h
        · exact Or.inr (Or.inr h)
      · rintro (h | h | h)
        · exact Or.inl h
        · exact Or.inl (h ▸ hy)
        · exact Or.inr h
    · rw [List.mem_append, List.mem_singleton, or_assoc]
theorem mem_so2 {I : Int → Int} {os : Int → List Int} {x : Int} : ∀ (sl l : List Int), x ∈ so_2 I os l sl ↔ x ∈ l ∨ ∃ s ∈ sl, I s = 1 ∧ x ∈ os s := by
  intro sl
  induction sl with
  | nil =>
    intro l
    show x ∈ l ↔ _
    exact ⟨Or.inl, fun h => h.elim id (fun ⟨s, hs, _⟩ => absurd hs List.not_mem_nil)⟩
  | cons y sl ih =>
    intro l
    show x ∈ so_2 I os (if I y = 1 then (os y).foldl ad_l l else l) sl ↔ _
    rw [ih]
    by_cases hy : I y = 1
    · rw [if_pos hy, mem_adl]
      constructor
      · rintro ((h | h) | ⟨s, h1, h2⟩)
        · exact Or.inl h
        · exact Or.inr ⟨y, List.mem_cons_self, hy, h⟩
        · exact Or.inr ⟨s, List.mem_cons_of_mem _ h1, h2⟩
      · rintro (h | ⟨s, h1, h2⟩)
        · exact Or.inl (Or.inl h)
        · rcases List.mem_cons.mp h1 with rfl | h1
          · exact Or.inl (Or.inr h2.2)
          · exact Or.inr ⟨s, h1, h2⟩
    · rw [if_neg hy]
      constructor
      · rintro (h | ⟨s, h1, h2⟩)
        · exact Or.inl h
        · exact Or.inr ⟨s, List.mem_cons_of_mem _ h1, h2⟩
      · rintro (h | ⟨s, h1, h2⟩)
        · exact Or.inl h
        · rcases List.mem_cons.mp h1 with rfl | h1
          · exact absurd h2.1 hy
          · exact Or.inr ⟨s, h1, h2⟩
theorem mem_soL {I A : Int → Int} {os : Int → List Int} {x k : Int} {sl : List Int} : x ∈ so_L I A os k sl ↔ x ∈ ch_l A (k.toNat + 1) k ∨ (∃ s ∈ sl, I s = 1 ∧ x ∈ os s) ∨ (A k ≠ -1 ∧ x ∈ os (A k)) := by
  unfold so_L
  by_cases h : A k = -1
  · rw [if_pos h, mem_so2, mem_adl]
    constructor
    · rintro ((q | q) | q)
      · exact absurd q List.not_mem_nil
      · exact Or.inl q
      · exact Or.inr (Or.inl q)
    · rintro (q | q | q)
      · exact Or.inl (Or.inr q)
      · exact Or.inr q
      · exact absurd h q.1
  · rw [if_neg h, mem_adl, mem_so2, mem_adl]
    constructor
    · rintro (((q | q) | q) | q)
      · exact absurd q List.not_mem_nil
      · exact Or.inl q
      · exact Or.inr (Or.inl q)
      · exact Or.inr (Or.inr ⟨h, q⟩)
    · rintro (q | q | q)
      · exact Or.inl (Or.inl (Or.inr q))
      · exact Or.inl (Or.inr q)
      · exact Or.inr q.2
theorem ch_l_cg {A B : Int → Int} : ∀ (f : Nat) (up : Int), -1 ≤ up → (∀ q : Int, 0 ≤ q → q ≤ up → A q = B q ∧ -1 ≤ A q ∧ A q < q) → ch_l A f up = ch_l B f up := by
  intro f
  induction f with
  | zero => intro up _ _; rfl
  | succ f ih =>
    intro up h0 h
    rw [ch_l_s, ch_l_s]
    by_cases hu : up = -1
    · rw [if_pos hu, if_pos hu]
    · have h1 := h up (by omega) (by omega)
      rw [if_neg hu, if_neg hu, ← h1.1, ih (A up) (by omega) (fun q q0 q1 => h q q0 (by omega))]
/-- among the supers l of a class: a is the only class, or -1 -/
def sa_I (I : Int → Int) (a : Int) (l : List Int) : Prop := (a = -1 ∧ ∀ s ∈ l, I s ≠ 0) ∨ (0 ≤ a ∧ a ∈ l ∧ I a = 0 ∧ ∀ s ∈ l, I s = 0 → s = a)
theorem su_1_r {b : Nat} {c p a s : Int} {l : List Int} (h : su_1 B b c p a l = .inr s) : 0 ≤ s ∧ tw_l B b c s a l = false := by
  unfold su_1 at h
  split at h
  · split at h
    · rename_i h0
      split at h
      · cases h
      · rename_i h1
        have e : ch_of (zq B p) b = s := by cases h; rfl
        rw [e] at h0 h1
        exact ⟨h0, by cases q : tw_l B b c s a l with
          | true => exact absurd q h1
          | false => rfl⟩
    · cases h
  · cases h
theorem sa_s {b : Nat} {c a s : Int} {l : List Int} (h : sa_I (B (b + 2)) a l) (h0 : 0 ≤ s) (ht : tw_l B b c s a l = false) : sa_I (B (b + 2)) (if B (b + 2) s = 0 then s else a) (l ++ [s]) := by
  unfold tw_l at ht
  rw [Bool.or_eq_false_iff, decide_eq_false_iff_not, decide_eq_false_iff_not] at ht
  by_cases hs : B (b + 2) s = 0
  · rw [if_pos hs]
    have ha : ¬ 0 ≤ a := fun q => ht.1 ⟨hs, Or.inr q⟩
    rcases h with ⟨h1, h2⟩ | ⟨h1, h2⟩
    · refine Or.inr ⟨h0, List.mem_append.mpr (Or.inr (List.mem_singleton.mpr rfl)), hs, fun t ht2 h3 => ?_⟩
      rcases List.mem_append.mp ht2 with q | q
      · exact absurd h3 (h2 t q)
      · exact List.mem_singleton.mp q
    · exact absurd h1 ha
  · rw [if_neg hs]
    rcases h with ⟨h1, h2⟩ | ⟨h1, h2, h3, h4⟩
    · refine Or.inl ⟨h1, fun t ht2 => ?_⟩
      rcases List.mem_append.mp ht2 with q | q
      · exact h2 t q
      · rw [List.mem_singleton.mp q]; exact hs
    · refine Or.inr ⟨h1, List.mem_append.mpr (Or.inl h2), h3, fun t ht2 h5 => ?_⟩
      rcases List.mem_append.mp ht2 with q | q
      · exact h4 t q h5
      · rw [List.mem_singleton.mp q] at h5; exact absurd h5 hs
theorem su_f_al {b : Nat} {c : Int} : ∀ (f : Nat) (p : Int) (l : List Int) (a al q : Int) (l2 : List Int) (a2 al2 : Int), su_f B b c f p l a al = .inr (q, l2, a2, al2) → sa_I (B (b + 2)) a l → sa_I (B (b + 2)) a2 l2 ∧ ∃ e : List Int, l2 = l ++ e ∧ ∀ x : Nat, bb al2 x = true ↔ (bb al x = true ∨ ∃ s ∈ e, bb (B (b + 6) s) x = true) := by
  intro f
  induction f with
  | zero => intro p l a al q l2 a2 al2 h; cases h
  | succ f ih =>
    intro p l a al q l2 a2 al2 h hI
    rw [su_f_s] at h
    by_cases h1 : lx_is (zq B p) 44 = true
    · rw [if_pos h1] at h
      cases hs : su_1 B b c (lx_ne (zq B p) p) a l with
      | inl e => rw [hs] at h; cases h
      | inr s =>
        rw [hs] at h
        have h2 : su_f B b c f (lx_ne (zq B (lx_ne (zq B p) p)) (lx_ne (zq B p) p)) (l ++ [s]) (if B (b + 2) s = 0 then s else a) (wb_lor al (B (b + 6) s)) = .inr (q, l2, a2, al2) := h
        obtain ⟨s0, st⟩ := su_1_r hs
        obtain ⟨g1, e, g2, g3⟩ := ih _ _ _ _ _ _ _ _ h2 (sa_s hI s0 st)
        refine ⟨g1, s :: e, by rw [g2, List.append_assoc]; rfl, fun x => ?_⟩
        rw [g3, bb_lor, Bool.or_eq_true, or_assoc]
        constructor
        · rintro (y | y | ⟨t, y1, y2⟩)
          · exact Or.inl y
          · exact Or.inr ⟨s, List.mem_cons_self, y⟩
          · exact Or.inr ⟨t, List.mem_cons_of_mem _ y1, y2⟩
        · rintro (y | ⟨t, y1, y2⟩)
          · exact Or.inl y
          · rcases List.mem_cons.mp y1 with rfl | y1
            · exact Or.inr (Or.inl y2)
            · exact Or.inr (Or.inr ⟨t, y1, y2⟩)
    · rw [if_neg h1] at h
      cases h
      exact ⟨hI, [], (List.append_nil _).symm, fun x => ⟨Or.inl, fun y => y.elim id (fun ⟨s, hs, _⟩ => absurd hs List.not_mem_nil)⟩⟩
theorem su_a_al {b : Nat} {c p q a al : Int} {l : List Int} (h3 : B (b + 3) c = -1) (h : su_a B b c p = .inr (q, l, a, al)) : sa_I (B (b + 2)) a l ∧ ∀ x : Nat, bb al x = true ↔ (bb (B (b + 6) c) x = true ∨ ∃ s ∈ l, bb (B (b + 6) s) x = true) := by
  unfold su_a at h
  cases hs : su_1 B b c p (B (b + 3) c) [] with
  | inl e => rw [hs] at h; cases h
  | inr s =>
    rw [hs] at h
    have h2 : su_f B b c ((B 237 4 - p).toNat + 1) (lx_ne (zq B p) p) ([] ++ [s]) (if B (b + 2) s = 0 then s else B (b + 3) c) (wb_lor (B (b + 6) c) (B (b + 6) s)) = .inr (q, l, a, al) := h
    obtain ⟨s0, st⟩ := su_1_r hs
    obtain ⟨g1, e, g2, g3⟩ := su_f_al _ _ _ _ _ _ _ _ _ h2 (sa_s (Or.inl ⟨h3, fun t ht => absurd ht List.not_mem_nil⟩) s0 st)
    refine ⟨g1, fun x => ?_⟩
    rw [g3, bb_lor, Bool.or_eq_true, or_assoc, g2]
    constructor
    · rintro (y | y | ⟨t, y1, y2⟩)
      · exact Or.inl y
      · exact Or.inr ⟨s, List.mem_append.mpr (Or.inl (List.mem_singleton.mpr rfl)), y⟩
      · exact Or.inr ⟨t, List.mem_append.mpr (Or.inr y1), y2⟩
    · rintro (y | ⟨t, y1, y2⟩)
      · exact Or.inl y
      · rcases List.mem_append.mp y1 with y1 | y1
        · rw [List.nil_append, List.mem_singleton] at y1
          subst y1
          exact Or.inr (Or.inl y2)
        · exact Or.inr (Or.inr ⟨t, y1, y2⟩)
theorem rcb_al {B1 : wS} {b : Nat} {k0 itf p1 p2 : Int} {ms ms2 : List hMR} {cr : hCR} (h3 : B1 (b + 3) k0 = -1) (h6 : B1 (b + 6) k0 = wb_lshl 1 k0) (h : rc_body B B1 b k0 ms itf p1 = .inr (p2, cr, ms2)) : sa_I (B1 (b + 2)) cr.2.2.2.1 cr.2.2.2.2.1 ∧ ∀ x : Nat, bb cr.2.2.2.2.2.1 x = true ↔ (bb (wb_lshl 1 k0) x = true ∨ ∃ s ∈ cr.2.2.2.2.1, bb (B1 (b + 6) s) x = true) := by
  cases hs : rc_su B B1 b k0 p1 with
  | inl e => rw [rcb_1 hs] at h; cases h
  | inr x =>
    obtain ⟨q, l, a, al⟩ := x
    have key : sa_I (B1 (b + 2)) a l ∧ ∀ x : Nat, bb al x = true ↔ (bb (wb_lshl 1 k0) x = true ∨ ∃ s ∈ l, bb (B1 (b + 6) s) x = true) := by
      unfold rc_su at hs
      split at hs
      · rw [← h6]; exact su_a_al h3 hs
      · cases hs
        exact ⟨Or.inl ⟨rfl, fun t ht => absurd ht List.not_mem_nil⟩, fun x => ⟨Or.inl, fun y => y.elim id (fun ⟨s, hs, _⟩ => absurd hs List.not_mem_nil)⟩⟩
    by_cases h123 : lx_is (zq B q) 123 = true
    · cases hm : mb_f (w_up B1 b 1 (k0 + 1)) b k0 itf ms.length ((B 237 4 - lx_ne (zq B q) q).toNat + 1) (lx_ne (zq B q) q) ms with
      | inl e => rw [rcb_3 hs h123 hm] at h; cases h
      | inr y =>
        obtain ⟨z, ms3⟩ := y
        rw [rcb_4 hs h123 hm] at h
        cases h
        exact key
    · rw [rcb_2 hs h123] at h; cases h
/-- what stands above a class in the reference's list -/
def Ab (cs : List hCR) : Int → Int := fun i => (cs.getD i.toNat hq_0).2.2.2.1
/-- the orders, and the reference's sets of supers -/
def JO (cs : List hCR) (os : Int → List Int) : Prop := ∀ (k : Nat) (r : hCR), cs[k]? = some r → (∀ x : Nat, x < 60 → bb r.2.2.2.2.2.1 x = decide ((x : Int) ∈ os (k : Int))) ∧ (∀ (f : Nat) (x : Int), x ∈ ch_l (Ab cs) f (k : Int) → x ∈ os (k : Int)) ∧ (-1 ≤ r.2.2.2.1 ∧ r.2.2.2.1 < (k : Int)) ∧ (r.1 = 0 ∨ r.1 = 1)
theorem Ab_o {cs : List hCR} {r : hCR} {i : Int} (h : 0 ≤ i ∧ i < (cs.length : Int)) : Ab (cs ++ [r]) i = Ab cs i := by
  unfold Ab
  rw [List.getD_eq_getElem?_getD, List.getD_eq_getElem?_getD, List.getElem?_append_left (by omega)]
theorem Ab_n {cs : List hCR} {r : hCR} : Ab (cs ++ [r]) (cs.length : Int) = r.2.2.2.1 := by
  unfold Ab
  rw [List.getD_eq_getElem?_getD, List.getElem?_append_right (by omega), Int.toNat_natCast, Nat.sub_self]
  rfl
theorem Ab_g {cs : List hCR} {r : hCR} {k : Nat} (h : cs[k]? = some r) : Ab cs (k : Int) = r.2.2.2.1 := by
  unfold Ab
  rw [List.getD_eq_getElem?_getD, Int.toNat_natCast, h]
  rfl
theorem JO_lt {cs : List hCR} {os : Int → List Int} (h : JO cs os) {q : Int} (h0 : 0 ≤ q) (h1 : q < (cs.length : Int)) : -1 ≤ Ab cs q ∧ Ab cs q < q := by
  have e : q = ((q.toNat : Nat) : Int) := (Int.toNat_of_nonneg h0).symm
  have hq : cs[q.toNat]? = some (cs[q.toNat]'(by omega)) := List.getElem?_eq_getElem (by omega)
  have g := (h q.toNat _ hq).2.2.1
  rw [e, Ab_g hq]
  exact g
theorem JO_s {cs : List hCR} {os : Int → List Int} {r : hCR} {I A : Int → Int} (h : JO cs os) (hI : ∀ (k : Nat) (r2 : hCR), cs[k]? = some r2 → I (k : Int) = r2.1 ∧ A (k : Int) = r2.2.2.2.1) (hA : A (cs.length : Int) = r.2.2.2.1) (hl : su_nd (cs.length : Int) r.2.2.2.2.1) (ha : -1 ≤ r.2.2.2.1 ∧ r.2.2.2.1 < (cs.length : Int)) (hi : r.1 = 0 ∨ r.1 = 1) (hc : (cs.length : Int) < 60)
    (hs : sa_I (fun s => (cs.getD s.toNat hq_0).1) r.2.2.2.1 r.2.2.2.2.1) (hb : ∀ x : Nat, bb r.2.2.2.2.2.1 x = true ↔ (bb (wb_lshl 1 (cs.length : Int)) x = true ∨ ∃ s ∈ r.2.2.2.2.1, bb (cs.getD s.toNat hq_0).2.2.2.2.2.1 x = true)) : JO (cs ++ [r]) (fun q => if q = (cs.length : Int) then so_L I A os (cs.length : Int) r.2.2.2.2.1 else os q) := by
  have hg : ∀ s : Int, 0 ≤ s → s < (cs.length : Int) → ∃ r2 : hCR, cs[s.toNat]? = some r2 ∧ cs.getD s.toNat hq_0 = r2 ∧ ((s.toNat : Nat) : Int) = s := fun s h0 h1 => ⟨cs[s.toNat]'(by omega), List.getElem?_eq_getElem (by omega), by rw [List.getD_eq_getElem?_getD, List.getElem?_eq_getElem (by omega)]; rfl, Int.toNat_of_nonneg h0⟩
  have hcg : ∀ (f : Nat) (up : Int), -1 ≤ up → up < (cs.length : Int) → ch_l (Ab (cs ++ [r])) f up = ch_l (Ab cs) f up := fun f up u0 u1 => ch_l_cg f up u0 (fun q q0 q1 => by
    rw [Ab_o ⟨q0, by omega⟩]
    exact ⟨rfl, JO_lt h q0 (by omega)⟩)
  have hAA : ∀ f : Nat, ch_l A f (cs.length : Int) = ch_l (Ab (cs ++ [r])) f (cs.length : Int) := fun f => ch_l_cg f _ (by omega) (fun q q0 q1 => by
    by_cases hq : q = (cs.length : Int)
    · rw [hq, hA, Ab_n]; exact ⟨rfl, ha⟩
    · obtain ⟨r2, e1, e2, e3⟩ := hg q q0 (by omega)
      have g1 := (hI q.toNat r2 e1).2
      rw [e3] at g1
      have g2 := JO_lt h q0 (show q < (cs.length : Int) by omega)
      have g3 : Ab cs q = r2.2.2.2.1 := by unfold Ab; rw [e2]
      rw [Ab_o ⟨q0, by omega⟩, g1, g3]
      exact ⟨rfl, by rw [← g3]; exact g2⟩)
  have hch : ∀ (f : Nat) (x : Int), x ∈ ch_l (Ab (cs ++ [r])) f (cs.length : Int) → x = (cs.length : Int) ∨ (r.2.2.2.1 ≠ -1 ∧ x ∈ os r.2.2.2.1) := by
    intro f x hx
    cases f with
    | zero => exact absurd hx List.not_mem_nil
    | succ f =>
      rw [ch_l_s, if_neg (by omega), Ab_n, List.mem_cons] at hx
      rcases hx with hx | hx
      · exact Or.inl hx
      · by_cases h1 : r.2.2.2.1 = -1
        · rw [h1] at hx
          cases f with
          | zero => exact absurd hx List.not_mem_nil
          | succ f => rw [ch_l_s, if_pos rfl] at hx; exact absurd hx List.not_mem_nil
        · rw [hcg f _ (by omega) ha.2] at hx
          obtain ⟨r2, e1, e2, e3⟩ := hg r.2.2.2.1 (by omega) ha.2
          have g := (h _ r2 e1).2.1 f x
          rw [e3] at g
          exact Or.inr ⟨h1, g hx⟩
  have hme : ∀ x : Int, x ∈ so_L I A os (cs.length : Int) r.2.2.2.2.1 ↔ (x = (cs.length : Int) ∨ ∃ s ∈ r.2.2.2.2.1, x ∈ os s) := by
    intro x
    rw [mem_soL, hAA, hA]
    constructor
    · rintro (y | ⟨s, y1, y2, y3⟩ | ⟨y1, y2⟩)
      · rcases hch _ x y with y | ⟨y1, y2⟩
        · exact Or.inl y
        · rcases hs with ⟨z1, z2⟩ | ⟨z1, z2, z3⟩
          · exact absurd z1 y1
          · exact Or.inr ⟨_, z2, y2⟩
      · exact Or.inr ⟨s, y1, y3⟩
      · rcases hs with ⟨z1, z2⟩ | ⟨z1, z2, z3⟩
        · exact absurd z1 y1
        · exact Or.inr ⟨_, z2, y2⟩
    · rintro (y | ⟨s, y1, y2⟩)
      · refine Or.inl ?_
        rw [ch_l_s, if_neg (by omega), y]
        exact List.mem_cons_self
      · obtain ⟨s0, s1⟩ := hl.2 s y1
        obtain ⟨r2, e1, e2, e3⟩ := hg s s0 s1
        have g1 := (hI _ r2 e1).1
        rw [e3] at g1
        rcases (h _ r2 e1).2.2.2 with z | z
        · rcases hs with ⟨w1, w2⟩ | ⟨w1, w2, w3, w4⟩
          · exact absurd (show (cs.getD s.toNat hq_0).1 = 0 by rw [e2]; exact z) (w2 s y1)
          · have w5 := w4 s y1 (show (cs.getD s.toNat hq_0).1 = 0 by rw [e2]; exact z)
            exact Or.inr (Or.inr ⟨by omega, by rw [← w5]; exact y2⟩)
        · exact Or.inr (Or.inl ⟨s, y1, g1.trans z, y2⟩)
  intro k r2 hk
  by_cases hkl : k < cs.length
  · rw [List.getElem?_append_left hkl] at hk
    obtain ⟨g1, g2, g3, g4⟩ := h k r2 hk
    refine ⟨fun x hx => ?_, fun f x hx => ?_, g3, g4⟩
    · show _ = decide ((x : Int) ∈ (if (k : Int) = (cs.length : Int) then _ else os (k : Int)))
      rw [if_neg (by omega)]; exact g1 x hx
    · rw [hcg f _ (by omega) (by omega)] at hx
      show x ∈ (if (k : Int) = (cs.length : Int) then _ else os (k : Int))
      rw [if_neg (by omega)]; exact g2 f x hx
  · have hk2 : k = cs.length := by
      have := (List.getElem?_eq_some_iff.mp hk).1
      rw [List.length_append] at this
      have e1 : [r].length = 1 := rfl
      omega
    subst hk2
    rw [List.getElem?_append_right (Nat.le_refl _), Nat.sub_self] at hk
    have hr : r = r2 := Option.some.inj hk
    subst hr
    refine ⟨fun x hx => ?_, fun f x hx => ?_, ha, hi⟩
    · show _ = decide ((x : Int) ∈ (if (cs.length : Int) = (cs.length : Int) then _ else os (cs.length : Int)))
      rw [if_pos rfl, Bool.eq_iff_iff, decide_eq_true_eq, hb, hme, bb_lshl (y := cs.length) (by omega), decide_eq_true_eq]
      constructor
      · rintro (y | ⟨s, y1, y2⟩)
        · exact Or.inl (by omega)
        · obtain ⟨s0, s1⟩ := hl.2 s y1
          obtain ⟨r3, e1, e2, e3⟩ := hg s s0 s1
          have g := (h _ r3 e1).1 x hx
          rw [e2, g, decide_eq_true_eq, e3] at y2
          exact Or.inr ⟨s, y1, y2⟩
      · rintro (y | ⟨s, y1, y2⟩)
        · exact Or.inl (by omega)
        · obtain ⟨s0, s1⟩ := hl.2 s y1
          obtain ⟨r3, e1, e2, e3⟩ := hg s s0 s1
          have g := (h _ r3 e1).1 x hx
          refine Or.inr ⟨s, y1, ?_⟩
          rw [e2, g, decide_eq_true_eq, e3]
          exact y2
    · show x ∈ (if (cs.length : Int) = (cs.length : Int) then _ else os (cs.length : Int))
      rw [if_pos rfl, hme]
      rcases hch f x hx with y | ⟨y1, y2⟩
      · exact Or.inl y
      · rcases hs with ⟨z1, z2⟩ | ⟨z1, z2, z3⟩
        · exact absurd z1 y1
        · exact Or.inr ⟨_, z2, y2⟩
theorem JO_73 : JE_73 A T n c (fun cs _ os _ => JO cs os) := by
  refine ⟨fun Z _ k r h => (by cases h), fun cs ms os S x h => h, ?_⟩
  intro cs ms os S i itf S3 a al l Zo i2 ms2 Zm Z1 Zf hj h hP hit y1 y2 y3 y4 y5 y6 y7 y8 y9 y10 y11 y12 y13 y14 y15 y16 y17
  have hc : (cs.length : Int) < 60 := by
    unfold rc_n_241 at y1
    split at y1
    · split at y1
      · split at y1
        · assumption
        · cases y1
      · cases y1
    · cases y1
  have hq2 : ∀ s : Int, 0 ≤ s → s < (cs.length : Int) → hq_cn A 241 cs 243 s = (cs.getD s.toNat hq_0).1 := fun s s0 s1 => by
    unfold hq_cn
    rw [if_neg (by omega), if_pos ⟨s0, s1⟩, if_pos rfl]
  have hq6 : ∀ s : Int, 0 ≤ s → s < (cs.length : Int) → hq_cn A 241 cs 247 s = (cs.getD s.toNat hq_0).2.2.2.2.2.1 := fun s s0 s1 => by
    unfold hq_cn
    rw [if_neg (by omega), if_pos ⟨s0, s1⟩, if_neg (by decide), if_neg (by decide), if_pos rfl]
  have key : sa_I (fun s => (cs.getD s.toNat hq_0).1) a l ∧ ∀ x : Nat, bb al x = true ↔ (bb (wb_lshl 1 (cs.length : Int)) x = true ∨ ∃ s ∈ l, bb (cs.getD s.toNat hq_0).2.2.2.2.2.1 x = true) := by
    unfold rc_n_241 at y1
    split at y1
    · split at y1
      · obtain ⟨g1, g2⟩ := rcb_al (by rw [w_up_slot (by decide), w_up_slot (by decide), w_up_slot (by decide), w_up_slot (by decide), w_up_same]) (by rw [w_up_slot (by decide), w_up_slot (by decide), w_up_same]) y1
        have e2 : ∀ s : Int, 0 ≤ s → s < (cs.length : Int) → (w_up (w_up (w_up (w_up (w_up (w_up (w_up (w_up (hq_cn A 241 cs) 243 (cs.length : Int) itf) 250 (cs.length : Int) (tp T n 1 i)) 251 (cs.length : Int) (zq (hq_cn A 241 cs) (tp T n 1 i) 237 8)) 244 (cs.length : Int) (-1)) 245 (cs.length : Int) 0) 247 (cs.length : Int) (wb_lshl 1 (cs.length : Int))) 248 (cs.length : Int) ((hq_cn A 241 cs) 241 11)) 249 (cs.length : Int) 0) 243 s = (cs.getD s.toNat hq_0).1 := fun s s0 s1 => by
          rw [w_up_slot (by decide), w_up_slot (by decide), w_up_slot (by decide), w_up_slot (by decide), w_up_slot (by decide), w_up_slot (by decide), w_up_slot (by decide), w_up_at (by omega)]
          exact hq2 s s0 s1
        have e6 : ∀ s : Int, 0 ≤ s → s < (cs.length : Int) → (w_up (w_up (w_up (w_up (w_up (w_up (w_up (w_up (hq_cn A 241 cs) 243 (cs.length : Int) itf) 250 (cs.length : Int) (tp T n 1 i)) 251 (cs.length : Int) (zq (hq_cn A 241 cs) (tp T n 1 i) 237 8)) 244 (cs.length : Int) (-1)) 245 (cs.length : Int) 0) 247 (cs.length : Int) (wb_lshl 1 (cs.length : Int))) 248 (cs.length : Int) ((hq_cn A 241 cs) 241 11)) 249 (cs.length : Int) 0) 247 s = (cs.getD s.toNat hq_0).2.2.2.2.2.1 := fun s s0 s1 => by
          rw [w_up_slot (by decide), w_up_slot (by decide), w_up_at (by omega), w_up_slot (by decide), w_up_slot (by decide), w_up_slot (by decide), w_up_slot (by decide), w_up_slot (by decide)]
          exact hq6 s s0 s1
        refine ⟨?_, fun x => (g2 x).trans ⟨?_, ?_⟩⟩
        · rcases g1 with ⟨z1, z2⟩ | ⟨z1, z2, z3, z4⟩
          · exact Or.inl ⟨z1, fun s hs q => by have := y4.2 s hs; exact z2 s hs ((e2 s this.1 this.2).trans q)⟩
          · have ha := y4.2 a z2
            exact Or.inr ⟨z1, z2, (e2 a ha.1 ha.2).symm.trans z3, fun s hs q => by have := y4.2 s hs; exact z4 s hs ((e2 s this.1 this.2).trans q)⟩
        · rintro (z | ⟨s, z1, z2⟩)
          · exact Or.inl z
          · have := y4.2 s z1
            exact Or.inr ⟨s, z1, by rw [← e6 s this.1 this.2]; exact z2⟩
        · rintro (z | ⟨s, z1, z2⟩)
          · exact Or.inl z
          · have := y4.2 s z1
            exact Or.inr ⟨s, z1, (congrArg (fun u => bb u x) (e6 s this.1 this.2)).trans z2⟩
      · cases y1
    · cases y1
  have h3 : ∀ j : Nat, j = 87 ∨ j = 88 → S3 j = S j := fun j hj => y2 j (by omega) (by omega) (by omega)
  refine JO_s (r := (itf, tp T n 1 i, zq (hq_cn A 241 cs) (tp T n 1 i) 237 8, a, l, al, (ms.length : Int), (ms2.length : Int) - (ms.length : Int))) h (fun k r2 hk => ?_) ?_ y4 y5 hit hc key.1 key.2
  · have hkl := (List.getElem?_eq_some_iff.mp hk).1
    obtain ⟨g1, g2, -⟩ := hj.2.2.2.2.2.1 k r2 hk
    refine ⟨?_, ?_⟩
    · rw [w_up_slot (by decide), w_up_slot (by decide), w_up_slot (by decide), w_up_slot (by decide), w_up_slot (by decide), w_up_at (by omega), h3 _ (by omega)]; exact g1
    · rw [w_up_slot (by decide), w_up_slot (by decide), w_up_slot (by decide), w_up_slot (by decide), w_up_at (by omega), w_up_slot (by decide), h3 _ (by omega)]; exact g2
  · rw [w_up_slot (by decide), w_up_slot (by decide), w_up_slot (by decide), w_up_slot (by decide), w_up_same]
theorem JO_162 : JE_162 A T n c (fun cs _ os _ => JO cs os) := by
  refine ⟨fun Z _ k r h => (by cases h), fun cs ms os S x h => h, ?_⟩
  intro cs ms os S i itf S3 a al l Zo i2 ms2 Zm Z1 Zf hj h hP hit y1 y2 y3 y4 y5 y6 y7 y8 y9 y10 y11 y12 y13 y14 y15 y16 y17
  have hc : (cs.length : Int) < 60 := by
    unfold rc_n_261 at y1
    split at y1
    · split at y1
      · split at y1
        · assumption
        · cases y1
      · cases y1
    · cases y1
  have hq2 : ∀ s : Int, 0 ≤ s → s < (cs.length : Int) → hq_cn A 261 cs 263 s = (cs.getD s.toNat hq_0).1 := fun s s0 s1 => by
    unfold hq_cn
    rw [if_neg (by omega), if_pos ⟨s0, s1⟩, if_pos rfl]
  have hq6 : ∀ s : Int, 0 ≤ s → s < (cs.length : Int) → hq_cn A 261 cs 267 s = (cs.getD s.toNat hq_0).2.2.2.2.2.1 := fun s s0 s1 => by
    unfold hq_cn
    rw [if_neg (by omega), if_pos ⟨s0, s1⟩, if_neg (by decide), if_neg (by decide), if_pos rfl]
  have key : sa_I (fun s => (cs.getD s.toNat hq_0).1) a l ∧ ∀ x : Nat, bb al x = true ↔ (bb (wb_lshl 1 (cs.length : Int)) x = true ∨ ∃ s ∈ l, bb (cs.getD s.toNat hq_0).2.2.2.2.2.1 x = true) := by
    unfold rc_n_261 at y1
    split at y1
    · split at y1
      · obtain ⟨g1, g2⟩ := rcb_al (by rw [w_up_slot (by decide), w_up_slot (by decide), w_up_slot (by decide), w_up_slot (by decide), w_up_same]) (by rw [w_up_slot (by decide), w_up_slot (by decide), w_up_same]) y1
        have e2 : ∀ s : Int, 0 ≤ s → s < (cs.length : Int) → (w_up (w_up (w_up (w_up (w_up (w_up (w_up (w_up (hq_cn A 261 cs) 263 (cs.length : Int) itf) 270 (cs.length : Int) (tp T n 1 i)) 271 (cs.length : Int) (zq (hq_cn A 261 cs) (tp T n 1 i) 237 8)) 264 (cs.length : Int) (-1)) 265 (cs.length : Int) 0) 267 (cs.length : Int) (wb_lshl 1 (cs.length : Int))) 268 (cs.length : Int) ((hq_cn A 261 cs) 261 11)) 269 (cs.length : Int) 0) 263 s = (cs.getD s.toNat hq_0).1 := fun s s0 s1 => by
          rw [w_up_slot (by decide), w_up_slot (by decide), w_up_slot (by decide), w_up_slot (by decide), w_up_slot (by decide), w_up_slot (by decide), w_up_slot (by decide), w_up_at (by omega)]
          exact hq2 s s0 s1
        have e6 : ∀ s : Int, 0 ≤ s → s < (cs.length : Int) → (w_up (w_up (w_up (w_up (w_up (w_up (w_up (w_up (hq_cn A 261 cs) 263 (cs.length : Int) itf) 270 (cs.length : Int) (tp T n 1 i)) 271 (cs.length : Int) (zq (hq_cn A 261 cs) (tp T n 1 i) 237 8)) 264 (cs.length : Int) (-1)) 265 (cs.length : Int) 0) 267 (cs.length : Int) (wb_lshl 1 (cs.length : Int))) 268 (cs.length : Int) ((hq_cn A 261 cs) 261 11)) 269 (cs.length : Int) 0) 267 s = (cs.getD s.toNat hq_0).2.2.2.2.2.1 := fun s s0 s1 => by
          rw [w_up_slot (by decide), w_up_slot (by decide), w_up_at (by omega), w_up_slot (by decide), w_up_slot (by decide), w_up_slot (by decide), w_up_slot (by decide), w_up_slot (by decide)]
          exact hq6 s s0 s1
        refine ⟨?_, fun x => (g2 x).trans ⟨?_, ?_⟩⟩
        · rcases g1 with ⟨z1, z2⟩ | ⟨z1, z2, z3, z4⟩
          · exact Or.inl ⟨z1, fun s hs q => by have := y4.2 s hs; exact z2 s hs ((e2 s this.1 this.2).trans q)⟩
          · have ha := y4.2 a z2
            exact Or.inr ⟨z1, z2, (e2 a ha.1 ha.2).symm.trans z3, fun s hs q => by have := y4.2 s hs; exact z4 s hs ((e2 s this.1 this.2).trans q)⟩
        · rintro (z | ⟨s, z1, z2⟩)
          · exact Or.inl z
          · have := y4.2 s z1
            exact Or.inr ⟨s, z1, by rw [← e6 s this.1 this.2]; exact z2⟩
        · rintro (z | ⟨s, z1, z2⟩)
          · exact Or.inl z
          · have := y4.2 s z1
            exact Or.inr ⟨s, z1, (congrArg (fun u => bb u x) (e6 s this.1 this.2)).trans z2⟩
      · cases y1
    · cases y1
  have h3 : ∀ j : Nat, j = 176 ∨ j = 177 → S3 j = S j := fun j hj => y2 j (by omega) (by omega) (by omega)
  refine JO_s (r := (itf, tp T n 1 i, zq (hq_cn A 261 cs) (tp T n 1 i) 237 8, a, l, al, (ms.length : Int), (ms2.length : Int) - (ms.length : Int))) h (fun k r2 hk => ?_) ?_ y4 y5 hit hc key.1 key.2
  · have hkl := (List.getElem?_eq_some_iff.mp hk).1
    obtain ⟨g1, g2, -⟩ := hj.2.2.2.2.2.1 k r2 hk
    refine ⟨?_, ?_⟩
    · rw [w_up_slot (by decide), w_up_slot (by decide), w_up_slot (by decide), w_up_slot (by decide), w_up_slot (by decide), w_up_at (by omega), h3 _ (by omega)]; exact g1
    · rw [w_up_slot (by decide), w_up_slot (by decide), w_up_slot (by decide), w_up_slot (by decide), w_up_at (by omega), w_up_slot (by decide), h3 _ (by omega)]; exact g2
  · rw [w_up_slot (by decide), w_up_slot (by decide), w_up_slot (by decide), w_up_slot (by decide), w_up_same]
end Wai
