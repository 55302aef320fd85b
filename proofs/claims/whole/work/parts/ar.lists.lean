/-! PART ar: names and texts as lists. -/
section War
variable {xs : List (Nat × List Int32)} {M : Nat → Prop} {d : Nat} {A B C S Z : wS} {Q : wO → wS → Prop} {T : Int → Int} {n : Int}
/-- m signs from p on -/
def sl_ (T : Int → Int) (p m : Int) : List Int := (List.range m.toNat).map (fun (i : Nat) => T (p + (i : Int)))
theorem sl_len (T : Int → Int) (p m : Int) : (sl_ T p m).length = m.toNat := by unfold sl_; rw [List.length_map, List.length_range]
theorem sl_get (T : Int → Int) (p m : Int) {i : Nat} (h : i < m.toNat) : (sl_ T p m).getD i 0 = T (p + (i : Int)) := by
  unfold sl_
  rw [List.getD_eq_getElem?_getD, List.getElem?_map, List.getElem?_range h]
  rfl
/-- the word k has the signs x -/
def wqL (S : wS) (x : List Int) (k : Int) : Prop := wq (S 3) (S 4) (S 5) (fun i => x.getD i.toNat 0) 0 (x.length : Int) k
theorem wqL_sl {p m k : Int} (hm : 0 ≤ m) : wq (S 3) (S 4) (S 5) T p m k ↔ wqL S (sl_ T p m) k := by
  unfold wqL wq
  rw [sl_len, Int.toNat_of_nonneg hm]
  constructor
  · rintro ⟨h1, h2⟩
    refine ⟨h1, fun i hi => (h2 i hi).trans ?_⟩
    show _ = (sl_ T p m).getD ((0 : Int) + (i : Int)).toNat 0
    rw [show ((0 : Int) + (i : Int)).toNat = i by omega, sl_get T p m hi]
  · rintro ⟨h1, h2⟩
    refine ⟨h1, fun i hi => (h2 i hi).trans ?_⟩
    show (sl_ T p m).getD ((0 : Int) + (i : Int)).toNat 0 = _
    rw [show ((0 : Int) + (i : Int)).toNat = i by omega, sl_get T p m hi]
theorem ls_ext {x y : List Int} (h1 : x.length = y.length) (h2 : ∀ i : Nat, i < x.length → x.getD i 0 = y.getD i 0) : x = y := by
  apply List.ext_getElem h1
  intro i a b
  have := h2 i a
  rw [List.getD_eq_getElem?_getD, List.getD_eq_getElem?_getD, List.getElem?_eq_getElem a, List.getElem?_eq_getElem b] at this
  exact this
theorem wqL_u {x y : List Int} {u v : Int} (hI : wd_at S 2 1024) (hu : 0 ≤ u ∧ u < S 2 7) (hv : 0 ≤ v ∧ v < S 2 7) (h1 : wqL S x u) (h2 : wqL S y v) : u = v ↔ x = y := by
  rw [wq_2 (w := 2) hI hu hv h1 h2]
  constructor
  · rintro ⟨e1, e2⟩
    refine ls_ext (by omega) (fun i hi => ?_)
    have := e2 i (by rw [Int.toNat_natCast]; exact hi)
    have z : ((0 : Int) + (i : Int)).toNat = i := by omega
    simp only [z] at this
    exact this
  · rintro rfl
    exact ⟨rfl, fun i _ => rfl⟩
theorem wqL_rp {x : List Int} {k : Int} (h1 : wd_at S 2 1024) (h : rp_ag S Z) (hk : 0 ≤ k ∧ k < S 2 7) (hq : wqL S x k) : wqL Z x k := wq_rp h1 h hk hq
/-- the rows nm (count at f) are these lists -/
def cL (nm : Nat) (f : Int) (L : List (List Int)) (S : wS) : Prop := S 2 f = (L.length : Int) ∧ ∀ k : Nat, k < L.length → (0 ≤ S nm (k : Int) ∧ S nm (k : Int) < S 2 7) ∧ wqL S (L.getD k []) (S nm (k : Int))
/-- where x stands, or -1 -/
def ixL (L : List (List Int)) (x : List Int) : Int := if x ∈ L then (L.idxOf x : Int) else -1
/-- with x, if there is room -/
def adL (L : List (List Int)) (x : List Int) : List (List Int) := if x ∈ L ∨ 4000 ≤ L.length then L else L ++ [x]
theorem getD_idx {L : List (List Int)} {x : List Int} (h : x ∈ L) : L.idxOf x < L.length ∧ L.getD (L.idxOf x) [] = x := by
  have hl := List.idxOf_lt_length_of_mem h
  refine ⟨hl, ?_⟩
  rw [List.getD_eq_getElem?_getD, List.getElem?_eq_getElem hl]
  exact List.getElem_idxOf hl
/-- the number of a word -/
theorem ix_no {no nm : Nat} {f k : Int} {L : List (List Int)} {x : List Int} (hI : wd_at S 2 1024) (hv : wv_I (S no) (S nm) (S 2 f) (S 2 7)) (hL : cL nm f L S) (hk : 0 ≤ k ∧ k < S 2 7) (hq : wqL S x k) : S no k = ixL L x := by
  obtain ⟨v1, v2, v3⟩ := hv
  unfold ixL
  by_cases hx : x ∈ L
  · rw [if_pos hx]
    obtain ⟨g1, g2⟩ := getD_idx hx
    obtain ⟨c1, c2⟩ := hL.2 _ g1
    rw [g2] at c2
    have e := (wqL_u hI c1 hk c2 hq).mpr rfl
    have := (v2 (L.idxOf x : Int) (by omega) (by rw [hL.1]; omega)).2.2
    rw [e] at this
    exact this
  · rw [if_neg hx]
    rcases v3 k hk.1 hk.2 with q | ⟨q1, q2, q3⟩
    · exact q
    · exfalso
      rw [hL.1] at q2
      have e : ((S no k).toNat : Int) = S no k := Int.toNat_of_nonneg q1
      obtain ⟨c1, c2⟩ := hL.2 (S no k).toNat (by omega)
      rw [e, q3] at c2
      have := (wqL_u hI hk hk hq c2).mp rfl
      apply hx
      rw [this, List.getD_eq_getElem?_getD, List.getElem?_eq_getElem (by omega)]
      exact List.getElem_mem _
theorem cL_ag {nm : Nat} {f : Int} {L : List (List Int)} (hI : wd_at S 2 1024) (h : cL nm f L S) (g : rp_ag S Z) (hn : ∀ i : Int, 0 ≤ i → i < S 2 f → Z nm i = S nm i) (hf : Z 2 f = S 2 f) : cL nm f L Z := by
  obtain ⟨h1, h2⟩ := h
  refine ⟨hf.trans h1, fun k hk => ?_⟩
  obtain ⟨c1, c2⟩ := h2 k hk
  rw [hn (k : Int) (by omega) (by omega)]
  exact ⟨⟨c1.1, by have := g.1.1; omega⟩, wqL_rp hI g c1 c2⟩
/-- a new name or text -/
theorem cL_nf {no nm : Nat} {f k : Int} {L : List (List Int)} {x : List Int} (hI : wd_at S 2 1024) (h : cL nm f L S) (g : rp_ag S Z) (gn : nf_ag no nm f k S Z) (hk : 0 ≤ k ∧ k < S 2 7) (hq : wqL S x k) : cL nm f (L ++ [x]) Z := by
  obtain ⟨h1, h2⟩ := h
  obtain ⟨⟨g1, g2, g3⟩, g4, -⟩ := gn
  refine ⟨by rw [g3, h1, List.length_append]; rfl, fun i hi => ?_⟩
  rw [List.length_append] at hi
  have hl : [x].length = 1 := rfl
  by_cases hil : i < L.length
  · obtain ⟨c1, c2⟩ := h2 i hil
    rw [g4 (i : Int) (by omega) (by omega), List.getD_eq_getElem?_getD, List.getElem?_append_left hil, ← List.getD_eq_getElem?_getD]
    exact ⟨⟨c1.1, by have := g.1.1; omega⟩, wqL_rp hI g c1 c2⟩
  · have e : (i : Int) = S 2 f := by omega
    rw [e, g2, List.getD_eq_getElem?_getD, List.getElem?_append_right (by omega), show i - L.length = 0 by omega]
    exact ⟨⟨hk.1, by have := g.1.1; omega⟩, wqL_rp hI g hk hq⟩
theorem ixL_new {L : List (List Int)} {x : List Int} (h : x ∉ L) : ixL (L ++ [x]) x = (L.length : Int) := by
  unfold ixL
  rw [if_pos (List.mem_append.mpr (Or.inr (List.mem_singleton.mpr rfl))), List.idxOf_append, if_neg h]
  have : List.idxOf x [x] = 0 := List.idxOf_cons_self
  rw [this, Nat.zero_add]
theorem ixL_no {L : List (List Int)} {x : List Int} : ixL L x = -1 ↔ x ∉ L := by
  unfold ixL
  constructor
  · intro h hx
    rw [if_pos hx] at h
    omega
  · intro h
    rw [if_neg h]
/-- the words of the language that are there from the beginning; the first 22 are no names -/
def wl2 : List (List Int) := [[118, 97, 114], [102, 117, 110], [105, 102], [101, 108, 115, 101], [119, 104, 105, 108, 101], [114, 101, 116, 117, 114, 110], [116, 104, 114, 111, 119], [116, 114, 121], [99, 97, 116, 99, 104], [110, 101, 119], [116, 104, 105, 115], [110, 117, 108, 108], [116, 114, 117, 101], [102, 97, 108, 115, 101], [112, 114, 105, 110, 116], [109, 97, 107, 101], [112, 114, 111, 116, 111], [116, 117, 114, 110], [100, 114, 111, 112], [104, 97, 115], [107, 105, 110, 100], [104, 111, 115, 116], [115, 105, 122, 101], [112, 117, 115, 104], [112, 111, 112], [115, 117, 98], [98, 111, 111, 108], [105, 110, 116], [108, 111, 110, 103], [116, 101, 120, 116], [111, 98, 106, 101, 99, 116], [108, 105, 115, 116], [99, 108, 97, 115, 115]]
def r2_I (S : wS) : Prop := ∀ k : Nat, k < 33 → wqL S (wl2.getD k []) (k : Int)
/-- which of the first words, or -1 -/
def kwL (x : List Int) : Int := if x ∈ wl2.take 22 then ((wl2.take 22).idxOf x : Int) else -1
theorem kw_of {x : List Int} {k : Int} (hI : wd_at S 2 1024) (h2 : r2_I S) (h7 : 33 ≤ S 2 7) (hk : 0 ≤ k ∧ k < S 2 7) (hq : wqL S x k) : (k < 22 → kwL x = k) ∧ (22 ≤ k → kwL x = -1) := by
  have hg : ∀ j : Nat, j < 22 → (wl2.take 22).getD j [] = wl2.getD j [] := by decide +kernel
  unfold kwL
  by_cases hx : x ∈ wl2.take 22
  · rw [if_pos hx]
    obtain ⟨g1, g2⟩ := getD_idx hx
    have g1 : (wl2.take 22).idxOf x < 22 := g1
    have := h2 ((wl2.take 22).idxOf x) (by omega)
    rw [← hg _ g1, g2] at this
    have e := (wqL_u hI (by omega) hk this hq).mpr rfl
    exact ⟨fun _ => e, fun q => by omega⟩
  · rw [if_neg hx]
    refine ⟨fun q => ?_, fun _ => rfl⟩
    exfalso
    have e : ((k.toNat : Nat) : Int) = k := Int.toNat_of_nonneg hk.1
    have h3 := h2 k.toNat (by omega)
    rw [e] at h3
    have := (wqL_u hI hk hk hq h3).mp rfl
    apply hx
    rw [this, ← hg k.toNat (by omega), List.getD_eq_getElem?_getD, List.getElem?_eq_getElem (show k.toNat < (wl2.take 22).length from (by show k.toNat < 22; omega))]
    exact List.getElem_mem _
theorem r2_ag (hI : wd_at S 2 1024) (h7 : 33 ≤ S 2 7) (h : r2_I S) (g : rp_ag S Z) : r2_I Z := fun k hk => wqL_rp hI g (by omega) (h k hk)
end War
