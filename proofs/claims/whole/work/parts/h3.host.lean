/-! PART h3: a host as data: members in order, candidates, the single most specific one. -/
section Wh3
variable {T : Int → Int} {cs : List hCR} {ms : List hMR} {os : Int → List Int} {S : wS}
def hm_0 : hMR := (0, 0, 0, 0, [], 0, 0, 0)
def hmR (ms : List hMR) (m : Int) : hMR := ms.getD m.toNat hm_0
def hcR (cs : List hCR) (k : Int) : hCR := cs.getD k.toNat hq_0
/-- n numbers from a on -/
def ivl (a : Int) : Nat → List Int
  | 0 => []
  | n + 1 => a :: ivl (a + 1) n
theorem ivl_s (a : Int) (n : Nat) : ivl a (n + 1) = a :: ivl (a + 1) n := rfl
theorem ivl_m : ∀ (n : Nat) (a x : Int), x ∈ ivl a n ↔ a ≤ x ∧ x < a + (n : Int) := by
  intro n
  induction n with
  | zero => intro a x; exact ⟨fun h => absurd h List.not_mem_nil, fun h => by omega⟩
  | succ n ih =>
    intro a x
    rw [ivl_s, List.mem_cons, ih]
    omega
theorem ivl_len : ∀ (n : Nat) (a : Int), (ivl a n).length = n := by
  intro n
  induction n with
  | zero => intro a; rfl
  | succ n ih => intro a; rw [ivl_s, List.length_cons, ih]
/-- the members of class o -/
def mIx (cs : List hCR) (o : Int) : List Int := ivl (hcR cs o).2.2.2.2.2.2.1 (hcR cs o).2.2.2.2.2.2.2.toNat
/-- those of classes in an order -/
def mOr (cs : List hCR) (l : List Int) : List Int := l.flatMap (mIx cs)
theorem mOr_c (o : Int) (l : List Int) : mOr cs (o :: l) = mIx cs o ++ mOr cs l := List.flatMap_cons
theorem mOr_n : mOr cs [] = [] := rfl
/-- the name of a member -/
def nmR (T : Int → Int) (r : hMR) : List Int := sl_ T r.2.2.2.2.2.2.1 (r.2.2.2.2.2.2.2 - r.2.2.2.2.2.2.1)
/-- a member of a sort (st: static or not; pc: how many parameters, -1: any number) and a name -/
def okM (T : Int → Int) (ms : List hMR) (so st pc : Int) (W : List Int) (m : Int) : Bool := decide ((hmR ms m).2.1 = so ∧ (hmR ms m).2.2.1 = st ∧ (pc = -1 ∨ ((hmR ms m).2.2.2.2.1.length : Int) = pc) ∧ nmR T (hmR ms m) = W)
/-- a field of a name (st: static or not, -1: either) -/
def okF (T : Int → Int) (ms : List hMR) (st : Int) (W : List Int) (m : Int) : Bool := decide ((hmR ms m).2.1 = 0 ∧ (st = -1 ∨ st = (hmR ms m).2.2.1) ∧ nmR T (hmR ms m) = W)
/-- one with the same types is there -/
def hidM (ms : List hMR) (acc : List Int) (m : Int) : Bool := acc.any (fun q => decide ((hmR ms q).2.2.2.2.1 = (hmR ms m).2.2.2.2.1))
def cdA (ms : List hMR) (ok : Int → Bool) (acc : List Int) (l : List Int) : List Int := l.foldl (fun acc m => if ok m = true ∧ hidM ms acc m = false then acc ++ [m] else acc) acc
theorem cdA_n (ok : Int → Bool) (acc : List Int) : cdA ms ok acc [] = acc := rfl
theorem cdA_c (ok : Int → Bool) (acc : List Int) (m : Int) (l : List Int) : cdA ms ok acc (m :: l) = cdA ms ok (if ok m = true ∧ hidM ms acc m = false then acc ++ [m] else acc) l := rfl
theorem cdA_a (ok : Int → Bool) (acc : List Int) (l r : List Int) : cdA ms ok acc (l ++ r) = cdA ms ok (cdA ms ok acc l) r := List.foldl_append
theorem cdA_p {ok : Int → Bool} {acc : List Int} {m : Int} {l : List Int} (h : ok m = true) (h2 : hidM ms acc m = false) : cdA ms ok acc (m :: l) = cdA ms ok (acc ++ [m]) l := by rw [cdA_c, if_pos ⟨h, h2⟩]
theorem cdA_q {ok : Int → Bool} {acc : List Int} {m : Int} {l : List Int} (h : ¬ (ok m = true ∧ hidM ms acc m = false)) : cdA ms ok acc (m :: l) = cdA ms ok acc l := by rw [cdA_c, if_neg h]
theorem cdA_pr (ok : Int → Bool) : ∀ (l acc : List Int), ∃ t : List Int, cdA ms ok acc l = acc ++ t := by
  intro l
  induction l with
  | nil => intro acc; exact ⟨[], (List.append_nil _).symm⟩
  | cons m l ih =>
    intro acc
    rw [cdA_c]
    split
    · obtain ⟨t, ht⟩ := ih (acc ++ [m])
      exact ⟨m :: t, by rw [ht, List.append_assoc]; rfl⟩
    · exact ih acc
theorem cdA_m (ok : Int → Bool) : ∀ (l acc : List Int) (x : Int), x ∈ cdA ms ok acc l → x ∈ acc ∨ (x ∈ l ∧ ok x = true) := by
  intro l
  induction l with
  | nil => intro acc x h; exact Or.inl h
  | cons m l ih =>
    intro acc x h
    rw [cdA_c] at h
    split at h
    · next c =>
      rcases ih _ x h with y | y
      · rcases List.mem_append.mp y with z | z
        · exact Or.inl z
        · have e := List.mem_singleton.mp z
          exact Or.inr ⟨by rw [e]; exact List.mem_cons_self, by rw [e]; exact c.1⟩
      · exact Or.inr ⟨List.mem_cons_of_mem _ y.1, y.2⟩
    · rcases ih _ x h with y | y
      · exact Or.inl y
      · exact Or.inr ⟨List.mem_cons_of_mem _ y.1, y.2⟩
theorem cdA_ln (ok : Int → Bool) : ∀ (l acc : List Int), (cdA ms ok acc l).length ≤ acc.length + l.length := by
  intro l
  induction l with
  | nil => intro acc; exact Nat.le_refl _
  | cons m l ih =>
    intro acc
    rw [cdA_c, List.length_cons]
    split
    · have := ih (acc ++ [m])
      rw [List.length_append, List.length_singleton] at this
      omega
    · have := ih acc
      omega
/-- the first one, -1: none -/
def fsA (ok : Int → Bool) (l : List Int) : Int := (l.find? ok).getD (-1)
theorem fsA_n (ok : Int → Bool) : fsA ok [] = -1 := rfl
theorem fsA_p {ok : Int → Bool} {m : Int} {l : List Int} (h : ok m = true) : fsA ok (m :: l) = m := by unfold fsA; rw [List.find?_cons_of_pos h]; rfl
theorem fsA_q {ok : Int → Bool} {m : Int} {l : List Int} (h : ok m = false) : fsA ok (m :: l) = fsA ok l := by unfold fsA; rw [List.find?_cons_of_neg (by rw [h]; exact Bool.false_ne_true)]
theorem fsA_rg {ok : Int → Bool} : ∀ l : List Int, fsA ok l = -1 ∨ (fsA ok l ∈ l ∧ ok (fsA ok l) = true) := by
  intro l
  induction l with
  | nil => exact Or.inl rfl
  | cons m l ih =>
    by_cases h : ok m = true
    · rw [fsA_p h]; exact Or.inr ⟨List.mem_cons_self, h⟩
    · rw [fsA_q (Bool.eq_false_iff.mpr h)]
      rcases ih with y | y
      · exact Or.inl y
      · exact Or.inr ⟨List.mem_cons_of_mem _ y.1, y.2⟩
/-- the first of the candidates is the first that is right -/
theorem cdA_fs (ok : Int → Bool) : ∀ l : List Int, (cdA ms ok [] l = [] ∧ (∀ x ∈ l, ok x = false)) ∨ ∃ t : List Int, cdA ms ok [] l = fsA ok l :: t := by
  intro l
  induction l with
  | nil => exact Or.inl ⟨rfl, fun x h => absurd h List.not_mem_nil⟩
  | cons m l ih =>
    by_cases h : ok m = true
    · rw [cdA_p h rfl, fsA_p h]
      obtain ⟨t, ht⟩ := cdA_pr (ms := ms) ok l ([] ++ [m])
      exact Or.inr ⟨t, ht⟩
    · have h2 : ok m = false := Bool.eq_false_iff.mpr h
      rw [cdA_q (fun z => h z.1), fsA_q h2]
      rcases ih with ⟨y1, y2⟩ | y
      · refine Or.inl ⟨y1, fun x hx => ?_⟩
        rcases List.mem_cons.mp hx with z | z
        · rw [z]; exact h2
        · exact y2 x z
      · exact Or.inr y
theorem cdA_0 {ok : Int → Bool} {l : List Int} (hl : ∀ x ∈ l, 0 ≤ x) : cdA ms ok [] l = [] ↔ fsA ok l = -1 := by
  rcases cdA_fs (ms := ms) ok l with ⟨y1, y2⟩ | ⟨t, ht⟩
  · refine ⟨fun _ => ?_, fun _ => y1⟩
    rcases fsA_rg (ok := ok) l with z | z
    · exact z
    · rw [y2 _ z.1] at z; exact absurd z.2 Bool.false_ne_true
  · rw [ht]
    refine ⟨fun h => absurd h (List.cons_ne_nil _ _), fun h => ?_⟩
    have hm : fsA ok l ∈ cdA ms ok [] l := by rw [ht]; exact List.mem_cons_self
    rcases cdA_m ok l [] _ hm with z | z
    · exact absurd z List.not_mem_nil
    · have := hl _ z.1; omega
/-- the field of a name: of the class, or the nearest one above it -/
def fdA (T : Int → Int) (cs : List hCR) (ms : List hMR) (st : Int) (W : List Int) (k : Int) : Int := fsA (okF T ms st W) (mOr cs (ch_l (Ab cs) (k.toNat + 1) k))
/-- for all numbers less than n -/
def alN (n : Nat) (p : Nat → Bool) : Bool := (List.range n).all p
theorem alN_t {n : Nat} {p : Nat → Bool} : alN n p = true ↔ ∀ i : Nat, i < n → p i = true := by
  unfold alN
  rw [List.all_eq_true]
  exact ⟨fun h i hi => h i (List.mem_range.mpr hi), fun h i hi => h i (List.mem_range.mp hi)⟩
theorem alN_f {n : Nat} {p : Nat → Bool} {i : Nat} (hi : i < n) (h : p i = false) : alN n p = false := by
  rw [Bool.eq_false_iff]
  intro z
  rw [alN_t.mp z i hi] at h
  exact absurd h (by decide)
/-- a type is a subtype of another one -/
def sbB (cs : List hCR) (a o : Int) : Bool := decide (a = o ∨ (a = 1 ∧ o = 2) ∨ (o = 8 ∧ 3 < a) ∨ (o ≠ 8 ∧ 9 ≤ a ∧ 9 ≤ o ∧ bb ((hcR cs (a - 9)).2.2.2.2.2.1) (o - 9).toNat = true))
/-- a value of a class goes to a parameter -/
def gTB (cs : List hCR) (f p : Int) (l : Bool) : Bool := if 3 < p then (decide (f = 0) || sbB cs f p) else (l && decide ((f = 4 ∧ (p = 1 ∨ p = 2)) ∨ (f = 5 ∧ p = 2) ∨ (f = 6 ∧ p = 3)))
/-- the type of a parameter -/
def prT (r : hMR) (i : Nat) : Int := r.2.2.2.2.1.getD (if i < r.2.2.2.2.1.length then i else r.2.2.2.2.1.length - 1) 0
def ftA (cs : List hCR) (ms : List hMR) (ph : Int) (tl : List Int) (m : Int) : Bool := decide ((hmR ms m).2.2.2.2.2.1 = (if ph = 3 then 1 else 0)) && decide (if ph = 3 then (hmR ms m).2.2.2.2.1.length ≤ tl.length + 1 else (hmR ms m).2.2.2.2.1.length = tl.length) && alN tl.length (fun i => gTB cs (tl.getD i 0) (prT (hmR ms m) i) (decide (1 < ph)))
def moN (ms : List hMR) (ph : Int) (n : Nat) (m q : Int) : Nat := if ph = 3 then max (hmR ms m).2.2.2.2.1.length (hmR ms q).2.2.2.2.1.length else n
def moA (cs : List hCR) (ms : List hMR) (ph : Int) (n : Nat) (m q : Int) : Bool := alN (moN ms ph n m q) (fun i => sbB cs (prT (hmR ms m) i) (prT (hmR ms q) i))
/-- of those that fit the single one that is more specific than each -/
def bsA (cs : List hCR) (ms : List hMR) (ph : Int) (n : Nat) (f : List Int) : List Int := f.filter (fun m => f.all (fun q => moA cs ms ph n m q))
def sgP (cs : List hCR) (ms : List hMR) (ph : Int) (n : Nat) (f : List Int) : Int := if (bsA cs ms ph n f).length = 1 then (bsA cs ms ph n f).getD 0 0 else -8
def ftL (cs : List hCR) (ms : List hMR) (ph : Int) (tl cd : List Int) : List Int := cd.filter (ftA cs ms ph tl)
def sgA (cs : List hCR) (ms : List hMR) (tl cd : List Int) : Int := if ftL cs ms 1 tl cd ≠ [] then sgP cs ms 1 tl.length (ftL cs ms 1 tl cd) else if ftL cs ms 2 tl cd ≠ [] then sgP cs ms 2 tl.length (ftL cs ms 2 tl cd) else if ftL cs ms 3 tl cd ≠ [] then sgP cs ms 3 tl.length (ftL cs ms 3 tl cd) else -9
/-- what must hold of a host -/
def wHo (cs : List hCR) (ms : List hMR) (os : Int → List Int) : Prop := (cs.length ≤ 60 ∧ ms.length ≤ 400) ∧ (∀ k : Int, 0 ≤ k → k < (cs.length : Int) → (-1 ≤ (hcR cs k).2.2.2.1 ∧ (hcR cs k).2.2.2.1 < k) ∧ (0 ≤ (hcR cs k).2.2.2.2.2.2.1 ∧ 0 ≤ (hcR cs k).2.2.2.2.2.2.2 ∧ (hcR cs k).2.2.2.2.2.2.1 + (hcR cs k).2.2.2.2.2.2.2 ≤ (ms.length : Int)) ∧ ((hcR cs k).1 = 0 ∨ (hcR cs k).1 = 1)) ∧ (∀ k : Int, 0 ≤ k → k < (cs.length : Int) → (∃ t : List Int, os k = k :: t) ∧ (os k).Nodup ∧ ∀ x ∈ os k, 0 ≤ x ∧ x < (cs.length : Int)) ∧ ∀ m : Int, 0 ≤ m → m < (ms.length : Int) → ((0 ≤ (hmR ms m).1 ∧ (hmR ms m).1 < (cs.length : Int)) ∧ (0 ≤ (hmR ms m).2.1 ∧ (hmR ms m).2.1 ≤ 2) ∧ ((hmR ms m).2.2.1 = 0 ∨ (hmR ms m).2.2.1 = 1) ∧ (0 ≤ (hmR ms m).2.2.2.1 ∧ (hmR ms m).2.2.2.1 < 9 + (cs.length : Int))) ∧ ((hmR ms m).2.2.2.2.2.1 = 0 ∨ ((hmR ms m).2.2.2.2.2.1 = 1 ∧ 1 ≤ (hmR ms m).2.2.2.2.1.length)) ∧ (hmR ms m).2.2.2.2.1.length ≤ 8 ∧ (∀ p ∈ (hmR ms m).2.2.2.2.1, 1 ≤ p ∧ p < 9 + (cs.length : Int)) ∧ ((hmR ms m).2.1 = 2 → (hmR ms m).2.2.1 = 0 ∧ (hmR ms m).2.2.2.2.2.2.1 = (hmR ms m).2.2.2.2.2.2.2)
theorem hmR_e {m : Int} {r : hMR} (h0 : 0 ≤ m) (h : ms[m.toNat]? = some r) : hmR ms m = r := by unfold hmR; rw [List.getD_eq_getElem?_getD, h]; rfl
theorem hmR_i {m : Int} (h0 : 0 ≤ m) (h : m < (ms.length : Int)) : ms[m.toNat]? = some (hmR ms m) := by
  unfold hmR
  rw [List.getD_eq_getElem?_getD, List.getElem?_eq_getElem (by omega)]
  rfl
theorem hcR_i {k : Int} (h0 : 0 ≤ k) (h : k < (cs.length : Int)) : cs[k.toNat]? = some (hcR cs k) := by
  unfold hcR
  rw [List.getD_eq_getElem?_getD, List.getElem?_eq_getElem (by omega)]
  rfl
theorem KC_m {t0 m0 o6 oo ob w p : Nat} {m : Int} (h : KC t0 m0 o6 oo ob w p T cs ms os S) (h0 : 0 ≤ m) (h1 : m < (ms.length : Int)) : mr_at m0 w T S m (hmR ms m) := by
  have z := h.2.2.2.2.1.2 m.toNat _ (hmR_i h0 h1)
  rw [show ((m.toNat : Nat) : Int) = m by omega] at z
  exact z
theorem KC_c {t0 m0 o6 oo ob w p : Nat} {k : Int} (h : KC t0 m0 o6 oo ob w p T cs ms os S) (h0 : 0 ≤ k) (h1 : k < (cs.length : Int)) : tr_at t0 S k (hcR cs k) := by
  have z := h.2.2.2.1 k.toNat _ (hcR_i h0 h1)
  rw [show ((k.toNat : Nat) : Int) = k by omega] at z
  exact z
theorem KC_o {t0 m0 o6 oo ob w p : Nat} {k : Int} (h : KC t0 m0 o6 oo ob w p T cs ms os S) (h0 : 0 ≤ k) (h1 : k < (cs.length : Int)) : od_1 o6 oo ob S k (os k) := h.2.2.2.2.2.1 k h0 h1
theorem KC_n {t0 m0 o6 oo ob w p : Nat} (h : KC t0 m0 o6 oo ob w p T cs ms os S) : S p 2 = (cs.length : Int) ∧ S p 4 = (ms.length : Int) ∧ cs.length ≤ 60 ∧ ms.length ≤ 400 := ⟨h.1, h.2.2.1, h.2.1, h.2.2.2.2.1.1⟩
theorem prT_rg {m : Int} {i : Nat} (hw : wHo cs ms os) (h0 : 0 ≤ m) (h1 : m < (ms.length : Int)) (hn : 1 ≤ (hmR ms m).2.2.2.2.1.length) : 1 ≤ prT (hmR ms m) i ∧ prT (hmR ms m) i < 9 + (cs.length : Int) := by
  have hp := ((hw.2.2.2 m h0 h1).2.2.2).1
  unfold prT
  obtain ⟨j, hj⟩ : ∃ j : Nat, j = (if i < (hmR ms m).2.2.2.2.1.length then i else (hmR ms m).2.2.2.2.1.length - 1) := ⟨_, rfl⟩
  rw [← hj]
  have hjl : j < (hmR ms m).2.2.2.2.1.length := by rw [hj]; split <;> omega
  rw [List.getD_eq_getElem?_getD, List.getElem?_eq_getElem hjl]
  exact hp _ (List.getElem_mem hjl)
theorem mIx_rg {o x : Int} (hw : wHo cs ms os) (h0 : 0 ≤ o) (h1 : o < (cs.length : Int)) (hx : x ∈ mIx cs o) : 0 ≤ x ∧ x < (ms.length : Int) := by
  have z := (hw.2.1 o h0 h1).2.1
  have y := (ivl_m _ _ _).mp hx
  omega
theorem mOr_rg {x : Int} {l : List Int} (hw : wHo cs ms os) (hl : ∀ o ∈ l, 0 ≤ o ∧ o < (cs.length : Int)) (hx : x ∈ mOr cs l) : 0 ≤ x ∧ x < (ms.length : Int) := by
  obtain ⟨o, ho, hxo⟩ := List.mem_flatMap.mp hx
  exact mIx_rg hw (hl o ho).1 (hl o ho).2 hxo
/-- the word stands for the name W, at members of a sort -/
def wdM (m0 : Nat) (T : Int → Int) (ms : List hMR) (S : wS) (so word : Int) (W : List Int) : Prop := ∀ m : Int, 0 ≤ m → m < (ms.length : Int) → (hmR ms m).2.1 = so → (S (m0 + 14) m = word ↔ nmR T (hmR ms m) = W)
end Wh3
