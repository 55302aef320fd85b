/-! PART hb: the order of classes and interfaces (pure). -/
section Whb
variable {cs : List hCR} {ms : List hMR} {os : Int → List Int} {I : Int → Int}
theorem ad_mem {l : List Int} {x y : Int} : y ∈ ad_l l x ↔ y ∈ l ∨ y = x := by
  unfold ad_l
  split
  · next c => exact ⟨Or.inl, fun h => h.elim id (fun e => by rw [e]; exact c)⟩
  · rw [List.mem_append, List.mem_singleton]
theorem mg_mem : ∀ (a l : List Int) (y : Int), y ∈ a.foldl ad_l l ↔ y ∈ l ∨ y ∈ a := by
  intro a
  induction a with
  | nil => intro l y; exact ⟨Or.inl, fun h => h.elim id (fun z => absurd z List.not_mem_nil)⟩
  | cons x a ih =>
    intro l y
    rw [List.foldl_cons, ih, ad_mem, List.mem_cons]
    exact ⟨fun h => h.elim (fun z => z.elim Or.inl (fun e => Or.inr (Or.inl e))) (fun z => Or.inr (Or.inr z)), fun h => h.elim (fun z => Or.inl (Or.inl z)) (fun z => z.elim (fun e => Or.inl (Or.inr e)) Or.inr)⟩
/-- nothing comes of what is there -/
theorem mg_sub : ∀ (a l : List Int), (∀ x ∈ a, x ∈ l) → a.foldl ad_l l = l := by
  intro a
  induction a with
  | nil => intro l _; rfl
  | cons x a ih =>
    intro l h
    rw [List.foldl_cons, show ad_l l x = l from if_pos (h x List.mem_cons_self)]
    exact ih l (fun y hy => h y (List.mem_cons_of_mem _ hy))
theorem mg_ad (l a : List Int) (x : Int) : (ad_l a x).foldl ad_l l = ad_l (a.foldl ad_l l) x := by
  by_cases c : x ∈ a
  · rw [show ad_l a x = a from if_pos c, show ad_l (a.foldl ad_l l) x = a.foldl ad_l l from if_pos ((mg_mem a l x).mpr (Or.inr c))]
  · rw [show ad_l a x = a ++ [x] from if_neg c, List.foldl_append]; rfl
theorem mg_mg (l : List Int) : ∀ (b a : List Int), (b.foldl ad_l a).foldl ad_l l = b.foldl ad_l (a.foldl ad_l l) := by
  intro b
  induction b with
  | nil => intro a; rfl
  | cons x b ih =>
    intro a
    rw [List.foldl_cons, ih, mg_ad, List.foldl_cons]
theorem so2_c (l : List Int) (s : Int) (r : List Int) : so_2 I os l (s :: r) = so_2 I os (if I s = 1 then (os s).foldl ad_l l else l) r := rfl
theorem so2_a (l a b : List Int) : so_2 I os l (a ++ b) = so_2 I os (so_2 I os l a) b := List.foldl_append
theorem mg_so2 (l : List Int) : ∀ (r a : List Int), (so_2 I os a r).foldl ad_l l = so_2 I os (a.foldl ad_l l) r := by
  intro r
  induction r with
  | nil => intro a; rfl
  | cons s r ih =>
    intro a
    rw [so2_c, so2_c, ih]
    congr 1
    split
    · exact mg_mg l (os s) a
    · rfl
theorem so2_mem : ∀ (r l : List Int) (y : Int), y ∈ so_2 I os l r ↔ y ∈ l ∨ ∃ s ∈ r, I s = 1 ∧ y ∈ os s := by
  intro r
  induction r with
  | nil => intro l y; exact ⟨Or.inl, fun h => h.elim id (fun ⟨s, hs, _⟩ => absurd hs List.not_mem_nil)⟩
  | cons s r ih =>
    intro l y
    rw [so2_c, ih]
    constructor
    · rintro (h | ⟨t, ht, h1, h2⟩)
      · split at h
        · next c =>
          rcases (mg_mem _ _ _).mp h with z | z
          · exact Or.inl z
          · exact Or.inr ⟨s, List.mem_cons_self, c, z⟩
        · exact Or.inl h
      · exact Or.inr ⟨t, List.mem_cons_of_mem _ ht, h1, h2⟩
    · rintro (h | ⟨t, ht, h1, h2⟩)
      · refine Or.inl ?_
        split
        · exact (mg_mem _ _ _).mpr (Or.inl h)
        · exact h
      · rcases List.mem_cons.mp ht with e | z
        · refine Or.inl ?_
          rw [← e, if_pos h1]
          exact (mg_mem _ _ _).mpr (Or.inr h2)
        · exact Or.inr ⟨t, z, h1, h2⟩
/-- interface or class, by number -/
def Ib (cs : List hCR) (i : Int) : Int := (hcR cs i).1
def sup (cs : List hCR) (k : Int) : List Int := (hcR cs k).2.2.2.2.1
/-- the orders are as they were read -/
def wOs (cs : List hCR) (os : Int → List Int) : Prop := ∀ k : Int, 0 ≤ k → k < (cs.length : Int) → os k = so_L (Ib cs) (Ab cs) os k (sup cs k) ∧ (∀ s ∈ sup cs k, 0 ≤ s ∧ s < k) ∧ (Ib cs k = 1 → Ab cs k = -1) ∧ (-1 ≤ Ab cs k ∧ Ab cs k < k) ∧ (sup cs k).length ≤ 60
theorem chl_c {A : Int → Int} {f : Nat} {k : Int} (h : k ≠ -1) : ch_l A (f + 1) k = k :: ch_l A f (A k) := if_neg h
/-- more steps than there are classes above change nothing -/
theorem chl_f (h : wOs cs os) : ∀ (f g : Nat) (k : Int), -1 ≤ k → k < (cs.length : Int) → (k + 1).toNat ≤ f → (k + 1).toNat ≤ g → ch_l (Ab cs) f k = ch_l (Ab cs) g k := by
  intro f
  induction f with
  | zero =>
    intro g k k0 k1 hf hg
    have e : k = -1 := by omega
    rw [e]
    cases g <;> rfl
  | succ f ih =>
    intro g k k0 k1 hf hg
    by_cases c : k = -1
    · rw [c]; cases g <;> rfl
    · cases g with
      | zero => omega
      | succ g =>
        have hk := (h k (by omega) k1).2.2.2.1
        rw [chl_c c, chl_c c, ih g (Ab cs k) hk.1 (by omega) (by omega) (by omega)]
def cnL (cs : List hCR) (k : Int) : List Int := ch_l (Ab cs) (k.toNat + 1) k
theorem cnL_c (h : wOs cs os) {k : Int} (k0 : 0 ≤ k) (k1 : k < (cs.length : Int)) : cnL cs k = k :: ch_l (Ab cs) ((Ab cs k) + 1).toNat (Ab cs k) := by
  have hk := (h k k0 k1).2.2.2.1
  unfold cnL
  rw [chl_c (by omega), chl_f h k.toNat ((Ab cs k) + 1).toNat (Ab cs k) hk.1 (by omega) (by omega) (by omega)]
theorem chl_u (h : wOs cs os) {k : Int} (k0 : 0 ≤ k) (k1 : k < (cs.length : Int)) : ch_l (Ab cs) (k + 1).toNat k = cnL cs k := chl_f h _ _ k (by omega) k1 (by omega) (by omega)
theorem cnL_lt (h : wOs cs os) : ∀ (f : Nat) (k : Int), -1 ≤ k → k < (cs.length : Int) → (ch_l (Ab cs) f k).Nodup ∧ ∀ x ∈ ch_l (Ab cs) f k, 0 ≤ x ∧ x ≤ k := by
  intro f
  induction f with
  | zero => intro k _ _; exact ⟨List.nodup_nil, fun x hx => absurd hx List.not_mem_nil⟩
  | succ f ih =>
    intro k k0 k1
    by_cases c : k = -1
    · rw [c]; exact ⟨List.nodup_nil, fun x hx => absurd hx List.not_mem_nil⟩
    · have hk := (h k (by omega) k1).2.2.2.1
      obtain ⟨i1, i2⟩ := ih (Ab cs k) hk.1 (by omega)
      rw [chl_c c]
      refine ⟨List.nodup_cons.mpr ⟨fun z => by have := i2 k z; omega, i1⟩, fun x hx => ?_⟩
      rcases List.mem_cons.mp hx with e | z
      · rw [e]; omega
      · have := i2 x z; omega
theorem mg_nd : ∀ (a l : List Int), (l ++ a).Nodup → a.foldl ad_l l = l ++ a := by
  intro a
  induction a with
  | nil => intro l _; exact (List.append_nil l).symm
  | cons x a ih =>
    intro l h
    have hx : x ∉ l := fun z => by
      rw [List.nodup_append] at h
      exact h.2.2 x z x List.mem_cons_self rfl
    rw [List.foldl_cons, show ad_l l x = l ++ [x] from if_neg hx, ih (l ++ [x]) (by rw [List.append_assoc]; exact h), List.append_assoc]; rfl
theorem cnL_mg (h : wOs cs os) {k : Int} (k0 : 0 ≤ k) (k1 : k < (cs.length : Int)) : (cnL cs k).foldl ad_l [] = cnL cs k := by
  rw [mg_nd _ _ (by rw [List.nil_append]; exact (cnL_lt h _ k (by omega) k1).1)]; rfl
/-- an order, unrolled -/
theorem os_e (h : wOs cs os) {k : Int} (k0 : 0 ≤ k) (k1 : k < (cs.length : Int)) : os k = if Ab cs k = -1 then so_2 (Ib cs) os (cnL cs k) (sup cs k) else (os (Ab cs k)).foldl ad_l (so_2 (Ib cs) os (cnL cs k) (sup cs k)) := by
  have e := (h k k0 k1).1
  have e2 := cnL_mg h k0 k1
  unfold so_L at e
  unfold cnL at e2 ⊢
  rw [e2] at e
  exact e
theorem os_itf (h : wOs cs os) {k : Int} (k0 : 0 ≤ k) (k1 : k < (cs.length : Int)) (hi : Ib cs k = 1) : os k = so_2 (Ib cs) os [k] (sup cs k) := by
  have ha := (h k k0 k1).2.2.1 hi
  rw [os_e h k0 k1, if_pos ha, cnL_c h k0 k1, ha]; rfl
theorem os_self (h : wOs cs os) {k : Int} (k0 : 0 ≤ k) (k1 : k < (cs.length : Int)) : k ∈ os k := by
  have hm : k ∈ so_2 (Ib cs) os (cnL cs k) (sup cs k) := (so2_mem _ _ _).mpr (Or.inl (by rw [cnL_c h k0 k1]; exact List.mem_cons_self))
  rw [os_e h k0 k1]
  split
  · exact hm
  · exact (mg_mem _ _ _).mpr (Or.inl hm)
theorem os_up (h : wOs cs os) {k : Int} (k0 : 0 ≤ k) (k1 : k < (cs.length : Int)) (ha : Ab cs k ≠ -1) {x : Int} (hx : x ∈ os (Ab cs k)) : x ∈ os k := by
  rw [os_e h k0 k1, if_neg ha]
  exact (mg_mem _ _ _).mpr (Or.inr hx)
theorem os_sp (h : wOs cs os) {k s x : Int} (k0 : 0 ≤ k) (k1 : k < (cs.length : Int)) (hs : s ∈ sup cs k) (hi : Ib cs s = 1) (hx : x ∈ os s) : x ∈ os k := by
  have hm : x ∈ so_2 (Ib cs) os (cnL cs k) (sup cs k) := (so2_mem _ _ _).mpr (Or.inr ⟨s, hs, hi, hx⟩)
  rw [os_e h k0 k1]
  split
  · exact hm
  · exact (mg_mem _ _ _).mpr (Or.inl hm)
theorem os_ch (h : wOs cs os) : ∀ (n : Nat) (k : Int), k.toNat < n → 0 ≤ k → k < (cs.length : Int) → ∀ x ∈ cnL cs k, x ∈ os k := by
  intro n
  induction n with
  | zero => intro k hk; exact absurd hk (Nat.not_lt_zero _)
  | succ n ih =>
    intro k hk k0 k1 x hx
    have ha := (h k k0 k1).2.2.2.1
    rw [cnL_c h k0 k1] at hx
    rcases List.mem_cons.mp hx with e | z
    · rw [e]; exact os_self h k0 k1
    · by_cases c : Ab cs k = -1
      · rw [c] at z; exact absurd z List.not_mem_nil
      · rw [chl_u h (by omega) (by omega)] at z
        exact os_up h k0 k1 c (ih (Ab cs k) (by omega) (by omega) (by omega) x z)
/-- whatever stands above one that stands above -/
theorem os_tr (h : wOs cs os) : ∀ (n : Nat) (k : Int), k.toNat < n → 0 ≤ k → k < (cs.length : Int) → ∀ x ∈ os k, ∀ y ∈ os x, y ∈ os k := by
  intro n
  induction n with
  | zero => intro k hk; exact absurd hk (Nat.not_lt_zero _)
  | succ n ih =>
    intro k hk k0 k1 x hx y hy
    have ha := (h k k0 k1).2.2.2.1
    have hsp := (h k k0 k1).2.1
    have key : ∀ z ∈ so_2 (Ib cs) os (cnL cs k) (sup cs k), ∀ y ∈ os z, y ∈ os k := fun z hz y hy => by
      rcases (so2_mem _ _ _).mp hz with q | ⟨s, q1, q2, q3⟩
      · rw [cnL_c h k0 k1] at q
        rcases List.mem_cons.mp q with e | q
        · rw [e] at hy; exact hy
        · by_cases c : Ab cs k = -1
          · rw [c] at q; exact absurd q List.not_mem_nil
          · rw [chl_u h (by omega) (by omega)] at q
            exact os_up h k0 k1 c (ih (Ab cs k) (by omega) (by omega) (by omega) z (os_ch h _ _ (Nat.lt_succ_self _) (by omega) (by omega) z q) y hy)
      · have hs := hsp s q1
        exact os_sp h k0 k1 q1 q2 (ih s (by omega) hs.1 (by omega) z q3 y hy)
    rw [os_e h k0 k1] at hx
    split at hx
    · exact key x hx y hy
    · next c =>
      rcases (mg_mem _ _ _).mp hx with q | q
      · exact key x q y hy
      · exact os_up h k0 k1 c (ih (Ab cs k) (by omega) (by omega) (by omega) x q y hy)
/-- interfaces that are there have all above them -/
def iCl (cs : List hCR) (os : Int → List Int) (c : Int) (l : List Int) : Prop := ∀ x ∈ l, Ib cs x = 1 → x < c → ∀ y ∈ os x, y ∈ l
theorem iCl_s {c s : Int} {l : List Int} (h : wOs cs os) (hl : iCl cs os c l) (s0 : 0 ≤ s ∧ s < (cs.length : Int)) : iCl cs os c ((os s).foldl ad_l l) := by
  intro x hx hi hc y hy
  rcases (mg_mem _ _ _).mp hx with z | z
  · exact (mg_mem _ _ _).mpr (Or.inl (hl x z hi hc y hy))
  · exact (mg_mem _ _ _).mpr (Or.inr (os_tr h _ s (Nat.lt_succ_self _) s0.1 s0.2 x z y hy))
theorem iCl_n {c s : Int} {l : List Int} (hl : iCl cs os c l) (hsc : s < c) : iCl cs os s (l ++ [s]) := by
  intro x hx hi hc y hy
  rcases List.mem_append.mp hx with z | z
  · exact List.mem_append.mpr (Or.inl (hl x z hi (by omega) y hy))
  · rw [List.mem_singleton.mp z] at hc; omega
/-- an interface comes with all above it: merged, or gone through -/
theorem so2_new {s : Int} {l : List Int} (h : wOs cs os) (s0 : 0 ≤ s ∧ s < (cs.length : Int)) (hi : Ib cs s = 1) (hn : s ∉ l) : so_2 (Ib cs) os (l ++ [s]) (sup cs s) = (os s).foldl ad_l l := by
  rw [os_itf h s0.1 s0.2 hi, mg_so2]
  congr 1
  exact (if_neg hn).symm
theorem so2_old {c s : Int} {l : List Int} (hl : iCl cs os c l) (hi : Ib cs s = 1) (hsc : s < c) (hn : s ∈ l) : (os s).foldl ad_l l = l := mg_sub _ _ (fun y hy => hl s hn hi hsc y hy)
/-- class by class -/
def soC (cs : List hCR) (os : Int → List Int) : List Int → List Int → List Int
  | l, [] => l
  | l, k :: r => soC cs os (so_2 (Ib cs) os l (sup cs k)) r
theorem soC_e (h : wOs cs os) : ∀ (n : Nat) (k : Int) (l : List Int), k.toNat < n → 0 ≤ k → k < (cs.length : Int) → (∀ x ∈ cnL cs k, x ∈ l) → soC cs os l (cnL cs k) = (os k).foldl ad_l l := by
  intro n
  induction n with
  | zero => intro k l hk; exact absurd hk (Nat.not_lt_zero _)
  | succ n ih =>
    intro k l hk k0 k1 hl
    have ha := (h k k0 k1).2.2.2.1
    have hc := cnL_c h k0 k1
    have hm : (so_2 (Ib cs) os (cnL cs k) (sup cs k)).foldl ad_l l = so_2 (Ib cs) os l (sup cs k) := by rw [mg_so2, mg_sub _ _ hl]
    by_cases c : Ab cs k = -1
    · rw [os_e h k0 k1, if_pos c, hm, hc, c]; rfl
    · have hcu := chl_u h (k := Ab cs k) (by omega) (by omega)
      rw [os_e h k0 k1, if_neg c, mg_mg, hm, hc]
      show soC cs os (so_2 (Ib cs) os l (sup cs k)) (ch_l (Ab cs) ((Ab cs k) + 1).toNat (Ab cs k)) = _
      rw [hcu]
      refine ih (Ab cs k) _ (by omega) (by omega) (by omega) (fun x hx => (so2_mem _ _ _).mpr (Or.inl (hl x ?_)))
      rw [hc]
      exact List.mem_cons_of_mem _ (by rw [hcu]; exact hx)
/-- what the reference finds is the order that was read -/
theorem soC_os (h : wOs cs os) {k : Int} (k0 : 0 ≤ k) (k1 : k < (cs.length : Int)) : soC cs os (cnL cs k) (cnL cs k) = os k := by
  have hc := cnL_c h k0 k1
  have ha := (h k k0 k1).2.2.2.1
  by_cases c : Ab cs k = -1
  · rw [os_e h k0 k1, if_pos c, hc, c]; rfl
  · have hcu := chl_u h (k := Ab cs k) (by omega) (by omega)
    rw [os_e h k0 k1, if_neg c]
    have e : soC cs os (cnL cs k) (cnL cs k) = soC cs os (so_2 (Ib cs) os (cnL cs k) (sup cs k)) (cnL cs (Ab cs k)) := by
      rw [← hcu]
      show _ = soC cs os (so_2 (Ib cs) os (cnL cs k) (sup cs k)) (ch_l (Ab cs) ((Ab cs k) + 1).toNat (Ab cs k))
      generalize hL : so_2 (Ib cs) os (cnL cs k) (sup cs k) = L
      rw [hc]
      show soC cs os (so_2 (Ib cs) os (k :: ch_l (Ab cs) ((Ab cs k) + 1).toNat (Ab cs k)) (sup cs k)) _ = _
      rw [← hc, hL]
    rw [e]
    refine soC_e h _ (Ab cs k) _ (Nat.lt_succ_self _) (by omega) (by omega) (fun x hx => (so2_mem _ _ _).mpr (Or.inl ?_))
    rw [hc]
    exact List.mem_cons_of_mem _ (by rw [hcu]; exact hx)
end Whb
