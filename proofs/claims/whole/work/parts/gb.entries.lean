/-! PART gb: entries of sites: chains and lists; the relation of the class. -/
section Wgb
/-- an entry: linker, guard, name of an element, holder, which, shape, when, how many ES, their classes -/
abbrev aE : Type := Int × Int × Int × Int × Int × Int × Int × Int × Int
variable {S Z A : wS} {E : Int → List aE} {ix : Int → List Int} {fl : List Int} {ow : Int → Int} {X Y : Int → Int} {a b s kd nm : Int} {e : aE} {p q : List Int} {pe qe : List aE}
def fUp {α : Type} (f : Int → α) (s : Int) (v : α) (x : Int) : α := if x = s then v else f x
theorem fUp_s {α : Type} {f : Int → α} {v : α} : fUp f s v s = v := if_pos rfl
theorem fUp_n {α : Type} {f : Int → α} {v : α} {x : Int} (h : x ≠ s) : fUp f s v x = f x := if_neg h
/-- a chain of entries -/
def chL (X : Int → Int) : List Int → Int → Prop
  | [], h => h = -1
  | a :: l, h => h = a ∧ 0 ≤ a ∧ chL X l (X a)
theorem chL_cg : ∀ (l : List Int) (h : Int), (∀ x ∈ l, Y x = X x) → chL X l h → chL Y l h
  | [], _, _, q => q
  | a :: l, h, e, q => ⟨q.1, q.2.1, by
    rw [e a (List.mem_cons.mpr (Or.inl rfl))]
    exact chL_cg l _ (fun x hx => e x (List.mem_cons.mpr (Or.inr hx))) q.2.2⟩
theorem chL_0 : ∀ (l : List Int) (h : Int), chL X l h → ∀ x ∈ l, 0 ≤ x
  | [], _, _, _, hx => absurd hx List.not_mem_nil
  | a :: l, _, q, x, hx => by
    rcases List.mem_cons.mp hx with z | z
    · rw [z]; exact q.2.1
    · exact chL_0 l _ q.2.2 x z
theorem chL_rm : ∀ (p : List Int) (h : Int), ((p ++ [b]) ++ a :: q).Nodup → chL X ((p ++ [b]) ++ a :: q) h → (∀ x : Int, x ≠ a → x ≠ b → Y x = X x) → Y b = X a → chL Y ((p ++ [b]) ++ q) h
  | [], h, hn, hc, e, eb => by
    have hn2 : (b :: a :: q).Nodup := hn
    have hc2 : chL X (b :: a :: q) h := hc
    show chL Y (b :: q) h
    obtain ⟨n1, n2⟩ := List.nodup_cons.mp hn2
    obtain ⟨n3, n4⟩ := List.nodup_cons.mp n2
    refine ⟨hc2.1, hc2.2.1, ?_⟩
    rw [eb]
    exact chL_cg q _ (fun x hx => e x (fun z => n3 (z ▸ hx)) (fun z => n1 (List.mem_cons.mpr (Or.inr (z ▸ hx))))) hc2.2.2.2.2
  | c :: p, h, hn, hc, e, eb => by
    have hn2 : (c :: ((p ++ [b]) ++ a :: q)).Nodup := hn
    have hc2 : chL X (c :: ((p ++ [b]) ++ a :: q)) h := hc
    show chL Y (c :: ((p ++ [b]) ++ q)) h
    obtain ⟨n1, n2⟩ := List.nodup_cons.mp hn2
    refine ⟨hc2.1, hc2.2.1, ?_⟩
    rw [e c (fun z => n1 (List.mem_append.mpr (Or.inr (List.mem_cons.mpr (Or.inl z))))) (fun z => n1 (List.mem_append.mpr (Or.inl (List.mem_append.mpr (Or.inr (List.mem_cons.mpr (Or.inl z)))))))]
    exact chL_rm p _ n2 hc2.2.2 e eb
/-- sums over the sites -/
def sE (f : Int → Int) : Nat → Int
  | 0 => 0
  | n + 1 => sE f n + f (n : Int)
theorem sE_up {f g : Int → Int} {v : Int} (h : ∀ x : Int, x ≠ s → g x = f x) (h2 : g s = f s + v) : ∀ n : Nat, sE g n = sE f n + (if 0 ≤ s ∧ s < (n : Int) then v else 0)
  | 0 => by
    rw [if_neg (by omega)]; rfl
  | n + 1 => by
    show sE g n + g (n : Int) = sE f n + f (n : Int) + _
    rw [sE_up h h2 n]
    by_cases c : (n : Int) = s
    · rw [c, h2, if_neg (by omega), if_pos (by omega)]; omega
    · rw [h _ c]
      by_cases c2 : 0 ≤ s ∧ s < (n : Int)
      · rw [if_pos c2, if_pos (by omega)]; omega
      · rw [if_neg c2, if_neg (by omega)]; omega
theorem sE_cg {f g : Int → Int} : ∀ n : Nat, (∀ x : Int, 0 ≤ x → x < (n : Int) → g x = f x) → sE g n = sE f n
  | 0, _ => rfl
  | n + 1, h => by
    show sE g n + g (n : Int) = sE f n + f (n : Int)
    rw [sE_cg n (fun x x0 x1 => h x x0 (by omega)), h (n : Int) (by omega) (by omega)]
theorem sE_le {f : Int → Int} : ∀ n : Nat, (∀ x : Int, 0 ≤ x → x < (n : Int) → 0 ≤ f x ∧ f x ≤ 4) → 0 ≤ sE f n ∧ sE f n ≤ 4 * (n : Int)
  | 0, _ => ⟨Int.le_refl _, Int.le_refl _⟩
  | n + 1, h => by
    show 0 ≤ sE f n + f (n : Int) ∧ sE f n + f (n : Int) ≤ 4 * ((n + 1 : Nat) : Int)
    have h1 := sE_le n (fun x x0 x1 => h x x0 (by omega))
    have h2 := h (n : Int) (by omega) (by omega)
    omega
/-- the columns of an entry in the class -/
def cNm (kd nm : Int) (e : aE) : Int := if e.1 = 0 ∧ kd ≠ 4 ∧ kd ≠ 6 then (if kd = 2 ∨ kd = 3 then e.2.2.1 else nm) else -1
def eSn (kd : Int) (e : aE) : Int := if e.1 = 0 ∧ (kd = 0 ∨ kd = 2 ∨ kd = 5) ∧ ¬ (0 ≤ e.2.2.2.2.1 ∧ e.2.2.2.1 = -1) then e.2.2.2.2.2.2.1 else -1
def eEs (kd : Int) (e : aE) : Prop := (e.1 = 1 ∨ e.1 = 2) ∧ (kd = 5 ∨ kd = 6 ∨ (kd = 1 ∧ e.2.2.2.2.2.2.2.1 = 1))
noncomputable def cLo (kd : Int) (e : aE) : Int := if (e.1 = 1 ∨ e.1 = 2) ∧ (kd = 5 ∨ kd = 6 ∨ (kd = 1 ∧ e.2.2.2.2.2.2.2.1 = 1)) then wb_l2i e.2.2.2.2.2.2.2.2 else -1
noncomputable def cHi (kd : Int) (e : aE) : Int := if (e.1 = 1 ∨ e.1 = 2) ∧ (kd = 5 ∨ kd = 6 ∨ (kd = 1 ∧ e.2.2.2.2.2.2.2.1 = 1)) then wb_l2i (wb_lushr e.2.2.2.2.2.2.2.2 32) else -1
def cEc (S : wS) (kd nm : Int) (e : aE) (x : Int) : Prop := (S 48 x = e.1 ∧ S 49 x = e.2.1 ∧ S 50 x = e.2.2.2.1 ∧ S 51 x = e.2.2.2.2.1 ∧ S 52 x = e.2.2.2.2.2.1) ∧ S 53 x = cNm kd nm e ∧ S 54 x = eSn kd e ∧ S 55 x = cLo kd e ∧ S 56 x = cHi kd e
theorem cEc_ag {x y : Int} (h : cEc S kd nm e x) (f : ∀ j : Nat, 48 ≤ j → j ≤ 56 → Z j y = S j x) : cEc Z kd nm e y := by
  obtain ⟨⟨h1, h2, h3, h4, h5⟩, h6, h7, h8, h9⟩ := h
  exact ⟨⟨(f 48 (by first | decide | omega) (by first | decide | omega)).trans h1, (f 49 (by first | decide | omega) (by first | decide | omega)).trans h2, (f 50 (by first | decide | omega) (by first | decide | omega)).trans h3, (f 51 (by first | decide | omega) (by first | decide | omega)).trans h4, (f 52 (by first | decide | omega) (by first | decide | omega)).trans h5⟩, (f 53 (by first | decide | omega) (by first | decide | omega)).trans h6, (f 54 (by first | decide | omega) (by first | decide | omega)).trans h7, (f 55 (by first | decide | omega) (by first | decide | omega)).trans h8, (f 56 (by first | decide | omega) (by first | decide | omega)).trans h9⟩
/-- tables of sites and entries -/
def cSl (S : wS) : Prop := (∀ x : Nat, x < 12 → S (35 + x) (-1) = S 35 (-1)) ∧ (0 ≤ S 19 9 ∧ S 19 9 ≤ S 35 (-1) ∧ S 19 9 ≤ 4000 ∧ S 35 (-1) ≤ 8191) ∧ (∀ x : Nat, x < 10 → S (48 + x) (-1) = S 48 (-1)) ∧ (0 ≤ S 19 11 ∧ S 19 11 ≤ S 48 (-1) ∧ 16 ≤ S 48 (-1) ∧ S 48 (-1) ≤ 32767)
/-- one site -/
def cS1 (S : wS) (ow : Int → Int) (s : Int) (es : List aE) (l : List Int) : Prop := S 44 s = (es.length : Int) ∧ es.length ≤ 4 ∧ l.length = es.length ∧ chL (S 57) l (S 46 s) ∧ l.Nodup ∧ (∀ x ∈ l, ow x = s ∧ x < S 19 11) ∧ ∀ i : Nat, i < es.length → cEc S (S 35 s) (S 36 s) (es.getD i (0, 0, 0, 0, 0, 0, 0, 0, 0)) (l.getD i 0)
/-- all sites, the free entries, the one that is found into -/
def cSe (S : wS) (E : Int → List aE) (ix : Int → List Int) (fl : List Int) (ow : Int → Int) : Prop := cSl S ∧ (∀ s : Int, 0 ≤ s → s < S 19 9 → cS1 S ow s (E s) (ix s)) ∧ (chL (S 57) fl (S 19 12) ∧ fl.Nodup ∧ ∀ x ∈ fl, ow x = -1 ∧ x < S 19 11) ∧ (0 ≤ S 158 14 ∧ S 158 14 < S 19 11 ∧ ow (S 158 14) = -2) ∧ S 19 11 = sE (S 44) (S 19 9).toNat + (fl.length : Int) + 1
/-- the slots that it speaks of -/
def cEo (j : Nat) (x : Int) : Prop := j = 35 ∨ j = 36 ∨ j = 44 ∨ j = 46 ∨ (48 ≤ j ∧ j ≤ 57) ∨ (35 ≤ j ∧ j ≤ 46 ∧ x = -1) ∨ (j = 19 ∧ (x = 9 ∨ x = 11 ∨ x = 12)) ∨ (j = 158 ∧ x = 14)
theorem cSl_ag (h : cSl S) (f : ∀ (j : Nat) (x : Int), cEo j x → Z j x = S j x) : cSl Z := by
  obtain ⟨h1, h2, h3, h4⟩ := h
  have l1 : ∀ x : Nat, x < 12 → Z (35 + x) (-1) = S (35 + x) (-1) := fun x hx => f _ _ (by unfold cEo; omega)
  have l2 : ∀ x : Nat, x < 10 → Z (48 + x) (-1) = S (48 + x) (-1) := fun x hx => f _ _ (by unfold cEo; omega)
  have l3 := l1 0 (by first | decide | omega)
  have l4 := l2 0 (by first | decide | omega)
  replace l3 : Z 35 (-1) = S 35 (-1) := l3
  replace l4 : Z 48 (-1) = S 48 (-1) := l4
  refine ⟨fun x hx => by rw [l1 x hx, l3]; exact h1 x hx, ?_, fun x hx => by rw [l2 x hx, l4]; exact h3 x hx, ?_⟩
  · rw [l3, f 19 9 (by unfold cEo; omega)]; exact h2
  · rw [l4, f 19 11 (by unfold cEo; omega)]; exact h4
theorem cSe_ag (h : cSe S E ix fl ow) (f : ∀ (j : Nat) (x : Int), cEo j x → Z j x = S j x) : cSe Z E ix fl ow := by
  obtain ⟨h1, h2, ⟨h3, h3b, h3c⟩, h4, h5⟩ := h
  have r57 : Z 57 = S 57 := funext (fun x => f 57 x (by unfold cEo; omega))
  have r44 : Z 44 = S 44 := funext (fun x => f 44 x (by unfold cEo; omega))
  have r9 : Z 19 9 = S 19 9 := f 19 9 (by unfold cEo; omega)
  have r11 : Z 19 11 = S 19 11 := f 19 11 (by unfold cEo; omega)
  have r12 : Z 19 12 = S 19 12 := f 19 12 (by unfold cEo; omega)
  have r14 : Z 158 14 = S 158 14 := f 158 14 (by unfold cEo; omega)
  refine ⟨cSl_ag h1 f, fun s s0 s1 => ?_, ⟨by rw [r57, r12]; exact h3, h3b, fun x hx => by rw [r11]; exact h3c x hx⟩, by rw [r14, r11]; exact h4, by rw [r11, r44, r9]; exact h5⟩
  rw [r9] at s1
  obtain ⟨g1, g2, g3, g4, g5, g6, g7⟩ := h2 s s0 s1
  refine ⟨by rw [r44]; exact g1, g2, g3, by rw [r57, f 46 s (by unfold cEo; omega)]; exact g4, g5, fun x hx => by rw [r11]; exact g6 x hx, fun i hi => ?_⟩
  rw [f 35 s (by unfold cEo; omega), f 36 s (by unfold cEo; omega)]
  exact cEc_ag (g7 i hi) (fun j j0 j1 => f j _ (by unfold cEo; omega))
/-- the entry that is found into is no site's -/
theorem cSe_fo (h : cSe S E ix fl ow) (f : ∀ (j : Nat) (x : Int), cEo j x → (j < 48 ∨ 57 < j ∨ x ≠ S 158 14) → Z j x = S j x) : cSe Z E ix fl ow := by
  obtain ⟨h1, h2, ⟨h3, h3b, h3c⟩, ⟨h4, h4b, h4c⟩, h5⟩ := h
  have r44 : Z 44 = S 44 := funext (fun x => f 44 x (by unfold cEo; omega) (by omega))
  have r9 : Z 19 9 = S 19 9 := f 19 9 (by unfold cEo; omega) (by omega)
  have r11 : Z 19 11 = S 19 11 := f 19 11 (by unfold cEo; omega) (by omega)
  have r12 : Z 19 12 = S 19 12 := f 19 12 (by unfold cEo; omega) (by omega)
  have r14 : Z 158 14 = S 158 14 := f 158 14 (by unfold cEo; omega) (by omega)
  have ef : ∀ x : Int, ow x ≠ -2 → ∀ j : Nat, 48 ≤ j → j ≤ 57 → Z j x = S j x := fun x hx j j0 j1 => f j x (by unfold cEo; omega) (Or.inr (Or.inr (fun z => hx (by rw [z]; exact h4c))))
  have hl : cSl Z := by
    obtain ⟨q1, q2, q3, q4⟩ := h1
    have l1 : ∀ x : Nat, x < 12 → Z (35 + x) (-1) = S (35 + x) (-1) := fun x hx => f _ _ (by unfold cEo; omega) (by omega)
    have l2 : ∀ x : Nat, x < 10 → Z (48 + x) (-1) = S (48 + x) (-1) := fun x hx => f _ _ (by unfold cEo; omega) (by omega)
    have l3 : Z 35 (-1) = S 35 (-1) := l1 0 (by first | decide | omega)
    have l4 : Z 48 (-1) = S 48 (-1) := l2 0 (by first | decide | omega)
    exact ⟨fun x hx => by rw [l1 x hx, l3]; exact q1 x hx, by rw [l3, r9]; exact q2, fun x hx => by rw [l2 x hx, l4]; exact q3 x hx, by rw [l4, r11]; exact q4⟩
  refine ⟨hl, fun s s0 s1 => ?_, ⟨?_, h3b, fun x hx => by rw [r11]; exact h3c x hx⟩, by rw [r14, r11]; exact ⟨h4, h4b, h4c⟩, by rw [r11, r44, r9]; exact h5⟩
  · rw [r9] at s1
    obtain ⟨g1, g2, g3, g4, g5, g6, g7⟩ := h2 s s0 s1
    refine ⟨by rw [r44]; exact g1, g2, g3, ?_, g5, fun x hx => by rw [r11]; exact g6 x hx, fun i hi => ?_⟩
    · rw [f 46 s (by unfold cEo; omega) (by omega)]
      exact chL_cg _ _ (fun x hx => ef x (by have := (g6 x hx).1; omega) 57 (by first | decide | omega) (by first | decide | omega)) g4
    · rw [f 35 s (by unfold cEo; omega) (by omega), f 36 s (by unfold cEo; omega) (by omega)]
      have hm : (ix s).getD i 0 ∈ ix s := by
        rw [List.getD_eq_getElem?_getD, List.getElem?_eq_getElem (by omega)]
        exact List.getElem_mem _
      exact cEc_ag (g7 i hi) (fun j j0 j1 => ef _ (by have := (g6 _ hm).1; omega) j (by omega) (by omega))
  · rw [r12]
    exact chL_cg _ _ (fun x hx => ef x (by have := (h3c x hx).1; omega) 57 (by first | decide | omega) (by first | decide | omega)) h3
/-- an entry is taken out of a site's chain -/
noncomputable def rmZ (s b a : Int) (S : wS) : wS := w_up (w_up (w_up (if b = -1 then w_up S 46 s (S 57 a) else w_up S 57 b (S 57 a)) 44 s (S 44 s - 1)) 57 a (S 19 12)) 19 12 a
theorem gLa {α : Type} {d : α} {l m : List α} {i : Nat} (h : i < l.length) : (l ++ m).getD i d = l.getD i d := by
  rw [List.getD_eq_getElem?_getD, List.getElem?_append_left h, ← List.getD_eq_getElem?_getD]
theorem gLb {α : Type} {d : α} {l m : List α} {i : Nat} (h : l.length ≤ i) : (l ++ m).getD i d = m.getD (i - l.length) d := by
  rw [List.getD_eq_getElem?_getD, List.getElem?_append_right h, ← List.getD_eq_getElem?_getD]
theorem rmZ_e (j : Nat) (x : Int) (h1 : (j ≠ 46 ∧ j ≠ 44) ∨ x ≠ s) (h2 : j ≠ 57) (h3 : j ≠ 19 ∨ x ≠ 12) : rmZ s b a S j x = S j x := by
  unfold rmZ
  rw [w_up_no (by omega), w_up_no (by omega), w_up_no (by omega)]
  by_cases c : b = -1
  · rw [if_pos c]; exact w_up_no (by omega)
  · rw [if_neg c]; exact w_up_no (by omega)
theorem rmZ_57 {x : Int} (h1 : x ≠ a) (h2 : b = -1 ∨ x ≠ b) : rmZ s b a S 57 x = S 57 x := by
  unfold rmZ
  rw [w_up_no (by omega), w_up_no (by omega), w_up_no (by omega)]
  by_cases c : b = -1
  · rw [if_pos c]; exact w_up_no (by omega)
  · rw [if_neg c]; exact w_up_no (by omega)
theorem rmZ_a : rmZ s b a S 57 a = S 19 12 ∧ rmZ s b a S 19 12 = a ∧ rmZ s b a S 44 s = S 44 s - 1 := by
  refine ⟨(w_up_slot (by first | decide | omega)).trans (w_up_same _ _ _ _), w_up_same _ _ _ _, (w_up_slot (by first | decide | omega)).trans ((w_up_slot (by first | decide | omega)).trans (w_up_same _ _ _ _))⟩
theorem rmZ_b (h : b ≠ -1) (h2 : b ≠ a) : rmZ s b a S 57 b = S 57 a ∧ rmZ s b a S 46 s = S 46 s := by
  unfold rmZ
  rw [if_neg h]
  exact ⟨(w_up_slot (by first | decide | omega)).trans ((w_up_at h2).trans ((w_up_slot (by first | decide | omega)).trans (w_up_same _ _ _ _))), (w_up_slot (by first | decide | omega)).trans ((w_up_slot (by first | decide | omega)).trans ((w_up_slot (by first | decide | omega)).trans (w_up_slot (by first | decide | omega))))⟩
theorem rmZ_0 : rmZ s (-1) a S 46 s = S 57 a := by
  unfold rmZ
  rw [if_pos rfl]
  exact (w_up_slot (by first | decide | omega)).trans ((w_up_slot (by first | decide | omega)).trans ((w_up_slot (by first | decide | omega)).trans (w_up_same _ _ _ _)))
theorem cSe_rm (h : cSe S E ix fl ow) (hs : 0 ≤ s ∧ s < S 19 9) (hE : E s = pe ++ e :: qe) (hx : ix s = p ++ a :: q) (hl : p.length = pe.length) (hb : (p = [] ∧ b = -1) ∨ ∃ p2 : List Int, p = p2 ++ [b]) : cSe (rmZ s b a S) (fUp E s (pe ++ qe)) (fUp ix s (p ++ q)) (a :: fl) (fUp ow a (-1)) := by
  obtain ⟨h1, h2, ⟨h3, h3b, h3c⟩, ⟨h4, h4b, h4c⟩, h5⟩ := h
  obtain ⟨g1, g2, g3, g4, g5, g6, g7⟩ := h2 s hs.1 hs.2
  rw [hx] at g3 g4 g5 g6 g7
  rw [hE] at g1 g2 g3 g7
  have oa : ow a = s ∧ a < S 19 11 := g6 a List.mem_append_cons_self
  have a0 : 0 ≤ a := chL_0 _ _ g4 a List.mem_append_cons_self
  have ob : b = -1 ∨ (0 ≤ b ∧ ow b = s ∧ b ≠ a) := by
    rcases hb with ⟨-, z⟩ | ⟨p2, z⟩
    · exact Or.inl z
    · have mb : b ∈ p := by rw [z]; exact List.mem_append.mpr (Or.inr (List.mem_cons.mpr (Or.inl rfl)))
      have mb2 : b ∈ p ++ a :: q := List.mem_append.mpr (Or.inl mb)
      exact Or.inr ⟨chL_0 _ _ g4 b mb2, (g6 b mb2).1, (List.nodup_append.mp g5).2.2 b mb a (List.mem_cons.mpr (Or.inl rfl))⟩
  have e57 : ∀ x : Int, ow x ≠ s → rmZ s b a S 57 x = S 57 x := fun x hx2 => rmZ_57 (fun z => hx2 (by rw [z]; exact oa.1)) (by
    rcases ob with z | ⟨-, z, -⟩
    · exact Or.inl z
    · exact Or.inr (fun y => hx2 (by rw [y]; exact z)))
  have r9 : rmZ s b a S 19 9 = S 19 9 := rmZ_e 19 9 (Or.inl (by first | decide | omega)) (by first | decide | omega) (by first | decide | omega)
  have r11 : rmZ s b a S 19 11 = S 19 11 := rmZ_e 19 11 (Or.inl (by first | decide | omega)) (by first | decide | omega) (by first | decide | omega)
  have r14 : rmZ s b a S 158 14 = S 158 14 := rmZ_e 158 14 (Or.inl (by first | decide | omega)) (by first | decide | omega) (by first | decide | omega)
  have ec : ∀ (j : Nat) (x : Int), 48 ≤ j → j ≤ 56 → rmZ s b a S j x = S j x := fun j x j0 j1 => rmZ_e j x (Or.inl (by omega)) (by omega) (by omega)
  have r57l : rmZ s b a S 57 (-1) = S 57 (-1) := by
    rcases ob with z | ⟨z, -, -⟩
    · exact rmZ_57 (by omega) (Or.inl z)
    · exact rmZ_57 (by omega) (Or.inr (by omega))
  have hcl : cSl (rmZ s b a S) := by
    obtain ⟨q1, q2, q3, q4⟩ := h1
    have l1 : ∀ x : Nat, x < 12 → rmZ s b a S (35 + x) (-1) = S (35 + x) (-1) := fun x hx2 => rmZ_e _ _ (Or.inr (by omega)) (by omega) (by omega)
    have l2 : ∀ x : Nat, x < 10 → rmZ s b a S (48 + x) (-1) = S (48 + x) (-1) := fun x hx2 => by
      by_cases c : x = 9
      · rw [c]; exact r57l
      · exact rmZ_e _ _ (Or.inr (by omega)) (by omega) (by omega)
    have l3 : rmZ s b a S 35 (-1) = S 35 (-1) := l1 0 (by first | decide | omega)
    have l4 : rmZ s b a S 48 (-1) = S 48 (-1) := l2 0 (by first | decide | omega)
    exact ⟨fun x hx2 => by rw [l1 x hx2, l3]; exact q1 x hx2, by rw [l3, r9]; exact q2, fun x hx2 => by rw [l2 x hx2, l4]; exact q3 x hx2, by rw [l4, r11]; exact q4⟩
  have ndA := List.nodup_append.mp g5
  have ndq := List.nodup_cons.mp ndA.2.1
  refine ⟨hcl, fun t t0 t1 => ?_, ⟨⟨rmZ_a.2.1, a0, ?_⟩, List.nodup_cons.mpr ⟨fun z => by have := (h3c a z).1; omega, h3b⟩, fun x hx2 => ?_⟩, ?_, ?_⟩
  · rw [r9] at t1
    by_cases c : t = s
    · rw [c, fUp_s, fUp_s]
      have nd2 : (p ++ q).Nodup := List.Nodup.sublist (List.Sublist.append_left (List.sublist_cons_self a q) p) g5
      have ln : (pe ++ e :: qe).length = (pe ++ qe).length + 1 := by rw [List.length_append, List.length_append, List.length_cons]; omega
      refine ⟨by rw [rmZ_a.2.2, g1, ln]; omega, by omega, ?_, ?_, nd2, fun x hx2 => ?_, fun i hi => ?_⟩
      · rw [List.length_append, List.length_cons, List.length_append, List.length_cons] at g3
        rw [List.length_append, List.length_append]; omega
      · rcases hb with ⟨z1, z2⟩ | ⟨p2, z⟩
        · rw [z2, rmZ_0]
          rw [z1] at g4
          rw [z1]
          have g4b : chL (S 57) (a :: q) (S 46 s) := g4
          show chL _ q _
          exact chL_cg q _ (fun x hx2 => rmZ_57 (fun y => ndq.1 (y ▸ hx2)) (Or.inl rfl)) g4b.2.2
        · have ob2 : b ≠ -1 ∧ b ≠ a := by
            have mb : b ∈ p := by rw [z]; exact List.mem_append.mpr (Or.inr (List.mem_cons.mpr (Or.inl rfl)))
            have mb2 : b ∈ p ++ a :: q := List.mem_append.mpr (Or.inl mb)
            have := chL_0 _ _ g4 b mb2
            exact ⟨by omega, ndA.2.2 b mb a (List.mem_cons.mpr (Or.inl rfl))⟩
          rw [(rmZ_b ob2.1 ob2.2).2]
          rw [z] at g4 g5
          rw [z]
          exact chL_rm p2 _ g5 g4 (fun x x0 x1 => rmZ_57 x0 (Or.inr x1)) (rmZ_b ob2.1 ob2.2).1
      · have mx : x ∈ p ++ a :: q := by
          rcases List.mem_append.mp hx2 with z | z
          · exact List.mem_append.mpr (Or.inl z)
          · exact List.mem_append.mpr (Or.inr (List.mem_cons.mpr (Or.inr z)))
        have xa : x ≠ a := fun y => by
          rw [y] at hx2
          rcases List.mem_append.mp hx2 with z | z
          · exact ndA.2.2 a z a (List.mem_cons.mpr (Or.inl rfl)) rfl
          · exact ndq.1 z
        rw [fUp_n xa, r11]
        exact g6 x mx
      · rw [rmZ_e 35 s (Or.inl (by first | decide | omega)) (by first | decide | omega) (by first | decide | omega), rmZ_e 36 s (Or.inl (by first | decide | omega)) (by first | decide | omega) (by first | decide | omega)]
        by_cases ci : i < pe.length
        · have y := g7 i (by omega)
          rw [gLa ci, gLa (by omega)] at y
          rw [gLa ci, gLa (by omega)]
          exact cEc_ag y (fun j j0 j1 => ec j _ j0 j1)
        · have y := g7 (i + 1) (by omega)
          rw [gLb (by omega), gLb (by omega), show i + 1 - pe.length = (i - pe.length) + 1 by omega, show i + 1 - p.length = (i - pe.length) + 1 by omega, List.getD_cons_succ, List.getD_cons_succ] at y
          rw [gLb (by omega), gLb (by omega), show i - p.length = i - pe.length by omega]
          exact cEc_ag y (fun j j0 j1 => ec j _ j0 j1)
    · rw [fUp_n c, fUp_n c]
      obtain ⟨k1, k2, k3, k4, k5, k6, k7⟩ := h2 t t0 t1
      refine ⟨(rmZ_e 44 t (Or.inr c) (by first | decide | omega) (by first | decide | omega)).trans k1, k2, k3, ?_, k5, fun x hx2 => ?_, fun i hi => ?_⟩
      · rw [rmZ_e 46 t (Or.inr c) (by first | decide | omega) (by first | decide | omega)]
        exact chL_cg _ _ (fun x hx2 => e57 x (by have := (k6 x hx2).1; omega)) k4
      · have := (k6 x hx2).1
        rw [fUp_n (fun y => c (by rw [← this, y]; exact oa.1)), r11]
        exact k6 x hx2
      · rw [rmZ_e 35 t (Or.inl (by first | decide | omega)) (by first | decide | omega) (by first | decide | omega), rmZ_e 36 t (Or.inl (by first | decide | omega)) (by first | decide | omega) (by first | decide | omega)]
        exact cEc_ag (k7 i hi) (fun j j0 j1 => ec j _ j0 j1)
  · rw [rmZ_a.1]
    exact chL_cg _ _ (fun x hx2 => e57 x (by have := (h3c x hx2).1; omega)) h3
  · rw [r11]
    rcases List.mem_cons.mp hx2 with z | z
    · rw [z, fUp_s]; exact ⟨rfl, oa.2⟩
    · have := h3c x z
      rw [fUp_n (fun y => by rw [y] at this; omega)]
      exact this
  · rw [r14, r11, fUp_n (fun y => by rw [y] at h4c; omega)]
    exact ⟨h4, h4b, h4c⟩
  · have hsum := sE_up (f := S 44) (g := rmZ s b a S 44) (s := s) (v := -1) (fun x hx2 => rmZ_e 44 x (Or.inr hx2) (by first | decide | omega) (by first | decide | omega)) (by rw [rmZ_a.2.2]; omega) (S 19 9).toNat
    rw [if_pos (by omega)] at hsum
    rw [r11, r9, hsum, List.length_cons]
    omega
end Wgb
