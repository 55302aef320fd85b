/-! PART h9: choices as keys; getter and fieldOf of the class's linker. -/
section Wh9
variable {xs : List (Nat × List Int32)} {M : Nat → Prop} {d : Nat} {S Z A : wS} {T : Int → Int} {cs : List hCR} {ms : List hMR} {os : Int → List Int} {Q : wO → wS → Prop}
/-- what is asked of a choice: class, 0 others 1 statics 2 constructors, 1 for a SET, the name, the classes of the ES -/
abbrev aQ : Type := Int × Int × Int × List Int × List Int
/-- those that may be meant -/
def FA (T : Int → Int) (cs : List hCR) (ms : List hMR) (os : Int → List Int) (c am fs : Int) (WW : List Int) : List Int := cdA ms (okM T ms (if am = 2 then 2 else 1) (if am = 1 then 1 else 0) (if fs = 1 then 1 else -1) WW) [] (mOr cs (if am = 2 then [c] else os c))
def rvA (T : Int → Int) (cs : List hCR) (ms : List hMR) (os : Int → List Int) (q : aQ) : Int := if FA T cs ms os q.1 q.2.1 q.2.2.1 q.2.2.2.1 = [] then -1 else sgA cs ms q.2.2.2.2 (FA T cs ms os q.1 q.2.1 q.2.2.1 q.2.2.2.1)
/-- a key that can be asked for, and its word -/
def qOk (w : Nat) (cs : List hCR) (S : wS) (q : aQ) (wd : Int) : Prop := (0 ≤ q.1 ∧ q.1 < (cs.length : Int)) ∧ (0 ≤ q.2.1 ∧ q.2.1 ≤ 2) ∧ (q.2.2.1 = 0 ∨ q.2.2.1 = 1) ∧ (q.2.2.2.2.length ≤ 8 ∧ esOk q.2.2.2.2) ∧ ((q.2.1 = 2 ∧ wd = 12 ∧ q.2.2.2.1 = []) ∨ (q.2.1 ≠ 2 ∧ hwW w q.2.2.2.1 S wd))
def qKy (q : aQ) (wd : Int) : Int := askd q.1 q.2.1 q.2.2.1 (q.2.2.2.2.length : Int) wd
/-- the choices that are kept: the class's rows of the keys CH; wo worked out, mo at most -/
def cCh (p kA cd w : Nat) (T : Int → Int) (cs : List hCR) (ms : List hMR) (os : Int → List Int) (CH : List aQ) (wo mo : Int) (S : wS) : Prop := (∃ K : List aKp, kpR p kA K S ∧ K.length = CH.length ∧ ∀ i : Nat, i < CH.length → ∃ wd : Int, wd ≠ -1 ∧ qOk w cs S (CH.getD i (0, 0, 0, [], [])) wd ∧ kG K (i : Int) = (qKy (CH.getD i (0, 0, 0, [], [])) wd, esV (CH.getD i (0, 0, 0, [], [])).2.2.2.2, rvA T cs ms os (CH.getD i (0, 0, 0, [], []))) ∧ FA T cs ms os (CH.getD i (0, 0, 0, [], [])).1 (CH.getD i (0, 0, 0, [], [])).2.1 (CH.getD i (0, 0, 0, [], [])).2.2.1 (CH.getD i (0, 0, 0, [], [])).2.2.2.1 ≠ []) ∧ S p 18 = wo ∧ S p 17 = mo ∧ (0 ≤ mo ∧ mo ≤ 2000) ∧ (0 ≤ wo ∧ wo ≤ 10000000) ∧ (64 ≤ S cd (-1) ∧ S cd (-1) ≤ 1023) ∧ S w 7 ≤ 1024
def chN (CH : List aQ) (wo mo : Int) (q : aQ) (F : List Int) : List aQ × Int := if F = [] ∨ q ∈ CH then (CH, wo) else (if (CH.length : Int) < mo then CH ++ [q] else CH, wo + 1)
theorem hwW_u {w : Nat} {W V : List Int} {a b : Int} (hI : wd_at S w 64) (ha : hwW w W S a) (hb : hwW w V S b) (ha0 : a ≠ -1) (hb0 : b ≠ -1) : a = b ↔ W = V := by
  rcases ha with ⟨a0, a1, a2⟩ | ⟨a0, -⟩
  · rcases hb with ⟨b0, b1, b2⟩ | ⟨b0, -⟩
    · rw [wq_2 hI ⟨a0, a1⟩ ⟨b0, b1⟩ a2 b2, ls_eq]
      constructor
      · rintro ⟨z1, z2⟩
        refine ⟨by omega, fun i hi => ?_⟩
        have z3 : W.getD (0 + (i : Int)).toNat 0 = V.getD (0 + (i : Int)).toNat 0 := z2 i (by omega)
        rw [Int.zero_add, Int.toNat_natCast] at z3
        exact z3
      · rintro ⟨z1, z2⟩
        refine ⟨by omega, fun i hi => ?_⟩
        show W.getD (0 + (i : Int)).toNat 0 = V.getD (0 + (i : Int)).toNat 0
        rw [Int.zero_add, Int.toNat_natCast]
        exact z2 i (by omega)
    · exact absurd b0 hb0
  · exact absurd a0 ha0
theorem hwW_rg {w : Nat} {W : List Int} {a : Int} (ha : hwW w W S a) : -1 ≤ a ∧ (a = -1 ∨ a < S w 7) := by
  rcases ha with ⟨a0, a1, -⟩ | ⟨a0, -⟩
  · exact ⟨by omega, Or.inr a1⟩
  · exact ⟨by omega, Or.inl a0⟩
theorem qOk_rg {w : Nat} {q : aQ} {wd : Int} (h : qOk w cs S q wd) (h7 : S w 7 ≤ 1024) : -1 ≤ wd ∧ wd < 1024 := by
  rcases h.2.2.2.2 with ⟨-, z, -⟩ | ⟨-, z⟩
  · omega
  · have y := hwW_rg z; omega
/-- keys are told apart by what is asked -/
theorem qKy_e {w : Nat} {q r : aQ} {a b : Int} (hI : wd_at S w 64) (h7 : S w 7 ≤ 1024) (hq : qOk w cs S q a) (hr : qOk w cs S r b) (ha : a ≠ -1) (hb : b ≠ -1) : (qKy q a = qKy r b ∧ esV q.2.2.2.2 = esV r.2.2.2.2) ↔ q = r := by
  have ra := qOk_rg hq h7
  have rb := qOk_rg hr h7
  obtain ⟨q1, q2, q3, q4, q5⟩ := hq
  obtain ⟨r1, r2, r3, r4, r5⟩ := hr
  obtain ⟨c, am, fs, W, tl⟩ := q
  obtain ⟨c', am', fs', W', tl'⟩ := r
  constructor
  · rintro ⟨z1, z2⟩
    have z1 : ((((c * 4 + am) * 2 + fs) * 16 + (tl.length : Int)) * 1024) + a = ((((c' * 4 + am') * 2 + fs') * 16 + (tl'.length : Int)) * 1024) + b := z1
    replace q1 : 0 ≤ c ∧ c < (cs.length : Int) := q1
    replace q2 : 0 ≤ am ∧ am ≤ 2 := q2
    replace q3 : fs = 0 ∨ fs = 1 := q3
    replace q4 : tl.length ≤ 8 ∧ esOk tl := q4
    replace r1 : 0 ≤ c' ∧ c' < (cs.length : Int) := r1
    replace r2 : 0 ≤ am' ∧ am' ≤ 2 := r2
    replace r3 : fs' = 0 ∨ fs' = 1 := r3
    replace r4 : tl'.length ≤ 8 ∧ esOk tl' := r4
    have q4l := q4.1
    have r4l := r4.1
    have e1 : a = b := by omega
    have e2 : (tl.length : Int) = (tl'.length : Int) := by omega
    have e3 : fs = fs' := by omega
    have e4 : am = am' := by omega
    have e5 : c = c' := by omega
    have e6 : tl = tl' := esV_inj tl tl' q4.2 r4.2 (by omega) z2
    have e7 : W = W' := by
      rcases q5 with ⟨y1, y2, y3⟩ | ⟨y1, y2⟩
      · rcases r5 with ⟨x1, x2, x3⟩ | ⟨x1, x2⟩
        · exact y3.trans x3.symm
        · exact absurd (e4 ▸ y1) x1
      · rcases r5 with ⟨x1, x2, x3⟩ | ⟨x1, x2⟩
        · exact absurd (e4.symm ▸ x1) y1
        · exact (hwW_u hI y2 x2 ha hb).mp e1
    rw [e3, e4, e5, e6, e7]
  · intro z
    have z1 : c = c' := congrArg (fun y => y.1) z
    have z2 : am = am' := congrArg (fun y => y.2.1) z
    have z3 : fs = fs' := congrArg (fun y => y.2.2.1) z
    have z4 : W = W' := congrArg (fun y => y.2.2.2.1) z
    have z5 : tl = tl' := congrArg (fun y => y.2.2.2.2) z
    subst z1 z2 z3 z4 z5
    have e : a = b := by
      rcases q5 with ⟨y1, y2, y3⟩ | ⟨y1, y2⟩
      · rcases r5 with ⟨x1, x2, x3⟩ | ⟨x1, x2⟩
        · exact y2.trans x2.symm
        · exact absurd y1 x1
      · rcases r5 with ⟨x1, x2, x3⟩ | ⟨x1, x2⟩
        · exact absurd x1 y1
        · exact (hwW_u hI y2 x2 ha hb).mpr rfl
    rw [e]
    exact ⟨rfl, rfl⟩
theorem hwW_ag {w : Nat} {W : List Int} {a : Int} (h : hwW w W S a) (f : ∀ (j : Nat) (x : Int), w ≤ j → j ≤ w + 3 → Z j x = S j x) : hwW w W Z a := by
  have e0 : Z w 7 = S w 7 := f w 7 (by omega) (by omega)
  have e1 : Z (w + 1) = S (w + 1) := funext (fun x => f (w + 1) x (by omega) (by omega))
  have e2 : Z (w + 2) = S (w + 2) := funext (fun x => f (w + 2) x (by omega) (by omega))
  have e3 : Z (w + 3) = S (w + 3) := funext (fun x => f (w + 3) x (by omega) (by omega))
  unfold hwW
  rw [e0, e1, e2, e3]
  exact h
theorem qOk_ag {w : Nat} {q : aQ} {a : Int} (h : qOk w cs S q a) (f : ∀ (j : Nat) (x : Int), w ≤ j → j ≤ w + 3 → Z j x = S j x) : qOk w cs Z q a := by
  obtain ⟨q1, q2, q3, q4, q5⟩ := h
  refine ⟨q1, q2, q3, q4, ?_⟩
  rcases q5 with y | ⟨y1, y2⟩
  · exact Or.inl y
  · exact Or.inr ⟨y1, hwW_ag y2 f⟩
theorem cCh_ag {p kA cd w : Nat} {CH : List aQ} {wo mo : Int} (h : cCh p kA cd w T cs ms os CH wo mo S) (f : ∀ (j : Nat) (x : Int), ((w ≤ j ∧ j ≤ w + 3) ∨ (kA ≤ j ∧ j ≤ kA + 4) ∨ (j = p ∧ (x = 16 ∨ x = 17 ∨ x = 18)) ∨ (j = cd ∧ x = -1)) → Z j x = S j x) : cCh p kA cd w T cs ms os CH wo mo Z := by
  obtain ⟨⟨K, k1, k2, k3⟩, h2, h3, h4, h5, h6, h7⟩ := h
  refine ⟨⟨K, kpR_ag k1 (f p 16 (by omega)) (fun j x j0 j1 => f j x (by omega)), k2, fun i hi => ?_⟩, (f p 18 (by omega)).trans h2, (f p 17 (by omega)).trans h3, h4, h5, by rw [f cd (-1) (by omega)]; exact h6, by rw [f w 7 (by omega)]; exact h7⟩
  obtain ⟨wd, y1, y2, y3⟩ := k3 i hi
  exact ⟨wd, y1, qOk_ag y2 (fun j x j0 j1 => f j x (by omega)), y3⟩
/-- what a choice comes to, by keys -/
theorem chA_e {p kA cd w : Nat} {CH : List aQ} {wo mo wd : Int} {q : aQ} {o : wO} {t0 m0 o6 oo ob : Nat} (hcl : (w + 3 < 4000000 ∧ p < 4000000 ∧ kA + 4 < 4000000 ∧ cd < 4000000) ∧ (w + 3 < wG ∧ p < wG) ∧ (w + 3 < cd ∧ w + 3 < kA) ∧ (p < w ∧ p ≠ cd ∧ p < kA)) (hI : wd_at S w 64) (hK : KC t0 m0 o6 oo ob w p T cs ms os S) (hc : cCh p kA cd w T cs ms os CH wo mo S) (hw : wHo cs ms os) (hq : qOk w cs S q wd) (h : ∀ K : List aKp, kpR p kA K S → chQ p cd kA cs ms K (qKy q wd) wd q.2.2.2.2 (FA T cs ms os q.1 q.2.1 q.2.2.1 q.2.2.2.1) S o Z) (hI0 : gI S) (hwo : wo < 10000000) : o = .inl (some (0, rvA T cs ms os q)) ∧ cCh p kA cd w T cs ms os (chN CH wo mo q (FA T cs ms os q.1 q.2.1 q.2.2.1 q.2.2.2.1)).1 (chN CH wo mo q (FA T cs ms os q.1 q.2.1 q.2.2.1 q.2.2.2.1)).2 mo Z ∧ chF p cd kA S Z ∧ gI Z ∧ rmR S Z := by
  obtain ⟨⟨K, k1, k2, k3⟩, c2, c3, c4, c5, c6, c7⟩ := hc
  have hz := h K k1
  have hin : ∀ i : Nat, i < CH.length → ∃ z : Int, z ≠ -1 ∧ qOk w cs S (CH.getD i (0, 0, 0, [], [])) z ∧ kG K (i : Int) = (qKy (CH.getD i (0, 0, 0, [], [])) z, esV (CH.getD i (0, 0, 0, [], [])).2.2.2.2, rvA T cs ms os (CH.getD i (0, 0, 0, [], []))) ∧ FA T cs ms os (CH.getD i (0, 0, 0, [], [])).1 (CH.getD i (0, 0, 0, [], [])).2.1 (CH.getD i (0, 0, 0, [], [])).2.2.1 (CH.getD i (0, 0, 0, [], [])).2.2.2.1 ≠ [] := k3
  have hky : wd ≠ -1 → ∀ i : Nat, i < CH.length → (((kG K (i : Int)).1 = qKy q wd ∧ (kG K (i : Int)).2.1 = esV q.2.2.2.2) ↔ CH.getD i (0, 0, 0, [], []) = q) := fun hwd i hi => by
    obtain ⟨z, z1, z2, z3, -⟩ := hin i hi
    rw [z3]
    exact qKy_e hI c7 z2 hq z1 hwd
  have hmem : ∀ i : Nat, i < CH.length → CH.getD i (0, 0, 0, [], []) ∈ CH := fun i hi => by rw [List.getD_eq_getElem?_getD, List.getElem?_eq_getElem hi]; exact List.getElem_mem hi
  have hmem2 : q ∈ CH → ∃ i : Nat, i < CH.length ∧ CH.getD i (0, 0, 0, [], []) = q := fun z => by
    obtain ⟨i, hi, e⟩ := List.getElem_of_mem z
    exact ⟨i, hi, by rw [List.getD_eq_getElem?_getD, List.getElem?_eq_getElem hi, e]; rfl⟩
  have hself : cCh p kA cd w T cs ms os CH wo mo S := ⟨⟨K, k1, k2, k3⟩, c2, c3, c4, c5, c6, c7⟩
  rcases hz with ⟨z1, z2, z3⟩ | ⟨z1, ⟨x, x0, x1, x2, x3, x4⟩, z3⟩ | ⟨z1, z2, z3, z4, z5, z6, z7⟩
  · -- there is no such word
    have hF : FA T cs ms os q.1 q.2.1 q.2.2.1 q.2.2.2.1 = [] := by
      rcases hq.2.2.2.2 with ⟨-, y, -⟩ | ⟨y1, y2⟩
      · omega
      · have hlr : ∀ o ∈ (if q.2.1 = 2 then [q.1] else os q.1), 0 ≤ o ∧ o < (cs.length : Int) := fun o ho => by
          rw [if_neg y1] at ho
          exact ((hw.2.2.1 q.1 hq.1.1 hq.1.2).2.2) o ho
        have hl2 : ∀ x ∈ mOr cs (if q.2.1 = 2 then [q.1] else os q.1), 0 ≤ x ∧ x < (ms.length : Int) := fun x hx => mOr_rg hw hlr hx
        rw [z1] at y2
        exact (cdA_0 (fun x hx => (hl2 x hx).1)).mpr (fs_no hK (wdM_w hI hK y2 (by rw [if_neg y1]; decide)) (by rw [if_neg y1]; decide) hl2)
    have e : chN CH wo mo q (FA T cs ms os q.1 q.2.1 q.2.2.1 q.2.2.2.1) = (CH, wo) := if_pos (Or.inl hF)
    rw [e, z3]
    exact ⟨by rw [z2]; unfold rvA; rw [if_pos hF], hself, fun j i _ _ _ _ _ => rfl, hI0, rmR_rfl S⟩
  · -- it was kept
    obtain ⟨i, hi⟩ : ∃ i : Nat, x = (i : Int) := ⟨x.toNat, by omega⟩
    have hil : i < CH.length := by omega
    rw [hi] at x2 x3 x4
    have hqi := (hky z1 i hil).mp ⟨x2, x3⟩
    obtain ⟨z, -, -, y3, y4⟩ := hin i hil
    have hin2 : q ∈ CH := by rw [← hqi]; exact hmem i hil
    have e : chN CH wo mo q (FA T cs ms os q.1 q.2.1 q.2.2.1 q.2.2.2.1) = (CH, wo) := if_pos (Or.inr hin2)
    rw [y3, hqi] at x4
    rw [e, z3]
    exact ⟨x4, hself, fun j i _ _ _ _ _ => rfl, hI0, rmR_rfl S⟩
  · -- it is worked out
    have hnin : q ∉ CH := fun z => by
      obtain ⟨i, hi, e⟩ := hmem2 z
      exact z2 (i : Int) (by omega) (by omega) ((hky z1 i hi).mpr e)
    have fw : ∀ (j : Nat) (x : Int), w ≤ j → j ≤ w + 3 → Z j x = S j x := fun j x j0 j1 => z4 j x (by omega) (by omega) (by omega) (by omega) (by omega)
    have e17 : Z p 17 = S p 17 := z4 p 17 (by omega) (by omega) (by omega) (by omega) (Or.inr (by omega))
    have hold : ∀ i : Nat, i < CH.length → ∃ z : Int, z ≠ -1 ∧ qOk w cs Z (CH.getD i (0, 0, 0, [], [])) z ∧ kG K (i : Int) = (qKy (CH.getD i (0, 0, 0, [], [])) z, esV (CH.getD i (0, 0, 0, [], [])).2.2.2.2, rvA T cs ms os (CH.getD i (0, 0, 0, [], []))) ∧ FA T cs ms os (CH.getD i (0, 0, 0, [], [])).1 (CH.getD i (0, 0, 0, [], [])).2.1 (CH.getD i (0, 0, 0, [], [])).2.2.1 (CH.getD i (0, 0, 0, [], [])).2.2.2.1 ≠ [] := fun i hi => by
      obtain ⟨z, y1, y2, y3⟩ := hin i hi
      exact ⟨z, y1, qOk_ag y2 fw, y3⟩
    rcases z3 with ⟨y1, y2, y3, y4⟩ | ⟨y1, y2, y3, y4⟩
    · have e : chN CH wo mo q (FA T cs ms os q.1 q.2.1 q.2.2.1 q.2.2.2.1) = (CH, wo) := if_pos (Or.inl y1)
      rw [e]
      refine ⟨by rw [y2]; unfold rvA; rw [if_pos y1], ⟨⟨K, y4, k2, hold⟩, y3.trans c2, e17.trans c3, c4, c5, z5, by rw [fw w 7 (by omega) (by omega)]; exact c7⟩, z4, z6, z7⟩
    · have e : chN CH wo mo q (FA T cs ms os q.1 q.2.1 q.2.2.1 q.2.2.2.1) = (if (CH.length : Int) < mo then CH ++ [q] else CH, wo + 1) := if_neg (fun z => z.elim y1 hnin)
      rw [e]
      have hrv : rvA T cs ms os q = sgA cs ms q.2.2.2.2 (FA T cs ms os q.1 q.2.1 q.2.2.1 q.2.2.2.1) := if_neg y1
      refine ⟨by rw [y2, hrv], ⟨?_, y3.trans (by rw [c2]), e17.trans c3, c4, ⟨by omega, by omega⟩, z5, by rw [fw w 7 (by omega) (by omega)]; exact c7⟩, z4, z6, z7⟩
      rw [c3] at y4
      by_cases c : (CH.length : Int) < mo
      · rw [if_pos (by omega)] at y4
        show ∃ K2 : List aKp, kpR p kA K2 Z ∧ K2.length = (if (CH.length : Int) < mo then CH ++ [q] else CH).length ∧ ∀ i : Nat, i < (if (CH.length : Int) < mo then CH ++ [q] else CH).length → _
        rw [if_pos c]
        refine ⟨_, y4, by rw [List.length_append, List.length_append, k2]; rfl, fun i hi => ?_⟩
        rw [List.length_append, List.length_singleton] at hi
        by_cases ci : i = CH.length
        · have eg : (CH ++ [q]).getD i (0, 0, 0, [], []) = q := by rw [ci, List.getD_eq_getElem?_getD, List.getElem?_append_right (Nat.le_refl _), Nat.sub_self]; rfl
          rw [eg]
          refine ⟨wd, z1, qOk_ag hq fw, ?_, y1⟩
          rw [ci, ← k2, kG_n, hrv]
        · have eg : (CH ++ [q]).getD i (0, 0, 0, [], []) = CH.getD i (0, 0, 0, [], []) := by rw [List.getD_eq_getElem?_getD, List.getD_eq_getElem?_getD, List.getElem?_append_left (by omega)]
          rw [eg, kG_o (by omega) (by omega)]
          exact hold i (by omega)
      · rw [if_neg (by omega)] at y4
        show ∃ K2 : List aKp, kpR p kA K2 Z ∧ K2.length = (if (CH.length : Int) < mo then CH ++ [q] else CH).length ∧ ∀ i : Nat, i < (if (CH.length : Int) < mo then CH ++ [q] else CH).length → _
        rw [if_neg c]
        exact ⟨K, y4, k2, hold⟩
/-- the method that gives what a name is read for -/
def gtA (T : Int → Int) (cs : List hCR) (ms : List hMR) (os : Int → List Int) (st : Int) (W : List Int) (k : Int) : Int := if fsA (okM T ms 1 st 0 (wnW [103, 101, 116] W)) (mOr cs (os k)) ≠ -1 then fsA (okM T ms 1 st 0 (wnW [103, 101, 116] W)) (mOr cs (os k)) else if fsA (okM T ms 1 st 0 (wnW [105, 115] W)) (mOr cs (os k)) ≠ -1 ∧ (hmR ms (fsA (okM T ms 1 st 0 (wnW [105, 115] W)) (mOr cs (os k)))).2.2.2.1 = 3 then fsA (okM T ms 1 st 0 (wnW [105, 115] W)) (mOr cs (os k)) else -1
/-- the class's linker stands at a host with a name -/
def hLn (p w : Nat) (nm wk : Int) (W : List Int) (S : wS) : Prop := (S 72 1 = (p : Int) ∧ S 158 11 = nm) ∧ (0 ≤ nm ∧ nm < S 9 (-1)) ∧ (wd_at S 2 1024 ∧ wd_L S 2 1024) ∧ (S 9 nm = wk ∧ (0 ≤ wk ∧ wk < S 2 7) ∧ wqL S W wk) ∧ (wd_at S w 64 ∧ wd_L S w 64) ∧ S 159 (-1) = 64 ∧ S w 7 ≤ 1024
theorem wda_a9 {w : Nat} {H : Int} (h : wd_at S w H) (f : ∀ (j : Nat) (x : Int), w ≤ j → j ≤ w + 10 → Z j x = S j x) : wd_at Z w H := by
  unfold wd_at at h ⊢
  rw [show Z (w + 1) = S (w + 1) from funext (fun x => f (w + 1) x (by omega) (by omega)), show Z (w + 2) = S (w + 2) from funext (fun x => f (w + 2) x (by omega) (by omega)), show Z (w + 3) = S (w + 3) from funext (fun x => f (w + 3) x (by omega) (by omega)), show Z (w + 4) = S (w + 4) from funext (fun x => f (w + 4) x (by omega) (by omega)), show Z (w + 10) = S (w + 10) from funext (fun x => f (w + 10) x (by omega) (by omega)), f w 1 (by omega) (by omega), f w 7 (by omega) (by omega)]
  exact h
theorem wdL_a9 {w : Nat} {H : Int} (h : wd_L S w H) (f : ∀ (j : Nat) (x : Int), w ≤ j → j ≤ w + 10 → Z j x = S j x) : wd_L Z w H := by
  unfold wd_L at h ⊢
  rw [f (w + 10) (-1) (by omega) (by omega), f (w + 3) (-1) (by omega) (by omega), f (w + 2) (-1) (by omega) (by omega), f (w + 4) (-1) (by omega) (by omega), f (w + 5) (-1) (by omega) (by omega), f (w + 6) (-1) (by omega) (by omega), f (w + 1) (-1) (by omega) (by omega)]
  exact h
theorem hLn_ag {p w : Nat} {nm wk : Int} {W : List Int} (h : hLn p w nm wk W S) (f : ∀ (j : Nat) (x : Int), ((2 ≤ j ∧ j ≤ 12) ∨ (w ≤ j ∧ j ≤ w + 10) ∨ (j = 72 ∧ x = 1) ∨ (j = 158 ∧ x = 11) ∨ (j = 159 ∧ x = -1)) → Z j x = S j x) : hLn p w nm wk W Z := by
  obtain ⟨⟨h1, h2⟩, h3, ⟨h4, h5⟩, ⟨h6, h7, h8⟩, ⟨h9, h10⟩, h11, h12⟩ := h
  refine ⟨⟨(f 72 1 (by omega)).trans h1, (f 158 11 (by omega)).trans h2⟩, by rw [f 9 (-1) (by omega)]; exact h3, ⟨wda_a9 h4 (fun j x j0 j1 => f j x (by omega)), wdL_a9 h5 (fun j x j0 j1 => f j x (by omega))⟩, ⟨(f 9 nm (by omega)).trans h6, by rw [f 2 7 (by omega)]; exact h7, wqL_eq h8 ⟨funext (fun x => f 3 x (by omega)), funext (fun x => f 4 x (by omega)), funext (fun x => f 5 x (by omega))⟩⟩, ⟨wda_a9 h9 (fun j x j0 j1 => f j x (by omega)), wdL_a9 h10 (fun j x j0 j1 => f j x (by omega))⟩, (f 159 (-1) (by omega)).trans h11, by rw [f w 7 (by omega)]; exact h12⟩
theorem cbI_K {t0 m0 o6 oo ob w p : Nat} (hK : KC t0 m0 o6 oo ob w p T cs ms os S) (hw : wHo cs ms os) : cb_I t0 p S := by
  have hn := KC_n hK
  refine ⟨by rw [hn.1]; omega, by rw [hn.2.1]; omega, fun q q0 q1 => ?_⟩
  rw [hn.1] at q1
  have hc := KC_c hK q0 q1
  have hq := hw.2.1 q q0 q1
  rw [hc.2.1, hc.2.2.2.1, hc.2.2.2.2, hn.2.1]
  exact ⟨hq.1, hq.2.1⟩
theorem gtr_73 {k st nm wk : Int} {W : List Int} (hC : w_CL S) (hK : KC 87 97 93 114 115 74 73 T cs ms os S) (hw : wHo cs ms os) (hX : w_X xs) (hI : gI S) (hN : hLn 73 74 nm wk W S) (hk : 0 ≤ k ∧ k < (cs.length : Int)) (hst : st = 0 ∨ st = 1) : wJ (pe_GA xs) wY0 M (d + 5) t_XL_getter ((pe_at t_XL_getter.bl 0).getD (0, [])).2 [(0, (2, 158)), (1, (0, k)), (2, (0, st))] [] S (fun o Z => sc_ag 159 S Z ∧ gI Z ∧ rmR S Z ∧ o = .inl (some (0, gtA T cs ms os st W k))) := by
  have hR := rmR_rfl S
  have hn := KC_n hK
  have hn2 := hn.2.2
  have h72 : S 72 1 = 73 := hN.1.1
  have h7 := hN.2.2.2.2.2.2
  have hWh := hN.2.2.2.2.1.1
  have hos := (hw.2.2.1 k hk.1 hk.2).2.2
  have hml : ∀ x ∈ mOr cs (os k), 0 ≤ x ∧ x < (ms.length : Int) := fun x hx => mOr_rg hw hos hx
  obtain ⟨g1, hg1⟩ : ∃ g : Int, g = fsA (okM T ms 1 st 0 (wnW [103, 101, 116] W)) (mOr cs (os k)) := ⟨_, rfl⟩
  obtain ⟨g2, hg2⟩ : ∃ g : Int, g = fsA (okM T ms 1 st 0 (wnW [105, 115] W)) (mOr cs (os k)) := ⟨_, rfl⟩
  have hr1 : g1 = -1 ∨ (0 ≤ g1 ∧ g1 < (ms.length : Int)) := by
    rcases fsA_rg (ok := okM T ms 1 st 0 (wnW [103, 101, 116] W)) (mOr cs (os k)) with z | z
    · exact Or.inl (hg1.trans z)
    · rw [← hg1] at z; exact Or.inr (hml _ z.1)
  have hr2 : g2 = -1 ∨ (0 ≤ g2 ∧ g2 < (ms.length : Int)) := by
    rcases fsA_rg (ok := okM T ms 1 st 0 (wnW [105, 115] W)) (mOr cs (os k)) with z | z
    · exact Or.inl (hg2.trans z)
    · rw [← hg2] at z; exact Or.inr (hml _ z.1)
  have hgt : gtA T cs ms os st W k = if g1 ≠ -1 then g1 else if g2 ≠ -1 ∧ (hmR ms g2).2.2.2.1 = 3 then g2 else -1 := by unfold gtA; rw [← hg1, ← hg2]
  refine wa_aload_n (n := 0) rfl ?_
  refine wb_gf4 158 rfl (wy_pr rfl) wt_158 wf_5_0 (v := 72) wl_158_0 ?_
  refine wb_gf5 72 rfl (wy_pr rfl) wt_72 wf_2_1 (v := 73) (h72) (fun r1 => ?_)
  refine wa_astore_n (n := 3) rfl ?_
  refine wa_aload_n (n := 0) rfl ?_
  refine wa_ks ?_
  refine wa_cv 158 rfl (wy_pr rfl) wt_158 (M2 := fun _ => False) rfl at_XL_wordBehind ⟨_, rfl⟩ rfl rfl ⟨(Or.inr ⟨wy_pr rfl, fun q => q⟩), (Or.inr ⟨wy_pr rfl, fun q => q⟩), trivial, trivial, trivial⟩ trivial (fun _ _ q => False.elim q) (wb81_73 (S := S) hX hC hI hN.1.1 hN.1.2 hN.2.1 hN.2.2.1.1 hN.2.2.1.2 hN.2.2.2.1.1 hN.2.2.2.1.2.1 hN.2.2.2.1.2.2 hN.2.2.2.2.1.1 hN.2.2.2.2.1.2 hN.2.2.2.2.2.1) (fun oq2 Sq2 hp3 q2 => ?_)
  rcases q2 with ⟨fz2, gz2, rz2, w2, rfl, hv2⟩
  show wJ _ _ _ _ _ _ _ _ _ _
  have hvr2 := hwW_rg hv2
  have h7_2 : S 74 7 ≤ 1024 := hN.2.2.2.2.2.2
  refine wa_istore (n := 4) rfl ?_
  refine wa_iload (n := 4) rfl ?_
  refine wa_iconst ?_
  refine wa_icmpne (w_rg0 (by omega) (by omega)) (w_rg0 (by omega) (by omega)) ⟨_, rfl⟩ (fun c4 => ?_) (fun c4 => ?_)
  · skip
    refine wa_aload_n (n := 3) rfl ?_
    refine wa_iload_n (n := 1) rfl ?_
    refine wa_iload (n := 4) rfl ?_
    refine wa_iload_n (n := 2) rfl ?_
    have hwM1 : wdM 97 T ms Sq2 1 w2 (wnW [103, 101, 116] W) := wdM_w (hLn_ag hN (fun j x hj => fz2 j x (by omega))).2.2.2.2.1.1 (KC_ag hK (fz2 73 2 (by first | decide | omega)) (fz2 73 4 (by first | decide | omega)) (fun j hj => funext (fun x => fz2 j x (by omega)))) (hwW_ag hv2 (fun j x j0 j1 => fz2 j x (by omega))) (by first | decide | omega)
    refine wa_cv 73 rfl (wy_pr rfl) wt_73 (M2 := fun _ => False) rfl at_XO_plainMethod ⟨_, rfl⟩ rfl rfl ⟨trivial, (Or.inr ⟨wy_pr rfl, fun q => q⟩), (Or.inr ⟨wy_pr rfl, fun q => q⟩), trivial, trivial, trivial⟩ trivial (fun _ _ q => False.elim q) (wJ_mono (pme_73 (S := Sq2) (k := k) (word := w2) (st := st) (W := wnW [103, 101, 116] W) (fun y hy => (fz2 y.1 (-1) (by omega)).trans (hC y hy)) (KC_ag hK (fz2 73 2 (by decide)) (fz2 73 4 (by decide)) (fun j hj => funext (fun x => fz2 j x (by omega)))) hw hk hwM1 ⟨by omega, by omega⟩ hst) (fun o Z hz => (⟨hz.1, by rw [hg1]; exact hz.2⟩ : Sq2 = Z ∧ o = .inl (some (0, g1))))) (fun oq5 Sq5 hp6 q5 => ?_)
    rcases q5 with ⟨rfl, rfl⟩
    show wJ _ _ _ _ _ _ _ _ _ _
    refine wa_fall ⟨_, rfl⟩ ?_
    refine wa_istore (n := 5) rfl ?_
    refine wa_iload (n := 5) rfl ?_
    refine wa_iconst ?_
    refine wa_icmpeq (w_rg0 (by omega) (by omega)) (w_rg0 (by omega) (by omega)) ⟨_, rfl⟩ (fun c7 => ?_) (fun c7 => ?_)
    · skip
      refine wa_aload_n (n := 0) rfl ?_
      refine wa_ks ?_
      refine wa_cv 158 rfl (wy_pr rfl) wt_158 (M2 := fun _ => False) rfl at_XL_wordBehind ⟨_, rfl⟩ rfl rfl ⟨trivial, trivial, (Or.inr ⟨wy_pr rfl, fun q => q⟩), (Or.inr ⟨wy_pr rfl, fun q => q⟩), trivial, trivial, trivial⟩ trivial (fun _ _ q => False.elim q) (wb83_73 (S := Sq2) hX (fun y hy => (fz2 y.1 (-1) (by omega)).trans (hC y hy)) gz2 (hLn_ag hN (fun j x hj => fz2 j x (by omega))).1.1 (hLn_ag hN (fun j x hj => fz2 j x (by omega))).1.2 (hLn_ag hN (fun j x hj => fz2 j x (by omega))).2.1 (hLn_ag hN (fun j x hj => fz2 j x (by omega))).2.2.1.1 (hLn_ag hN (fun j x hj => fz2 j x (by omega))).2.2.1.2 (hLn_ag hN (fun j x hj => fz2 j x (by omega))).2.2.2.1.1 (hLn_ag hN (fun j x hj => fz2 j x (by omega))).2.2.2.1.2.1 (hLn_ag hN (fun j x hj => fz2 j x (by omega))).2.2.2.1.2.2 (hLn_ag hN (fun j x hj => fz2 j x (by omega))).2.2.2.2.1.1 (hLn_ag hN (fun j x hj => fz2 j x (by omega))).2.2.2.2.1.2 (hLn_ag hN (fun j x hj => fz2 j x (by omega))).2.2.2.2.2.1) (fun oq8 Sq8 hp9 q8 => ?_)
      rcases q8 with ⟨fz8, gz8, rz8, w8, rfl, hv8⟩
      show wJ _ _ _ _ _ _ _ _ _ _
      have hvr8 := hwW_rg hv8
      have h7_8 : Sq2 74 7 ≤ 1024 := (hLn_ag hN (fun j x hj => fz2 j x (by omega))).2.2.2.2.2.2
      refine wa_istore (n := 4) rfl ?_
      refine wa_iload (n := 4) rfl ?_
      refine wa_iconst ?_
      refine wa_icmpne (w_rg0 (by omega) (by omega)) (w_rg0 (by omega) (by omega)) ⟨_, rfl⟩ (fun c10 => ?_) (fun c10 => ?_)
      · skip
        refine wa_aload_n (n := 3) rfl ?_
        refine wa_iload_n (n := 1) rfl ?_
        refine wa_iload (n := 4) rfl ?_
        refine wa_iload_n (n := 2) rfl ?_
        have hwM2 : wdM 97 T ms Sq8 1 w8 (wnW [105, 115] W) := wdM_w (hLn_ag (hLn_ag hN (fun j x hj => fz2 j x (by omega))) (fun j x hj => fz8 j x (by omega))).2.2.2.2.1.1 (KC_ag (KC_ag hK (fz2 73 2 (by first | decide | omega)) (fz2 73 4 (by first | decide | omega)) (fun j hj => funext (fun x => fz2 j x (by omega)))) (fz8 73 2 (by first | decide | omega)) (fz8 73 4 (by first | decide | omega)) (fun j hj => funext (fun x => fz8 j x (by omega)))) (hwW_ag hv8 (fun j x j0 j1 => fz8 j x (by omega))) (by first | decide | omega)
        refine wa_cv 73 rfl (wy_pr rfl) wt_73 (M2 := fun _ => False) rfl at_XO_plainMethod ⟨_, rfl⟩ rfl rfl ⟨trivial, trivial, (Or.inr ⟨wy_pr rfl, fun q => q⟩), (Or.inr ⟨wy_pr rfl, fun q => q⟩), trivial, trivial, trivial⟩ trivial (fun _ _ q => False.elim q) (wJ_mono (pme_73 (S := Sq8) (k := k) (word := w8) (st := st) (W := wnW [105, 115] W) (fun y hy => (fz8 y.1 (-1) (by omega)).trans ((fun y hy => (fz2 y.1 (-1) (by omega)).trans (hC y hy)) y hy)) (KC_ag (KC_ag hK (fz2 73 2 (by decide)) (fz2 73 4 (by decide)) (fun j hj => funext (fun x => fz2 j x (by omega)))) (fz8 73 2 (by decide)) (fz8 73 4 (by decide)) (fun j hj => funext (fun x => fz8 j x (by omega)))) hw hk hwM2 ⟨by omega, by omega⟩ hst) (fun o Z hz => (⟨hz.1, by rw [hg2]; exact hz.2⟩ : Sq8 = Z ∧ o = .inl (some (0, g2))))) (fun oq11 Sq11 hp12 q11 => ?_)
        rcases q11 with ⟨rfl, rfl⟩
        show wJ _ _ _ _ _ _ _ _ _ _
        refine wa_fall ⟨_, rfl⟩ ?_
        refine wa_istore (n := 5) rfl ?_
        refine wa_iload (n := 5) rfl ?_
        refine wa_iconst ?_
        refine wa_icmpeq (w_rg0 (by omega) (by omega)) (w_rg0 (by omega) (by omega)) ⟨_, rfl⟩ (fun c13 => ?_) (fun c13 => ?_)
        · skip
          refine wa_iconst ?_
          refine wa_fall ⟨_, rfl⟩ ?_
          refine wa_ireturn rfl ?_
          refine ⟨fun j i hj => ((fz8 j i hj).trans (fz2 j i hj)), gz8, (rmR_tr rz2 rz8), congrArg (fun z => Sum.inl (some (0, z))) ?_⟩
          rw [hgt]
          rw [if_neg (by omega), if_neg (fun z => by have z1 := z.1; have z2 := z.2; omega)]
        · skip
          refine wa_aload_n (n := 3) rfl ?_
          refine wb_gf4 73 rfl (wy_pr rfl) wt_73 wf_3_3 (v := 96) wl_73_3 ?_
          refine wa_iconst ?_
          refine wb_aald5 96 3 rfl rfl (wy_pr rfl) wt_96 (by rw [show _ = _ from (((fz8 96 (-1) (by omega)).trans (((fz2 96 (-1) (by omega)).trans ((cl_96 hC))))))]; omega) wl_96_3 ?_
          have hg2m := KC_m hK (m := g2) (by omega) (by omega)
          have hg2t : S 100 g2 = (hmR ms g2).2.2.2.1 := hg2m.1.2.2.2
          have hg2r := (hw.2.2.2 g2 (by omega) (by omega)).1.2.2.2
          refine wa_iload (n := 5) rfl ?_
          refine wb_iald 100 rfl (wy_pr rfl) wt_100 (n := 400) (((fz8 100 (-1) (by omega)).trans (((fz2 100 (-1) (by omega)).trans ((cl_100 hC)))))) (by omega) (by omega) (v := (S 100 g2)) (((fz8 100 g2 (by omega)).trans (((fz2 100 g2 (by omega)).trans (rfl))))) (fun r14 => ?_)
          refine wa_iconst ?_
          refine wa_icmpne (w_rg0 (by omega) (by omega)) (w_rg0 (by omega) (by omega)) ⟨_, rfl⟩ (fun c15 => ?_) (fun c15 => ?_)
          · skip
            refine wa_iconst ?_
            refine wa_fall ⟨_, rfl⟩ ?_
            refine wa_ireturn rfl ?_
            refine ⟨fun j i hj => ((fz8 j i hj).trans (fz2 j i hj)), gz8, (rmR_tr rz2 rz8), congrArg (fun z => Sum.inl (some (0, z))) ?_⟩
            rw [hgt]
            rw [if_neg (by omega), if_neg (fun z => by have z1 := z.1; have z2 := z.2; omega)]
          · skip
            refine wa_iload (n := 5) rfl ?_
            refine wa_goto ⟨_, rfl⟩ ?_
            refine wa_ireturn rfl ?_
            refine ⟨fun j i hj => ((fz8 j i hj).trans (fz2 j i hj)), gz8, (rmR_tr rz2 rz8), congrArg (fun z => Sum.inl (some (0, z))) ?_⟩
            rw [hgt]
            rw [if_neg (by omega), if_pos ⟨by omega, by omega⟩]
      · skip
        refine wa_iconst ?_
        refine wa_goto ⟨_, rfl⟩ ?_
        have hwM2 : wdM 97 T ms Sq8 1 (-1) (wnW [105, 115] W) := wdM_w (hLn_ag (hLn_ag hN (fun j x hj => fz2 j x (by omega))) (fun j x hj => fz8 j x (by omega))).2.2.2.2.1.1 (KC_ag (KC_ag hK (fz2 73 2 (by first | decide | omega)) (fz2 73 4 (by first | decide | omega)) (fun j hj => funext (fun x => fz2 j x (by omega)))) (fz8 73 2 (by first | decide | omega)) (fz8 73 4 (by first | decide | omega)) (fun j hj => funext (fun x => fz8 j x (by omega)))) (hwW_ag ((show w8 = -1 by omega) ▸ hv8) (fun j x j0 j1 => fz8 j x (by omega))) (by first | decide | omega)
        have hgn2 : g2 = -1 := by rw [hg2]; exact fs_no (KC_ag (KC_ag hK (fz2 73 2 (by first | decide | omega)) (fz2 73 4 (by first | decide | omega)) (fun j hj => funext (fun x => fz2 j x (by omega)))) (fz8 73 2 (by first | decide | omega)) (fz8 73 4 (by first | decide | omega)) (fun j hj => funext (fun x => fz8 j x (by omega)))) hwM2 (by first | decide | omega) hml
        refine wJ_top (show (-1 : Int) = g2 by omega) ?_
        refine wa_istore (n := 5) rfl ?_
        refine wa_iload (n := 5) rfl ?_
        refine wa_iconst ?_
        refine wa_icmpeq (w_rg0 (by omega) (by omega)) (w_rg0 (by omega) (by omega)) ⟨_, rfl⟩ (fun c16 => ?_) (fun c16 => ?_)
        · skip
          refine wa_iconst ?_
          refine wa_fall ⟨_, rfl⟩ ?_
          refine wa_ireturn rfl ?_
          refine ⟨fun j i hj => ((fz8 j i hj).trans (fz2 j i hj)), gz8, (rmR_tr rz2 rz8), congrArg (fun z => Sum.inl (some (0, z))) ?_⟩
          rw [hgt]
          rw [if_neg (by omega), if_neg (fun z => by have z1 := z.1; have z2 := z.2; omega)]
        · skip
          refine wa_aload_n (n := 3) rfl ?_
          refine wb_gf4 73 rfl (wy_pr rfl) wt_73 wf_3_3 (v := 96) wl_73_3 ?_
          refine wa_iconst ?_
          refine wb_aald5 96 3 rfl rfl (wy_pr rfl) wt_96 (by rw [show _ = _ from (((fz8 96 (-1) (by omega)).trans (((fz2 96 (-1) (by omega)).trans ((cl_96 hC))))))]; omega) wl_96_3 ?_
          have hg2m := KC_m hK (m := g2) (by omega) (by omega)
          have hg2t : S 100 g2 = (hmR ms g2).2.2.2.1 := hg2m.1.2.2.2
          have hg2r := (hw.2.2.2 g2 (by omega) (by omega)).1.2.2.2
          refine wa_iload (n := 5) rfl ?_
          refine wb_iald 100 rfl (wy_pr rfl) wt_100 (n := 400) (((fz8 100 (-1) (by omega)).trans (((fz2 100 (-1) (by omega)).trans ((cl_100 hC)))))) (by omega) (by omega) (v := (S 100 g2)) (((fz8 100 g2 (by omega)).trans (((fz2 100 g2 (by omega)).trans (rfl))))) (fun r17 => ?_)
          refine wa_iconst ?_
          refine wa_icmpne (w_rg0 (by omega) (by omega)) (w_rg0 (by omega) (by omega)) ⟨_, rfl⟩ (fun c18 => ?_) (fun c18 => ?_)
          · skip
            refine wa_iconst ?_
            refine wa_fall ⟨_, rfl⟩ ?_
            refine wa_ireturn rfl ?_
            refine ⟨fun j i hj => ((fz8 j i hj).trans (fz2 j i hj)), gz8, (rmR_tr rz2 rz8), congrArg (fun z => Sum.inl (some (0, z))) ?_⟩
            rw [hgt]
            rw [if_neg (by omega), if_neg (fun z => by have z1 := z.1; have z2 := z.2; omega)]
          · skip
            refine wa_iload (n := 5) rfl ?_
            refine wa_goto ⟨_, rfl⟩ ?_
            refine wa_ireturn rfl ?_
            refine ⟨fun j i hj => ((fz8 j i hj).trans (fz2 j i hj)), gz8, (rmR_tr rz2 rz8), congrArg (fun z => Sum.inl (some (0, z))) ?_⟩
            rw [hgt]
            rw [if_neg (by omega), if_pos ⟨by omega, by omega⟩]
    · skip
      refine wa_iload (n := 5) rfl ?_
      refine wa_ireturn rfl ?_
      refine ⟨fun j i hj => (fz2 j i hj), gz2, rz2, congrArg (fun z => Sum.inl (some (0, z))) ?_⟩
      rw [hgt]
      rw [if_pos (by omega)]
  · skip
    refine wa_iconst ?_
    refine wa_goto ⟨_, rfl⟩ ?_
    have hwM1 : wdM 97 T ms Sq2 1 (-1) (wnW [103, 101, 116] W) := wdM_w (hLn_ag hN (fun j x hj => fz2 j x (by omega))).2.2.2.2.1.1 (KC_ag hK (fz2 73 2 (by first | decide | omega)) (fz2 73 4 (by first | decide | omega)) (fun j hj => funext (fun x => fz2 j x (by omega)))) (hwW_ag ((show w2 = -1 by omega) ▸ hv2) (fun j x j0 j1 => fz2 j x (by omega))) (by first | decide | omega)
    have hgn1 : g1 = -1 := by rw [hg1]; exact fs_no (KC_ag hK (fz2 73 2 (by first | decide | omega)) (fz2 73 4 (by first | decide | omega)) (fun j hj => funext (fun x => fz2 j x (by omega)))) hwM1 (by first | decide | omega) hml
    refine wJ_top (show (-1 : Int) = g1 by omega) ?_
    refine wa_istore (n := 5) rfl ?_
    refine wa_iload (n := 5) rfl ?_
    refine wa_iconst ?_
    refine wa_icmpeq (w_rg0 (by omega) (by omega)) (w_rg0 (by omega) (by omega)) ⟨_, rfl⟩ (fun c19 => ?_) (fun c19 => ?_)
    · skip
      refine wa_aload_n (n := 0) rfl ?_
      refine wa_ks ?_
      refine wa_cv 158 rfl (wy_pr rfl) wt_158 (M2 := fun _ => False) rfl at_XL_wordBehind ⟨_, rfl⟩ rfl rfl ⟨trivial, trivial, (Or.inr ⟨wy_pr rfl, fun q => q⟩), (Or.inr ⟨wy_pr rfl, fun q => q⟩), trivial, trivial, trivial⟩ trivial (fun _ _ q => False.elim q) (wb83_73 (S := Sq2) hX (fun y hy => (fz2 y.1 (-1) (by omega)).trans (hC y hy)) gz2 (hLn_ag hN (fun j x hj => fz2 j x (by omega))).1.1 (hLn_ag hN (fun j x hj => fz2 j x (by omega))).1.2 (hLn_ag hN (fun j x hj => fz2 j x (by omega))).2.1 (hLn_ag hN (fun j x hj => fz2 j x (by omega))).2.2.1.1 (hLn_ag hN (fun j x hj => fz2 j x (by omega))).2.2.1.2 (hLn_ag hN (fun j x hj => fz2 j x (by omega))).2.2.2.1.1 (hLn_ag hN (fun j x hj => fz2 j x (by omega))).2.2.2.1.2.1 (hLn_ag hN (fun j x hj => fz2 j x (by omega))).2.2.2.1.2.2 (hLn_ag hN (fun j x hj => fz2 j x (by omega))).2.2.2.2.1.1 (hLn_ag hN (fun j x hj => fz2 j x (by omega))).2.2.2.2.1.2 (hLn_ag hN (fun j x hj => fz2 j x (by omega))).2.2.2.2.2.1) (fun oq20 Sq20 hp21 q20 => ?_)
      rcases q20 with ⟨fz20, gz20, rz20, w20, rfl, hv20⟩
      show wJ _ _ _ _ _ _ _ _ _ _
      have hvr20 := hwW_rg hv20
      have h7_20 : Sq2 74 7 ≤ 1024 := (hLn_ag hN (fun j x hj => fz2 j x (by omega))).2.2.2.2.2.2
      refine wa_istore (n := 4) rfl ?_
      refine wa_iload (n := 4) rfl ?_
      refine wa_iconst ?_
      refine wa_icmpne (w_rg0 (by omega) (by omega)) (w_rg0 (by omega) (by omega)) ⟨_, rfl⟩ (fun c22 => ?_) (fun c22 => ?_)
      · skip
        refine wa_aload_n (n := 3) rfl ?_
        refine wa_iload_n (n := 1) rfl ?_
        refine wa_iload (n := 4) rfl ?_
        refine wa_iload_n (n := 2) rfl ?_
        have hwM2 : wdM 97 T ms Sq20 1 w20 (wnW [105, 115] W) := wdM_w (hLn_ag (hLn_ag hN (fun j x hj => fz2 j x (by omega))) (fun j x hj => fz20 j x (by omega))).2.2.2.2.1.1 (KC_ag (KC_ag hK (fz2 73 2 (by first | decide | omega)) (fz2 73 4 (by first | decide | omega)) (fun j hj => funext (fun x => fz2 j x (by omega)))) (fz20 73 2 (by first | decide | omega)) (fz20 73 4 (by first | decide | omega)) (fun j hj => funext (fun x => fz20 j x (by omega)))) (hwW_ag hv20 (fun j x j0 j1 => fz20 j x (by omega))) (by first | decide | omega)
        refine wa_cv 73 rfl (wy_pr rfl) wt_73 (M2 := fun _ => False) rfl at_XO_plainMethod ⟨_, rfl⟩ rfl rfl ⟨trivial, trivial, (Or.inr ⟨wy_pr rfl, fun q => q⟩), (Or.inr ⟨wy_pr rfl, fun q => q⟩), trivial, trivial, trivial⟩ trivial (fun _ _ q => False.elim q) (wJ_mono (pme_73 (S := Sq20) (k := k) (word := w20) (st := st) (W := wnW [105, 115] W) (fun y hy => (fz20 y.1 (-1) (by omega)).trans ((fun y hy => (fz2 y.1 (-1) (by omega)).trans (hC y hy)) y hy)) (KC_ag (KC_ag hK (fz2 73 2 (by decide)) (fz2 73 4 (by decide)) (fun j hj => funext (fun x => fz2 j x (by omega)))) (fz20 73 2 (by decide)) (fz20 73 4 (by decide)) (fun j hj => funext (fun x => fz20 j x (by omega)))) hw hk hwM2 ⟨by omega, by omega⟩ hst) (fun o Z hz => (⟨hz.1, by rw [hg2]; exact hz.2⟩ : Sq20 = Z ∧ o = .inl (some (0, g2))))) (fun oq23 Sq23 hp24 q23 => ?_)
        rcases q23 with ⟨rfl, rfl⟩
        show wJ _ _ _ _ _ _ _ _ _ _
        refine wa_fall ⟨_, rfl⟩ ?_
        refine wa_istore (n := 5) rfl ?_
        refine wa_iload (n := 5) rfl ?_
        refine wa_iconst ?_
        refine wa_icmpeq (w_rg0 (by omega) (by omega)) (w_rg0 (by omega) (by omega)) ⟨_, rfl⟩ (fun c25 => ?_) (fun c25 => ?_)
        · skip
          refine wa_iconst ?_
          refine wa_fall ⟨_, rfl⟩ ?_
          refine wa_ireturn rfl ?_
          refine ⟨fun j i hj => ((fz20 j i hj).trans (fz2 j i hj)), gz20, (rmR_tr rz2 rz20), congrArg (fun z => Sum.inl (some (0, z))) ?_⟩
          rw [hgt]
          rw [if_neg (by omega), if_neg (fun z => by have z1 := z.1; have z2 := z.2; omega)]
        · skip
          refine wa_aload_n (n := 3) rfl ?_
          refine wb_gf4 73 rfl (wy_pr rfl) wt_73 wf_3_3 (v := 96) wl_73_3 ?_
          refine wa_iconst ?_
          refine wb_aald5 96 3 rfl rfl (wy_pr rfl) wt_96 (by rw [show _ = _ from (((fz20 96 (-1) (by omega)).trans (((fz2 96 (-1) (by omega)).trans ((cl_96 hC))))))]; omega) wl_96_3 ?_
          have hg2m := KC_m hK (m := g2) (by omega) (by omega)
          have hg2t : S 100 g2 = (hmR ms g2).2.2.2.1 := hg2m.1.2.2.2
          have hg2r := (hw.2.2.2 g2 (by omega) (by omega)).1.2.2.2
          refine wa_iload (n := 5) rfl ?_
          refine wb_iald 100 rfl (wy_pr rfl) wt_100 (n := 400) (((fz20 100 (-1) (by omega)).trans (((fz2 100 (-1) (by omega)).trans ((cl_100 hC)))))) (by omega) (by omega) (v := (S 100 g2)) (((fz20 100 g2 (by omega)).trans (((fz2 100 g2 (by omega)).trans (rfl))))) (fun r26 => ?_)
          refine wa_iconst ?_
          refine wa_icmpne (w_rg0 (by omega) (by omega)) (w_rg0 (by omega) (by omega)) ⟨_, rfl⟩ (fun c27 => ?_) (fun c27 => ?_)
          · skip
            refine wa_iconst ?_
            refine wa_fall ⟨_, rfl⟩ ?_
            refine wa_ireturn rfl ?_
            refine ⟨fun j i hj => ((fz20 j i hj).trans (fz2 j i hj)), gz20, (rmR_tr rz2 rz20), congrArg (fun z => Sum.inl (some (0, z))) ?_⟩
            rw [hgt]
            rw [if_neg (by omega), if_neg (fun z => by have z1 := z.1; have z2 := z.2; omega)]
          · skip
            refine wa_iload (n := 5) rfl ?_
            refine wa_goto ⟨_, rfl⟩ ?_
            refine wa_ireturn rfl ?_
            refine ⟨fun j i hj => ((fz20 j i hj).trans (fz2 j i hj)), gz20, (rmR_tr rz2 rz20), congrArg (fun z => Sum.inl (some (0, z))) ?_⟩
            rw [hgt]
            rw [if_neg (by omega), if_pos ⟨by omega, by omega⟩]
      · skip
        refine wa_iconst ?_
        refine wa_goto ⟨_, rfl⟩ ?_
        have hwM2 : wdM 97 T ms Sq20 1 (-1) (wnW [105, 115] W) := wdM_w (hLn_ag (hLn_ag hN (fun j x hj => fz2 j x (by omega))) (fun j x hj => fz20 j x (by omega))).2.2.2.2.1.1 (KC_ag (KC_ag hK (fz2 73 2 (by first | decide | omega)) (fz2 73 4 (by first | decide | omega)) (fun j hj => funext (fun x => fz2 j x (by omega)))) (fz20 73 2 (by first | decide | omega)) (fz20 73 4 (by first | decide | omega)) (fun j hj => funext (fun x => fz20 j x (by omega)))) (hwW_ag ((show w20 = -1 by omega) ▸ hv20) (fun j x j0 j1 => fz20 j x (by omega))) (by first | decide | omega)
        have hgn2 : g2 = -1 := by rw [hg2]; exact fs_no (KC_ag (KC_ag hK (fz2 73 2 (by first | decide | omega)) (fz2 73 4 (by first | decide | omega)) (fun j hj => funext (fun x => fz2 j x (by omega)))) (fz20 73 2 (by first | decide | omega)) (fz20 73 4 (by first | decide | omega)) (fun j hj => funext (fun x => fz20 j x (by omega)))) hwM2 (by first | decide | omega) hml
        refine wJ_top (show (-1 : Int) = g2 by omega) ?_
        refine wa_istore (n := 5) rfl ?_
        refine wa_iload (n := 5) rfl ?_
        refine wa_iconst ?_
        refine wa_icmpeq (w_rg0 (by omega) (by omega)) (w_rg0 (by omega) (by omega)) ⟨_, rfl⟩ (fun c28 => ?_) (fun c28 => ?_)
        · skip
          refine wa_iconst ?_
          refine wa_fall ⟨_, rfl⟩ ?_
          refine wa_ireturn rfl ?_
          refine ⟨fun j i hj => ((fz20 j i hj).trans (fz2 j i hj)), gz20, (rmR_tr rz2 rz20), congrArg (fun z => Sum.inl (some (0, z))) ?_⟩
          rw [hgt]
          rw [if_neg (by omega), if_neg (fun z => by have z1 := z.1; have z2 := z.2; omega)]
        · skip
          refine wa_aload_n (n := 3) rfl ?_
          refine wb_gf4 73 rfl (wy_pr rfl) wt_73 wf_3_3 (v := 96) wl_73_3 ?_
          refine wa_iconst ?_
          refine wb_aald5 96 3 rfl rfl (wy_pr rfl) wt_96 (by rw [show _ = _ from (((fz20 96 (-1) (by omega)).trans (((fz2 96 (-1) (by omega)).trans ((cl_96 hC))))))]; omega) wl_96_3 ?_
          have hg2m := KC_m hK (m := g2) (by omega) (by omega)
          have hg2t : S 100 g2 = (hmR ms g2).2.2.2.1 := hg2m.1.2.2.2
          have hg2r := (hw.2.2.2 g2 (by omega) (by omega)).1.2.2.2
          refine wa_iload (n := 5) rfl ?_
          refine wb_iald 100 rfl (wy_pr rfl) wt_100 (n := 400) (((fz20 100 (-1) (by omega)).trans (((fz2 100 (-1) (by omega)).trans ((cl_100 hC)))))) (by omega) (by omega) (v := (S 100 g2)) (((fz20 100 g2 (by omega)).trans (((fz2 100 g2 (by omega)).trans (rfl))))) (fun r29 => ?_)
          refine wa_iconst ?_
          refine wa_icmpne (w_rg0 (by omega) (by omega)) (w_rg0 (by omega) (by omega)) ⟨_, rfl⟩ (fun c30 => ?_) (fun c30 => ?_)
          · skip
            refine wa_iconst ?_
            refine wa_fall ⟨_, rfl⟩ ?_
            refine wa_ireturn rfl ?_
            refine ⟨fun j i hj => ((fz20 j i hj).trans (fz2 j i hj)), gz20, (rmR_tr rz2 rz20), congrArg (fun z => Sum.inl (some (0, z))) ?_⟩
            rw [hgt]
            rw [if_neg (by omega), if_neg (fun z => by have z1 := z.1; have z2 := z.2; omega)]
          · skip
            refine wa_iload (n := 5) rfl ?_
            refine wa_goto ⟨_, rfl⟩ ?_
            refine wa_ireturn rfl ?_
            refine ⟨fun j i hj => ((fz20 j i hj).trans (fz2 j i hj)), gz20, (rmR_tr rz2 rz20), congrArg (fun z => Sum.inl (some (0, z))) ?_⟩
            rw [hgt]
            rw [if_neg (by omega), if_pos ⟨by omega, by omega⟩]
    · skip
      refine wa_iload (n := 5) rfl ?_
      refine wa_ireturn rfl ?_
      refine ⟨fun j i hj => (fz2 j i hj), gz2, rz2, congrArg (fun z => Sum.inl (some (0, z))) ?_⟩
      rw [hgt]
      rw [if_pos (by omega)]
theorem fof_73 {k st nm wk : Int} {W : List Int} (hC : w_CL S) (hK : KC 87 97 93 114 115 74 73 T cs ms os S) (hw : wHo cs ms os) (hX : w_X xs) (hI : gI S) (hN : hLn 73 74 nm wk W S) (hk : 0 ≤ k ∧ k < (cs.length : Int)) (hst : st = 0 ∨ st = 1) : wJ (pe_GA xs) wY0 M (d + 5) t_XL_fieldOf ((pe_at t_XL_fieldOf.bl 0).getD (0, [])).2 [(0, (2, 158)), (1, (0, k)), (2, (0, st))] [] S (fun o Z => sc_ag 159 S Z ∧ gI Z ∧ rmR S Z ∧ o = .inl (some (0, fdA T cs ms st W k))) := by
  have hR := rmR_rfl S
  have hn := KC_n hK
  have hn2 := hn.2.2
  have h72 : S 72 1 = 73 := hN.1.1
  have h7 := hN.2.2.2.2.2.2
  have hWh := hN.2.2.2.2.1.1
  have hos := (hw.2.2.1 k hk.1 hk.2).2.2
  have hml : ∀ x ∈ mOr cs (os k), 0 ≤ x ∧ x < (ms.length : Int) := fun x hx => mOr_rg hw hos hx
  obtain ⟨g1, hg1⟩ : ∃ g : Int, g = fdA T cs ms st W k := ⟨_, rfl⟩
  rw [← hg1]
  have hch : ∀ (f : Nat) (k : Int), -1 ≤ k → k < (cs.length : Int) → ∀ x ∈ ch_l (Ab cs) f k, 0 ≤ x ∧ x < (cs.length : Int) := by
    intro f
    induction f with
    | zero => intro k _ _ x hx; exact absurd hx List.not_mem_nil
    | succ f ih =>
      intro k k0 k1 x hx
      by_cases c : k = -1
      · rw [show ch_l (Ab cs) (f + 1) k = [] from if_pos c] at hx; exact absurd hx List.not_mem_nil
      · rw [show ch_l (Ab cs) (f + 1) k = k :: ch_l (Ab cs) f (Ab cs k) from if_neg c] at hx
        rcases List.mem_cons.mp hx with z | z
        · rw [z]; omega
        · have hq := (hw.2.1 k (by omega) k1).1
          exact ih (Ab cs k) hq.1 (by show (hcR cs k).2.2.2.1 < _; omega) x z
  refine wa_aload_n (n := 0) rfl ?_
  refine wa_ks ?_
  refine wa_cv 158 rfl (wy_pr rfl) wt_158 (M2 := fun _ => False) rfl at_XL_wordBehind ⟨_, rfl⟩ rfl rfl ⟨(Or.inr ⟨wy_pr rfl, fun q => q⟩), trivial, trivial, trivial⟩ trivial (fun _ _ q => False.elim q) (wb53_73 (S := S) hX hC hI hN.1.1 hN.1.2 hN.2.1 hN.2.2.1.1 hN.2.2.1.2 hN.2.2.2.1.1 hN.2.2.2.1.2.1 hN.2.2.2.1.2.2 hN.2.2.2.2.1.1 hN.2.2.2.2.1.2 hN.2.2.2.2.2.1) (fun oq1 Sq1 hp2 q1 => ?_)
  rcases q1 with ⟨fz1, gz1, rz1, w1, rfl, hv1⟩
  show wJ _ _ _ _ _ _ _ _ _ _
  have hvr1 := hwW_rg hv1
  have h7_1 : S 74 7 ≤ 1024 := hN.2.2.2.2.2.2
  refine wa_istore_n (n := 3) rfl ?_
  refine wa_iload_n (n := 3) rfl ?_
  refine wa_iconst ?_
  refine wa_icmpne (w_rg0 (by omega) (by omega)) (w_rg0 (by omega) (by omega)) ⟨_, rfl⟩ (fun c3 => ?_) (fun c3 => ?_)
  · skip
    refine wa_aload_n (n := 0) rfl ?_
    refine wb_gf4 158 rfl (wy_pr rfl) wt_158 wf_5_0 (v := 72) wl_158_0 ?_
    refine wb_gf5 72 rfl (wy_pr rfl) wt_72 wf_2_1 (v := 73) (((fz1 72 1 (by omega)).trans (h72))) (fun r4 => ?_)
    refine wa_iload_n (n := 1) rfl ?_
    refine wa_iload_n (n := 3) rfl ?_
    refine wa_iload_n (n := 2) rfl ?_
    have hwM : wdM 97 T ms Sq1 0 w1 (wnW ([] : List Int) W) := wdM_w (hLn_ag hN (fun j x hj => fz1 j x (by omega))).2.2.2.2.1.1 (KC_ag hK (fz1 73 2 (by first | decide | omega)) (fz1 73 4 (by first | decide | omega)) (fun j hj => funext (fun x => fz1 j x (by omega)))) (hwW_ag hv1 (fun j x j0 j1 => fz1 j x (by omega))) (by first | decide | omega)
    have hne := nf_f_e (st := st) (KC_ag hK (fz1 73 2 (by first | decide | omega)) (fz1 73 4 (by first | decide | omega)) (fun j hj => funext (fun x => fz1 j x (by omega)))) hw hwM (k.toNat + 1) k (by omega) hk.2 (by omega)
    rw [show wnW ([] : List Int) W = W from if_pos rfl] at hne
    refine wa_cv 73 rfl (wy_pr rfl) wt_73 (M2 := fun _ => False) rfl at_XO_nearestField ⟨_, rfl⟩ rfl rfl ⟨trivial, (Or.inr ⟨wy_pr rfl, fun q => q⟩), trivial, trivial, trivial⟩ trivial (fun _ _ q => False.elim q) (wJ_mono (nf_73 (S := Sq1) (word := w1) (st := st) (k := k) (fun y hy => (fz1 y.1 (-1) (by omega)).trans (hC y hy)) (cbI_K (KC_ag hK (fz1 73 2 (by decide)) (fz1 73 4 (by decide)) (fun j hj => funext (fun x => fz1 j x (by omega)))) hw) ⟨by omega, by omega⟩ ⟨by omega, by omega⟩ ⟨hk.1, by rw [(KC_n (KC_ag hK (fz1 73 2 (by decide)) (fz1 73 4 (by decide)) (fun j hj => funext (fun x => fz1 j x (by omega))))).1]; exact hk.2⟩) (fun o Z hz => (⟨hz.1, by rw [hg1]; exact hz.2.trans (congrArg (fun z => Sum.inl (some (0, z))) hne)⟩ : Sq1 = Z ∧ o = .inl (some (0, g1))))) (fun oq5 Sq5 hp6 q5 => ?_)
    rcases q5 with ⟨rfl, rfl⟩
    show wJ _ _ _ _ _ _ _ _ _ _
    refine wa_fall ⟨_, rfl⟩ ?_
    refine wa_ireturn rfl ?_
    exact ⟨fz1, gz1, rz1, rfl⟩
  · skip
    refine wa_iconst ?_
    refine wa_goto ⟨_, rfl⟩ ?_
    refine wa_ireturn rfl ?_
    have hwM : wdM 97 T ms Sq1 0 (-1) (wnW ([] : List Int) W) := wdM_w (hLn_ag hN (fun j x hj => fz1 j x (by omega))).2.2.2.2.1.1 (KC_ag hK (fz1 73 2 (by first | decide | omega)) (fz1 73 4 (by first | decide | omega)) (fun j hj => funext (fun x => fz1 j x (by omega)))) (hwW_ag ((show w1 = -1 by omega) ▸ hv1) (fun j x j0 j1 => fz1 j x (by omega))) (by first | decide | omega)
    rw [show wnW ([] : List Int) W = W from if_pos rfl] at hwM
    have hgn : g1 = -1 := by rw [hg1]; exact fF_no (KC_ag hK (fz1 73 2 (by first | decide | omega)) (fz1 73 4 (by first | decide | omega)) (fun j hj => funext (fun x => fz1 j x (by omega)))) hwM (fun x hx => mOr_rg hw (hch (k.toNat + 1) k (by omega) hk.2) hx)
    exact ⟨fz1, gz1, rz1, by rw [hgn]⟩
theorem gtr_162 {k st nm wk : Int} {W : List Int} (hC : w_CL S) (hK : KC 176 186 182 203 204 163 162 T cs ms os S) (hw : wHo cs ms os) (hX : w_X xs) (hI : gI S) (hN : hLn 162 163 nm wk W S) (hk : 0 ≤ k ∧ k < (cs.length : Int)) (hst : st = 0 ∨ st = 1) : wJ (pe_GA xs) wY0 M (d + 5) t_XL_getter ((pe_at t_XL_getter.bl 0).getD (0, [])).2 [(0, (2, 158)), (1, (0, k)), (2, (0, st))] [] S (fun o Z => sc_ag 159 S Z ∧ gI Z ∧ rmR S Z ∧ o = .inl (some (0, gtA T cs ms os st W k))) := by
  have hR := rmR_rfl S
  have hn := KC_n hK
  have hn2 := hn.2.2
  have h72 : S 72 1 = 162 := hN.1.1
  have h7 := hN.2.2.2.2.2.2
  have hWh := hN.2.2.2.2.1.1
  have hos := (hw.2.2.1 k hk.1 hk.2).2.2
  have hml : ∀ x ∈ mOr cs (os k), 0 ≤ x ∧ x < (ms.length : Int) := fun x hx => mOr_rg hw hos hx
  obtain ⟨g1, hg1⟩ : ∃ g : Int, g = fsA (okM T ms 1 st 0 (wnW [103, 101, 116] W)) (mOr cs (os k)) := ⟨_, rfl⟩
  obtain ⟨g2, hg2⟩ : ∃ g : Int, g = fsA (okM T ms 1 st 0 (wnW [105, 115] W)) (mOr cs (os k)) := ⟨_, rfl⟩
  have hr1 : g1 = -1 ∨ (0 ≤ g1 ∧ g1 < (ms.length : Int)) := by
    rcases fsA_rg (ok := okM T ms 1 st 0 (wnW [103, 101, 116] W)) (mOr cs (os k)) with z | z
    · exact Or.inl (hg1.trans z)
    · rw [← hg1] at z; exact Or.inr (hml _ z.1)
  have hr2 : g2 = -1 ∨ (0 ≤ g2 ∧ g2 < (ms.length : Int)) := by
    rcases fsA_rg (ok := okM T ms 1 st 0 (wnW [105, 115] W)) (mOr cs (os k)) with z | z
    · exact Or.inl (hg2.trans z)
    · rw [← hg2] at z; exact Or.inr (hml _ z.1)
  have hgt : gtA T cs ms os st W k = if g1 ≠ -1 then g1 else if g2 ≠ -1 ∧ (hmR ms g2).2.2.2.1 = 3 then g2 else -1 := by unfold gtA; rw [← hg1, ← hg2]
  refine wa_aload_n (n := 0) rfl ?_
  refine wb_gf4 158 rfl (wy_pr rfl) wt_158 wf_5_0 (v := 72) wl_158_0 ?_
  refine wb_gf5 72 rfl (wy_pr rfl) wt_72 wf_2_1 (v := 162) (h72) (fun r1 => ?_)
  refine wa_astore_n (n := 3) rfl ?_
  refine wa_aload_n (n := 0) rfl ?_
  refine wa_ks ?_
  refine wa_cv 158 rfl (wy_pr rfl) wt_158 (M2 := fun _ => False) rfl at_XL_wordBehind ⟨_, rfl⟩ rfl rfl ⟨(Or.inr ⟨wy_pr rfl, fun q => q⟩), (Or.inr ⟨wy_pr rfl, fun q => q⟩), trivial, trivial, trivial⟩ trivial (fun _ _ q => False.elim q) (wb81_162 (S := S) hX hC hI hN.1.1 hN.1.2 hN.2.1 hN.2.2.1.1 hN.2.2.1.2 hN.2.2.2.1.1 hN.2.2.2.1.2.1 hN.2.2.2.1.2.2 hN.2.2.2.2.1.1 hN.2.2.2.2.1.2 hN.2.2.2.2.2.1) (fun oq2 Sq2 hp3 q2 => ?_)
  rcases q2 with ⟨fz2, gz2, rz2, w2, rfl, hv2⟩
  show wJ _ _ _ _ _ _ _ _ _ _
  have hvr2 := hwW_rg hv2
  have h7_2 : S 163 7 ≤ 1024 := hN.2.2.2.2.2.2
  refine wa_istore (n := 4) rfl ?_
  refine wa_iload (n := 4) rfl ?_
  refine wa_iconst ?_
  refine wa_icmpne (w_rg0 (by omega) (by omega)) (w_rg0 (by omega) (by omega)) ⟨_, rfl⟩ (fun c4 => ?_) (fun c4 => ?_)
  · skip
    refine wa_aload_n (n := 3) rfl ?_
    refine wa_iload_n (n := 1) rfl ?_
    refine wa_iload (n := 4) rfl ?_
    refine wa_iload_n (n := 2) rfl ?_
    have hwM1 : wdM 186 T ms Sq2 1 w2 (wnW [103, 101, 116] W) := wdM_w (hLn_ag hN (fun j x hj => fz2 j x (by omega))).2.2.2.2.1.1 (KC_ag hK (fz2 162 2 (by first | decide | omega)) (fz2 162 4 (by first | decide | omega)) (fun j hj => funext (fun x => fz2 j x (by omega)))) (hwW_ag hv2 (fun j x j0 j1 => fz2 j x (by omega))) (by first | decide | omega)
    refine wa_cv 162 rfl (wy_pr rfl) wt_162 (M2 := fun _ => False) rfl at_XO_plainMethod ⟨_, rfl⟩ rfl rfl ⟨trivial, (Or.inr ⟨wy_pr rfl, fun q => q⟩), (Or.inr ⟨wy_pr rfl, fun q => q⟩), trivial, trivial, trivial⟩ trivial (fun _ _ q => False.elim q) (wJ_mono (pme_162 (S := Sq2) (k := k) (word := w2) (st := st) (W := wnW [103, 101, 116] W) (fun y hy => (fz2 y.1 (-1) (by omega)).trans (hC y hy)) (KC_ag hK (fz2 162 2 (by decide)) (fz2 162 4 (by decide)) (fun j hj => funext (fun x => fz2 j x (by omega)))) hw hk hwM1 ⟨by omega, by omega⟩ hst) (fun o Z hz => (⟨hz.1, by rw [hg1]; exact hz.2⟩ : Sq2 = Z ∧ o = .inl (some (0, g1))))) (fun oq5 Sq5 hp6 q5 => ?_)
    rcases q5 with ⟨rfl, rfl⟩
    show wJ _ _ _ _ _ _ _ _ _ _
    refine wa_fall ⟨_, rfl⟩ ?_
    refine wa_istore (n := 5) rfl ?_
    refine wa_iload (n := 5) rfl ?_
    refine wa_iconst ?_
    refine wa_icmpeq (w_rg0 (by omega) (by omega)) (w_rg0 (by omega) (by omega)) ⟨_, rfl⟩ (fun c7 => ?_) (fun c7 => ?_)
    · skip
      refine wa_aload_n (n := 0) rfl ?_
      refine wa_ks ?_
      refine wa_cv 158 rfl (wy_pr rfl) wt_158 (M2 := fun _ => False) rfl at_XL_wordBehind ⟨_, rfl⟩ rfl rfl ⟨trivial, trivial, (Or.inr ⟨wy_pr rfl, fun q => q⟩), (Or.inr ⟨wy_pr rfl, fun q => q⟩), trivial, trivial, trivial⟩ trivial (fun _ _ q => False.elim q) (wb83_162 (S := Sq2) hX (fun y hy => (fz2 y.1 (-1) (by omega)).trans (hC y hy)) gz2 (hLn_ag hN (fun j x hj => fz2 j x (by omega))).1.1 (hLn_ag hN (fun j x hj => fz2 j x (by omega))).1.2 (hLn_ag hN (fun j x hj => fz2 j x (by omega))).2.1 (hLn_ag hN (fun j x hj => fz2 j x (by omega))).2.2.1.1 (hLn_ag hN (fun j x hj => fz2 j x (by omega))).2.2.1.2 (hLn_ag hN (fun j x hj => fz2 j x (by omega))).2.2.2.1.1 (hLn_ag hN (fun j x hj => fz2 j x (by omega))).2.2.2.1.2.1 (hLn_ag hN (fun j x hj => fz2 j x (by omega))).2.2.2.1.2.2 (hLn_ag hN (fun j x hj => fz2 j x (by omega))).2.2.2.2.1.1 (hLn_ag hN (fun j x hj => fz2 j x (by omega))).2.2.2.2.1.2 (hLn_ag hN (fun j x hj => fz2 j x (by omega))).2.2.2.2.2.1) (fun oq8 Sq8 hp9 q8 => ?_)
      rcases q8 with ⟨fz8, gz8, rz8, w8, rfl, hv8⟩
      show wJ _ _ _ _ _ _ _ _ _ _
      have hvr8 := hwW_rg hv8
      have h7_8 : Sq2 163 7 ≤ 1024 := (hLn_ag hN (fun j x hj => fz2 j x (by omega))).2.2.2.2.2.2
      refine wa_istore (n := 4) rfl ?_
      refine wa_iload (n := 4) rfl ?_
      refine wa_iconst ?_
      refine wa_icmpne (w_rg0 (by omega) (by omega)) (w_rg0 (by omega) (by omega)) ⟨_, rfl⟩ (fun c10 => ?_) (fun c10 => ?_)
      · skip
        refine wa_aload_n (n := 3) rfl ?_
        refine wa_iload_n (n := 1) rfl ?_
        refine wa_iload (n := 4) rfl ?_
        refine wa_iload_n (n := 2) rfl ?_
        have hwM2 : wdM 186 T ms Sq8 1 w8 (wnW [105, 115] W) := wdM_w (hLn_ag (hLn_ag hN (fun j x hj => fz2 j x (by omega))) (fun j x hj => fz8 j x (by omega))).2.2.2.2.1.1 (KC_ag (KC_ag hK (fz2 162 2 (by first | decide | omega)) (fz2 162 4 (by first | decide | omega)) (fun j hj => funext (fun x => fz2 j x (by omega)))) (fz8 162 2 (by first | decide | omega)) (fz8 162 4 (by first | decide | omega)) (fun j hj => funext (fun x => fz8 j x (by omega)))) (hwW_ag hv8 (fun j x j0 j1 => fz8 j x (by omega))) (by first | decide | omega)
        refine wa_cv 162 rfl (wy_pr rfl) wt_162 (M2 := fun _ => False) rfl at_XO_plainMethod ⟨_, rfl⟩ rfl rfl ⟨trivial, trivial, (Or.inr ⟨wy_pr rfl, fun q => q⟩), (Or.inr ⟨wy_pr rfl, fun q => q⟩), trivial, trivial, trivial⟩ trivial (fun _ _ q => False.elim q) (wJ_mono (pme_162 (S := Sq8) (k := k) (word := w8) (st := st) (W := wnW [105, 115] W) (fun y hy => (fz8 y.1 (-1) (by omega)).trans ((fun y hy => (fz2 y.1 (-1) (by omega)).trans (hC y hy)) y hy)) (KC_ag (KC_ag hK (fz2 162 2 (by decide)) (fz2 162 4 (by decide)) (fun j hj => funext (fun x => fz2 j x (by omega)))) (fz8 162 2 (by decide)) (fz8 162 4 (by decide)) (fun j hj => funext (fun x => fz8 j x (by omega)))) hw hk hwM2 ⟨by omega, by omega⟩ hst) (fun o Z hz => (⟨hz.1, by rw [hg2]; exact hz.2⟩ : Sq8 = Z ∧ o = .inl (some (0, g2))))) (fun oq11 Sq11 hp12 q11 => ?_)
        rcases q11 with ⟨rfl, rfl⟩
        show wJ _ _ _ _ _ _ _ _ _ _
        refine wa_fall ⟨_, rfl⟩ ?_
        refine wa_istore (n := 5) rfl ?_
        refine wa_iload (n := 5) rfl ?_
        refine wa_iconst ?_
        refine wa_icmpeq (w_rg0 (by omega) (by omega)) (w_rg0 (by omega) (by omega)) ⟨_, rfl⟩ (fun c13 => ?_) (fun c13 => ?_)
        · skip
          refine wa_iconst ?_
          refine wa_fall ⟨_, rfl⟩ ?_
          refine wa_ireturn rfl ?_
          refine ⟨fun j i hj => ((fz8 j i hj).trans (fz2 j i hj)), gz8, (rmR_tr rz2 rz8), congrArg (fun z => Sum.inl (some (0, z))) ?_⟩
          rw [hgt]
          rw [if_neg (by omega), if_neg (fun z => by have z1 := z.1; have z2 := z.2; omega)]
        · skip
          refine wa_aload_n (n := 3) rfl ?_
          refine wb_gf4 162 rfl (wy_pr rfl) wt_162 wf_3_3 (v := 185) wl_162_3 ?_
          refine wa_iconst ?_
          refine wb_aald5 185 3 rfl rfl (wy_pr rfl) wt_185 (by rw [show _ = _ from (((fz8 185 (-1) (by omega)).trans (((fz2 185 (-1) (by omega)).trans ((cl_185 hC))))))]; omega) wl_185_3 ?_
          have hg2m := KC_m hK (m := g2) (by omega) (by omega)
          have hg2t : S 189 g2 = (hmR ms g2).2.2.2.1 := hg2m.1.2.2.2
          have hg2r := (hw.2.2.2 g2 (by omega) (by omega)).1.2.2.2
          refine wa_iload (n := 5) rfl ?_
          refine wb_iald 189 rfl (wy_pr rfl) wt_189 (n := 400) (((fz8 189 (-1) (by omega)).trans (((fz2 189 (-1) (by omega)).trans ((cl_189 hC)))))) (by omega) (by omega) (v := (S 189 g2)) (((fz8 189 g2 (by omega)).trans (((fz2 189 g2 (by omega)).trans (rfl))))) (fun r14 => ?_)
          refine wa_iconst ?_
          refine wa_icmpne (w_rg0 (by omega) (by omega)) (w_rg0 (by omega) (by omega)) ⟨_, rfl⟩ (fun c15 => ?_) (fun c15 => ?_)
          · skip
            refine wa_iconst ?_
            refine wa_fall ⟨_, rfl⟩ ?_
            refine wa_ireturn rfl ?_
            refine ⟨fun j i hj => ((fz8 j i hj).trans (fz2 j i hj)), gz8, (rmR_tr rz2 rz8), congrArg (fun z => Sum.inl (some (0, z))) ?_⟩
            rw [hgt]
            rw [if_neg (by omega), if_neg (fun z => by have z1 := z.1; have z2 := z.2; omega)]
          · skip
            refine wa_iload (n := 5) rfl ?_
            refine wa_goto ⟨_, rfl⟩ ?_
            refine wa_ireturn rfl ?_
            refine ⟨fun j i hj => ((fz8 j i hj).trans (fz2 j i hj)), gz8, (rmR_tr rz2 rz8), congrArg (fun z => Sum.inl (some (0, z))) ?_⟩
            rw [hgt]
            rw [if_neg (by omega), if_pos ⟨by omega, by omega⟩]
      · skip
        refine wa_iconst ?_
        refine wa_goto ⟨_, rfl⟩ ?_
        have hwM2 : wdM 186 T ms Sq8 1 (-1) (wnW [105, 115] W) := wdM_w (hLn_ag (hLn_ag hN (fun j x hj => fz2 j x (by omega))) (fun j x hj => fz8 j x (by omega))).2.2.2.2.1.1 (KC_ag (KC_ag hK (fz2 162 2 (by first | decide | omega)) (fz2 162 4 (by first | decide | omega)) (fun j hj => funext (fun x => fz2 j x (by omega)))) (fz8 162 2 (by first | decide | omega)) (fz8 162 4 (by first | decide | omega)) (fun j hj => funext (fun x => fz8 j x (by omega)))) (hwW_ag ((show w8 = -1 by omega) ▸ hv8) (fun j x j0 j1 => fz8 j x (by omega))) (by first | decide | omega)
        have hgn2 : g2 = -1 := by rw [hg2]; exact fs_no (KC_ag (KC_ag hK (fz2 162 2 (by first | decide | omega)) (fz2 162 4 (by first | decide | omega)) (fun j hj => funext (fun x => fz2 j x (by omega)))) (fz8 162 2 (by first | decide | omega)) (fz8 162 4 (by first | decide | omega)) (fun j hj => funext (fun x => fz8 j x (by omega)))) hwM2 (by first | decide | omega) hml
        refine wJ_top (show (-1 : Int) = g2 by omega) ?_
        refine wa_istore (n := 5) rfl ?_
        refine wa_iload (n := 5) rfl ?_
        refine wa_iconst ?_
        refine wa_icmpeq (w_rg0 (by omega) (by omega)) (w_rg0 (by omega) (by omega)) ⟨_, rfl⟩ (fun c16 => ?_) (fun c16 => ?_)
        · skip
          refine wa_iconst ?_
          refine wa_fall ⟨_, rfl⟩ ?_
          refine wa_ireturn rfl ?_
          refine ⟨fun j i hj => ((fz8 j i hj).trans (fz2 j i hj)), gz8, (rmR_tr rz2 rz8), congrArg (fun z => Sum.inl (some (0, z))) ?_⟩
          rw [hgt]
          rw [if_neg (by omega), if_neg (fun z => by have z1 := z.1; have z2 := z.2; omega)]
        · skip
          refine wa_aload_n (n := 3) rfl ?_
          refine wb_gf4 162 rfl (wy_pr rfl) wt_162 wf_3_3 (v := 185) wl_162_3 ?_
          refine wa_iconst ?_
          refine wb_aald5 185 3 rfl rfl (wy_pr rfl) wt_185 (by rw [show _ = _ from (((fz8 185 (-1) (by omega)).trans (((fz2 185 (-1) (by omega)).trans ((cl_185 hC))))))]; omega) wl_185_3 ?_
          have hg2m := KC_m hK (m := g2) (by omega) (by omega)
          have hg2t : S 189 g2 = (hmR ms g2).2.2.2.1 := hg2m.1.2.2.2
          have hg2r := (hw.2.2.2 g2 (by omega) (by omega)).1.2.2.2
          refine wa_iload (n := 5) rfl ?_
          refine wb_iald 189 rfl (wy_pr rfl) wt_189 (n := 400) (((fz8 189 (-1) (by omega)).trans (((fz2 189 (-1) (by omega)).trans ((cl_189 hC)))))) (by omega) (by omega) (v := (S 189 g2)) (((fz8 189 g2 (by omega)).trans (((fz2 189 g2 (by omega)).trans (rfl))))) (fun r17 => ?_)
          refine wa_iconst ?_
          refine wa_icmpne (w_rg0 (by omega) (by omega)) (w_rg0 (by omega) (by omega)) ⟨_, rfl⟩ (fun c18 => ?_) (fun c18 => ?_)
          · skip
            refine wa_iconst ?_
            refine wa_fall ⟨_, rfl⟩ ?_
            refine wa_ireturn rfl ?_
            refine ⟨fun j i hj => ((fz8 j i hj).trans (fz2 j i hj)), gz8, (rmR_tr rz2 rz8), congrArg (fun z => Sum.inl (some (0, z))) ?_⟩
            rw [hgt]
            rw [if_neg (by omega), if_neg (fun z => by have z1 := z.1; have z2 := z.2; omega)]
          · skip
            refine wa_iload (n := 5) rfl ?_
            refine wa_goto ⟨_, rfl⟩ ?_
            refine wa_ireturn rfl ?_
            refine ⟨fun j i hj => ((fz8 j i hj).trans (fz2 j i hj)), gz8, (rmR_tr rz2 rz8), congrArg (fun z => Sum.inl (some (0, z))) ?_⟩
            rw [hgt]
            rw [if_neg (by omega), if_pos ⟨by omega, by omega⟩]
    · skip
      refine wa_iload (n := 5) rfl ?_
      refine wa_ireturn rfl ?_
      refine ⟨fun j i hj => (fz2 j i hj), gz2, rz2, congrArg (fun z => Sum.inl (some (0, z))) ?_⟩
      rw [hgt]
      rw [if_pos (by omega)]
  · skip
    refine wa_iconst ?_
    refine wa_goto ⟨_, rfl⟩ ?_
    have hwM1 : wdM 186 T ms Sq2 1 (-1) (wnW [103, 101, 116] W) := wdM_w (hLn_ag hN (fun j x hj => fz2 j x (by omega))).2.2.2.2.1.1 (KC_ag hK (fz2 162 2 (by first | decide | omega)) (fz2 162 4 (by first | decide | omega)) (fun j hj => funext (fun x => fz2 j x (by omega)))) (hwW_ag ((show w2 = -1 by omega) ▸ hv2) (fun j x j0 j1 => fz2 j x (by omega))) (by first | decide | omega)
    have hgn1 : g1 = -1 := by rw [hg1]; exact fs_no (KC_ag hK (fz2 162 2 (by first | decide | omega)) (fz2 162 4 (by first | decide | omega)) (fun j hj => funext (fun x => fz2 j x (by omega)))) hwM1 (by first | decide | omega) hml
    refine wJ_top (show (-1 : Int) = g1 by omega) ?_
    refine wa_istore (n := 5) rfl ?_
    refine wa_iload (n := 5) rfl ?_
    refine wa_iconst ?_
    refine wa_icmpeq (w_rg0 (by omega) (by omega)) (w_rg0 (by omega) (by omega)) ⟨_, rfl⟩ (fun c19 => ?_) (fun c19 => ?_)
    · skip
      refine wa_aload_n (n := 0) rfl ?_
      refine wa_ks ?_
      refine wa_cv 158 rfl (wy_pr rfl) wt_158 (M2 := fun _ => False) rfl at_XL_wordBehind ⟨_, rfl⟩ rfl rfl ⟨trivial, trivial, (Or.inr ⟨wy_pr rfl, fun q => q⟩), (Or.inr ⟨wy_pr rfl, fun q => q⟩), trivial, trivial, trivial⟩ trivial (fun _ _ q => False.elim q) (wb83_162 (S := Sq2) hX (fun y hy => (fz2 y.1 (-1) (by omega)).trans (hC y hy)) gz2 (hLn_ag hN (fun j x hj => fz2 j x (by omega))).1.1 (hLn_ag hN (fun j x hj => fz2 j x (by omega))).1.2 (hLn_ag hN (fun j x hj => fz2 j x (by omega))).2.1 (hLn_ag hN (fun j x hj => fz2 j x (by omega))).2.2.1.1 (hLn_ag hN (fun j x hj => fz2 j x (by omega))).2.2.1.2 (hLn_ag hN (fun j x hj => fz2 j x (by omega))).2.2.2.1.1 (hLn_ag hN (fun j x hj => fz2 j x (by omega))).2.2.2.1.2.1 (hLn_ag hN (fun j x hj => fz2 j x (by omega))).2.2.2.1.2.2 (hLn_ag hN (fun j x hj => fz2 j x (by omega))).2.2.2.2.1.1 (hLn_ag hN (fun j x hj => fz2 j x (by omega))).2.2.2.2.1.2 (hLn_ag hN (fun j x hj => fz2 j x (by omega))).2.2.2.2.2.1) (fun oq20 Sq20 hp21 q20 => ?_)
      rcases q20 with ⟨fz20, gz20, rz20, w20, rfl, hv20⟩
      show wJ _ _ _ _ _ _ _ _ _ _
      have hvr20 := hwW_rg hv20
      have h7_20 : Sq2 163 7 ≤ 1024 := (hLn_ag hN (fun j x hj => fz2 j x (by omega))).2.2.2.2.2.2
      refine wa_istore (n := 4) rfl ?_
      refine wa_iload (n := 4) rfl ?_
      refine wa_iconst ?_
      refine wa_icmpne (w_rg0 (by omega) (by omega)) (w_rg0 (by omega) (by omega)) ⟨_, rfl⟩ (fun c22 => ?_) (fun c22 => ?_)
      · skip
        refine wa_aload_n (n := 3) rfl ?_
        refine wa_iload_n (n := 1) rfl ?_
        refine wa_iload (n := 4) rfl ?_
        refine wa_iload_n (n := 2) rfl ?_
        have hwM2 : wdM 186 T ms Sq20 1 w20 (wnW [105, 115] W) := wdM_w (hLn_ag (hLn_ag hN (fun j x hj => fz2 j x (by omega))) (fun j x hj => fz20 j x (by omega))).2.2.2.2.1.1 (KC_ag (KC_ag hK (fz2 162 2 (by first | decide | omega)) (fz2 162 4 (by first | decide | omega)) (fun j hj => funext (fun x => fz2 j x (by omega)))) (fz20 162 2 (by first | decide | omega)) (fz20 162 4 (by first | decide | omega)) (fun j hj => funext (fun x => fz20 j x (by omega)))) (hwW_ag hv20 (fun j x j0 j1 => fz20 j x (by omega))) (by first | decide | omega)
        refine wa_cv 162 rfl (wy_pr rfl) wt_162 (M2 := fun _ => False) rfl at_XO_plainMethod ⟨_, rfl⟩ rfl rfl ⟨trivial, trivial, (Or.inr ⟨wy_pr rfl, fun q => q⟩), (Or.inr ⟨wy_pr rfl, fun q => q⟩), trivial, trivial, trivial⟩ trivial (fun _ _ q => False.elim q) (wJ_mono (pme_162 (S := Sq20) (k := k) (word := w20) (st := st) (W := wnW [105, 115] W) (fun y hy => (fz20 y.1 (-1) (by omega)).trans ((fun y hy => (fz2 y.1 (-1) (by omega)).trans (hC y hy)) y hy)) (KC_ag (KC_ag hK (fz2 162 2 (by decide)) (fz2 162 4 (by decide)) (fun j hj => funext (fun x => fz2 j x (by omega)))) (fz20 162 2 (by decide)) (fz20 162 4 (by decide)) (fun j hj => funext (fun x => fz20 j x (by omega)))) hw hk hwM2 ⟨by omega, by omega⟩ hst) (fun o Z hz => (⟨hz.1, by rw [hg2]; exact hz.2⟩ : Sq20 = Z ∧ o = .inl (some (0, g2))))) (fun oq23 Sq23 hp24 q23 => ?_)
        rcases q23 with ⟨rfl, rfl⟩
        show wJ _ _ _ _ _ _ _ _ _ _
        refine wa_fall ⟨_, rfl⟩ ?_
        refine wa_istore (n := 5) rfl ?_
        refine wa_iload (n := 5) rfl ?_
        refine wa_iconst ?_
        refine wa_icmpeq (w_rg0 (by omega) (by omega)) (w_rg0 (by omega) (by omega)) ⟨_, rfl⟩ (fun c25 => ?_) (fun c25 => ?_)
        · skip
          refine wa_iconst ?_
          refine wa_fall ⟨_, rfl⟩ ?_
          refine wa_ireturn rfl ?_
          refine ⟨fun j i hj => ((fz20 j i hj).trans (fz2 j i hj)), gz20, (rmR_tr rz2 rz20), congrArg (fun z => Sum.inl (some (0, z))) ?_⟩
          rw [hgt]
          rw [if_neg (by omega), if_neg (fun z => by have z1 := z.1; have z2 := z.2; omega)]
        · skip
          refine wa_aload_n (n := 3) rfl ?_
          refine wb_gf4 162 rfl (wy_pr rfl) wt_162 wf_3_3 (v := 185) wl_162_3 ?_
          refine wa_iconst ?_
          refine wb_aald5 185 3 rfl rfl (wy_pr rfl) wt_185 (by rw [show _ = _ from (((fz20 185 (-1) (by omega)).trans (((fz2 185 (-1) (by omega)).trans ((cl_185 hC))))))]; omega) wl_185_3 ?_
          have hg2m := KC_m hK (m := g2) (by omega) (by omega)
          have hg2t : S 189 g2 = (hmR ms g2).2.2.2.1 := hg2m.1.2.2.2
          have hg2r := (hw.2.2.2 g2 (by omega) (by omega)).1.2.2.2
          refine wa_iload (n := 5) rfl ?_
          refine wb_iald 189 rfl (wy_pr rfl) wt_189 (n := 400) (((fz20 189 (-1) (by omega)).trans (((fz2 189 (-1) (by omega)).trans ((cl_189 hC)))))) (by omega) (by omega) (v := (S 189 g2)) (((fz20 189 g2 (by omega)).trans (((fz2 189 g2 (by omega)).trans (rfl))))) (fun r26 => ?_)
          refine wa_iconst ?_
          refine wa_icmpne (w_rg0 (by omega) (by omega)) (w_rg0 (by omega) (by omega)) ⟨_, rfl⟩ (fun c27 => ?_) (fun c27 => ?_)
          · skip
            refine wa_iconst ?_
            refine wa_fall ⟨_, rfl⟩ ?_
            refine wa_ireturn rfl ?_
            refine ⟨fun j i hj => ((fz20 j i hj).trans (fz2 j i hj)), gz20, (rmR_tr rz2 rz20), congrArg (fun z => Sum.inl (some (0, z))) ?_⟩
            rw [hgt]
            rw [if_neg (by omega), if_neg (fun z => by have z1 := z.1; have z2 := z.2; omega)]
          · skip
            refine wa_iload (n := 5) rfl ?_
            refine wa_goto ⟨_, rfl⟩ ?_
            refine wa_ireturn rfl ?_
            refine ⟨fun j i hj => ((fz20 j i hj).trans (fz2 j i hj)), gz20, (rmR_tr rz2 rz20), congrArg (fun z => Sum.inl (some (0, z))) ?_⟩
            rw [hgt]
            rw [if_neg (by omega), if_pos ⟨by omega, by omega⟩]
      · skip
        refine wa_iconst ?_
        refine wa_goto ⟨_, rfl⟩ ?_
        have hwM2 : wdM 186 T ms Sq20 1 (-1) (wnW [105, 115] W) := wdM_w (hLn_ag (hLn_ag hN (fun j x hj => fz2 j x (by omega))) (fun j x hj => fz20 j x (by omega))).2.2.2.2.1.1 (KC_ag (KC_ag hK (fz2 162 2 (by first | decide | omega)) (fz2 162 4 (by first | decide | omega)) (fun j hj => funext (fun x => fz2 j x (by omega)))) (fz20 162 2 (by first | decide | omega)) (fz20 162 4 (by first | decide | omega)) (fun j hj => funext (fun x => fz20 j x (by omega)))) (hwW_ag ((show w20 = -1 by omega) ▸ hv20) (fun j x j0 j1 => fz20 j x (by omega))) (by first | decide | omega)
        have hgn2 : g2 = -1 := by rw [hg2]; exact fs_no (KC_ag (KC_ag hK (fz2 162 2 (by first | decide | omega)) (fz2 162 4 (by first | decide | omega)) (fun j hj => funext (fun x => fz2 j x (by omega)))) (fz20 162 2 (by first | decide | omega)) (fz20 162 4 (by first | decide | omega)) (fun j hj => funext (fun x => fz20 j x (by omega)))) hwM2 (by first | decide | omega) hml
        refine wJ_top (show (-1 : Int) = g2 by omega) ?_
        refine wa_istore (n := 5) rfl ?_
        refine wa_iload (n := 5) rfl ?_
        refine wa_iconst ?_
        refine wa_icmpeq (w_rg0 (by omega) (by omega)) (w_rg0 (by omega) (by omega)) ⟨_, rfl⟩ (fun c28 => ?_) (fun c28 => ?_)
        · skip
          refine wa_iconst ?_
          refine wa_fall ⟨_, rfl⟩ ?_
          refine wa_ireturn rfl ?_
          refine ⟨fun j i hj => ((fz20 j i hj).trans (fz2 j i hj)), gz20, (rmR_tr rz2 rz20), congrArg (fun z => Sum.inl (some (0, z))) ?_⟩
          rw [hgt]
          rw [if_neg (by omega), if_neg (fun z => by have z1 := z.1; have z2 := z.2; omega)]
        · skip
          refine wa_aload_n (n := 3) rfl ?_
          refine wb_gf4 162 rfl (wy_pr rfl) wt_162 wf_3_3 (v := 185) wl_162_3 ?_
          refine wa_iconst ?_
          refine wb_aald5 185 3 rfl rfl (wy_pr rfl) wt_185 (by rw [show _ = _ from (((fz20 185 (-1) (by omega)).trans (((fz2 185 (-1) (by omega)).trans ((cl_185 hC))))))]; omega) wl_185_3 ?_
          have hg2m := KC_m hK (m := g2) (by omega) (by omega)
          have hg2t : S 189 g2 = (hmR ms g2).2.2.2.1 := hg2m.1.2.2.2
          have hg2r := (hw.2.2.2 g2 (by omega) (by omega)).1.2.2.2
          refine wa_iload (n := 5) rfl ?_
          refine wb_iald 189 rfl (wy_pr rfl) wt_189 (n := 400) (((fz20 189 (-1) (by omega)).trans (((fz2 189 (-1) (by omega)).trans ((cl_189 hC)))))) (by omega) (by omega) (v := (S 189 g2)) (((fz20 189 g2 (by omega)).trans (((fz2 189 g2 (by omega)).trans (rfl))))) (fun r29 => ?_)
          refine wa_iconst ?_
          refine wa_icmpne (w_rg0 (by omega) (by omega)) (w_rg0 (by omega) (by omega)) ⟨_, rfl⟩ (fun c30 => ?_) (fun c30 => ?_)
          · skip
            refine wa_iconst ?_
            refine wa_fall ⟨_, rfl⟩ ?_
            refine wa_ireturn rfl ?_
            refine ⟨fun j i hj => ((fz20 j i hj).trans (fz2 j i hj)), gz20, (rmR_tr rz2 rz20), congrArg (fun z => Sum.inl (some (0, z))) ?_⟩
            rw [hgt]
            rw [if_neg (by omega), if_neg (fun z => by have z1 := z.1; have z2 := z.2; omega)]
          · skip
            refine wa_iload (n := 5) rfl ?_
            refine wa_goto ⟨_, rfl⟩ ?_
            refine wa_ireturn rfl ?_
            refine ⟨fun j i hj => ((fz20 j i hj).trans (fz2 j i hj)), gz20, (rmR_tr rz2 rz20), congrArg (fun z => Sum.inl (some (0, z))) ?_⟩
            rw [hgt]
            rw [if_neg (by omega), if_pos ⟨by omega, by omega⟩]
    · skip
      refine wa_iload (n := 5) rfl ?_
      refine wa_ireturn rfl ?_
      refine ⟨fun j i hj => (fz2 j i hj), gz2, rz2, congrArg (fun z => Sum.inl (some (0, z))) ?_⟩
      rw [hgt]
      rw [if_pos (by omega)]
theorem fof_162 {k st nm wk : Int} {W : List Int} (hC : w_CL S) (hK : KC 176 186 182 203 204 163 162 T cs ms os S) (hw : wHo cs ms os) (hX : w_X xs) (hI : gI S) (hN : hLn 162 163 nm wk W S) (hk : 0 ≤ k ∧ k < (cs.length : Int)) (hst : st = 0 ∨ st = 1) : wJ (pe_GA xs) wY0 M (d + 5) t_XL_fieldOf ((pe_at t_XL_fieldOf.bl 0).getD (0, [])).2 [(0, (2, 158)), (1, (0, k)), (2, (0, st))] [] S (fun o Z => sc_ag 159 S Z ∧ gI Z ∧ rmR S Z ∧ o = .inl (some (0, fdA T cs ms st W k))) := by
  have hR := rmR_rfl S
  have hn := KC_n hK
  have hn2 := hn.2.2
  have h72 : S 72 1 = 162 := hN.1.1
  have h7 := hN.2.2.2.2.2.2
  have hWh := hN.2.2.2.2.1.1
  have hos := (hw.2.2.1 k hk.1 hk.2).2.2
  have hml : ∀ x ∈ mOr cs (os k), 0 ≤ x ∧ x < (ms.length : Int) := fun x hx => mOr_rg hw hos hx
  obtain ⟨g1, hg1⟩ : ∃ g : Int, g = fdA T cs ms st W k := ⟨_, rfl⟩
  rw [← hg1]
  have hch : ∀ (f : Nat) (k : Int), -1 ≤ k → k < (cs.length : Int) → ∀ x ∈ ch_l (Ab cs) f k, 0 ≤ x ∧ x < (cs.length : Int) := by
    intro f
    induction f with
    | zero => intro k _ _ x hx; exact absurd hx List.not_mem_nil
    | succ f ih =>
      intro k k0 k1 x hx
      by_cases c : k = -1
      · rw [show ch_l (Ab cs) (f + 1) k = [] from if_pos c] at hx; exact absurd hx List.not_mem_nil
      · rw [show ch_l (Ab cs) (f + 1) k = k :: ch_l (Ab cs) f (Ab cs k) from if_neg c] at hx
        rcases List.mem_cons.mp hx with z | z
        · rw [z]; omega
        · have hq := (hw.2.1 k (by omega) k1).1
          exact ih (Ab cs k) hq.1 (by show (hcR cs k).2.2.2.1 < _; omega) x z
  refine wa_aload_n (n := 0) rfl ?_
  refine wa_ks ?_
  refine wa_cv 158 rfl (wy_pr rfl) wt_158 (M2 := fun _ => False) rfl at_XL_wordBehind ⟨_, rfl⟩ rfl rfl ⟨(Or.inr ⟨wy_pr rfl, fun q => q⟩), trivial, trivial, trivial⟩ trivial (fun _ _ q => False.elim q) (wb53_162 (S := S) hX hC hI hN.1.1 hN.1.2 hN.2.1 hN.2.2.1.1 hN.2.2.1.2 hN.2.2.2.1.1 hN.2.2.2.1.2.1 hN.2.2.2.1.2.2 hN.2.2.2.2.1.1 hN.2.2.2.2.1.2 hN.2.2.2.2.2.1) (fun oq1 Sq1 hp2 q1 => ?_)
  rcases q1 with ⟨fz1, gz1, rz1, w1, rfl, hv1⟩
  show wJ _ _ _ _ _ _ _ _ _ _
  have hvr1 := hwW_rg hv1
  have h7_1 : S 163 7 ≤ 1024 := hN.2.2.2.2.2.2
  refine wa_istore_n (n := 3) rfl ?_
  refine wa_iload_n (n := 3) rfl ?_
  refine wa_iconst ?_
  refine wa_icmpne (w_rg0 (by omega) (by omega)) (w_rg0 (by omega) (by omega)) ⟨_, rfl⟩ (fun c3 => ?_) (fun c3 => ?_)
  · skip
    refine wa_aload_n (n := 0) rfl ?_
    refine wb_gf4 158 rfl (wy_pr rfl) wt_158 wf_5_0 (v := 72) wl_158_0 ?_
    refine wb_gf5 72 rfl (wy_pr rfl) wt_72 wf_2_1 (v := 162) (((fz1 72 1 (by omega)).trans (h72))) (fun r4 => ?_)
    refine wa_iload_n (n := 1) rfl ?_
    refine wa_iload_n (n := 3) rfl ?_
    refine wa_iload_n (n := 2) rfl ?_
    have hwM : wdM 186 T ms Sq1 0 w1 (wnW ([] : List Int) W) := wdM_w (hLn_ag hN (fun j x hj => fz1 j x (by omega))).2.2.2.2.1.1 (KC_ag hK (fz1 162 2 (by first | decide | omega)) (fz1 162 4 (by first | decide | omega)) (fun j hj => funext (fun x => fz1 j x (by omega)))) (hwW_ag hv1 (fun j x j0 j1 => fz1 j x (by omega))) (by first | decide | omega)
    have hne := nf_f_e (st := st) (KC_ag hK (fz1 162 2 (by first | decide | omega)) (fz1 162 4 (by first | decide | omega)) (fun j hj => funext (fun x => fz1 j x (by omega)))) hw hwM (k.toNat + 1) k (by omega) hk.2 (by omega)
    rw [show wnW ([] : List Int) W = W from if_pos rfl] at hne
    refine wa_cv 162 rfl (wy_pr rfl) wt_162 (M2 := fun _ => False) rfl at_XO_nearestField ⟨_, rfl⟩ rfl rfl ⟨trivial, (Or.inr ⟨wy_pr rfl, fun q => q⟩), trivial, trivial, trivial⟩ trivial (fun _ _ q => False.elim q) (wJ_mono (nf_162 (S := Sq1) (word := w1) (st := st) (k := k) (fun y hy => (fz1 y.1 (-1) (by omega)).trans (hC y hy)) (cbI_K (KC_ag hK (fz1 162 2 (by decide)) (fz1 162 4 (by decide)) (fun j hj => funext (fun x => fz1 j x (by omega)))) hw) ⟨by omega, by omega⟩ ⟨by omega, by omega⟩ ⟨hk.1, by rw [(KC_n (KC_ag hK (fz1 162 2 (by decide)) (fz1 162 4 (by decide)) (fun j hj => funext (fun x => fz1 j x (by omega))))).1]; exact hk.2⟩) (fun o Z hz => (⟨hz.1, by rw [hg1]; exact hz.2.trans (congrArg (fun z => Sum.inl (some (0, z))) hne)⟩ : Sq1 = Z ∧ o = .inl (some (0, g1))))) (fun oq5 Sq5 hp6 q5 => ?_)
    rcases q5 with ⟨rfl, rfl⟩
    show wJ _ _ _ _ _ _ _ _ _ _
    refine wa_fall ⟨_, rfl⟩ ?_
    refine wa_ireturn rfl ?_
    exact ⟨fz1, gz1, rz1, rfl⟩
  · skip
    refine wa_iconst ?_
    refine wa_goto ⟨_, rfl⟩ ?_
    refine wa_ireturn rfl ?_
    have hwM : wdM 186 T ms Sq1 0 (-1) (wnW ([] : List Int) W) := wdM_w (hLn_ag hN (fun j x hj => fz1 j x (by omega))).2.2.2.2.1.1 (KC_ag hK (fz1 162 2 (by first | decide | omega)) (fz1 162 4 (by first | decide | omega)) (fun j hj => funext (fun x => fz1 j x (by omega)))) (hwW_ag ((show w1 = -1 by omega) ▸ hv1) (fun j x j0 j1 => fz1 j x (by omega))) (by first | decide | omega)
    rw [show wnW ([] : List Int) W = W from if_pos rfl] at hwM
    have hgn : g1 = -1 := by rw [hg1]; exact fF_no (KC_ag hK (fz1 162 2 (by first | decide | omega)) (fz1 162 4 (by first | decide | omega)) (fun j hj => funext (fun x => fz1 j x (by omega)))) hwM (fun x hx => mOr_rg hw (hch (k.toNat + 1) k (by omega) hk.2) hx)
    exact ⟨fz1, gz1, rz1, by rw [hgn]⟩
end Wh9
