/-! PART nu: the fields of each class as they are laid out. -/
section Wnu
variable {S : wS} {m0 t0 w a9 b9 : Nat} {T : Int → Int} {cs : List hCR} {ms : List hMR} {os : Int → List Int} {k f n0 : Int} {rs : List hMR}
theorem chA_s (h : wOs cs os) (k0 : 0 ≤ k) (k1 : k < (cs.length : Int)) : chA cs k = k :: (if Ab cs k = -1 then [] else chA cs (Ab cs k)) := by
  have e := cnL_c h k0 k1
  have b := (h k k0 k1).2.2.2.1
  by_cases c : Ab cs k = -1
  · rw [if_pos c]
    rw [c] at e
    exact e
  · rw [if_neg c]
    have u := chl_u h (k := Ab cs k) (by omega) (by omega)
    rw [u] at e
    exact e
theorem flA_s (h : wOs cs os) (k0 : 0 ≤ k) (k1 : k < (cs.length : Int)) : flA cs ms k = (if Ab cs k = -1 then [] else flA cs ms (Ab cs k)) ++ flO cs ms k := by
  unfold flA
  rw [chA_s h k0 k1, List.reverse_cons, List.flatMap_append, List.flatMap_singleton]
  by_cases c : Ab cs k = -1
  · rw [if_pos c, if_pos c]; rfl
  · rw [if_neg c, if_neg c]
theorem ch_tr (h : wOs cs os) : ∀ (n : Nat) (k q x : Int), k.toNat < n → 0 ≤ k → k < (cs.length : Int) → q ∈ chA cs k → x ∈ chA cs q → x ∈ chA cs k := by
  intro n
  induction n with
  | zero => intro k q x hn; omega
  | succ n ih =>
    intro k q x hn k0 k1 hq hx
    rw [chA_s h k0 k1] at hq
    rcases List.mem_cons.mp hq with e | z
    · rw [e] at hx; exact hx
    · rw [chA_s h k0 k1]
      have b := (h k k0 k1).2.2.2.1
      by_cases c : Ab cs k = -1
      · rw [if_pos c] at z; cases z
      · rw [if_neg c] at z ⊢
        exact List.mem_cons_of_mem _ (ih _ q x (by omega) (by omega) (by omega) z hx)
/-- a class in an order is the class itself or one above it -/
theorem os_chA (h : wOs cs os) : ∀ (n : Nat) (k q : Int), k.toNat < n → 0 ≤ k → k < (cs.length : Int) → q ∈ os k → Ib cs q ≠ 1 → q ∈ chA cs k := by
  intro n
  induction n with
  | zero => intro k q hn; omega
  | succ n ih =>
    intro k q hn k0 k1 hq hi
    obtain ⟨o1, o2, o3, b, -⟩ := h k k0 k1
    rw [o1] at hq
    rcases mem_soL.mp hq with z | ⟨s, hs, s1, z⟩ | ⟨c, z⟩
    · exact z
    · have sr := o2 s hs
      have y := ih s q (by omega) sr.1 (by omega) z hi
      rw [chA_s h sr.1 (by omega), if_pos ((h s sr.1 (by omega)).2.2.1 s1)] at y
      rcases List.mem_cons.mp y with e | y
      · rw [e] at hi; exact absurd s1 hi
      · cases y
    · have y := ih (Ab cs k) q (by omega) (by omega) (by omega) z hi
      rw [chA_s h k0 k1, if_neg c]
      exact List.mem_cons_of_mem _ y
/-- the last of a list, or -1 -/
def lsD (l : List Int) : Int := if l = [] then -1 else l.getD (l.length - 1) 0
theorem lsD_a (l : List Int) (x : Int) : lsD (l ++ [x]) = x := by
  unfold lsD
  rw [if_neg (by simp), List.length_append, List.length_singleton, Nat.add_sub_cancel]
  exact getD_last
/-- the fields L lie one behind another -/
def fI (m0 : Nat) (L : List Int) (S : wS) : Prop := ∀ i : Nat, i < L.length → S (m0 + 15) (L.getD i 0) = (i : Int) ∧ S (m0 + 16) (L.getD i 0) = lsD (L.take i)
theorem fI_a {L : List Int} {x : Int} (h : fI m0 L S) (h1 : S (m0 + 15) x = (L.length : Int)) (h2 : S (m0 + 16) x = lsD L) : fI m0 (L ++ [x]) S := by
  intro i hi
  rw [List.length_append, List.length_singleton] at hi
  by_cases c : i = L.length
  · rw [c, getD_last, List.take_append_of_le_length (Nat.le_refl _), List.take_length]
    exact ⟨h1, h2⟩
  · rw [getD_app (by omega), List.take_append_of_le_length (by omega)]
    exact h i (by omega)
theorem ivl_a : ∀ (n : Nat) (a : Int), ivl a (n + 1) = ivl a n ++ [a + (n : Int)] := by
  intro n
  induction n with
  | zero => intro a; show [a] = [a + ((0 : Nat) : Int)]; rw [show a + ((0 : Nat) : Int) = a by omega]
  | succ n ih =>
    intro a
    rw [ivl_s, ih (a + 1), ivl_s, show a + 1 + (n : Int) = a + ((n + 1 : Nat) : Int) by omega]
    rfl
/-- the fields of one class, behind those of the class above -/
theorem fI_q {pre : List Int} {x0 f0 : Int} (hr : ∀ q : Nat, q < rs.length → rs[q]? = some (hmR ms (f + (q : Int)))) (hs : ∀ q : Nat, q < rs.length → (hmR ms (f + (q : Int))).2.2.1 = 0 ∨ (hmR ms (f + (q : Int))).2.2.1 = 1) (hl : ∀ (q : Nat) (r : hMR), rs[q]? = some r → lf_at m0 a9 b9 f n0 f0 x0 rs S q r) (hp : fI m0 pre S) (h0 : f0 = (pre.length : Int)) (hx : x0 = lsD pre) : ∀ q : Nat, q ≤ rs.length → fI m0 (pre ++ (ivl f q).filter (isFd ms)) S ∧ f0 + cI (rs.take q) = ((pre ++ (ivl f q).filter (isFd ms)).length : Int) ∧ cla x0 f (rs.take q) = lsD (pre ++ (ivl f q).filter (isFd ms)) := by
  intro q
  induction q with
  | zero =>
    intro _
    rw [show (ivl f 0).filter (isFd ms) = [] from rfl, List.append_nil, List.take_zero]
    exact ⟨hp, by rw [h0]; exact Int.add_zero _, hx⟩
  | succ q ih =>
    intro hq
    obtain ⟨i1, i2, i3⟩ := ih (by omega)
    have e := hr q (by omega)
    have tk : rs.take (q + 1) = rs.take q ++ [hmR ms (f + (q : Int))] := by rw [List.take_add_one, e]; rfl
    have tl : (rs.take q).length = q := by rw [List.length_take]; omega
    rw [tk, ivl_a, List.filter_append, cI_app, cla_app, tl, ← List.append_assoc]
    by_cases c : (hmR ms (f + (q : Int))).2.1 = 0 ∧ (hmR ms (f + (q : Int))).2.2.1 = 0
    · have c2 : (hmR ms (f + (q : Int))).2.1 = 0 ∧ (hmR ms (f + (q : Int))).2.2.1 ≠ 1 := ⟨c.1, by omega⟩
      obtain ⟨l1, l2⟩ := (hl q _ e).2 c2.1 c2.2
      have fe : [f + (q : Int)].filter (isFd ms) = [f + (q : Int)] := by
        rw [List.filter_cons_of_pos (show isFd ms (f + (q : Int)) = true from decide_eq_true c)]; rfl
      rw [fe, if_pos c2, if_pos c2, lsD_a]
      refine ⟨fI_a i1 (l1.trans i2) (l2.trans i3), ?_, rfl⟩
      rw [List.length_append, List.length_singleton, Int.natCast_add, ← i2]
      omega
    · have c2 : ¬ ((hmR ms (f + (q : Int))).2.1 = 0 ∧ (hmR ms (f + (q : Int))).2.2.1 ≠ 1) := by
        have := hs q (by omega)
        omega
      have fe : [f + (q : Int)].filter (isFd ms) = [] := by
        rw [List.filter_cons_of_neg (show ¬ isFd ms (f + (q : Int)) = true from fun z => c (of_decide_eq_true z))]; rfl
      rw [fe, if_neg c2, if_neg c2, List.append_nil, Int.add_zero]
      exact ⟨i1, i2, i3⟩
theorem sl_h (h : JX t0 m0 w a9 b9 T cs ms S) (k0 : 0 ≤ k) (k1 : k < (cs.length : Int)) : ((slM ms (hcR cs k)).length = (hcR cs k).2.2.2.2.2.2.2.toNat) ∧ ∀ q : Nat, q < (slM ms (hcR cs k)).length → (slM ms (hcR cs k))[q]? = some (hmR ms ((hcR cs k).2.2.2.2.2.2.1 + (q : Int))) ∧ (hcR cs k).2.2.2.2.2.2.1 + (q : Int) ∈ mIx cs k := by
  obtain ⟨⟨-, b1, -⟩, -⟩ := h k.toNat _ (hcR_i k0 k1)
  have hl : (slM ms (hcR cs k)).length = (hcR cs k).2.2.2.2.2.2.2.toNat := by
    unfold slM
    rw [List.length_take, List.length_drop]
    omega
  refine ⟨hl, fun q hq => ⟨?_, ?_⟩⟩
  · have z := slM_q (ms := ms) (m := (hcR cs k).2.2.2.2.2.2.1 + (q : Int)) b1 (by omega)
    rw [show ((hcR cs k).2.2.2.2.2.2.1 + (q : Int) - (hcR cs k).2.2.2.2.2.2.1).toNat = q by omega] at z
    exact z
  · unfold mIx
    rw [ivl_m]
    omega
/-- the fields of every class -/
theorem fl_K (h : JX t0 m0 w a9 b9 T cs ms S) (ho : wOs cs os) : ∀ (n : Nat) (k : Int), k.toNat < n → 0 ≤ k → k < (cs.length : Int) → S (t0 + 7) k = ((flA cs ms k).length : Int) ∧ S (t0 + 8) k = lsD (flA cs ms k) ∧ fI m0 (flA cs ms k) S := by
  intro n
  induction n with
  | zero => intro k hn; omega
  | succ n ih =>
    intro k hn k0 k1
    obtain ⟨⟨-, b1, -⟩, -, j1, j2, -⟩ := h k.toNat _ (hcR_i k0 k1)
    rw [show ((k.toNat : Nat) : Int) = k by omega] at j1
    have b := (ho k k0 k1).2.2.2.1
    have ea : (hcR cs k).2.2.2.1 = Ab cs k := rfl
    rw [ea] at j1 j2
    obtain ⟨sl, sq⟩ := sl_h h k0 k1
    have pre : ∃ P : List Int, (if Ab cs k = -1 then [] else flA cs ms (Ab cs k)) = P ∧ (if Ab cs k = -1 then 0 else S (t0 + 7) (Ab cs k)) = (P.length : Int) ∧ (if Ab cs k = -1 then -1 else S (t0 + 8) (Ab cs k)) = lsD P ∧ fI m0 P S := by
      by_cases c : Ab cs k = -1
      · rw [if_pos c, if_pos c, if_pos c]
        exact ⟨[], rfl, rfl, rfl, fun i hi => absurd hi (Nat.not_lt_zero _)⟩
      · rw [if_neg c, if_neg c, if_neg c]
        obtain ⟨u1, u2, u3⟩ := ih (Ab cs k) (by omega) (by omega) (by omega)
        exact ⟨_, rfl, u1, u2, u3⟩
    obtain ⟨P, e1, e2, e3, e4⟩ := pre
    rw [flA_s ho k0 k1, e1]
    rw [e2, e3] at j1 j2
    have z := fI_q (ms := ms) (m0 := m0) (pre := P) (fun q hq => (sq q hq).1) (fun q hq => by
      have g := (mG_in h ⟨k0, k1⟩ (sq q hq).2).2.2.2.2.1
      omega) j2 e4 rfl rfl (slM ms (hcR cs k)).length (Nat.le_refl _)
    rw [List.take_length, sl] at z
    have ef : flO cs ms k = (ivl (hcR cs k).2.2.2.2.2.2.1 (hcR cs k).2.2.2.2.2.2.2.toNat).filter (isFd ms) := rfl
    rw [ef]
    exact ⟨j1.1.trans z.2.1, j1.2.trans z.2.2, z.1⟩
theorem fl_r (h : JX t0 m0 w a9 b9 T cs ms S) (ho : wOs cs os) {x : Int} (k0 : 0 ≤ k) (k1 : k < (cs.length : Int)) (hx : x ∈ flA cs ms k) : isIf ms x ∧ ∃ q : Int, q ∈ chA cs k ∧ x ∈ mIx cs q := by
  unfold flA at hx
  obtain ⟨q, hq, hx⟩ := List.mem_flatMap.mp hx
  rw [List.mem_reverse] at hq
  have qr : 0 ≤ q ∧ q ≤ k := (cnL_lt ho (k.toNat + 1) k (by omega) k1).2 q hq
  unfold flO at hx
  obtain ⟨h1, h2⟩ := List.mem_filter.mp hx
  have c := of_decide_eq_true h2
  exact ⟨⟨(mG_in h ⟨qr.1, by omega⟩ h1).1, c.1, c.2⟩, q, hq, h1⟩
theorem fI_inj {L : List Int} (h : fI m0 L S) {i j : Nat} (hi : i < L.length) (hj : j < L.length) (e : L.getD i 0 = L.getD j 0) : i = j := by
  have a := (h i hi).1
  rw [e, (h j hj).1] at a
  omega
theorem fl_n (h : JX t0 m0 w a9 b9 T cs ms S) (ho : wOs cs os) (h4 : ms.length ≤ 400) (k0 : 0 ≤ k) (k1 : k < (cs.length : Int)) : (flA cs ms k).length ≤ 400 := by
  obtain ⟨-, -, u3⟩ := fl_K h ho (k.toNat + 1) k (by omega) k0 k1
  have nd : (flA cs ms k).Nodup := by
    rw [List.nodup_iff_pairwise_ne, List.pairwise_iff_getElem]
    intro i j hi hj hij e
    have := fI_inj u3 hi hj (by rw [List.getD_eq_getElem?_getD, List.getD_eq_getElem?_getD, List.getElem?_eq_getElem hi, List.getElem?_eq_getElem hj, e])
    omega
  have := pg_hole ms.length _ nd (fun x hx => (fl_r h ho k0 k1 hx).1.1)
  omega
/-- what the class knows of its fields -/
theorem cFd_of (h : JX t0 m0 w a9 b9 T cs ms S) (ho : wOs cs os) (h4 : ms.length ≤ 400) (k0 : 0 ≤ k) (k1 : k < (cs.length : Int)) : cFd m0 t0 cs ms k S := by
  obtain ⟨u1, u2, u3⟩ := fl_K h ho (k.toNat + 1) k (by omega) k0 k1
  refine ⟨u1, fun hp => ?_, fun i hi => ?_, fun i hi => ?_, fl_n h ho h4 k0 k1⟩
  · rw [u2]
    unfold lsD
    rw [if_neg (fun e => by rw [e] at hp; exact absurd hp (Nat.lt_irrefl _))]
  · rw [(u3 (i + 1) hi).2]
    unfold lsD
    have hl : ((flA cs ms k).take (i + 1)).length = i + 1 := by rw [List.length_take]; omega
    rw [if_neg (fun e => by rw [e] at hl; exact absurd hl (by simp)), hl, Nat.add_sub_cancel, List.getD_eq_getElem?_getD, List.getElem?_take_of_lt (Nat.lt_succ_self i), ← List.getD_eq_getElem?_getD]
  · exact (fl_r h ho k0 k1 (getD_mem hi)).1.1
theorem fPl_of (h : JX t0 m0 w a9 b9 T cs ms S) (ho : wOs cs os) (h4 : ms.length ≤ 400) {m : Int} (k0 : 0 ≤ k) (k1 : k < (cs.length : Int)) (hm : m ∈ flA cs ms k) : fPl cs ms k m (S (m0 + 15) m) := by
  obtain ⟨u1, u2, u3⟩ := fl_K h ho (k.toNat + 1) k (by omega) k0 k1
  obtain ⟨i, hi, e⟩ := List.getElem_of_mem hm
  have eg : (flA cs ms k).getD i 0 = m := by rw [List.getD_eq_getElem?_getD, List.getElem?_eq_getElem hi, e]; rfl
  have es := (u3 i hi).1
  rw [eg] at es
  rw [es]
  refine ⟨⟨k0, k1⟩, fl_n h ho h4 k0 k1, ⟨by omega, by omega⟩, by rw [Int.toNat_natCast]; exact eg, fun j hj e2 => ?_⟩
  rw [Int.toNat_natCast] at hj
  have := fI_inj u3 (i := j) (j := i) (by omega) hi (e2.trans eg.symm)
  omega
/-- fields have a type; a method of an instance fits a field of its class -/
theorem stHm_of (h : JX t0 m0 w a9 b9 T cs ms S) (hv : JV cs ms) (ho : wOs cs os) (hw : wHo cs ms os) : stHm T cs ms os := by
  refine ⟨fun m m0 m1 h0 => ?_, fun k k0 k1 q hq m hm h1 h0 hf => ?_⟩
  · obtain ⟨k, hk, hm, g⟩ := mG_of h hv ⟨m0, m1⟩
    rcases g.2.1 with y | y | y
    · exact y.2.1
    · omega
    · omega
  · have qr := (os_nd ho (k.toNat + 1) k (by omega) k0 k1).2.2 q hq
    have gm := mG_in h ⟨qr.1, by omega⟩ hm
    have hq1 : (hmR ms m).1 = q := gm.2.2.1
    unfold ffA at hf ⊢
    by_cases c : sB ms (nmR T (hmR ms m)) m = true ∨ gB ms (nmR T (hmR ms m)) m = true
    · rw [if_pos c] at hf ⊢
      rw [hq1] at hf ⊢
      generalize sB ms (nmR T (hmR ms m)) m = sb at hf ⊢
      generalize wtN (nmR T (hmR ms m)) (skN (nmR T (hmR ms m))) = W at hf ⊢
      unfold ftF at hf ⊢
      by_cases c2 : 0 ≤ fdA T cs ms (-1) W q ∧ (hmR ms (fdA T cs ms (-1) W q)).2.2.1 = (hmR ms m).2.2.1 ∧ (hmR ms (fdA T cs ms (-1) W q)).2.2.2.1 = (if sb = true then (hmR ms m).2.2.2.2.1.getD 0 0 else (hmR ms m).2.2.2.1)
      · rw [if_pos c2]
        obtain ⟨-, x, hx, hy⟩ := fl_r h ho qr.1 (by omega) ((fd_m hw ⟨qr.1, by omega⟩ c2.1).2.2.2 (c2.2.1.trans h0))
        have xr : 0 ≤ x ∧ x ≤ q := (cnL_lt ho (q.toNat + 1) q (by omega) (by omega)).2 x hx
        have gy := mG_in h ⟨xr.1, by omega⟩ hy
        have f0 : (hmR ms (fdA T cs ms (-1) W q)).2.1 = 0 := (fd_m hw ⟨qr.1, by omega⟩ c2.1).2.1
        have xi : (hcR cs x).1 = 0 := by
          rcases gy.2.2.2.1 with y | y | y
          · exact y.2.2.1
          · omega
          · omega
        have xq : Ib cs q ≠ 1 := fun e => by
          have hx2 : x ∈ chA cs q := hx
          rw [chA_s ho qr.1 (by omega), if_pos ((ho q qr.1 (by omega)).2.2.1 e)] at hx2
          rcases List.mem_cons.mp hx2 with z | z
          · rw [← z] at e; exact absurd (e.symm.trans xi) (by first | decide | omega)
          · cases z
        have hqc := os_chA ho (k.toNat + 1) k q (by omega) k0 k1 hq xq
        have hxk := ch_tr ho (k.toNat + 1) k q x (by omega) k0 k1 hqc hx
        unfold flA
        exact List.mem_flatMap.mpr ⟨x, List.mem_reverse.mpr hxk, List.mem_filter.mpr ⟨hy, decide_eq_true ⟨f0, c2.2.1.trans h0⟩⟩⟩
      · rw [if_neg c2] at hf; omega
    · rw [if_neg c] at hf; omega
end Wnu
