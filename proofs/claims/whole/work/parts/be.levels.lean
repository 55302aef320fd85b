/-! PART be: operators that wait. -/
section Wbe
variable {K V P : Nat → Int} {f : Int} {R : pz_R} {dp u : Int} {i i1 : Nat} {I I1 : List pz_I} {F F1 : List pz_F} {t : Int} {o : pz_O} {Φ : pz_O → Prop}
theorem pz_q_k {p : pz_O → Prop} {k k2 : Nat → List pz_I → List pz_F → Int → pz_O → Prop} (h : ∀ i I F t o, k i I F t o → k2 i I F t o) (q : pz_q p k o) : pz_q p k2 o := q.imp id (fun ⟨i, I, F, t, a, b⟩ => ⟨i, I, F, t, a, h _ _ _ _ _ b⟩)
theorem q_as {A : pz_O → Prop} {B : Nat → List pz_I → List pz_F → Int → pz_O → Prop} {k : Nat → List pz_I → List pz_F → Int → pz_O → Prop} (h : pz_q A (fun i I F t => pz_q (B i I F t) k) o) : pz_q (pz_q A B) k o := by
  rcases h with ⟨v, h, rfl⟩ | ⟨i, I, F, t, h, h2⟩
  · exact Or.inl ⟨v, Or.inl ⟨v, h, rfl⟩, rfl⟩
  · rcases h2 with ⟨v, h2, rfl⟩ | ⟨i2, I2, F2, t2, h2, h3⟩
    · exact Or.inl ⟨v, Or.inr ⟨i, I, F, t, h, h2⟩, rfl⟩
    · exact Or.inr ⟨i2, I2, F2, t2, Or.inr ⟨i, I, F, t, h, h2⟩, h3⟩
/-- n levels down from l, where this has come of l -/
def qd (R : pz_R) (dp u : Int) : Nat → Int → (pz_O → Prop) → pz_O → Prop
  | 0, _, p => p
  | n + 1, l, p => qd R dp u n (l - 1) (pz_q p (fun i I F t => R 6 (l - 1) [t] i dp u I F))
theorem qd_mono : ∀ (n : Nat) (l : Int) (p p2 : pz_O → Prop) (o : pz_O), (∀ o, p o → p2 o) → qd R dp u n l p o → qd R dp u n l p2 o
  | 0, _, _, _, o, h, q => h o q
  | n + 1, l, p, p2, o, h, q => qd_mono n (l - 1) _ _ o (fun _ q2 => pz_q_mono h q2) q
theorem qd_as (A : pz_O → Prop) : ∀ (n : Nat) (l : Int) (B : Nat → List pz_I → List pz_F → Int → pz_O → Prop) (o : pz_O), pz_q A (fun i I F t => qd R dp u n l (B i I F t)) o → qd R dp u n l (pz_q A B) o
  | 0, _, _, _, h => h
  | n + 1, l, B, o, h => qd_mono n (l - 1) _ _ o (fun _ q => q_as q) (qd_as A n (l - 1) (fun i I F t => pz_q (B i I F t) (fun i I F t => R 6 (l - 1) [t] i dp u I F)) o h)
/-- what waits: an operator, and the instruction that jumps -/
def wl : List (Int × Nat) → Int
  | [] => 1
  | x :: _ => pz_lv x.1 + 1
/-- operators that wait and whose instruction is still to come -/
def awN : List (Int × Nat) → Nat
  | [] => 0
  | x :: W => (if pz_lv x.1 ≤ 2 then 0 else 1) + awN W
theorem awN_c (x : Int × Nat) (W : List (Int × Nat)) : (pz_lv x.1 ≤ 2 ∧ awN (x :: W) = awN W) ∨ (3 ≤ pz_lv x.1 ∧ awN (x :: W) = awN W + 1) := by
  by_cases h : pz_lv x.1 ≤ 2
  · refine Or.inl ⟨h, ?_⟩
    show (if pz_lv x.1 ≤ 2 then 0 else 1) + awN W = _
    rw [if_pos h, Nat.zero_add]
  · refine Or.inr ⟨by omega, ?_⟩
    show (if pz_lv x.1 ≤ 2 then 0 else 1) + awN W = _
    rw [if_neg h, Nat.add_comm]
/-- an operator's right side has come -/
def ws1 (u : Int) (x : Int × Nat) (I : List pz_I) : List pz_I := if pz_lv x.1 ≤ 2 then pz_a I x.2 (pz_h I u) else I ++ [(pz_or x.1, 0, 0, u)]
/-- what comes behind all that waits -/
def kx (R : pz_R) (dp u : Int) : List (Int × Nat) → Nat → List pz_I → List pz_F → Int → pz_O → Prop
  | [], i, I, F, t => fun o => o = .inr (i, I, F, t)
  | x :: W, i, I, F, _ => pz_q (qd R dp u (pz_lv x.1 - wl W).toNat (pz_lv x.1) (R 6 (pz_lv x.1) [0] i dp u (ws1 u x I) F)) (kx R dp u W)
/-- what waits binds the closer the later it came; its jumps stand from m on, below b -/
def ow (m b : Nat) : List (Int × Nat) → Prop
  | [] => True
  | x :: W => (1 ≤ pz_lv x.1 ∧ pz_lv x.1 ≤ 6) ∧ wl W ≤ pz_lv x.1 ∧ (pz_lv x.1 ≤ 2 → m ≤ x.2 ∧ x.2 < b) ∧ ow m b W
theorem ow_le {m b b2 : Nat} (hb : b ≤ b2) : ∀ W : List (Int × Nat), ow m b W → ow m b2 W
  | [], _ => trivial
  | x :: W, h => ⟨h.1, h.2.1, fun q => ⟨(h.2.2.1 q).1, Nat.lt_of_lt_of_le (h.2.2.1 q).2 hb⟩, ow_le hb W h.2.2.2⟩
theorem ow_wl {m b : Nat} : ∀ W : List (Int × Nat), ow m b W → 1 ≤ wl W ∧ wl W ≤ 7
  | [], _ => ⟨by decide, by decide⟩
  | x :: W, h => ⟨by have := h.1; show 1 ≤ pz_lv x.1 + 1; omega, by have := h.1; show pz_lv x.1 + 1 ≤ 7; omega⟩
theorem ow_len {m b : Nat} : ∀ W : List (Int × Nat), ow m b W → (W.length : Int) + 1 ≤ wl W
  | [], _ => by decide
  | x :: W, h => by
    have h1 := ow_len W h.2.2.2
    have h2 := h.2.1
    have h3 : ((x :: W).length : Int) = (W.length : Int) + 1 := rfl
    show ((x :: W).length : Int) + 1 ≤ pz_lv x.1 + 1
    omega
/-- an operand is to come -/
def wH (R : pz_R) (dp u : Int) (Φ : pz_O → Prop) (W : List (Int × Nat)) (i : Nat) (I : List pz_I) (F : List pz_F) : Prop := ∀ o : pz_O, pz_q (R 5 (wl W) [] i dp u I F) (kx R dp u W) o → Φ o
/-- an operand has come, ahead of what is of level v -/
def wD (R : pz_R) (dp u : Int) (Φ : pz_O → Prop) (W : List (Int × Nat)) (v : Int) (i : Nat) (I : List pz_I) (F : List pz_F) (t : Int) : Prop := (wl W ≤ v → ∀ o : pz_O, pz_q (qd R dp u (v - wl W).toNat v (R 6 v [t] i dp u I F)) (kx R dp u W) o → Φ o) ∧ (v < wl W → ∀ o : pz_O, kx R dp u W i I F t o → Φ o)
theorem L_pass (hR : pz_C K V P f R) {l : Int} (h : pz_lv (K i) ≠ l) : R 6 l [t] i dp u I F (.inr (i, I, F, t)) := pz_cL hR (by unfold pz_L; rw [if_pos h])
/-- levels that aren't this one's are passed -/
theorem qd_skip (hR : pz_C K V P f R) {v : Int} (hv : pz_lv (K i) = v) : ∀ (a n : Nat) (l : Int) (o : pz_O), l = v + a → qd R dp u n v (R 6 v [t] i dp u I F) o → qd R dp u (n + a) l (R 6 l [t] i dp u I F) o
  | 0, n, l, o, hl, h => by
    have e : l = v := by omega
    subst e
    exact h
  | a + 1, n, l, o, hl, h => by
    show qd R dp u (n + a) (l - 1) (pz_q (R 6 l [t] i dp u I F) (fun i I F t => R 6 (l - 1) [t] i dp u I F)) o
    refine qd_mono (n + a) (l - 1) _ _ o (fun o2 q => ?_) (qd_skip hR hv a n (l - 1) o (by omega) h)
    exact pz_qo (L_pass hR (by omega)) q
theorem qd_all (hR : pz_C K V P f R) {v : Int} (hv : pz_lv (K i) = v) : ∀ (n : Nat) (l : Int), v < l - n → qd R dp u n l (R 6 l [t] i dp u I F) (.inr (i, I, F, t))
  | 0, l, h => L_pass hR (by omega)
  | n + 1, l, h => by
    show qd R dp u n (l - 1) (pz_q (R 6 l [t] i dp u I F) (fun i I F t => R 6 (l - 1) [t] i dp u I F)) _
    refine qd_mono n (l - 1) _ _ _ (fun o2 q => ?_) (qd_all hR hv n (l - 1) (by omega))
    exact pz_qo (L_pass hR (by omega)) q
theorem E_dn (hR : pz_C K V P f R) : ∀ (n : Nat) (l : Int) (o : pz_O), l ≤ 7 → qd R dp u n l (R 5 l [] i dp u I F) o → R 5 (l - n) [] i dp u I F o
  | 0, l, o, _, h => by
    rw [show l - ((0 : Nat) : Int) = l by omega]
    exact h
  | n + 1, l, o, hl, h => by
    rw [show l - ((n + 1 : Nat) : Int) = (l - 1) - (n : Int) by omega]
    refine E_dn hR n (l - 1) o (by omega) (qd_mono n (l - 1) _ _ o (fun o2 q => ?_) h)
    refine pz_cE hR ?_
    unfold pz_E
    rw [if_neg (by omega), show l - 1 + 1 = l by omega]
    exact q
theorem E_pass (hR : pz_C K V P f R) {v : Int} (hv : pz_lv (K i) = v) (h7 : R 7 0 [] i1 dp u I1 F1 (.inr (i, I, F, t))) : ∀ n : Nat, v < 7 - (n : Int) → R 5 (7 - (n : Int)) [] i1 dp u I1 F1 (.inr (i, I, F, t))
  | 0, _ => pz_cE hR (by unfold pz_E; rw [if_pos (by omega)]; exact h7)
  | n + 1, h => by
    refine pz_cE hR ?_
    unfold pz_E
    rw [if_neg (by omega), show 7 - ((n + 1 : Nat) : Int) + 1 = 7 - (n : Int) by omega]
    exact pz_qo (E_pass hR hv h7 n (by omega)) (L_pass hR (by omega))
theorem E_f (hR : pz_C K V P f R) {e : Int} (h7 : R 7 0 [] i1 dp u I1 F1 (.inl e)) : ∀ n : Nat, R 5 (7 - (n : Int)) [] i1 dp u I1 F1 (.inl e)
  | 0 => pz_cE hR (by unfold pz_E; rw [if_pos (by omega)]; exact h7)
  | n + 1 => by
    refine pz_cE hR ?_
    unfold pz_E
    rw [if_neg (by omega), show 7 - ((n + 1 : Nat) : Int) + 1 = 7 - (n : Int) by omega]
    exact pz_qi (E_f hR h7 n)
theorem lv_rg (k : Int) : 0 ≤ pz_lv k ∧ pz_lv k ≤ 6 := by
  unfold pz_lv
  repeat' split
  all_goals omega
variable {m b : Nat} {W : List (Int × Nat)}
/-- a fault of an operand -/
theorem wH_f (hR : pz_C K V P f R) (ho : ow m b W) (h : wH R dp u Φ W i1 I1 F1) {e : Int} (h7 : R 7 0 [] i1 dp u I1 F1 (.inl e)) : Φ (.inl e) := by
  have h1 := ow_wl W ho
  have h2 := E_f hR h7 (7 - wl W).toNat
  rw [show 7 - ((7 - wl W).toNat : Int) = wl W by omega] at h2
  exact h _ (pz_qi h2)
/-- an operand -/
theorem wH_D (hR : pz_C K V P f R) (ho : ow m b W) (h : wH R dp u Φ W i1 I1 F1) (h7 : R 7 0 [] i1 dp u I1 F1 (.inr (i, I, F, t))) : wD R dp u Φ W (pz_lv (K i)) i I F t := by
  have h1 := ow_wl W ho
  have h0 := lv_rg (K i)
  refine ⟨fun hv o q => h o ?_, fun hv o q => h o ?_⟩
  · refine pz_q_mono (fun o2 q2 => ?_) q
    have h3 := E_pass hR rfl h7 (7 - (pz_lv (K i) + 1)).toNat (by omega)
    rw [show 7 - ((7 - (pz_lv (K i) + 1)).toNat : Int) = pz_lv (K i) + 1 by omega] at h3
    have h4 := E_dn (i := i1) (I := I1) (F := F1) (dp := dp) (u := u) hR (pz_lv (K i) - wl W).toNat (pz_lv (K i)) o2 (by omega) (qd_mono _ _ _ _ o2 (fun o3 q3 => pz_cE hR (by unfold pz_E; rw [if_neg (by omega)]; exact pz_qo h3 q3)) q2)
    rw [show pz_lv (K i) - ((pz_lv (K i) - wl W).toNat : Int) = wl W by omega] at h4
    exact h4
  · have h3 := E_pass hR rfl h7 (7 - wl W).toNat (by omega)
    rw [show 7 - ((7 - wl W).toNat : Int) = wl W by omega] at h3
    exact pz_qo h3 q
/-- the last that waits has its right side -/
theorem wD_pop (hR : pz_C K V P f R) {x : Int × Nat} (ho : ow m b (x :: W)) (hv : pz_lv (K i) ≤ pz_lv x.1) (h : wD R dp u Φ (x :: W) (pz_lv (K i)) i I F t) : wD R dp u Φ W (pz_lv (K i)) i (ws1 u x I) F 0 := by
  have h0 := lv_rg (K i)
  have h1 := h.2 (show pz_lv (K i) < pz_lv x.1 + 1 by omega)
  have h2 := ho.2.1
  have h3 := ow_wl W ho.2.2.2
  refine ⟨fun hv2 o q => h1 o ?_, fun hv2 o q => h1 o ?_⟩
  · refine pz_q_mono (fun o2 q2 => ?_) q
    have h4 := qd_skip hR rfl (pz_lv x.1 - pz_lv (K i)).toNat (pz_lv (K i) - wl W).toNat (pz_lv x.1) o2 (by omega) q2
    rw [show (pz_lv (K i) - wl W).toNat + (pz_lv x.1 - pz_lv (K i)).toNat = (pz_lv x.1 - wl W).toNat by omega] at h4
    exact h4
  · exact pz_qo (qd_all hR rfl (pz_lv x.1 - wl W).toNat (pz_lv x.1) (by omega)) q
/-- an operator that will wait -/
theorem wD_push (hR : pz_C K V P f R) {j : Nat} (hv : 1 ≤ pz_lv (K i)) (hw : wl W ≤ pz_lv (K i)) (hj : pz_lv (K i) ≤ 2 → j = I.length) (h : wD R dp u Φ W (pz_lv (K i)) i I F t) : wH R dp u Φ ((K i, j) :: W) (i + 1) (if pz_lv (K i) ≤ 2 then I ++ [(if pz_lv (K i) = 1 then 22 else 23, 0, 0, u)] else I) F := by
  intro o q
  refine h.1 hw o ?_
  have h1 : ∀ o2, pz_q (R 5 (pz_lv (K i) + 1) [] (i + 1) dp u (if pz_lv (K i) ≤ 2 then I ++ [(if pz_lv (K i) = 1 then 22 else 23, 0, 0, u)] else I) F) (fun i2 I2 F2 _ => R 6 (pz_lv (K i)) [0] i2 dp u (ws1 u (K i, j) I2) F2) o2 → R 6 (pz_lv (K i)) [t] i dp u I F o2 := by
    intro o2 q2
    refine pz_cL hR ?_
    unfold pz_L
    rw [if_neg (by omega)]
    by_cases h2 : pz_lv (K i) ≤ 2
    · rw [if_pos h2] at q2 ⊢
      refine pz_q_k (fun i2 I2 F2 t2 o3 q3 => ?_) q2
      unfold ws1 at q3
      rw [if_pos h2] at q3
      rw [← hj h2]
      exact q3
    · rw [if_neg h2] at q2 ⊢
      refine pz_q_k (fun i2 I2 F2 t2 o3 q3 => ?_) q2
      unfold ws1 at q3
      rw [if_neg h2] at q3
      exact q3
  refine pz_q_mono (fun o2 q2 => qd_mono _ _ _ _ o2 h1 (qd_as _ _ _ _ o2 q2)) ?_
  exact q_as q
theorem wD_end (h : wD R dp u Φ [] 0 i I F t) : Φ (.inr (i, I, F, t)) := h.2 (by decide) _ rfl
/-- all that waits has its right side -/
theorem wD_all (hR : pz_C K V P f R) (hk : pz_lv (K i) = 0) : ∀ (W : List (Int × Nat)) (I : List pz_I) (t : Int), ow m b W → wD R dp u Φ W 0 i I F t → ∃ (I2 : List pz_I) (t2 : Int), Φ (.inr (i, I2, F, t2)) ∧ (W ≠ [] → t2 = 0) ∧ (W = [] → t2 = t)
  | [], I, t, _, h => ⟨I, t, wD_end h, fun q => absurd rfl q, fun _ => rfl⟩
  | x :: W, I, t, ho, h => by
    have h1 : wD R dp u Φ W 0 i (ws1 u x I) F 0 := by
      have h2 := wD_pop (K := K) (i := i) hR ho (by rw [hk]; have := ho.1; omega) (by rw [hk]; exact h)
      rw [hk] at h2
      exact h2
    obtain ⟨I2, t2, a, b1, c1⟩ := wD_all hR hk W (ws1 u x I) 0 ho.2.2.2 h1
    refine ⟨I2, t2, a, fun _ => ?_, fun q => by cases q⟩
    cases W with
    | nil => exact c1 rfl
    | cons y W => exact b1 (fun q => by cases q)
/-- fronts, the innermost ahead -/
def fc (u : Int) : List Int → (pz_O → Prop) → pz_O → Prop
  | [], p => p
  | k :: L, p => fc u L (pz_q p (fun j I F _ o => o = .inr (j, I ++ [(if k = 24 then 12 else 13, 0, 0, u)], F, 0)))
def sf (u : Int) : List Int → List pz_I → List pz_I
  | [], I => I
  | k :: L, I => sf u L (I ++ [(if k = 24 then 12 else 13, 0, 0, u)])
theorem fc_mono : ∀ (L : List Int) (p p2 : pz_O → Prop) (o : pz_O), (∀ o, p o → p2 o) → fc u L p o → fc u L p2 o
  | [], _, _, o, h, q => h o q
  | k :: L, p, p2, o, h, q => fc_mono L _ _ o (fun _ q2 => pz_q_mono h q2) q
theorem fc_f {e : Int} : ∀ (L : List Int) (p : pz_O → Prop), p (.inl e) → fc u L p (.inl e)
  | [], _, h => h
  | _ :: L, p, h => fc_f L _ (pz_qi h)
theorem fc_o : ∀ (L : List Int) (p : pz_O → Prop) (I : List pz_I) (t : Int), p (.inr (i, I, F, t)) → fc u L p (.inr (i, sf u L I, F, if L = [] then t else 0))
  | [], _, _, _, h => h
  | k :: L, p, I, t, h => by
    have h1 := fc_o L (pz_q p (fun j I F _ o => o = .inr (j, I ++ [(if k = 24 then 12 else 13, 0, 0, u)], F, 0))) (I ++ [(if k = 24 then 12 else 13, 0, 0, u)]) 0 (pz_qo h rfl)
    have e : (if L = [] then (0 : Int) else 0) = 0 := by split <;> rfl
    rw [e] at h1
    rw [if_neg (by intro q; cases q)]
    exact h1
theorem sf_len : ∀ (L : List Int) (I : List pz_I), (sf u L I).length = I.length + L.length
  | [], _ => rfl
  | k :: L, I => by
    show (sf u L (I ++ [(if k = 24 then 12 else 13, 0, 0, u)])).length = I.length + (L.length + 1)
    rw [sf_len L, List.length_append]
    show I.length + 1 + L.length = _
    omega
end Wbe
