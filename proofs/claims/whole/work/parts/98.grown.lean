/-! PART 98: arrays that grow. -/
section W98
variable {xs : List (Nat × List Int32)} {M : Nat → Prop} {d : Nat} {S A B Z : wS} {Q : wO → wS → Prop}
/-- the slots of the list, and what is new -/
def mS (l : List Nat) (k : Nat) : Prop := 4000000 ≤ k ∨ k ∈ l
theorem mS_sub {a b : List Nat} (h : ∀ x ∈ a, x ∈ b) {k : Nat} (q : mS a k) : mS b k := q.imp id (fun z => h k z)
theorem mS_no {l : List Nat} {k : Nat} (h : (Nat.blt k 4000000 && !l.contains k) = true) : ¬ mS l k := by
  rw [Bool.and_eq_true, Bool.not_eq_true'] at h
  rintro (q | q)
  · exact absurd (Nat.le_of_ble_eq_true h.1) (by omega)
  · rw [List.contains_iff_mem.mpr q] at h
    exact absurd h.2 (by decide)
theorem w_kl_mono {Y : wY} {M1 M2 : Nat → Prop} (h : ∀ k, M1 k → M2 k) : ∀ {L : wL}, w_kl Y S M2 L → w_kl Y S M1 L := by
  intro L
  induction L with
  | nil => intro _; trivial
  | cons a t ih =>
    intro q
    refine ⟨?_, ih q.2⟩
    have := q.1
    unfold w_kv at this ⊢
    split at this
    · trivial
    · trivial
    · exact this.imp id (fun z => ⟨z.1, fun y => z.2 (h _ y)⟩)
theorem w_ks_mono {Y : wY} {M1 M2 : Nat → Prop} (h : ∀ k, M1 k → M2 k) : ∀ {L : List wv}, w_ks Y S M2 L → w_ks Y S M1 L := by
  intro L
  induction L with
  | nil => intro _; trivial
  | cons a t ih =>
    intro q
    refine ⟨?_, ih q.2⟩
    have := q.1
    unfold w_kv at this ⊢
    split at this
    · trivial
    · trivial
    · exact this.imp id (fun z => ⟨z.1, fun y => z.2 (h _ y)⟩)
/-- Reader's tape need not be known -/
theorem wJ_fg {G : pe_G} {mt : pe_Mt} {is : List pe_I} {L : wL} {st : List wv} (h : wJ G wY0 M d mt is L st (w_up S 14 5 (-2)) Q) : wJ G wY0 M d mt is L st S Q := by
  intro ad Lc hp hE hL
  have hm : ∀ k, w_pr wY0 S k → w_pr wY0 (w_up S 14 5 (-2)) k := fun k q => (w_up_pr (by omega)).mpr q
  have hE2 : w_E wY0 ad (w_up S 14 5 (-2)) hp := by
    refine ⟨fun j hj => ?_, fun j k q1 q2 => hE.2.1 j k ((w_up_pr (by omega)).mp q1) ((w_up_pr (by omega)).mp q2), hE.2.2.1, hE.2.2.2.1, fun j q => hE.2.2.2.2 j ((w_up_pr (by omega)).mp q)⟩
    obtain ⟨x, h1, h2⟩ := hE.1 j ((w_up_pr (by omega)).mp hj)
    refine ⟨x, h1, ?_⟩
    by_cases hj14 : j = 14
    · subst hj14
      rcases x with ⟨t, n, c⟩ | ⟨ci, vs⟩ | ⟨t, n, c⟩ | ⟨t, n, c⟩
      · have q1 := h2.1; have q2 := h2.2.1; rw [wt_14] at q1; omega
      · have q1 := h2.1
        rw [wt_14] at q1
        have q2 : ci = 6 := by omega
        subst q2
        refine ⟨h2.1, h2.2.1, fun i k hk => ?_⟩
        by_cases hi : i = 5
        · subst hi
          have q3 : k = 6 := (Option.some.inj (hk.symm.trans (by decide +kernel : (wY0.fk 6)[5]? = some 6)))
          subst q3
          exact ⟨Or.inl ⟨rfl, rfl⟩, trivial, Or.inl (by show (-2 : Int) < 0; decide)⟩
        · have e : w_up S 14 5 (-2) 14 i = S 14 i := w_up_at (by omega)
          rw [e]
          have q4 := h2.2.2 i k hk
          exact ⟨q4.1, q4.2.1, w_sr_mono hm q4.2.2⟩
      · have q1 := h2.1; have q2 := h2.2.1; rw [wt_14] at q1; omega
      · have q1 := h2.1; have q2 := h2.2.1; rw [wt_14] at q1; omega
    · exact w_c_same hm (fun n => w_up_slot hj14) h2
  obtain ⟨o, ad2, S2, h2, f0, a, b, c, e⟩ := h ad Lc hp hE2 hL
  exact ⟨o, ad2, S2, h2, f0, a, b, fun j hj => c j (hm j hj), e⟩
theorem wn_ble {a b : Nat} (h : ¬ a ≤ b) : Nat.ble a b = false := Bool.eq_false_iff.mpr (fun q => h (Nat.le_of_ble_eq_true q))
theorem wn_beq {a b : Nat} (h : a ≠ b) : Nat.beq a b = false := Bool.eq_false_iff.mpr (fun q => h (Nat.eq_of_beq_eq_true q))
theorem wb_gf6 {G : pe_G} {Y : wY} {mt : pe_Mt} {rest : List pe_I} {L : wL} {st : List wv} {x v : Int} {ix ci k0 wd : Nat} {host : Option String} (j : Nat) (hx : x = j) (hp : w_pr Y S j) (ht : Y.ty j = 100 + ci) (hf : (Y.fk ci)[k0]? = some 6) (hv : S j k0 = v) (hn : v ≠ -2) (k : wJ G Y M d mt rest L ((2, v) :: st) S Q) : wJ G Y M d mt (.inr (.inl (ix, ci, k0, host, wd)) :: rest) L ((2, x) :: st) S Q := by
  subst hv
  exact wa_gf j hx hp ht hf (fun _ => hn) rfl (fun _ _ => k)
theorem wE_G {Y : wY} {ad : Nat → Nat} {h : pe_H} (hE : w_E Y ad S h) : 0 ≤ S wG 1 := by rw [hE.2.2.2.1]; omega
/-- the name of the next cell -/
def nN (S : wS) (c : Nat) : Nat := 4000000 + 64 * (S wG 1).toNat + c
theorem nN_rg {c : Nat} (h : 0 ≤ S wG 1) (hc : c < 64) : 4000000 + 64 * S wG 1 ≤ (nN S c : Int) ∧ (nN S c : Int) < 4000000 + 64 * (S wG 1 + 1) := by unfold nN; omega
theorem nN_ge (c : Nat) : 4000000 ≤ nN S c := by unfold nN; omega
theorem wt_nN {c : Nat} (hc : c < 10) : wY0.ty (nN S c) = c := by
  have h1 : nN S c = 4000000 + 64 * (S wG 1).toNat + c := rfl
  have h2 : Nat.blt (nN S c) 388 = false := wn_ble (by omega)
  have h3 : Nat.ble 4000000 (nN S c) = true := Nat.ble_eq_true_of_le (by omega)
  have h4 : (nN S c - 4000000) % 64 = c := by omega
  have h5 : Nat.beq c 10 = false := wn_beq (by omega)
  have h6 : Nat.blt c 32 = true := Nat.ble_eq_true_of_le (by omega)
  show (bif Nat.blt (nN S c) 388 then _ else bif Nat.ble 4000000 (nN S c) then (bif Nat.beq ((nN S c - 4000000) % 64) 10 then 0 else bif Nat.blt ((nN S c - 4000000) % 64) 32 then (nN S c - 4000000) % 64 else (nN S c - 4000000) % 64 + 68) else wy_p (nN S c)) = c
  rw [h2, h3, h4, h5, h6]
  rfl
theorem wc_nN {c : Nat} (hc : c < 10) : wY0.co (nN S c) = 0 := by
  have h1 : nN S c = 4000000 + 64 * (S wG 1).toNat + c := rfl
  have h4 : (nN S c - 4000000) % 64 = c := by omega
  show (bif Nat.beq (nN S c) 288 || (Nat.beq (nN S c) 290 || (Nat.beq (nN S c) 292 || ((Nat.ble 4000000 (nN S c) && Nat.beq ((nN S c - 4000000) % 64) 10) || wy_q (nN S c)))) then 1 else 0) = 0
  have h9 : wy_q (nN S c) = false := by
    unfold wy_q
    rw [show Nat.blt (nN S c) 4000000 = false from wn_ble (by omega), Bool.false_and, Bool.and_false]
  rw [h9, h4, wn_beq (show nN S c ≠ 288 by omega), wn_beq (show nN S c ≠ 290 by omega), wn_beq (show nN S c ≠ 292 by omega), wn_beq (show c ≠ 10 by omega), Bool.and_false]
  rfl
/-- the reference to a slot stands at one place alone -/
def wl_c1 (j0 : Int) (i0 : Nat) (ok : Bool) : List Int → Nat → Bool
  | [], _ => true
  | v :: r, i => ((!decide (v = j0)) || (ok && Nat.beq i i0)) && (decide (v < 388) && wl_c1 j0 i0 ok r (i + 1))
theorem wl_c1_ok {j0 : Int} {i0 : Nat} {ok : Bool} : ∀ (l : List Int) (n : Nat), wl_c1 j0 i0 ok l n = true → ∀ (i : Nat) (v : Int), l[i]? = some v → v < 388 ∧ (v = j0 → ok = true ∧ n + i = i0) := by
  intro l
  induction l with
  | nil => intro n _ i v h; rw [List.getElem?_nil] at h; cases h
  | cons a t ih =>
    intro n h i v hv
    unfold wl_c1 at h
    rw [Bool.and_eq_true, Bool.and_eq_true, Bool.or_eq_true, Bool.and_eq_true, Bool.not_eq_true', decide_eq_false_iff_not, decide_eq_true_eq] at h
    cases i with
    | zero =>
      rw [List.getElem?_cons_zero] at hv
      have e := Option.some.inj hv
      subst e
      refine ⟨h.2.1, fun q => ?_⟩
      rcases h.1 with z | z
      · exact absurd q z
      · exact ⟨z.1, Nat.eq_of_beq_eq_true z.2⟩
    | succ i =>
      rw [List.getElem?_cons_succ] at hv
      have := ih (n + 1) h.2.2 i v hv
      exact ⟨this.1, fun q => ⟨(this.2 q).1, by have := (this.2 q).2; omega⟩⟩
def wl_c2 (j0 : Int) (k0 i0 : Nat) : List (List Int) → Nat → Bool
  | [], _ => true
  | r :: t, k => wl_c1 j0 i0 (Nat.beq k k0) r 0 && wl_c2 j0 k0 i0 t (k + 1)
theorem wl_c2_ok {j0 : Int} {k0 i0 : Nat} : ∀ (l : List (List Int)) (n : Nat), wl_c2 j0 k0 i0 l n = true → ∀ (k : Nat) (r : List Int), l[k]? = some r → wl_c1 j0 i0 (Nat.beq (n + k) k0) r 0 = true := by
  intro l
  induction l with
  | nil => intro n _ k r h; rw [List.getElem?_nil] at h; cases h
  | cons a t ih =>
    intro n h k r hr
    unfold wl_c2 at h
    rw [Bool.and_eq_true] at h
    cases k with
    | zero =>
      rw [List.getElem?_cons_zero] at hr
      have e := Option.some.inj hr
      subst e
      exact h.1
    | succ k =>
      rw [List.getElem?_cons_succ] at hr
      have := ih (n + 1) h.2 k r hr
      rw [show n + 1 + k = n + (k + 1) by omega] at this
      exact this
theorem wl_at {j0 : Int} {k0 i0 : Nat} (h : wl_c2 j0 k0 i0 wy_l 0 = true) (k i : Nat) : wY0.ln k i < 388 ∧ (0 ≤ j0 → wY0.ln k i = j0 → k = k0 ∧ i = i0) := by
  show (pe_at ((pe_at wy_l k).getD []) i).getD (-1) < 388 ∧ (0 ≤ j0 → (pe_at ((pe_at wy_l k).getD []) i).getD (-1) = j0 → k = k0 ∧ i = i0)
  rw [pe_at_eq, pe_at_eq]
  cases hk : wy_l[k]? with
  | none =>
    rw [Option.getD_none, List.getElem?_nil]
    exact ⟨by decide, fun q1 q2 => by rw [Option.getD_none] at q2; omega⟩
  | some r =>
    rw [Option.getD_some]
    have h1 := wl_c2_ok wy_l 0 h k r hk
    cases hi : r[i]? with
    | none => exact ⟨by decide, fun q1 q2 => by rw [Option.getD_none] at q2; omega⟩
    | some v =>
      rw [Option.getD_some]
      have h2 := wl_c1_ok r 0 h1 i v hi
      refine ⟨h2.1, fun _ q => ?_⟩
      have h3 := h2.2 q
      exact ⟨by have := Nat.eq_of_beq_eq_true h3.1; omega, by omega⟩
/-- which fields are of kind 6 -/
def wf_c6 : List Nat → Nat → Nat → Bool
  | [], _, _ => true
  | v :: r, c, i => ((!Nat.beq v 6) || ((Nat.beq c 6 && Nat.beq i 5) || (Nat.beq c 11 && Nat.blt i 5))) && wf_c6 r c (i + 1)
theorem wf_c6_ok {c : Nat} : ∀ (l : List Nat) (n : Nat), wf_c6 l c n = true → ∀ i : Nat, l[i]? = some 6 → (c = 6 ∧ n + i = 5) ∨ (c = 11 ∧ n + i < 5) := by
  intro l
  induction l with
  | nil => intro n _ i h; rw [List.getElem?_nil] at h; cases h
  | cons a t ih =>
    intro n h i hv
    unfold wf_c6 at h
    rw [Bool.and_eq_true, Bool.or_eq_true, Bool.or_eq_true, Bool.and_eq_true, Bool.and_eq_true] at h
    cases i with
    | zero =>
      rw [List.getElem?_cons_zero] at hv
      have e := Option.some.inj hv
      subst e
      rcases h.1 with z | z | z
      · exact absurd z (by decide)
      · exact Or.inl ⟨Nat.eq_of_beq_eq_true z.1, Nat.eq_of_beq_eq_true z.2⟩
      · exact Or.inr ⟨Nat.eq_of_beq_eq_true z.1, Nat.le_of_ble_eq_true z.2⟩
    | succ i =>
      rw [List.getElem?_cons_succ] at hv
      have := ih (n + 1) h.2 i hv
      omega
def wf_d6 : List (List Nat) → Nat → Bool
  | [], _ => true
  | r :: t, c => wf_c6 r c 0 && wf_d6 t (c + 1)
theorem wf_d6_ok : ∀ (l : List (List Nat)) (n : Nat), wf_d6 l n = true → ∀ (c : Nat) (r : List Nat), l[c]? = some r → wf_c6 r (n + c) 0 = true := by
  intro l
  induction l with
  | nil => intro n _ c r h; rw [List.getElem?_nil] at h; cases h
  | cons a t ih =>
    intro n h c r hr
    unfold wf_d6 at h
    rw [Bool.and_eq_true] at h
    cases c with
    | zero =>
      rw [List.getElem?_cons_zero] at hr
      have e := Option.some.inj hr
      subst e
      exact h.1
    | succ c =>
      rw [List.getElem?_cons_succ] at hr
      have := ih (n + 1) h.2 c r hr
      rw [show n + 1 + c = n + (c + 1) by omega] at this
      exact this
theorem wf_6 {c i : Nat} (h : (wY0.fk c)[i]? = some 6) : (c = 6 ∧ i = 5) ∨ (c = 11 ∧ i < 5) := by
  have h0 : wf_d6 wy_f 0 = true := by decide +kernel
  rw [show wY0.fk c = (pe_at wy_f c).getD [] from rfl, pe_at_eq] at h
  cases hc : wy_f[c]? with
  | none => rw [hc, Option.getD_none, List.getElem?_nil] at h; cases h
  | some r =>
    rw [hc, Option.getD_some] at h
    have h1 := wf_d6_ok wy_f 0 h0 c r hc
    have h2 := wf_c6_ok r 0 h1 i h
    omega
def wt_c : List Nat → Nat → Bool
  | [], _ => true
  | v :: r, j => ((!Nat.beq v 106) || Nat.beq j 14) && (((!Nat.beq v 111) || Nat.beq j 238) && wt_c r (j + 1))
theorem wt_c_ok : ∀ (l : List Nat) (n : Nat), wt_c l n = true → ∀ (j v : Nat), l[j]? = some v → (v = 106 → n + j = 14) ∧ (v = 111 → n + j = 238) := by
  intro l
  induction l with
  | nil => intro n _ j v h; rw [List.getElem?_nil] at h; cases h
  | cons a t ih =>
    intro n h j v hv
    unfold wt_c at h
    rw [Bool.and_eq_true, Bool.and_eq_true, Bool.or_eq_true, Bool.or_eq_true] at h
    cases j with
    | zero =>
      rw [List.getElem?_cons_zero] at hv
      have e := Option.some.inj hv
      subst e
      refine ⟨fun q => ?_, fun q => ?_⟩
      · subst q
        rcases h.1 with z | z
        · exact absurd z (by decide)
        · exact Nat.eq_of_beq_eq_true z
      · subst q
        rcases h.2.1 with z | z
        · exact absurd z (by decide)
        · exact Nat.eq_of_beq_eq_true z
    | succ j =>
      rw [List.getElem?_cons_succ] at hv
      have := ih (n + 1) h.2.2 j v hv
      omega
theorem wt_k6 {k c : Nat} (hc : c = 6 ∨ c = 11) (h : wY0.ty k = 100 + c) : k = 14 ∨ k = 238 ∨ (4000000 ≤ k ∧ ((k - 4000000) % 64 = 38 ∨ (k - 4000000) % 64 = 43)) := by
  have h0 : wt_c wy_t 0 = true := by decide +kernel
  have hs : wY0.ty k = (bif Nat.blt k 388 then (pe_at wy_t k).getD 0 else bif Nat.ble 4000000 k then (bif Nat.beq ((k - 4000000) % 64) 10 then 0 else bif Nat.blt ((k - 4000000) % 64) 32 then (k - 4000000) % 64 else (k - 4000000) % 64 + 68) else wy_p k) := rfl
  rw [hs] at h
  cases h1 : Nat.blt k 388 with
  | true =>
    rw [h1, cond_true, pe_at_eq] at h
    cases h2 : wy_t[k]? with
    | none => rw [h2, Option.getD_none] at h; omega
    | some v =>
      rw [h2, Option.getD_some] at h
      have := wt_c_ok wy_t 0 h0 k v h2
      omega
  | false =>
    rw [h1, cond_false] at h
    cases h2 : Nat.ble 4000000 k with
    | false => rw [h2, cond_false] at h; have := wy_p_v k; omega
    | true =>
      rw [h2, cond_true] at h
      have h3 := Nat.le_of_ble_eq_true h2
      refine Or.inr (Or.inr ⟨h3, ?_⟩)
      cases h4 : Nat.beq ((k - 4000000) % 64) 10 with
      | true => rw [h4, cond_true] at h; omega
      | false =>
        rw [h4, cond_false] at h
        cases h5 : Nat.blt ((k - 4000000) % 64) 32 with
        | true => rw [h5, cond_true] at h; have := Nat.le_of_ble_eq_true h5; omega
        | false => rw [h5, cond_false] at h; omega
/-- what holds of every state: new cells are arrays and thrown objects, the halt's own references, Reader's tape -/
def gI (S : wS) : Prop := (∀ k : Nat, 4000000 ≤ k → 0 ≤ S k (-1) → (k - 4000000) % 64 ≠ 38 ∧ (k - 4000000) % 64 ≠ 43) ∧ (∀ i : Nat, i < 5 → S 238 i < 0 ∨ S 238 i = 238) ∧ (S 14 5 < 0 ∨ S 14 5 = 1)
theorem gI_6 {j0 t : Nat} (hI : gI S) (h0 : j0 ≠ 238) (h1 : j0 = 1 → S 14 5 < 0) (ht : 4000000 ≤ t) : ∀ k c i : Nat, w_pr wY0 S k → wY0.ty k = 100 + c → (wY0.fk c)[i]? = some 6 → S k i < 0 ∨ ((S k i).toNat ≠ j0 ∧ (S k i).toNat ≠ t) := by
  intro k c i hp hk hf
  have h6 := wf_6 hf
  have h7 := wt_k6 (by omega) hk
  rcases h7 with h7 | h7 | h7
  · subst h7
    rw [wt_14] at hk
    have hi : i = 5 := by omega
    subst hi
    have := hI.2.2
    by_cases hj : j0 = 1
    · exact Or.inl (h1 hj)
    · show S 14 5 < 0 ∨ ((S 14 5).toNat ≠ j0 ∧ (S 14 5).toNat ≠ t)
      omega
  · subst h7
    rw [wt_238] at hk
    have := hI.2.1 i (by omega)
    omega
  · have hz : 0 ≤ S k (-1) := by
      rcases hp.1 with q | q
      · exact absurd (show k < 388 from q) (by omega)
      · exact q
    have := hI.1 k h7.1 hz
    omega
theorem gI_up {j : Nat} {i x : Int} (hI : gI S) (hi : 0 ≤ i) (h1 : j ≠ 238 ∨ 5 ≤ i) (h2 : (j ≠ 14 ∨ i ≠ 5) ∨ x < 0 ∨ x = 1) : gI (w_up S j i x) := by
  refine ⟨fun k q1 q2 => hI.1 k q1 (by rw [w_up_at (by omega)] at q2; exact q2), fun n hn => ?_, ?_⟩
  · rw [w_up_no (by omega)]; exact hI.2.1 n hn
  · by_cases h : j = 14 ∧ i = 5
    · rw [h.1, h.2, w_up_same]; omega
    · rw [w_up_no (by omega)]; exact hI.2.2
/-- the array of slot a has grown to n places -/
def gr_ag (S Z : wS) (a : Nat) (n : Int) : Prop := Z a (-1) = n ∧ (∀ i : Int, 0 ≤ i → i < S a (-1) → Z a i = S a i) ∧ (∀ k : Nat, k ≠ a → k < 4000000 → k ≠ wG → Z k = S k) ∧ Z wG 0 = S wG 0 + n ∧ Z wG 1 = S wG 1 + 1
theorem gr_of {a t : Nat} {n len : Int} (hl : S a (-1) = len) (ha : a < 4000000) (haG : a ≠ wG) (ht : 4000000 ≤ t) (hn : 0 ≤ len ∧ len < n) : gr_ag S (w_sw (w_cp (w_nw S t (w_z n) n) a t 0 0 len) a t) a n := by
  have htG : t ≠ wG := by unfold wG; omega
  refine ⟨?_, fun i i0 i1 => ?_, fun k q1 q2 q3 => ?_, ?_, ?_⟩
  · rw [w_sw_1, w_cp_out (by omega), w_nw_at]; rfl
  · rw [w_sw_1, w_cp_in i0 (by omega), w_nw_of (by omega) haG]; congr 1; omega
  · rw [w_sw_3 q1 (by omega)]; funext i; rw [w_cp_of (by omega), w_nw_of (by omega) q3]
  · rw [w_sw_3 (Ne.symm haG) (Ne.symm htG), w_cp_of (Ne.symm htG)]; exact (w_nw_G htG).1
  · rw [w_sw_3 (Ne.symm haG) (Ne.symm htG), w_cp_of (Ne.symm htG)]; exact (w_nw_G htG).2
theorem gr_gI {a c : Nat} {n len : Int} (hI : gI S) (ha : a < 388) (h1 : a ≠ 238) (h2 : a ≠ 14) (hc : c < 10) (hn : 0 ≤ len ∧ len < n) : gI (w_sw (w_cp (w_nw S (nN S c) (w_z n) n) a (nN S c) 0 0 len) a (nN S c)) := by
  have h3 : nN S c = 4000000 + 64 * (S wG 1).toNat + c := rfl
  have hG : wG = 1000000 := rfl
  refine ⟨fun k q1 q2 => ?_, fun i hi => ?_, ?_⟩
  · by_cases hk : k = nN S c
    · rw [hk]; omega
    · rw [w_sw_3 (by omega) hk, w_cp_of hk, w_nw_of hk (by omega)] at q2
      exact hI.1 k q1 q2
  · rw [w_sw_3 (Ne.symm h1) (by omega), w_cp_of (by omega), w_nw_of (by omega) (by omega)]
    exact hI.2.1 i hi
  · rw [w_sw_3 (Ne.symm h2) (by omega), w_cp_of (by omega), w_nw_of (by omega) (by omega)]
    exact hI.2.2
/-- behind Arrays.copyOf: the field is set to the longer array -/
theorem wg_pf {G : pe_G} {mt : pe_Mt} {rest : List pe_I} {L : wL} {st : List wv} {x n len : Int} {ix ci k0 wd : Nat} {host : Option String} (c j a : Nat) (hx : x = j) (hj : Nat.blt j 388 = true) (ha : Nat.blt a 388 = true) (ht : wY0.ty j = 100 + ci) (hf : (wY0.fk ci)[k0]? = some 4) (hl : wY0.ln j k0 = a) (hu : wl_c2 (a : Int) j k0 wy_l 0 = true) (hta : wY0.ty a = c) (hc : c < 3) (hco : wY0.co a = 0) (hI : gI S) (h14 : a = 1 → S 14 5 < 0) (h238 : a ≠ 238 ∧ a ≠ 14) (hn : 0 ≤ len ∧ len < n) (hsl : S a (-1) = len) (hM : mS [a] a → M a ∧ M (nN S c)) (hkl : w_kl wY0 S (mS [a]) L) (hks : w_ks wY0 S (mS [a]) st) (k : ∀ Z, gr_ag S Z a n → gI Z → wJ G wY0 M d mt rest L st Z Q) : wJ G wY0 M d mt (.inr (.inr (.inr (.inr (.inl (ix, ci, k0, 2, host, wd))))) :: rest) L ((2, (nN S c : Int)) :: (2, x) :: st) (w_cp (w_nw S (nN S c) (w_z n) n) a (nN S c) 0 0 len) Q := by
  have ha' : a < 388 := Nat.le_of_ble_eq_true ha
  have hge : 4000000 ≤ nN S c := nN_ge c
  have hG : wG = 1000000 := rfl
  have hne : nN S c ≠ a := by omega
  have hS : ∀ k : Nat, k ≠ nN S c → k ≠ wG → (w_cp (w_nw S (nN S c) (w_z n) n) a (nN S c) 0 0 len) k = S k := fun k q1 q2 => by funext i; rw [w_cp_of q1, w_nw_of q1 q2]
  have hp : ∀ k : Nat, w_pr wY0 S k → w_pr wY0 (w_cp (w_nw S (nN S c) (w_z n) n) a (nN S c) 0 0 len) k := fun k q => by
    refine ⟨q.1.imp id (fun z => ?_), q.2⟩
    by_cases hk : k = nN S c
    · rw [hk, w_cp_out (by omega), w_nw_at]; show 0 ≤ n; omega
    · rw [hS k hk q.2]; exact z
  have hpt : w_pr wY0 (w_cp (w_nw S (nN S c) (w_z n) n) a (nN S c) 0 0 len) (nN S c) := ⟨Or.inr (by rw [w_cp_out (by omega), w_nw_at]; show 0 ≤ n; omega), by omega⟩
  have hkm : ∀ {v : wv} {M1 : Nat → Prop}, w_kv wY0 S M1 v → w_kv wY0 (w_cp (w_nw S (nN S c) (w_z n) n) a (nN S c) 0 0 len) M1 v := fun {v M1} q => by
    unfold w_kv at q ⊢
    split at q
    · trivial
    · trivial
    · exact q.imp id (fun z => ⟨hp _ z.1, z.2⟩)
  have hmm : ∀ k, (k = a ∨ k = nN S c) → mS [a] k := fun k q => q.elim (fun z => Or.inr (z ▸ List.mem_singleton.mpr rfl)) (fun z => Or.inl (z ▸ hge))
  have hklm : ∀ {L : wL} {M1 : Nat → Prop}, w_kl wY0 S M1 L → w_kl wY0 (w_cp (w_nw S (nN S c) (w_z n) n) a (nN S c) 0 0 len) M1 L := by
    intro L M1
    induction L with
    | nil => intro _; trivial
    | cons u t ih => intro q; exact ⟨hkm q.1, ih q.2⟩
  have hksm : ∀ {L : List wv} {M1 : Nat → Prop}, w_ks wY0 S M1 L → w_ks wY0 (w_cp (w_nw S (nN S c) (w_z n) n) a (nN S c) 0 0 len) M1 L := by
    intro L M1
    induction L with
    | nil => intro _; trivial
    | cons u t ih => intro q; exact ⟨hkm q.1, ih q.2⟩
  refine wa_pf4 j (nN S c) a hx rfl (wy_pr hj) hpt (wy_pr ha) ht hf hl (by rw [wt_nN (by omega), hta]) (by omega) hne hco (wc_nN (by omega)) ?_ (fun k i _ q => (wl_at hu k i).2 (by omega) q) (fun k i _ q => by have := (wl_at hu k i).1; omega) (hM (Or.inr (List.mem_singleton.mpr rfl))) (w_kl_mono hmm (hklm hkl)) (w_ks_mono hmm (hksm hks)) (k _ (gr_of hsl (by omega) (by omega) hge hn) (gr_gI hI ha' h238.1 h238.2 (by omega) hn))
  intro k2 c2 i2 q1 q2 q3
  have h7 := wt_k6 (by have := wf_6 q3; omega) q2
  by_cases hk : k2 = nN S c
  · rw [hk, wt_nN (by omega)] at q2
    omega
  · rw [hS k2 hk (by omega)]
    refine gI_6 hI h238.1 h14 hge k2 c2 i2 ⟨q1.1.imp id (fun z => ?_), q1.2⟩ q2 q3
    rw [hS k2 hk q1.2] at z
    exact z
theorem mn_ok {x y : Int} (hx : -2147483648 ≤ x ∧ x ≤ 2147483647) (hy : -2147483648 ≤ y ∧ y ≤ 2147483647) : wJ (pe_GA xs) wY0 M d t_JM_min ((pe_at t_JM_min.bl 0).getD (0, [])).2 [(0, (0, x)), (1, (0, y))] [] S (fun o S2 => S = S2 ∧ o = .inl (some (0, if x ≤ y then x else y))) := by
  refine wa_iload_n (n := 0) rfl ?_
  refine wa_iload_n (n := 1) rfl ?_
  refine wa_icmpgt (w_rg0 (by omega) (by omega)) (w_rg0 (by omega) (by omega)) ⟨_, rfl⟩ (fun c1 => ?_) (fun c1 => ?_)
  · skip
    refine wa_iload_n (n := 1) rfl ?_
    refine wa_fall ⟨_, rfl⟩ ?_
    refine wa_ireturn rfl ?_
    first | exact ⟨rfl, by rw [if_pos (by omega)]⟩ | exact ⟨rfl, by rw [if_neg (by omega)]⟩
  · skip
    refine wa_iload_n (n := 0) rfl ?_
    refine wa_goto ⟨_, rfl⟩ ?_
    refine wa_ireturn rfl ?_
    first | exact ⟨rfl, by rw [if_pos (by omega)]⟩ | exact ⟨rfl, by rw [if_neg (by omega)]⟩
theorem mx_ok {x y : Int} (hx : -2147483648 ≤ x ∧ x ≤ 2147483647) (hy : -2147483648 ≤ y ∧ y ≤ 2147483647) : wJ (pe_GA xs) wY0 M d t_JM_max ((pe_at t_JM_max.bl 0).getD (0, [])).2 [(0, (0, x)), (1, (0, y))] [] S (fun o S2 => S = S2 ∧ o = .inl (some (0, if x ≥ y then x else y))) := by
  refine wa_iload_n (n := 0) rfl ?_
  refine wa_iload_n (n := 1) rfl ?_
  refine wa_icmplt (w_rg0 (by omega) (by omega)) (w_rg0 (by omega) (by omega)) ⟨_, rfl⟩ (fun c1 => ?_) (fun c1 => ?_)
  · skip
    refine wa_iload_n (n := 1) rfl ?_
    refine wa_fall ⟨_, rfl⟩ ?_
    refine wa_ireturn rfl ?_
    first | exact ⟨rfl, by rw [if_pos (by omega)]⟩ | exact ⟨rfl, by rw [if_neg (by omega)]⟩
  · skip
    refine wa_iload_n (n := 0) rfl ?_
    refine wa_goto ⟨_, rfl⟩ ?_
    refine wa_ireturn rfl ?_
    first | exact ⟨rfl, by rw [if_pos (by omega)]⟩ | exact ⟨rfl, by rw [if_neg (by omega)]⟩
theorem cp_I {a : Nat} {n len : Int} (ha : w_pr wY0 S a) (hta : wY0.ty a = 0) (hl : S a (-1) = len) (hn : 0 ≤ len ∧ len < n ∧ n ≤ 67108864) : wJ (pe_GA xs) wY0 M (d + 1) t_JA_copyOf_2 ((pe_at t_JA_copyOf_2.bl 0).getD (0, [])).2 [(0, (2, (a : Int))), (1, (0, n))] [] S (fun o S2 => o = .inl (some (2, ((nN S 0) : Int))) ∧ w_cp (w_nw S (nN S 0) (w_z n) n) a (nN S 0) 0 0 len = S2) := wJ_E (fun ⟨ad, hp, hE⟩ => by
  have hG := wE_G hE
  have haj : a ≠ (nN S 0) := by
    have h1 := hE.2.2.2.2 a ha
    have h2 := (nN_rg (c := 0) hG (by decide)).1
    omega
  have ha1 : (w_nw S (nN S 0) (w_z n) n) a = S a := w_nw_of haj ha.2
  have hpa : w_pr wY0 (w_nw S (nN S 0) (w_z n) n) a := ⟨ha.1.imp id (fun z => by rw [ha1]; exact z), ha.2⟩
  have hpj : w_pr wY0 (w_nw S (nN S 0) (w_z n) n) (nN S 0) := ⟨Or.inr (by rw [w_nw_at]; show 0 ≤ n; omega), by have := nN_ge (S := S) 0; unfold wG; omega⟩
  refine wa_iload_n (n := 1) rfl ?_
  refine wa_aload_n (n := 0) rfl ?_
  refine wb_alen a rfl ha (by rw [hta]; rfl) (v := len) hl (fun r1 => ?_)
  refine wa_icmpne (w_rg0 (by omega) (by omega)) (w_rg0 (by omega) (by omega)) ⟨_, rfl⟩ (fun c1 => ?_) (fun c1 => absurd c1 (by omega))
  refine wa_iload_n (n := 1) rfl ?_
  refine wa_newI (nN S 0) ⟨by omega, hn.2.2⟩ (wt_nN (by decide)) (nN_rg hG (by decide)) ⟨Or.inr ⟨ha, fun q => q⟩, trivial, trivial⟩ trivial ?_
  refine wa_astore_n (n := 2) rfl ?_
  refine wa_aload_n (n := 0) rfl ?_
  refine wa_iconst ?_
  refine wa_aload_n (n := 2) rfl ?_
  refine wa_iconst ?_
  refine wa_aload_n (n := 0) rfl ?_
  refine wb_alen a rfl hpa (by rw [hta]; rfl) (v := len) (by rw [ha1]; exact hl) (fun r2 => ?_)
  refine wa_iload_n (n := 1) rfl ?_
  refine wa_cs (M2 := fun _ => False) rfl at_JM_min ⟨_, rfl⟩ rfl rfl ⟨Or.inr ⟨hpj, fun q => q⟩, Or.inr ⟨hpa, fun q => q⟩, trivial, trivial⟩ ⟨trivial, Or.inr ⟨hpj, fun q => q⟩, trivial, Or.inr ⟨hpa, fun q => q⟩, trivial⟩ (fun _ _ q => False.elim q) (mn_ok (d := d) ⟨by omega, by omega⟩ ⟨by omega, by omega⟩) (fun o S2 _ q => ?_)
  rcases q with ⟨rfl, rfl⟩
  show wJ _ _ _ _ _ _ _ _ _ _
  rw [if_pos (by omega)]
  refine wa_acI a (nN S 0) rfl rfl hpa hpj hta (wt_nN (by decide)) hn.1 (by decide) (by decide) (by rw [ha1, hl]; omega) (by rw [w_nw_at]; show 0 + len ≤ n; omega) (Nat.succ_pos _) rfl ?_
  refine wa_aload_n (n := 2) rfl ?_
  refine wa_areturn rfl ?_
  exact ⟨rfl, rfl⟩)
theorem cp_B {a : Nat} {n len : Int} (ha : w_pr wY0 S a) (hta : wY0.ty a = 2) (hl : S a (-1) = len) (hn : 0 ≤ len ∧ len < n ∧ n ≤ 67108864) : wJ (pe_GA xs) wY0 M (d + 1) t_JA_copyOf ((pe_at t_JA_copyOf.bl 0).getD (0, [])).2 [(0, (2, (a : Int))), (1, (0, n))] [] S (fun o S2 => o = .inl (some (2, ((nN S 2) : Int))) ∧ w_cp (w_nw S (nN S 2) (w_z n) n) a (nN S 2) 0 0 len = S2) := wJ_E (fun ⟨ad, hp, hE⟩ => by
  have hG := wE_G hE
  have haj : a ≠ (nN S 2) := by
    have h1 := hE.2.2.2.2 a ha
    have h2 := (nN_rg (c := 2) hG (by decide)).1
    omega
  have ha1 : (w_nw S (nN S 2) (w_z n) n) a = S a := w_nw_of haj ha.2
  have hpa : w_pr wY0 (w_nw S (nN S 2) (w_z n) n) a := ⟨ha.1.imp id (fun z => by rw [ha1]; exact z), ha.2⟩
  have hpj : w_pr wY0 (w_nw S (nN S 2) (w_z n) n) (nN S 2) := ⟨Or.inr (by rw [w_nw_at]; show 0 ≤ n; omega), by have := nN_ge (S := S) 2; unfold wG; omega⟩
  refine wa_iload_n (n := 1) rfl ?_
  refine wa_aload_n (n := 0) rfl ?_
  refine wb_alen a rfl ha (by rw [hta]; rfl) (v := len) hl (fun r1 => ?_)
  refine wa_icmpne (w_rg0 (by omega) (by omega)) (w_rg0 (by omega) (by omega)) ⟨_, rfl⟩ (fun c1 => ?_) (fun c1 => absurd c1 (by omega))
  refine wa_iload_n (n := 1) rfl ?_
  refine wa_newB (nN S 2) ⟨by omega, hn.2.2⟩ (wt_nN (by decide)) (nN_rg hG (by decide)) ⟨Or.inr ⟨ha, fun q => q⟩, trivial, trivial⟩ trivial ?_
  refine wa_astore_n (n := 2) rfl ?_
  refine wa_aload_n (n := 0) rfl ?_
  refine wa_iconst ?_
  refine wa_aload_n (n := 2) rfl ?_
  refine wa_iconst ?_
  refine wa_aload_n (n := 0) rfl ?_
  refine wb_alen a rfl hpa (by rw [hta]; rfl) (v := len) (by rw [ha1]; exact hl) (fun r2 => ?_)
  refine wa_iload_n (n := 1) rfl ?_
  refine wa_cs (M2 := fun _ => False) rfl at_JM_min ⟨_, rfl⟩ rfl rfl ⟨Or.inr ⟨hpj, fun q => q⟩, Or.inr ⟨hpa, fun q => q⟩, trivial, trivial⟩ ⟨trivial, Or.inr ⟨hpj, fun q => q⟩, trivial, Or.inr ⟨hpa, fun q => q⟩, trivial⟩ (fun _ _ q => False.elim q) (mn_ok (d := d) ⟨by omega, by omega⟩ ⟨by omega, by omega⟩) (fun o S2 _ q => ?_)
  rcases q with ⟨rfl, rfl⟩
  show wJ _ _ _ _ _ _ _ _ _ _
  rw [if_pos (by omega)]
  refine wa_acB a (nN S 2) rfl rfl hpa hpj hta (wt_nN (by decide)) hn.1 (by decide) (by decide) (by rw [ha1, hl]; omega) (by rw [w_nw_at]; show 0 + len ≤ n; omega) (Nat.succ_pos _) rfl ?_
  refine wa_aload_n (n := 2) rfl ?_
  refine wa_areturn rfl ?_
  exact ⟨rfl, rfl⟩)
theorem cp_J {a : Nat} {n len : Int} (ha : w_pr wY0 S a) (hta : wY0.ty a = 1) (hl : S a (-1) = len) (hn : 0 ≤ len ∧ len < n ∧ n ≤ 67108864) : wJ (pe_GA xs) wY0 M (d + 1) t_JA_copyOf_3 ((pe_at t_JA_copyOf_3.bl 0).getD (0, [])).2 [(0, (2, (a : Int))), (1, (0, n))] [] S (fun o S2 => o = .inl (some (2, ((nN S 1) : Int))) ∧ w_cp (w_nw S (nN S 1) (w_z n) n) a (nN S 1) 0 0 len = S2) := wJ_E (fun ⟨ad, hp, hE⟩ => by
  have hG := wE_G hE
  have haj : a ≠ (nN S 1) := by
    have h1 := hE.2.2.2.2 a ha
    have h2 := (nN_rg (c := 1) hG (by decide)).1
    omega
  have ha1 : (w_nw S (nN S 1) (w_z n) n) a = S a := w_nw_of haj ha.2
  have hpa : w_pr wY0 (w_nw S (nN S 1) (w_z n) n) a := ⟨ha.1.imp id (fun z => by rw [ha1]; exact z), ha.2⟩
  have hpj : w_pr wY0 (w_nw S (nN S 1) (w_z n) n) (nN S 1) := ⟨Or.inr (by rw [w_nw_at]; show 0 ≤ n; omega), by have := nN_ge (S := S) 1; unfold wG; omega⟩
  refine wa_iload_n (n := 1) rfl ?_
  refine wa_aload_n (n := 0) rfl ?_
  refine wb_alen a rfl ha (by rw [hta]; rfl) (v := len) hl (fun r1 => ?_)
  refine wa_icmpne (w_rg0 (by omega) (by omega)) (w_rg0 (by omega) (by omega)) ⟨_, rfl⟩ (fun c1 => ?_) (fun c1 => absurd c1 (by omega))
  refine wa_iload_n (n := 1) rfl ?_
  refine wa_newJ (nN S 1) ⟨by omega, hn.2.2⟩ (wt_nN (by decide)) (nN_rg hG (by decide)) ⟨Or.inr ⟨ha, fun q => q⟩, trivial, trivial⟩ trivial ?_
  refine wa_astore_n (n := 2) rfl ?_
  refine wa_aload_n (n := 0) rfl ?_
  refine wa_iconst ?_
  refine wa_aload_n (n := 2) rfl ?_
  refine wa_iconst ?_
  refine wa_aload_n (n := 0) rfl ?_
  refine wb_alen a rfl hpa (by rw [hta]; rfl) (v := len) (by rw [ha1]; exact hl) (fun r2 => ?_)
  refine wa_iload_n (n := 1) rfl ?_
  refine wa_cs (M2 := fun _ => False) rfl at_JM_min ⟨_, rfl⟩ rfl rfl ⟨Or.inr ⟨hpj, fun q => q⟩, Or.inr ⟨hpa, fun q => q⟩, trivial, trivial⟩ ⟨trivial, Or.inr ⟨hpj, fun q => q⟩, trivial, Or.inr ⟨hpa, fun q => q⟩, trivial⟩ (fun _ _ q => False.elim q) (mn_ok (d := d) ⟨by omega, by omega⟩ ⟨by omega, by omega⟩) (fun o S2 _ q => ?_)
  rcases q with ⟨rfl, rfl⟩
  show wJ _ _ _ _ _ _ _ _ _ _
  rw [if_pos (by omega)]
  refine wa_acL a (nN S 1) rfl rfl hpa hpj hta (wt_nN (by decide)) hn.1 (by decide) (by decide) (by rw [ha1, hl]; omega) (by rw [w_nw_at]; show 0 + len ≤ n; omega) (Nat.succ_pos _) rfl ?_
  refine wa_aload_n (n := 2) rfl ?_
  refine wa_areturn rfl ?_
  exact ⟨rfl, rfl⟩)
end W98
