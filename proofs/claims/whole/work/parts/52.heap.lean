/-! PART 52: rows of the machine over slots: fields and arrays. -/
section W52
variable {G : pe_G} {Y : wY} {M : Nat → Prop} {d : Nat} {mt : pe_Mt} {is rest : List pe_I} {L L2 : wL} {st st2 : List wv} {S S2 : wS} {Q Q2 : wO → wS → Prop}
theorem w_r_n (ad : Nat → Nat) {x : Int} {j : Nat} (h : x = j) : w_r ad x = .ref (ad j) := by
  subst h
  unfold w_r
  rw [if_pos (Int.natCast_nonneg j)]
  rfl
theorem w_sr_mono {k : Nat} {x y : Int} (hm : ∀ k, w_pr Y S k → w_pr Y S2 k) (h : w_sr Y S k x y) : w_sr Y S2 k x y := by
  unfold w_sr at h ⊢
  split
  · exact h.imp id (hm _)
  · exact h.imp id (fun q => ⟨hm _ q.1, q.2⟩)
  · exact h.imp id (hm _)
  · exact h.imp id (fun q => ⟨hm _ q.1, q.2⟩)
  · trivial
theorem w_c_same {ad : Nat → Nat} {j : Nat} {x : pe_E} (hm : ∀ k, w_pr Y S k → w_pr Y S2 k) (h : ∀ n, S2 j n = S j n) (hc : w_c Y ad S j x) : w_c Y ad S2 j x := by
  have e : S2 j = S j := funext h
  rcases x with ⟨t, n, c⟩ | ⟨ci, vs⟩ | ⟨t, n, c⟩ | ⟨t, n, c⟩
  · unfold w_c at hc ⊢; dsimp only at hc ⊢; rw [e]; exact hc
  · unfold w_c at hc ⊢; dsimp only at hc ⊢; rw [e]
    exact ⟨hc.1, hc.2.1, fun i k q => ⟨(hc.2.2 i k q).1, (hc.2.2 i k q).2.1, w_sr_mono hm (hc.2.2 i k q).2.2⟩⟩
  · unfold w_c at hc ⊢; dsimp only at hc ⊢; rw [e]
    exact ⟨hc.1, hc.2.1, hc.2.2.1, fun i q => ⟨(hc.2.2.2 i q).1, w_sr_mono hm (hc.2.2.2 i q).2⟩⟩
  · unfold w_c at hc ⊢; dsimp only at hc ⊢; rw [e]; exact hc
theorem w_obj {ad : Nat → Nat} {h : pe_H} {j ci : Nat} (hE : w_E Y ad S h) (hp : w_pr Y S j) (ht : Y.ty j = 100 + ci) : ∃ vs, h[ad j]? = some (.inr (.inl (ci, vs))) ∧ (Y.fk ci).length ≤ vs.length ∧ ∀ i k : Nat, (Y.fk ci)[i]? = some k → ((k = 6 ∧ S j i = -2) ∨ vs[i]? = some (w_f ad k (S j i) (Y.ln j i))) ∧ w_rg k (S j i) ∧ w_sr Y S k (S j i) (Y.ln j i) := by
  obtain ⟨x, h1, h2⟩ := hE.1 j hp
  rcases x with ⟨t, n, c⟩ | ⟨c2, vs⟩ | ⟨t, n, c⟩ | ⟨t, n, c⟩
  · have a := h2.1; have b := h2.2.1; omega
  · have e : c2 = ci := by have := h2.1; omega
    subst e
    exact ⟨vs, h1, h2.2⟩
  · have a := h2.1; have b := h2.2.1; omega
  · have a := h2.1; have b := h2.2.1; omega
theorem w_ari {ad : Nat → Nat} {h : pe_H} {j t : Nat} (hE : w_E Y ad S h) (hp : w_pr Y S j) (ht : Y.ty j = t) (h4 : t < 4) (h5 : t ≠ 1) : ∃ n c, h[ad j]? = some (.inl (t, n, c)) ∧ (S j (-1) = (n : Nat) ∧ n ≤ 2147483647) ∧ ∀ i : Nat, i < n → Int32.toInt (pe_lk 0 i c) = S j i ∧ w_rg t (S j i) := by
  obtain ⟨x, h1, h2⟩ := hE.1 j hp
  rcases x with ⟨t2, n, c⟩ | ⟨c2, vs⟩ | ⟨t2, n, c⟩ | ⟨t2, n, c⟩
  · have e : t2 = t := by have := h2.1; omega
    subst e
    exact ⟨n, c, h1, h2.2.2⟩
  · have a := h2.1; omega
  · have a := h2.1; have b := h2.2.1; omega
  · have a := h2.1; have b := h2.2.1; omega
theorem w_arl {ad : Nat → Nat} {h : pe_H} {j : Nat} (hE : w_E Y ad S h) (hp : w_pr Y S j) (ht : Y.ty j = 1) : ∃ n c, h[ad j]? = some (.inr (.inr (.inr (1, n, c)))) ∧ (S j (-1) = (n : Nat) ∧ n ≤ 2147483647) ∧ ∀ i : Nat, i < n → Int64.toInt (pe_lk 0 i c) = S j i := by
  obtain ⟨x, h1, h2⟩ := hE.1 j hp
  rcases x with ⟨t2, n, c⟩ | ⟨c2, vs⟩ | ⟨t2, n, c⟩ | ⟨t2, n, c⟩
  · have a := h2.1; have b := h2.2.1; omega
  · have a := h2.1; omega
  · have a := h2.1; have b := h2.2.1; omega
  · have e : t2 = 1 := h2.2.1
    subst e
    exact ⟨n, c, h1, h2.2.2⟩
theorem w_arr {ad : Nat → Nat} {h : pe_H} {j t : Nat} (hE : w_E Y ad S h) (hp : w_pr Y S j) (ht : Y.ty j = t) (h5 : 5 ≤ t ∧ t < 100) : ∃ n c, h[ad j]? = some (.inr (.inr (.inl (t, n, c)))) ∧ (S j (-1) = (n : Nat) ∧ n ≤ 2147483647) ∧ ∀ i : Nat, i < n → pm_r (pe_lk none i c) = w_r ad (if t = 5 then Y.ln j i else S j i) ∧ w_sr Y S (if t = 5 then 4 else 5) (S j i) (Y.ln j i) := by
  obtain ⟨x, h1, h2⟩ := hE.1 j hp
  rcases x with ⟨t2, n, c⟩ | ⟨c2, vs⟩ | ⟨t2, n, c⟩ | ⟨t2, n, c⟩
  · have a := h2.1; have b := h2.2.1; omega
  · have a := h2.1; omega
  · have e : t2 = t := by have := h2.1; omega
    subst e
    exact ⟨n, c, h1, h2.2.2⟩
  · have a := h2.1; have b := h2.2.1; omega
/-- one slot's cell is set -/
theorem w_E_set {ad : Nat → Nat} {h : pe_H} {j : Nat} {x y : pe_E} (hE : w_E Y ad S h) (hp : w_pr Y S j) (hx : h[ad j]? = some x) (hn : pm_n (pe_d y) = pm_n (pe_d x)) (hc : w_c Y ad S2 j y) (ho : ∀ k, k ≠ j → ∀ n, S2 k n = S k n) (hl : S2 j (-1) = S j (-1)) : w_E Y ad S2 (h.set (ad j) y) ∧ ∀ k, w_pr Y S k → w_pr Y S2 k := by
  have hpr : ∀ k, w_pr Y S2 k ↔ w_pr Y S k := by
    intro k
    unfold w_pr
    by_cases e : k = j
    · rw [e, hl]
    · rw [ho k e]
  refine ⟨⟨fun k hk => ?_, fun k m hk hm => hE.2.1 k m ((hpr k).mp hk) ((hpr m).mp hm), ?_, ?_, ?_⟩, fun k hk => (hpr k).mpr hk⟩
  · have hk := (hpr k).mp hk
    by_cases e : k = j
    · subst e
      refine ⟨y, ?_, hc⟩
      rw [List.getElem?_set_self (List.getElem?_eq_some_iff.mp hx).1]
    · obtain ⟨z, h1, h2⟩ := hE.1 k hk
      refine ⟨z, ?_, w_c_same (fun k hk => (hpr k).mpr hk) (ho k e) h2⟩
      rw [List.getElem?_set_ne (fun q => e (hE.2.1 k j hk hp q.symm))]
      exact h1
  · rw [ho wG (fun q => hp.2 q.symm), hE.2.2.1, pe_D_set]
    congr 1
    refine (pm_sz_set (x := pe_d x) ?_ hn).symm
    unfold pe_D
    rw [List.getElem?_map, hx]
    rfl
  · rw [ho wG (fun q => hp.2 q.symm), hE.2.2.2.1, List.length_set]
  · intro k hk
    rw [ho wG (fun q => hp.2 q.symm)]
    exact hE.2.2.2.2 k ((hpr k).mp hk)
theorem w_in {i n : Int} {m : Nat} (hn : n = m ∧ m ≤ 2147483647) (h0 : 0 ≤ i) (h1 : i < n) : pe_inb (Int32.ofInt i) m = true ∧ (Int32.ofInt i).toNatClampNeg = i.toNat ∧ i.toNat < m ∧ ((i.toNat : Nat) : Int) = i := by
  have hr : w_rg 0 i := ⟨by omega, by omega⟩
  have e : (Int32.ofInt i).toNatClampNeg = i.toNat := by
    show (Int32.ofInt i).toInt.toNat = _
    rw [w_ti hr]
  have l : i.toNat < m := by omega
  refine ⟨?_, e, l, by omega⟩
  unfold pe_inb
  rw [e]
  have h2 : decide (Int32.ofInt i < 0) = false := decide_eq_false (fun q => by
    rw [w_0, w_lt0 hr w_r0] at q
    omega)
  rw [h2]
  show Nat.blt i.toNat m = true
  exact Nat.ble_eq_true_of_le l
def w_fv (k : Nat) (x y : Int) : wv := match k with
  | 1 => (1, x)
  | 4 => (2, y)
  | 5 => (2, x)
  | 6 => (2, x)
  | 7 => (2, x)
  | _ => (0, x)
theorem w_f_eq (ad : Nat → Nat) (k : Nat) (x y : Int) : w_f ad k x y = w_u ad (w_fv k x y) := match k with
  | 0 => rfl
  | 1 => rfl
  | 2 => rfl
  | 3 => rfl
  | 4 => rfl
  | 5 => rfl
  | 6 => rfl
  | 7 => rfl
  | _ + 8 => rfl

theorem wa_gf {x : Int} {ix ci k0 wd kd : Nat} {host : Option String} (j : Nat) (hx : x = j) (hp : w_pr Y S j) (ht : Y.ty j = 100 + ci) (hf : (Y.fk ci)[k0]? = some kd) (h6 : kd = 6 → S j k0 ≠ -2) {v : wv} (hv : w_fv kd (S j k0) (Y.ln j k0) = v) (k : w_rg kd (S j k0) → w_sr Y S kd (S j k0) (Y.ln j k0) → wJ G Y M d mt rest L (v :: st) S Q) : wJ G Y M d mt (.inr (.inl (ix, ci, k0, host, wd)) :: rest) L ((2, x) :: st) S Q := wJ_E (fun ⟨ad0, h0, hE0⟩ => by
  have hr : w_rg kd (S j k0) ∧ w_sr Y S kd (S j k0) (Y.ln j k0) := by
    obtain ⟨vs, h1, h2, h3⟩ := w_obj hE0 hp ht
    exact (h3 _ _ hf).2
  refine wJ_s (is2 := rest) (st2 := v :: st) (fun ad Lc h f hE => ?_) (k hr.1 hr.2)
  obtain ⟨vs, h1, h2, h3⟩ := w_obj hE hp ht
  show pe_rf (w_r ad x :: _) _ = _
  rw [w_r_n ad hx]
  show (match pe_at h (ad j) with | some (.inr (.inl (c, vs))) => (bif Nat.beq c ci then _ else none) | _ => none) = _
  rw [pe_at_eq, h1]
  show (bif Nat.beq ci ci then _ else none) = _
  rw [Nat.beq_refl]
  show (match pe_at vs k0 with | some v => _ | none => none) = _
  have h4 := (h3 _ _ hf).1.resolve_left (fun q => h6 q.1 q.2)
  rw [pe_at_eq, h4, w_f_eq, hv]
  rfl)
theorem w_obj_set {ad : Nat → Nat} {h : pe_H} {j ci k0 kd : Nat} {v : Int} {vs : List Value} (hE : w_E Y ad S h) (hp : w_pr Y S j) (ht : Y.ty j = 100 + ci) (hf : (Y.fk ci)[k0]? = some kd) (h1 : h[ad j]? = some (.inr (.inl (ci, vs)))) (hvr : w_rg kd v) (hsr : w_sr Y S kd v (Y.ln j k0)) (h2 : (Y.fk ci).length ≤ vs.length) (h3 : ∀ i k : Nat, (Y.fk ci)[i]? = some k → ((k = 6 ∧ S j i = -2) ∨ vs[i]? = some (w_f ad k (S j i) (Y.ln j i))) ∧ w_rg k (S j i) ∧ w_sr Y S k (S j i) (Y.ln j i)) : w_E Y ad (w_up S j k0 v) (h.set (ad j) (.inr (.inl (ci, vs.set k0 (w_f ad kd v (Y.ln j k0)))))) ∧ ∀ k, w_pr Y S k → w_pr Y (w_up S j k0 v) k := by
  have hm : ∀ k, w_pr Y S k → w_pr Y (w_up S j k0 v) k := fun k hk => (w_up_pr (Int.natCast_nonneg k0)).mpr hk
  refine w_E_set hE hp h1 ?_ ⟨ht, ?_, ?_⟩ (fun k hk n => w_up_slot hk) (w_up_at (by omega))
  · show (vs.set k0 _).length = vs.length
    exact List.length_set
  · rw [List.length_set]; exact h2
  · intro i k hik
    by_cases e : i = k0
    · subst e
      rw [hf] at hik
      cases hik
      rw [w_up_same]
      refine ⟨Or.inr ?_, hvr, w_sr_mono hm hsr⟩
      rw [List.getElem?_set_self]
      exact Nat.lt_of_lt_of_le (List.getElem?_eq_some_iff.mp hf).1 h2
    · rw [w_up_at (show (i : Int) ≠ (k0 : Int) by omega), List.getElem?_set_ne (fun q => e q.symm)]
      exact ⟨(h3 i k hik).1, (h3 i k hik).2.1, w_sr_mono hm (h3 i k hik).2.2⟩
/-- a step that sets the heap -/
theorem wJ_h {i : pe_I} (hs : ∀ ad Lc h, w_E Y ad S h → ∃ h2, (∀ f, pe_go G (f + 1) d mt (i :: rest) Lc (st.map (w_u ad)) h = pe_go G f d mt rest Lc (st2.map (w_u ad)) h2) ∧ w_E Y ad S2 h2 ∧ ∀ k, w_pr Y S k → w_pr Y S2 k) (hk : wJ G Y M d mt rest L st2 S2 Q) : wJ G Y M d mt (i :: rest) L st S Q := by
  intro ad Lc h hE hL
  obtain ⟨h2, h1, hE2, hpr⟩ := hs ad Lc h hE
  obtain ⟨o, ad2, S3, h3, f0, hg, hE3, hM, hQ⟩ := hk ad Lc h2 hE2 hL
  refine ⟨o, ad2, S3, h3, f0 + 1, fun f hf => ?_, hE3, fun j hp => hM j (hpr j hp), hQ⟩
  obtain ⟨f, rfl⟩ : ∃ g, f = g + 1 := ⟨f - 1, by omega⟩
  rw [h1 f]
  exact hg f (by omega)
theorem wa_pfi {x v : Int} {ix ci k0 wd : Nat} {host : Option String} (j : Nat) (hx : x = j) (hp : w_pr Y S j) (ht : Y.ty j = 100 + ci) (hf : (Y.fk ci)[k0]? = some 0) (hv : w_rg 0 v) (k : wJ G Y M d mt rest L st (w_up S j k0 v) Q) : wJ G Y M d mt (.inr (.inr (.inr (.inr (.inl (ix, ci, k0, 0, host, wd))))) :: rest) L ((0, v) :: (2, x) :: st) S Q := wJ_h (fun ad Lc h hE => by
  obtain ⟨vs, h1, h2, h3⟩ := w_obj hE hp ht
  refine ⟨_, fun f => ?_, w_obj_set (v := v) hE hp ht hf h1 hv trivial h2 h3⟩
  show pe_irf (w_u ad (0, v) :: w_r ad x :: _) _ = _
  rw [w_r_n ad hx]
  have hft : pe_ft 0 (w_u ad (0, v)) = true := rfl
  show (bif pe_ft 0 (w_u ad (0, v)) then (match pe_at h (ad j) with | some (.inr (.inl (c, vs))) => (bif Nat.beq c ci then _ else none) | _ => none) else none) = _
  rw [hft, pe_at_eq, h1]
  show (bif Nat.beq ci ci then _ else none) = _
  rw [Nat.beq_refl]
  show (bif Nat.blt k0 vs.length then _ else none) = _
  rw [show Nat.blt k0 vs.length = true from Nat.ble_eq_true_of_le (Nat.lt_of_lt_of_le (List.getElem?_eq_some_iff.mp hf).1 h2)]
  rw [cond_true, pe_setk_eq, pe_setk_eq]
  rfl) k
theorem wa_pfl {x v : Int} {ix ci k0 wd : Nat} {host : Option String} (j : Nat) (hx : x = j) (hp : w_pr Y S j) (ht : Y.ty j = 100 + ci) (hf : (Y.fk ci)[k0]? = some 1) (hv : w_rg 1 v) (k : wJ G Y M d mt rest L st (w_up S j k0 v) Q) : wJ G Y M d mt (.inr (.inr (.inr (.inr (.inl (ix, ci, k0, 1, host, wd))))) :: rest) L ((1, v) :: (2, x) :: st) S Q := wJ_h (fun ad Lc h hE => by
  obtain ⟨vs, h1, h2, h3⟩ := w_obj hE hp ht
  refine ⟨_, fun f => ?_, w_obj_set (v := v) hE hp ht hf h1 hv trivial h2 h3⟩
  show pe_irf (w_u ad (1, v) :: w_r ad x :: _) _ = _
  rw [w_r_n ad hx]
  have hft : pe_ft 1 (w_u ad (1, v)) = true := rfl
  show (bif pe_ft 1 (w_u ad (1, v)) then (match pe_at h (ad j) with | some (.inr (.inl (c, vs))) => (bif Nat.beq c ci then _ else none) | _ => none) else none) = _
  rw [hft, pe_at_eq, h1]
  show (bif Nat.beq ci ci then _ else none) = _
  rw [Nat.beq_refl]
  show (bif Nat.blt k0 vs.length then _ else none) = _
  rw [show Nat.blt k0 vs.length = true from Nat.ble_eq_true_of_le (Nat.lt_of_lt_of_le (List.getElem?_eq_some_iff.mp hf).1 h2)]
  rw [cond_true, pe_setk_eq, pe_setk_eq]
  rfl) k
theorem wa_pfz {x v : Int} {ix ci k0 wd : Nat} {host : Option String} (j : Nat) (hx : x = j) (hp : w_pr Y S j) (ht : Y.ty j = 100 + ci) (hf : (Y.fk ci)[k0]? = some 3) (hv : w_rg 3 v) (k : wJ G Y M d mt rest L st (w_up S j k0 v) Q) : wJ G Y M d mt (.inr (.inr (.inr (.inr (.inl (ix, ci, k0, 3, host, wd))))) :: rest) L ((0, v) :: (2, x) :: st) S Q := wJ_h (fun ad Lc h hE => by
  obtain ⟨vs, h1, h2, h3⟩ := w_obj hE hp ht
  refine ⟨_, fun f => ?_, w_obj_set (v := v) hE hp ht hf h1 hv trivial h2 h3⟩
  show pe_irf (w_u ad (0, v) :: w_r ad x :: _) _ = _
  rw [w_r_n ad hx]
  have hft : pe_ft 3 (w_u ad (0, v)) = true := by
    have q : v = 0 ∨ v = 1 := by have := hv.1; have := hv.2; omega
    rcases q with q | q <;> subst q <;> rfl
  show (bif pe_ft 3 (w_u ad (0, v)) then (match pe_at h (ad j) with | some (.inr (.inl (c, vs))) => (bif Nat.beq c ci then _ else none) | _ => none) else none) = _
  rw [hft, pe_at_eq, h1]
  show (bif Nat.beq ci ci then _ else none) = _
  rw [Nat.beq_refl]
  show (bif Nat.blt k0 vs.length then _ else none) = _
  rw [show Nat.blt k0 vs.length = true from Nat.ble_eq_true_of_le (Nat.lt_of_lt_of_le (List.getElem?_eq_some_iff.mp hf).1 h2)]
  rw [cond_true, pe_setk_eq, pe_setk_eq]
  rfl) k
theorem wa_pfr {x v : Int} {ix ci k0 wd : Nat} {host : Option String} (j : Nat) (hx : x = j) (hp : w_pr Y S j) (ht : Y.ty j = 100 + ci) (hf : (Y.fk ci)[k0]? = some 5) (hv : v < 0 ∨ (w_pr Y S v.toNat ∧ 100 ≤ Y.ty v.toNat)) (k : wJ G Y M d mt rest L st (w_up S j k0 v) Q) : wJ G Y M d mt (.inr (.inr (.inr (.inr (.inl (ix, ci, k0, 2, host, wd))))) :: rest) L ((2, v) :: (2, x) :: st) S Q := wJ_h (fun ad Lc h hE => by
  obtain ⟨vs, h1, h2, h3⟩ := w_obj hE hp ht
  refine ⟨_, fun f => ?_, w_obj_set (v := v) hE hp ht hf h1 trivial hv h2 h3⟩
  show pe_irf (w_u ad (2, v) :: w_r ad x :: _) _ = _
  rw [w_r_n ad hx]
  have hft : pe_ft 2 (w_u ad (2, v)) = true := by
    show pe_ft 2 (w_r ad v) = true
    unfold w_r
    split
    · rfl
    · split <;> rfl
  show (bif pe_ft 2 (w_u ad (2, v)) then (match pe_at h (ad j) with | some (.inr (.inl (c, vs))) => (bif Nat.beq c ci then _ else none) | _ => none) else none) = _
  rw [hft, pe_at_eq, h1]
  show (bif Nat.beq ci ci then _ else none) = _
  rw [Nat.beq_refl]
  show (bif Nat.blt k0 vs.length then _ else none) = _
  rw [show Nat.blt k0 vs.length = true from Nat.ble_eq_true_of_le (Nat.lt_of_lt_of_le (List.getElem?_eq_some_iff.mp hf).1 h2)]
  rw [cond_true, pe_setk_eq, pe_setk_eq]
  rfl) k
theorem wa_pf6 {x v : Int} {ix ci k0 wd : Nat} {host : Option String} (j : Nat) (hx : x = j) (hp : w_pr Y S j) (ht : Y.ty j = 100 + ci) (hf : (Y.fk ci)[k0]? = some 6) (hv : v < 0 ∨ w_pr Y S v.toNat) (k : wJ G Y M d mt rest L st (w_up S j k0 v) Q) : wJ G Y M d mt (.inr (.inr (.inr (.inr (.inl (ix, ci, k0, 2, host, wd))))) :: rest) L ((2, v) :: (2, x) :: st) S Q := wJ_h (fun ad Lc h hE => by
  obtain ⟨vs, h1, h2, h3⟩ := w_obj hE hp ht
  refine ⟨_, fun f => ?_, w_obj_set (v := v) hE hp ht hf h1 trivial hv h2 h3⟩
  show pe_irf (w_u ad (2, v) :: w_r ad x :: _) _ = _
  rw [w_r_n ad hx]
  have hft : pe_ft 2 (w_u ad (2, v)) = true := by
    show pe_ft 2 (w_r ad v) = true
    unfold w_r
    split
    · rfl
    · split <;> rfl
  show (bif pe_ft 2 (w_u ad (2, v)) then (match pe_at h (ad j) with | some (.inr (.inl (c, vs))) => (bif Nat.beq c ci then _ else none) | _ => none) else none) = _
  rw [hft, pe_at_eq, h1]
  show (bif Nat.beq ci ci then _ else none) = _
  rw [Nat.beq_refl]
  show (bif Nat.blt k0 vs.length then _ else none) = _
  rw [show Nat.blt k0 vs.length = true from Nat.ble_eq_true_of_le (Nat.lt_of_lt_of_le (List.getElem?_eq_some_iff.mp hf).1 h2)]
  rw [cond_true, pe_setk_eq, pe_setk_eq]
  rfl) k
theorem wa_pf7 {x v : Int} {ix ci k0 wd : Nat} {host : Option String} (j : Nat) (hx : x = j) (hp : w_pr Y S j) (ht : Y.ty j = 100 + ci) (hf : (Y.fk ci)[k0]? = some 7) (hv : v < 0 ∨ (w_pr Y S v.toNat ∧ Y.co v.toNat = 1)) (k : wJ G Y M d mt rest L st (w_up S j k0 v) Q) : wJ G Y M d mt (.inr (.inr (.inr (.inr (.inl (ix, ci, k0, 2, host, wd))))) :: rest) L ((2, v) :: (2, x) :: st) S Q := wJ_h (fun ad Lc h hE => by
  obtain ⟨vs, h1, h2, h3⟩ := w_obj hE hp ht
  refine ⟨_, fun f => ?_, w_obj_set (v := v) hE hp ht hf h1 trivial hv h2 h3⟩
  show pe_irf (w_u ad (2, v) :: w_r ad x :: _) _ = _
  rw [w_r_n ad hx]
  have hft : pe_ft 2 (w_u ad (2, v)) = true := by
    show pe_ft 2 (w_r ad v) = true
    unfold w_r
    split
    · rfl
    · split <;> rfl
  show (bif pe_ft 2 (w_u ad (2, v)) then (match pe_at h (ad j) with | some (.inr (.inl (c, vs))) => (bif Nat.beq c ci then _ else none) | _ => none) else none) = _
  rw [hft, pe_at_eq, h1]
  show (bif Nat.beq ci ci then _ else none) = _
  rw [Nat.beq_refl]
  show (bif Nat.blt k0 vs.length then _ else none) = _
  rw [show Nat.blt k0 vs.length = true from Nat.ble_eq_true_of_le (Nat.lt_of_lt_of_le (List.getElem?_eq_some_iff.mp hf).1 h2)]
  rw [cond_true, pe_setk_eq, pe_setk_eq]
  rfl) k
theorem w_ar_set {ad : Nat → Nat} {h : pe_H} {j t n : Nat} {i v : Int} {z : Int32} {c : List (Nat × Int32)} (hE : w_E Y ad S h) (hp : w_pr Y S j) (ht : Y.ty j = t) (h4 : t < 4) (h5 : t ≠ 1) (h1 : h[ad j]? = some (.inl (t, n, c))) (hn : S j (-1) = (n : Nat) ∧ n ≤ 2147483647) (h3 : ∀ i : Nat, i < n → Int32.toInt (pe_lk 0 i c) = S j i ∧ w_rg t (S j i)) (h0 : 0 ≤ i) (hz : Int32.toInt z = v) (hvr : w_rg t v) : w_E Y ad (w_up S j i v) (h.set (ad j) (.inl (t, n, pe_ins (decide (z = 0)) i.toNat z c))) ∧ ∀ k, w_pr Y S k → w_pr Y (w_up S j i v) k := by
  refine w_E_set hE hp h1 rfl ⟨ht, ⟨h4, h5⟩, ?_, ?_⟩ (fun k hk n => w_up_slot hk) (w_up_at (by omega))
  · rw [w_up_at (by omega)]; exact hn
  · intro m hm
    rw [pe_lk_ins 0 _ _ _ (fun q => of_decide_eq_true q)]
    by_cases e : m = i.toNat
    · rw [if_pos e]
      have e2 : (m : Int) = i := by omega
      rw [e2, w_up_same]
      exact ⟨hz, hvr⟩
    · rw [if_neg e, w_up_at (show (m : Int) ≠ i by omega)]
      exact h3 m hm
theorem w_al_set {ad : Nat → Nat} {h : pe_H} {j n : Nat} {i v : Int} {z : Int64} {c : List (Nat × Int64)} (hE : w_E Y ad S h) (hp : w_pr Y S j) (ht : Y.ty j = 1) (h1 : h[ad j]? = some (.inr (.inr (.inr (1, n, c))))) (hn : S j (-1) = (n : Nat) ∧ n ≤ 2147483647) (h3 : ∀ i : Nat, i < n → Int64.toInt (pe_lk 0 i c) = S j i) (h0 : 0 ≤ i) (hz : Int64.toInt z = v) : w_E Y ad (w_up S j i v) (h.set (ad j) (.inr (.inr (.inr (1, n, pe_ins (decide (z = 0)) i.toNat z c))))) ∧ ∀ k, w_pr Y S k → w_pr Y (w_up S j i v) k := by
  refine w_E_set hE hp h1 rfl ⟨ht, rfl, ?_, ?_⟩ (fun k hk n => w_up_slot hk) (w_up_at (by omega))
  · rw [w_up_at (by omega)]; exact hn
  · intro m hm
    rw [pe_lk_ins 0 _ _ _ (fun q => of_decide_eq_true q)]
    by_cases e : m = i.toNat
    · rw [if_pos e]
      have e2 : (m : Int) = i := by omega
      rw [e2, w_up_same]
      exact hz
    · rw [if_neg e, w_up_at (show (m : Int) ≠ i by omega)]
      exact h3 m hm
theorem wa_iald {x i : Int} (j : Nat) (hx : x = j) (hp : w_pr Y S j) (ht : Y.ty j = 0) (h0 : 0 ≤ i) (h1 : i < S j (-1)) (k : w_rg 0 (S j i) → wJ G Y M d mt rest L ((0, S j i) :: st) S Q) : wJ G Y M d mt (.inl .iaload :: rest) L ((0, i) :: (2, x) :: st) S Q := wJ_E (fun ⟨ad0, hp0, hE0⟩ => by
  have hr : w_rg 0 (S j i) := by
    obtain ⟨n, c, a1, a2, a3⟩ := w_ari hE0 hp ht (by omega) (by omega)
    obtain ⟨b1, b2, b3, b4⟩ := w_in a2 h0 h1
    have := (a3 _ b3).2
    rw [b4] at this
    exact this
  refine wJ_o (S2 := S) (L2 := L) (st2 := (0, S j i) :: st) (fun ad Lc h hE hL => ⟨Lc, h, fun k => ?_, hE, hL, fun _ q => q⟩) (k hr)
  obtain ⟨n, c, a1, a2, a3⟩ := w_ari hE hp ht (by omega) (by omega)
  obtain ⟨b1, b2, b3, b4⟩ := w_in a2 h0 h1
  have a4 := (a3 _ b3).1
  rw [b4] at a4
  show pe_f_iaload G.xs mt.mx Lc (Value.int (Int32.ofInt i) :: w_r ad x :: st.map (w_u ad)) h k = _
  rw [w_r_n ad hx]
  show (match pe_at h (ad j) with | some (.inl (t, n, c)) => _ | _ => none) = _
  rw [pe_at_eq, a1]
  show (bif (Nat.beq 0 0) && pe_inb (Int32.ofInt i) n then _ else none) = _
  rw [b1]
  show (bif true then _ else none) = k Lc (Value.int (Int32.ofInt (S j i)) :: _) h
  rw [cond_true, pe_fi_eq, b2, ← a4, w_oi])
theorem wa_bald {x i : Int} (j : Nat) (hx : x = j) (hp : w_pr Y S j) (ht : Y.ty j = 2) (h0 : 0 ≤ i) (h1 : i < S j (-1)) (k : w_rg 2 (S j i) → wJ G Y M d mt rest L ((0, S j i) :: st) S Q) : wJ G Y M d mt (.inl .baload :: rest) L ((0, i) :: (2, x) :: st) S Q := wJ_E (fun ⟨ad0, hp0, hE0⟩ => by
  have hr : w_rg 2 (S j i) := by
    obtain ⟨n, c, a1, a2, a3⟩ := w_ari hE0 hp ht (by omega) (by omega)
    obtain ⟨b1, b2, b3, b4⟩ := w_in a2 h0 h1
    have := (a3 _ b3).2
    rw [b4] at this
    exact this
  refine wJ_o (S2 := S) (L2 := L) (st2 := (0, S j i) :: st) (fun ad Lc h hE hL => ⟨Lc, h, fun k => ?_, hE, hL, fun _ q => q⟩) (k hr)
  obtain ⟨n, c, a1, a2, a3⟩ := w_ari hE hp ht (by omega) (by omega)
  obtain ⟨b1, b2, b3, b4⟩ := w_in a2 h0 h1
  have a4 := (a3 _ b3).1
  rw [b4] at a4
  show pe_f_baload G.xs mt.mx Lc (Value.int (Int32.ofInt i) :: w_r ad x :: st.map (w_u ad)) h k = _
  rw [w_r_n ad hx]
  show (match pe_at h (ad j) with | some (.inl (t, n, c)) => _ | _ => none) = _
  rw [pe_at_eq, a1]
  show (bif (Nat.beq 2 2 || Nat.beq 2 3) && pe_inb (Int32.ofInt i) n then _ else none) = _
  rw [b1]
  show (bif true then _ else none) = k Lc (Value.int (Int32.ofInt (S j i)) :: _) h
  rw [cond_true, pe_fi_eq, b2, ← a4, w_oi])
theorem wa_zald {x i : Int} (j : Nat) (hx : x = j) (hp : w_pr Y S j) (ht : Y.ty j = 3) (h0 : 0 ≤ i) (h1 : i < S j (-1)) (k : w_rg 3 (S j i) → wJ G Y M d mt rest L ((0, S j i) :: st) S Q) : wJ G Y M d mt (.inl .baload :: rest) L ((0, i) :: (2, x) :: st) S Q := wJ_E (fun ⟨ad0, hp0, hE0⟩ => by
  have hr : w_rg 3 (S j i) := by
    obtain ⟨n, c, a1, a2, a3⟩ := w_ari hE0 hp ht (by omega) (by omega)
    obtain ⟨b1, b2, b3, b4⟩ := w_in a2 h0 h1
    have := (a3 _ b3).2
    rw [b4] at this
    exact this
  refine wJ_o (S2 := S) (L2 := L) (st2 := (0, S j i) :: st) (fun ad Lc h hE hL => ⟨Lc, h, fun k => ?_, hE, hL, fun _ q => q⟩) (k hr)
  obtain ⟨n, c, a1, a2, a3⟩ := w_ari hE hp ht (by omega) (by omega)
  obtain ⟨b1, b2, b3, b4⟩ := w_in a2 h0 h1
  have a4 := (a3 _ b3).1
  rw [b4] at a4
  show pe_f_baload G.xs mt.mx Lc (Value.int (Int32.ofInt i) :: w_r ad x :: st.map (w_u ad)) h k = _
  rw [w_r_n ad hx]
  show (match pe_at h (ad j) with | some (.inl (t, n, c)) => _ | _ => none) = _
  rw [pe_at_eq, a1]
  show (bif (Nat.beq 3 2 || Nat.beq 3 3) && pe_inb (Int32.ofInt i) n then _ else none) = _
  rw [b1]
  show (bif true then _ else none) = k Lc (Value.int (Int32.ofInt (S j i)) :: _) h
  rw [cond_true, pe_fi_eq, b2, ← a4, w_oi])
theorem wa_lald {x i : Int} (j : Nat) (hx : x = j) (hp : w_pr Y S j) (ht : Y.ty j = 1) (h0 : 0 ≤ i) (h1 : i < S j (-1)) (k : w_rg 1 (S j i) → wJ G Y M d mt rest L ((1, S j i) :: st) S Q) : wJ G Y M d mt (.inl .laload :: rest) L ((0, i) :: (2, x) :: st) S Q := wJ_E (fun ⟨ad0, hp0, hE0⟩ => by
  have hr : w_rg 1 (S j i) := by
    obtain ⟨n, c, a1, a2, a3⟩ := w_arl hE0 hp ht
    obtain ⟨b1, b2, b3, b4⟩ := w_in a2 h0 h1
    have := a3 _ b3
    rw [b4] at this
    rw [← this]
    exact ⟨by have := Int64.le_toInt (pe_lk 0 i.toNat c); omega, by have := Int64.toInt_lt (pe_lk 0 i.toNat c); omega⟩
  refine wJ_o (S2 := S) (L2 := L) (st2 := (1, S j i) :: st) (fun ad Lc h hE hL => ⟨Lc, h, fun k => ?_, hE, hL, fun _ q => q⟩) (k hr)
  obtain ⟨n, c, a1, a2, a3⟩ := w_arl hE hp ht
  obtain ⟨b1, b2, b3, b4⟩ := w_in a2 h0 h1
  have a4 := a3 _ b3
  rw [b4] at a4
  show pe_ix (Value.int (Int32.ofInt i) :: w_r ad x :: _) _ = _
  rw [w_r_n ad hx]
  show (match pe_at h (ad j) with | some (.inr (.inr (.inr (t, n, c)))) => _ | _ => none) = _
  rw [pe_at_eq, a1]
  show (bif (Nat.beq 1 1) && pe_inb (Int32.ofInt i) n then _ else none) = _
  rw [b1]
  show (bif true then _ else none) = k Lc (Value.long (Int64.ofInt (S j i)) :: _) h
  rw [cond_true, pe_fl_eq, b2, ← a4, w_ol])
theorem wa_aald {x i : Int} (j : Nat) (hx : x = j) (hp : w_pr Y S j) {t : Nat} (ht : Y.ty j = t) (h5 : Nat.ble 5 t = true ∧ pe_tOK t = true ∧ t < 100) (h0 : 0 ≤ i) (h1 : i < S j (-1)) {v : Int} (hv : (if t = 5 then Y.ln j i.toNat else S j i) = v) (k : w_sr Y S (if t = 5 then 4 else 5) (S j i) (Y.ln j i.toNat) → wJ G Y M d mt rest L ((2, v) :: st) S Q) : wJ G Y M d mt (.inl .aaload :: rest) L ((0, i) :: (2, x) :: st) S Q := wJ_E (fun ⟨ad0, hp0, hE0⟩ => by
  have hr : w_sr Y S (if t = 5 then 4 else 5) (S j i) (Y.ln j i.toNat) := by
    obtain ⟨n, c, a1, a2, a3⟩ := w_arr hE0 hp ht ⟨Nat.le_of_ble_eq_true h5.1, h5.2.2⟩
    obtain ⟨b1, b2, b3, b4⟩ := w_in a2 h0 h1
    have := (a3 _ b3).2
    rw [b4] at this
    exact this
  refine wJ_o (S2 := S) (L2 := L) (st2 := (2, v) :: st) (fun ad Lc h hE hL => ⟨Lc, h, fun k => ?_, hE, hL, fun _ q => q⟩) (k hr)
  obtain ⟨n, c, a1, a2, a3⟩ := w_arr hE hp ht ⟨Nat.le_of_ble_eq_true h5.1, h5.2.2⟩
  obtain ⟨b1, b2, b3, b4⟩ := w_in a2 h0 h1
  have a4 := (a3 _ b3).1
  rw [b4, hv] at a4
  show pe_ix (Value.int (Int32.ofInt i) :: w_r ad x :: _) _ = _
  rw [w_r_n ad hx]
  show (match pe_at h (ad j) with | some (.inr (.inr (.inl (t, n, c)))) => _ | _ => none) = _
  rw [pe_at_eq, a1]
  show (bif (Nat.ble 5 t && pe_tOK t) && pe_inb (Int32.ofInt i) n then _ else none) = _
  rw [b1, h5.1, h5.2.1, b2, Bool.and_self, Bool.and_self, cond_true]
  show _ = k Lc (w_r ad v :: _) h
  rw [← a4]
  cases pe_lk none i.toNat c <;> rfl)
theorem wa_iast {x i v : Int} (j : Nat) (hx : x = j) (hp : w_pr Y S j) (ht : Y.ty j = 0) (h0 : 0 ≤ i) (h1 : i < S j (-1)) (hv : w_rg 0 v) (k : wJ G Y M d mt rest L st (w_up S j i v) Q) : wJ G Y M d mt (.inl .iastore :: rest) L ((0, v) :: (0, i) :: (2, x) :: st) S Q := wJ_o (fun ad Lc h hE hL => by
  obtain ⟨n, c, a1, a2, a3⟩ := w_ari hE hp ht (by omega) (by omega)
  obtain ⟨b1, b2, b3, b4⟩ := w_in a2 h0 h1
  have W := w_ar_set (i := i) (v := v) (z := Int32.ofInt v) hE hp ht (by omega) (by omega) a1 a2 a3 h0 (w_ti hv) hv
  refine ⟨Lc, _, fun k => ?_, W.1, hL, W.2⟩
  show pe_ixi (Value.int (Int32.ofInt v) :: Value.int (Int32.ofInt i) :: w_r ad x :: _) _ = _
  rw [w_r_n ad hx]
  show (match pe_at h (ad j) with | some (.inl (t, n, c)) => _ | _ => none) = _
  rw [pe_at_eq, a1]
  show (bif (Nat.beq 0 0) && pe_inb (Int32.ofInt i) n then _ else _) = _
  rw [b1]
  show (bif true then _ else _) = _
  rw [cond_true, pe_fi_eq, pe_insk_eq, pe_setk_eq, b2]) k
theorem wa_bast {x i v : Int} (j : Nat) (hx : x = j) (hp : w_pr Y S j) (ht : Y.ty j = 2) (h0 : 0 ≤ i) (h1 : i < S j (-1)) (hv : w_rg 2 v) (k : wJ G Y M d mt rest L st (w_up S j i v) Q) : wJ G Y M d mt (.inl .bastore :: rest) L ((0, v) :: (0, i) :: (2, x) :: st) S Q := wJ_o (fun ad Lc h hE hL => by
  obtain ⟨n, c, a1, a2, a3⟩ := w_ari hE hp ht (by omega) (by omega)
  obtain ⟨b1, b2, b3, b4⟩ := w_in a2 h0 h1
  have W := w_ar_set (i := i) (v := v) (z := vp_nar .byte (Int32.ofInt v)) hE hp ht (by omega) (by omega) a1 a2 a3 h0 (by
    show (Int32.ofInt v).toInt8.toInt32.toInt = v
    have e : Int32.ofInt v = (Int8.ofInt v).toInt32 := by
      apply Int32.toInt_inj.mp
      rw [Int8.toInt_toInt32, Int8.toInt_ofInt_of_le (by have := hv.1; omega) (by have := hv.2; omega), w_ti ⟨by have := hv.1; omega, by have := hv.2; omega⟩]
    rw [e, Int8.toInt8_toInt32, Int8.toInt_toInt32, Int8.toInt_ofInt_of_le (by have := hv.1; omega) (by have := hv.2; omega)]) hv
  refine ⟨Lc, _, fun k => ?_, W.1, hL, W.2⟩
  show pe_ixi (Value.int (Int32.ofInt v) :: Value.int (Int32.ofInt i) :: w_r ad x :: _) _ = _
  rw [w_r_n ad hx]
  show (match pe_at h (ad j) with | some (.inl (t, n, c)) => _ | _ => none) = _
  rw [pe_at_eq, a1]
  show (bif (Nat.beq 2 2) && pe_inb (Int32.ofInt i) n then _ else _) = _
  rw [b1]
  show (bif true then _ else _) = _
  rw [cond_true, pe_fi_eq, pe_insk_eq, pe_setk_eq, b2]) k
theorem wa_zast {x i v : Int} (j : Nat) (hx : x = j) (hp : w_pr Y S j) (ht : Y.ty j = 3) (h0 : 0 ≤ i) (h1 : i < S j (-1)) (hv : w_rg 3 v) (k : wJ G Y M d mt rest L st (w_up S j i v) Q) : wJ G Y M d mt (.inl .bastore :: rest) L ((0, v) :: (0, i) :: (2, x) :: st) S Q := wJ_o (fun ad Lc h hE hL => by
  obtain ⟨n, c, a1, a2, a3⟩ := w_ari hE hp ht (by omega) (by omega)
  obtain ⟨b1, b2, b3, b4⟩ := w_in a2 h0 h1
  have W := w_ar_set (i := i) (v := v) (z := vp_nar .boolean (Int32.ofInt v)) hE hp ht (by omega) (by omega) a1 a2 a3 h0 (by
    have q : v = 0 ∨ v = 1 := by have := hv.1; have := hv.2; omega
    rcases q with q | q <;> subst q <;> rfl) hv
  refine ⟨Lc, _, fun k => ?_, W.1, hL, W.2⟩
  show pe_ixi (Value.int (Int32.ofInt v) :: Value.int (Int32.ofInt i) :: w_r ad x :: _) _ = _
  rw [w_r_n ad hx]
  show (match pe_at h (ad j) with | some (.inl (t, n, c)) => _ | _ => none) = _
  rw [pe_at_eq, a1]
  show (bif (Nat.beq 3 2) && pe_inb (Int32.ofInt i) n then _ else _) = _
  skip
  show (bif (Nat.beq 3 3) && pe_inb (Int32.ofInt i) n then _ else none) = _
  rw [b1]
  show (bif true then _ else _) = _
  rw [cond_true, pe_fi_eq, pe_insk_eq, pe_setk_eq, b2]) k
theorem wa_last {x i v : Int} (j : Nat) (hx : x = j) (hp : w_pr Y S j) (ht : Y.ty j = 1) (h0 : 0 ≤ i) (h1 : i < S j (-1)) (hv : w_rg 1 v) (k : wJ G Y M d mt rest L st (w_up S j i v) Q) : wJ G Y M d mt (.inl .lastore :: rest) L ((1, v) :: (0, i) :: (2, x) :: st) S Q := wJ_o (fun ad Lc h hE hL => by
  obtain ⟨n, c, a1, a2, a3⟩ := w_arl hE hp ht
  obtain ⟨b1, b2, b3, b4⟩ := w_in a2 h0 h1
  have W := w_al_set (i := i) (v := v) (z := Int64.ofInt v) hE hp ht a1 a2 a3 h0 (w_tl hv)
  refine ⟨Lc, _, fun k => ?_, W.1, hL, W.2⟩
  show pe_ixl (Value.long (Int64.ofInt v) :: Value.int (Int32.ofInt i) :: w_r ad x :: _) _ = _
  rw [w_r_n ad hx]
  show (match pe_at h (ad j) with | some (.inr (.inr (.inr (t, n, c)))) => _ | _ => none) = _
  rw [pe_at_eq, a1]
  show (bif (Nat.beq 1 1) && pe_inb (Int32.ofInt i) n then _ else _) = _
  rw [b1]
  show (bif true then _ else _) = _
  rw [cond_true, pe_insk_eq, pe_setk_eq, b2]) k
theorem w_len {ad : Nat → Nat} {h : pe_H} {j : Nat} (hE : w_E Y ad S h) (hp : w_pr Y S j) (ht : pe_tOK (Y.ty j) = true) : ∃ n : Nat, S j (-1) = n ∧ n ≤ 2147483647 ∧ ∀ k : Nat → Option (pm_O × pe_H), pe_lenk h (ad j) k = k n := by
  obtain ⟨x, h1, h2⟩ := hE.1 j hp
  have h100 : Y.ty j < 100 := by
    have := List.any_eq_true.mp ht
    obtain ⟨q, q1, q2⟩ := this
    have e := Nat.eq_of_beq_eq_true q2
    unfold pe_ta at q1
    simp only [List.mem_cons, List.not_mem_nil, or_false] at q1
    omega
  rcases x with ⟨t2, n, c⟩ | ⟨c2, vs⟩ | ⟨t2, n, c⟩ | ⟨t2, n, c⟩
  · refine ⟨n, h2.2.2.1.1, h2.2.2.1.2, fun k => ?_⟩
    unfold pe_lenk
    rw [pe_at_eq, h1]
    show (bif pe_tOK t2 then k n else none) = _
    rw [← h2.1, ht]; rfl
  · have := h2.1; omega
  · refine ⟨n, h2.2.2.1.1, h2.2.2.1.2, fun k => ?_⟩
    unfold pe_lenk
    rw [pe_at_eq, h1]
    show (bif pe_tOK t2 then k n else none) = _
    rw [← h2.1, ht]; rfl
  · refine ⟨n, h2.2.2.1.1, h2.2.2.1.2, fun k => ?_⟩
    unfold pe_lenk
    rw [pe_at_eq, h1]
    show (bif pe_tOK t2 then k n else none) = _
    rw [← h2.1, ht]; rfl
theorem wa_alen {x : Int} (j : Nat) (hx : x = j) (hp : w_pr Y S j) (ht : pe_tOK (Y.ty j) = true) (k : 0 ≤ S j (-1) ∧ S j (-1) ≤ 2147483647 → wJ G Y M d mt rest L ((0, S j (-1)) :: st) S Q) : wJ G Y M d mt (.inl .arraylength :: rest) L ((2, x) :: st) S Q := wJ_E (fun ⟨ad0, hp0, hE0⟩ => by
  have hr : 0 ≤ S j (-1) ∧ S j (-1) ≤ 2147483647 := by
    obtain ⟨n, a1, a2, a3⟩ := w_len hE0 hp ht
    omega
  refine wJ_o (S2 := S) (L2 := L) (st2 := (0, S j (-1)) :: st) (fun ad Lc h hE hL => ⟨Lc, h, fun k => ?_, hE, hL, fun _ q => q⟩) (k hr)
  obtain ⟨n, a1, a2, a3⟩ := w_len hE hp ht
  show pe_f_arraylength G.xs mt.mx Lc (w_r ad x :: st.map (w_u ad)) h k = _
  rw [w_r_n ad hx]
  show pe_lenk h (ad j) (fun n => pe_fi (Int32.ofNat n) fun z => k Lc (.int z :: st.map (w_u ad)) h) = _
  rw [a3, pe_fi_eq]
  show k Lc (Value.int (Int32.ofNat n) :: _) h = k Lc (Value.int (Int32.ofInt (S j (-1))) :: _) h
  rw [a1]
  rfl)
end W52
