/-! PART aw: a row of a table grows. -/
section Waw
variable {G : pe_G} {Y : wY} {M M2 : Nat → Prop} {d : Nat} {mt : pe_Mt} {is rest : List pe_I} {L L2 : wL} {st st2 : List wv} {S S2 : wS} {Q Q2 : wO → wS → Prop}
/-- another array of ints for a row: it takes the row's name -/
theorem wa_as5 {x v i : Int} (j t j0 m : Nat) (hx : x = j) (hv : v = t) (hi : i = (m : Int)) (hp : w_pr Y S j) (hpt : w_pr Y S t) (hp0 : w_pr Y S j0) (ht : Y.ty j = 5) (h1 : (m : Int) < S j (-1)) (hl : Y.ln j m = j0) (hty : Y.ty t = 0) (hta : Y.ty j0 = 0) (hne : t ≠ j0) (hc0 : Y.co j0 = 0) (hct : Y.co t = 0) (h6 : ∀ k c i : Nat, w_pr Y S k → Y.ty k = 100 + c → (Y.fk c)[i]? = some 6 → S k i < 0 ∨ ((S k i).toNat ≠ j0 ∧ (S k i).toNat ≠ t)) (hu : ∀ k i, w_pr Y S k → Y.ln k i = j0 → k = j ∧ i = m) (hut : ∀ k i, w_pr Y S k → Y.ln k i ≠ t) (hM : M j0 ∧ M t) (hkl : w_kl Y S (fun k => k = j0 ∨ k = t) L) (hks : w_ks Y S (fun k => k = j0 ∨ k = t) st) (k : wJ G Y M d mt rest L st (w_sw S j0 t) Q) : wJ G Y M d mt (.inl .aastore :: rest) L ((2, v) :: (0, i) :: (2, x) :: st) S Q := by
  intro ad Lc h hE hL
  obtain ⟨n, c, a1, a2, a3⟩ := w_arr hE hp ht ⟨by omega, by omega⟩
  obtain ⟨xt, b1, b2⟩ := hE.1 t hpt
  obtain ⟨x0, c1, c2⟩ := hE.1 j0 hp0
  have lt0 := w_len0 (by omega) b2
  have l00 := w_len0 (by omega) c2
  have jt : j ≠ t := fun e => by rw [e] at ht; omega
  have jj : j ≠ j0 := fun e => by rw [e] at ht; omega
  have hmn : m < n := by have := a2.1; omega
  have hm : ∀ q, w_pr Y S q → w_pr Y (w_sw S j0 t) q := fun q hq => by
    refine ⟨Or.imp_right (fun r => ?_) hq.1, hq.2⟩
    by_cases e1 : q = j0
    · subst e1; rw [w_sw_1]; exact lt0
    · by_cases e2 : q = t
      · subst e2; rw [w_sw_2 hne]; exact l00
      · rw [w_sw_3 e1 e2]; exact r
  have hb : ∀ q, w_pr Y (w_sw S j0 t) q → w_pr Y S q := fun q hq => by
    by_cases e1 : q = j0
    · subst e1; exact hp0
    · by_cases e2 : q = t
      · subst e2; exact hpt
      · refine ⟨?_, hq.2⟩
        have := hq.1
        rw [w_sw_3 e1 e2] at this
        exact this
  have hfix : ∀ q i : Nat, w_pr Y S q → (q ≠ j ∨ i ≠ m) → Y.ln q i < 0 ∨ ((Y.ln q i).toNat ≠ j0 ∧ (Y.ln q i).toNat ≠ t) := fun q i hpq hqi => by
    by_cases e : Y.ln q i < 0
    · exact Or.inl e
    · refine Or.inr ⟨fun e2 => ?_, fun e2 => hut q i hpq (by omega)⟩
      have := hu q i hpq (by omega)
      rcases hqi with z | z
      · exact z this.1
      · exact z this.2
  have hadj : ad j ≠ ad t := fun e => jt (hE.2.1 j t hp hpt e)
  have hadj0 : ad j ≠ ad j0 := fun e => jj (hE.2.1 j j0 hp hp0 e)
  have hnewE : w_E Y (w_sa ad j0 t) (w_sw S j0 t) (h.set (ad j) (.inr (.inr (.inl (5, n, pe_ins false m (some (ad t)) c))))) := by
    refine ⟨fun q hq => ?_, fun q r hq hr => ?_, ?_, ?_, fun q hq => ?_⟩
    · by_cases e1 : q = j0
      · subst e1
        refine ⟨xt, ?_, w_c_arr (by omega) (by omega) (w_sw_1 S _ t) b2⟩
        rw [w_sa_1, List.getElem?_set_ne hadj]
        exact b1
      · by_cases e2 : q = t
        · subst e2
          refine ⟨x0, ?_, w_c_arr (by omega) (by omega) (w_sw_2 hne) c2⟩
          rw [w_sa_2 hne, List.getElem?_set_ne hadj0]
          exact c1
        · rw [w_sa_3 e1 e2]
          by_cases e3 : q = j
          · subst e3
            refine ⟨_, List.getElem?_set_self (List.getElem?_eq_some_iff.mp a1).1, ht, ⟨by omega, by omega⟩, ⟨by rw [w_sw_3 e1 e2]; exact a2.1, a2.2⟩, fun y hy => ?_⟩
            obtain ⟨d1, d2⟩ := a3 y hy
            rw [w_sw_3 e1 e2]
            refine ⟨?_, w_sr_mono hm d2⟩
            rw [pe_lk_ins none false m (some (ad t)) (fun z => by cases z)]
            by_cases e4 : y = m
            · rw [if_pos e4, if_pos rfl, e4, w_r_n _ hl, w_sa_1]
              rfl
            · rw [if_neg e4, d1, if_pos rfl]
              exact (w_r_sa (hfix q y hp (Or.inr e4))).symm
          · obtain ⟨z, z1, z2⟩ := hE.1 q (hb q hq)
            refine ⟨z, ?_, ?_⟩
            · rw [List.getElem?_set_ne (fun r => e3 (hE.2.1 q j (hb q hq) hp r.symm))]
              exact z1
            · refine w_c_same hm (fun n => by rw [w_sw_3 e1 e2]) ?_
              rcases z with ⟨tt, n, c⟩ | ⟨ci2, vs2⟩ | ⟨tt, n, c⟩ | ⟨tt, n, c⟩
              · exact z2
              · refine ⟨z2.1, z2.2.1, fun i kd hi => ?_⟩
                obtain ⟨d1, d2, d3⟩ := z2.2.2 i kd hi
                exact ⟨d1.imp id (fun d1 => by rw [d1, w_f_sa hc0 hct (fun z => h6 q ci2 i (hb q hq) z2.1 (by rw [hi, z])) (by omega) (by omega) d3 (fun _ => hfix q i (hb q hq) (Or.inl e3))]), d2, d3⟩
              · refine ⟨z2.1, z2.2.1, z2.2.2.1, fun i hi => ?_⟩
                obtain ⟨d1, d2⟩ := z2.2.2.2 i hi
                refine ⟨?_, d2⟩
                rw [d1]
                by_cases e5 : tt = 5
                · rw [if_pos e5]
                  exact (w_r_sa (hfix q i (hb q hq) (Or.inl e3))).symm
                · rw [if_neg e5] at d2 ⊢
                  exact (w_f_sa (kd := 5) (y := 0) hc0 hct (fun z => by cases z) (by omega) (by omega) d2 (fun z => by cases z)).symm
              · exact z2
    · have hq := hb q hq
      have hr := hb r hr
      have key : ∀ y z, w_pr Y S y → w_pr Y S z → ad y = ad z → y = z := hE.2.1
      unfold w_sa
      intro e
      by_cases q1 : q = j0
      · rw [if_pos q1] at e
        by_cases r1 : r = j0
        · rw [q1, r1]
        · rw [if_neg r1] at e
          by_cases r2 : r = t
          · rw [if_pos r2] at e
            exact absurd (key _ _ hpt hp0 e) hne
          · rw [if_neg r2] at e
            exact absurd (key _ _ hpt hr e).symm r2
      · rw [if_neg q1] at e
        by_cases q2 : q = t
        · rw [if_pos q2] at e
          by_cases r1 : r = j0
          · rw [if_pos r1] at e
            exact absurd (key _ _ hp0 hpt e).symm hne
          · rw [if_neg r1] at e
            by_cases r2 : r = t
            · rw [q2, r2]
            · rw [if_neg r2] at e
              exact absurd (key _ _ hp0 hr e).symm r1
        · rw [if_neg q2] at e
          by_cases r1 : r = j0
          · rw [if_pos r1] at e
            exact absurd (key _ _ hq hpt e) q2
          · rw [if_neg r1] at e
            by_cases r2 : r = t
            · rw [if_pos r2] at e
              exact absurd (key _ _ hq hp0 e) q1
            · rw [if_neg r2] at e
              exact key _ _ hq hr e
    · rw [w_sw_3 (fun e => hp0.2 e.symm) (fun e => hpt.2 e.symm), hE.2.2.1, pe_D_set]
      congr 1
      refine (pm_sz_set (x := pe_d (.inr (.inr (.inl (5, n, c))))) ?_ ?_).symm
      · unfold pe_D
        rw [List.getElem?_map, a1]
        rfl
      · rfl
    · rw [w_sw_3 (fun e => hp0.2 e.symm) (fun e => hpt.2 e.symm), hE.2.2.2.1, List.length_set]
    · rw [w_sw_3 (fun e => hp0.2 e.symm) (fun e => hpt.2 e.symm)]
      exact hE.2.2.2.2 q (hb q hq)
  have ha : ∀ q, w_pr Y S q → ¬ (fun k => k = j0 ∨ k = t) q → w_sa ad j0 t q = ad q := fun q _ r => w_sa_3 (fun e => r (Or.inl e)) (fun e => r (Or.inr e))
  have hfit : pe_fitA h 5 (ad t) = true := by
    unfold pe_fitA
    rw [pe_at_eq, b1]
    rcases xt with ⟨tt, n, c⟩ | ⟨ci2, vs2⟩ | ⟨tt, n, c⟩ | ⟨tt, n, c⟩
    · have e : tt = 0 := by have := b2.1; omega
      subst e; rfl
    · have := b2.1; omega
    · have := b2.1; have := b2.2.1; omega
    · have := b2.1; have := b2.2.1; omega
  obtain ⟨o, ad2, S3, h3, f0, hg, hE3, hM3, hQ⟩ := k _ Lc _ hnewE (w_LL_kl ha hkl hL)
  refine ⟨o, ad2, S3, h3, f0 + 1, fun f hf2 => ?_, hE3, fun q hq => ⟨(hM3 q (hm q hq)).1, fun r => ?_⟩, hQ⟩
  · obtain ⟨f, rfl⟩ : ∃ g, f = g + 1 := ⟨f - 1, by omega⟩
    have hgf := hg f (by omega)
    rw [w_st_ks ha hks] at hgf
    refine Eq.trans ?_ hgf
    obtain ⟨i1, i2, i3, i4⟩ := w_in (i := i) a2 (by omega) (by omega)
    show pe_f_aastore G.xs mt.mx Lc (w_r ad v :: Value.int (Int32.ofInt i) :: w_r ad x :: st.map (w_u ad)) h (fun L st h => pe_go G f d mt rest L st h) = _
    rw [w_r_n ad hv, w_r_n ad hx]
    show (match pe_at h (ad j) with | some (.inr (.inr (.inl (t2, n, c)))) => (bif pe_inb (Int32.ofInt i) n && pe_fitA h t2 (ad t) then pe_insk false (Int32.ofInt i).toNatClampNeg (some (ad t)) c (fun c => pe_setk ((.inr (.inr (.inl (t2, n, c)))) : pe_E) h (ad j) (fun h => pe_go G f d mt rest Lc (st.map (w_u ad)) h)) else none) | _ => none) = _
    rw [pe_at_eq, a1]
    show (bif pe_inb (Int32.ofInt i) n && pe_fitA h 5 (ad t) then pe_insk false (Int32.ofInt i).toNatClampNeg (some (ad t)) c (fun c => pe_setk ((.inr (.inr (.inl (5, n, c)))) : pe_E) h (ad j) (fun h => pe_go G f d mt rest Lc (st.map (w_u ad)) h)) else none) = _
    rw [i1, hfit, Bool.and_self, cond_true, pe_insk_eq, pe_setk_eq, i2, show i.toNat = m by omega]
  · rw [(hM3 q (hm q hq)).2 r]
    exact w_sa_3 (fun e => r (by rw [e]; exact hM.1)) (fun e => r (by rw [e]; exact hM.2))
theorem wg_as {G : pe_G} {mt : pe_Mt} {rest : List pe_I} {L : wL} {st : List wv} {x n len i : Int} (k0 j a : Nat) (hx : x = j) (hi : i = (k0 : Int)) (hik : (k0 : Int) < S j (-1)) (hj : Nat.blt j 388 = true) (ha : Nat.blt a 388 = true) (ht : wY0.ty j = 5) (hja : j ≠ wG) (hl : wY0.ln j k0 = a) (hu : wl_c2 (a : Int) j k0 wy_l 0 = true) (hta : wY0.ty a = 0) (hco : wY0.co a = 0) (hI : gI S) (h14 : a = 1 → S 14 5 < 0) (h238 : a ≠ 238 ∧ a ≠ 14) (hn : 0 ≤ len ∧ len < n) (hsl : S a (-1) = len) (hM : mS [a] a → M a ∧ M (nN S 0)) (hkl : w_kl wY0 S (mS [a]) L) (hks : w_ks wY0 S (mS [a]) st) (k : ∀ Z, gr_ag S Z a n → gI Z → wJ G wY0 M d mt rest L st Z Q) : wJ G wY0 M d mt (.inl .aastore :: rest) L ((2, (nN S 0 : Int)) :: (0, i) :: (2, x) :: st) (w_cp (w_nw S (nN S 0) (w_z n) n) a (nN S 0) 0 0 len) Q := by
  have ha' : a < 388 := Nat.le_of_ble_eq_true ha
  have hge : 4000000 ≤ nN S 0 := nN_ge 0
  have hG : wG = 1000000 := rfl
  have hne : nN S 0 ≠ a := by omega
  have hS : ∀ k : Nat, k ≠ nN S 0 → k ≠ wG → (w_cp (w_nw S (nN S 0) (w_z n) n) a (nN S 0) 0 0 len) k = S k := fun k q1 q2 => by funext i; rw [w_cp_of q1, w_nw_of q1 q2]
  have hp : ∀ k : Nat, w_pr wY0 S k → w_pr wY0 (w_cp (w_nw S (nN S 0) (w_z n) n) a (nN S 0) 0 0 len) k := fun k q => by
    refine ⟨q.1.imp id (fun z => ?_), q.2⟩
    by_cases hk : k = nN S 0
    · rw [hk, w_cp_out (by omega), w_nw_at]; show 0 ≤ n; omega
    · rw [hS k hk q.2]; exact z
  have hpt : w_pr wY0 (w_cp (w_nw S (nN S 0) (w_z n) n) a (nN S 0) 0 0 len) (nN S 0) := ⟨Or.inr (by rw [w_cp_out (by omega), w_nw_at]; show 0 ≤ n; omega), by omega⟩
  have hkm : ∀ {v : wv} {M1 : Nat → Prop}, w_kv wY0 S M1 v → w_kv wY0 (w_cp (w_nw S (nN S 0) (w_z n) n) a (nN S 0) 0 0 len) M1 v := fun {v M1} q => by
    unfold w_kv at q ⊢
    split at q
    · trivial
    · trivial
    · exact q.imp id (fun z => ⟨hp _ z.1, z.2⟩)
  have hmm : ∀ k, (k = a ∨ k = nN S 0) → mS [a] k := fun k q => q.elim (fun z => Or.inr (z ▸ List.mem_singleton.mpr rfl)) (fun z => Or.inl (z ▸ hge))
  have hklm : ∀ {L : wL} {M1 : Nat → Prop}, w_kl wY0 S M1 L → w_kl wY0 (w_cp (w_nw S (nN S 0) (w_z n) n) a (nN S 0) 0 0 len) M1 L := by
    intro L M1
    induction L with
    | nil => intro _; trivial
    | cons u t ih => intro q; exact ⟨hkm q.1, ih q.2⟩
  have hksm : ∀ {L : List wv} {M1 : Nat → Prop}, w_ks wY0 S M1 L → w_ks wY0 (w_cp (w_nw S (nN S 0) (w_z n) n) a (nN S 0) 0 0 len) M1 L := by
    intro L M1
    induction L with
    | nil => intro _; trivial
    | cons u t ih => intro q; exact ⟨hkm q.1, ih q.2⟩
  have hj' : j < 388 := Nat.le_of_ble_eq_true hj
  refine wa_as5 j (nN S 0) a k0 hx rfl hi (wy_pr hj) hpt (wy_pr ha) ht (by rw [hS j (by omega) hja]; exact hik) hl (wt_nN (by omega)) hta hne hco (wc_nN (by omega)) ?_ (fun k i _ q => (wl_at hu k i).2 (by omega) q) (fun k i _ q => by have := (wl_at hu k i).1; omega) (hM (Or.inr (List.mem_singleton.mpr rfl))) (w_kl_mono hmm (hklm hkl)) (w_ks_mono hmm (hksm hks)) (k _ (gr_of hsl (by omega) (by omega) hge hn) (gr_gI hI ha' h238.1 h238.2 (by omega) hn))
  intro k2 c2 i2 q1 q2 q3
  have h7 := wt_k6 (by have := wf_6 q3; omega) q2
  by_cases hk : k2 = nN S 0
  · rw [hk, wt_nN (by omega)] at q2
    omega
  · rw [hS k2 hk (by omega)]
    refine gI_6 hI h238.1 h14 hge k2 c2 i2 ⟨q1.1.imp id (fun z => ?_), q1.2⟩ q2 q3
    rw [hS k2 hk q1.2] at z
    exact z
end Waw
